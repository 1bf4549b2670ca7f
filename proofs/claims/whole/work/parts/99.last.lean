theorem xq_last : True := trivial
theorem xq_t : ∀ (l : Launch) (U : xU) (y : MethodName) (b : ByteArray) (maxL : Nat) (ret : Option FieldType) (rm : Room) (av : List Value) (μ : xH) (post : Option Value → xH → Prop), Ct l U y b maxL ret rm av μ post → 1 = 2 := by
  intro l U y b maxL ret rm av μ post h
  unfold Ct at h
  exact h
