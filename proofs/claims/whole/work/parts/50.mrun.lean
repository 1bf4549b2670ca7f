/-! the model's run, its put -/
theorem aArr_o {z : xV} {wn j : Nat} {a b c d : Int32} (hw : wn < 5) (hj : 84 ≤ j) : (aArr z wn a b c d).2 j = z j := by
  unfold aArr
  simp only [tz]
  repeat rw [upd_n (by omega)]
theorem mOrdD_o {z : xV} (hv : mInv z) (hok : mOk z) {j : Nat} (hj : 84 ≤ j) : mOrdD z j = z j := by
  unfold mOrdD
  rcases (Bool.eq_false_or_eq_true (mCan z)).symm with hc | hc
  · rw [if_neg (by rw [hc]; decide)]
  rw [if_pos hc]
  rcases hok with ek | ⟨ek, hg, hg7⟩ | ⟨ek, hg⟩ | ⟨ek, hg⟩ | ⟨ek, pn, hpn, ep⟩
  · have hw : tn (z 12) < 5 := by
      obtain ⟨wn, -, hwn5, h12⟩ := rgN (lo := 0) (hi := 5) (by decide) (by decide) hv.1.2.2.1
      have h5 : z 12 < 5 := by
        have q := hc
        rw [mCan, if_pos ek] at q
        exact of_decide_eq_true q
      rw [h12, show (5 : Int32) = nI 5 from rfl, nI_ltI (by omega) (by decide)] at h5
      rw [h12, tn, nI_clamp (by omega)]
      exact h5
    have e : mAct z = (aArr z (tn (z 12)) (z 930) (z 931) (z 932) (z 933)).2 := by rw [mAct, if_pos ek]
    rw [e, aArr_o hw hj]
  · have e : mAct z = (aCon z (tn (z 946)) (z 947)).2 := by simp [mAct, ek]
    have := isG_tn hg
    rw [e]
    show upd z (hz (tn (z 946)) 2) _ j = z j
    rw [upd_n (by simp only [hz, tn] at *; omega)]
  · have e : mAct z = (aDis z (tn (z 946))).2 := by simp [mAct, ek]
    have := isG_tn hg
    rw [e]
    show upd z (hz (tn (z 946)) 2) _ j = z j
    rw [upd_n (by simp only [hz, tn] at *; omega)]
  · have e : mAct z = (aFlu z (tn (z 946))).2 := by simp [mAct, ek]
    have h4 := isG_tn hg
    have hf : kFlu z (tn (z 946)) = true := by
      have q := hc
      simp [mCan, ek] at q
      exact q
    have hG : isG (z (hz (tn (z 946)) 1)) = true := by
      unfold kFlu at hf
      simp only [Bool.and_eq_true] at hf
      exact hf.2
    have h5 := isG_tn hG
    rw [e]
    show upd (upd (upd z (14 + tn (z (hz (tn (z 946)) 1))) _) (18 + tn (z (hz (tn (z 946)) 1))) _) (hz (tn (z 946)) 1) _ j = z j
    have h6 : j ≠ hz (tn (z 946)) 1 := by simp only [hz, tn] at *; omega
    have h7 : j ≠ 14 + tn (z (hz (tn (z 946)) 1)) := by simp only [tn] at *; omega
    have h8 : j ≠ 18 + tn (z (hz (tn (z 946)) 1)) := by simp only [tn] at *; omega
    rw [upd_n h6, upd_n h8, upd_n h7]
  · have e : mAct z = (gHours z (tn (z 945))).2 := by simp [mAct, ek]
    rw [e, gHours_o (by omega)]
theorem mNr_o {m : xV} {n a j : Nat} {most : Int32} (hj : j < 942 ∨ 946 ≤ j ∨ j = 944) : mNr m n a most j = m j := by
  unfold mNr
  rw [upd_n (by omega), upd_n (by omega), upd_n (by omega)]
theorem mUn_o {n : Nat} : ∀ (d j a : Nat) (z : xV) (q : Nat), j ≤ 4 → (q < 930 ∨ q = 940 ∨ q = 941 ∨ q = 944 ∨ 946 ≤ q) → (mUn n d (nI (97 + j)) a z).2 q = z q := by
  intro d
  induction d with
  | zero => intro j a z q _ _; rfl
  | succ d ih =>
    intro j a z q hj hq
    rw [mUn]
    by_cases c : (decide (z 943 = 0) && inB (tM z n a) (nI (97 + j)) 100) = true
    · rw [if_pos c]
      have c' : inB (tM z n a) (nI (97 + j)) 100 = true := by simp only [Bool.and_eq_true] at c; exact c.2
      obtain ⟨g, hg1, hg2, eg⟩ := inB_g hj c'
      dsimp only
      rw [eg, e97, show tn (nI g) = g from nI_clamp (by omega), ih (g + 1) _ _ q (by omega) hq, upd_n (by omega), mNr_o (by omega), upd_n (by omega)]
    · rw [if_neg c]
theorem mUni_o {m : xV} {n a q : Nat} (hq : q < 930 ∨ q = 940 ∨ q = 941 ∨ q = 944 ∨ 946 ≤ q) : (mUni m n a).2 q = m q := by
  unfold mUni
  dsimp only
  have h := mUn_o (n := n) 4 0 a (upd (upd (upd (upd (upd m 930 0) 931 0) 932 0) 933 0) 943 (if (decide (upd (upd (upd (upd m 930 0) 931 0) 932 0) 933 0 943 = 0) && inB (tM m n a) 97 100) = true then 0 else 1)) q (by decide) hq
  refine h.trans ?_
  rw [upd_n (by omega), upd_n (by omega), upd_n (by omega), upd_n (by omega), upd_n (by omega)]
theorem mHo_o {m : xV} {n a q : Nat} (hq : q < 942 ∨ 948 ≤ q) : mHo m n a q = m q := by
  unfold mHo
  dsimp only
  (repeat' split) <;> (repeat rw [upd_n (by omega)])
theorem mOrd_o {m : xV} {n a q : Nat} (hq : q < 930 ∨ q = 940 ∨ q = 941 ∨ 948 ≤ q) : mOrd m n a q = m q := by
  unfold mOrd
  (try dsimp only)
  split
  · rw [mHo_o (by omega), upd_n (by omega)]
  split
  · rw [mUni_o (by omega), upd_n (by omega), upd_n (by omega)]
  split
  · rw [mNr_o (by omega), upd_n (by omega), upd_n (by omega)]
  · rw [upd_n (by omega), upd_n (by omega)]
theorem mFa_o {n : Nat} {q : Nat} (hq : q < 930 ∨ q = 940 ∨ q = 941 ∨ 948 ≤ q) : ∀ (d a : Nat) (z : xV), (mFa n d a z).2 q = z q := by
  intro d
  induction d with
  | zero => intro a z; rfl
  | succ d ih =>
    intro a z
    rw [mFa]
    split
    · exact mOrd_o hq
    split
    · exact mOrd_o hq
    split
    · exact mOrd_o hq
    · rw [ih, upd_n (by omega)]; exact mOrd_o hq
theorem mFF_o {m : xV} {n q : Nat} (hq : q < 930 ∨ q = 940 ∨ q = 941 ∨ 948 ≤ q) : (mFF m n).2 q = m q := by
  unfold mFF
  rw [mFa_o hq, upd_n (by omega), upd_n (by omega)]
def mNx (z : xV) (n a : Nat) : Nat := tn (mOrd z n a 942)
def mStp (z : xV) (n a : Nat) : xV := upd (mOrd z n a) 942 (nI (mNx z n a + 1))
/-- the orders from a on may be done -/
def mGo (n : Nat) : Nat → Nat → xV → Prop
  | 0, _, _ => True
  | d + 1, a, z => a < n → mInv (mStp z n a) ∧ mOk (mStp z n a) ∧ mGo n d (mNx z n a + 1) (mOrdD (mStp z n a))
def mRunL (n : Nat) : Nat → Nat → xV → Int32 → Int32 × xV
  | 0, _, z, c => (c, z)
  | d + 1, a, z, c => if a < n then mRunL n d (mNx z n a + 1) (mOrdD (mStp z n a)) (c + bI (mCan (mStp z n a))) else (c, z)
def mRun0 (m : xV) (kn n : Nat) : xV := upd (mRec (mFF m n).2 kn) 942 0
def mRunS (m : xV) (kn n : Nat) : Int32 × xV :=
  if (mFF m n).1 = -100006 then ((mRunL n (n + 1) 0 (mRun0 m kn n) 0).1, upd (mRunL n (n + 1) 0 (mRun0 m kn n) 0).2 941 0) else (-100003, (mFF m n).2)
def msh (x : Int64) (k : Nat) : Int64 := (x.toUInt64 >>> ((nI (8 * k)).toInt64.toUInt64 &&& Int64.toUInt64 63)).toInt64
def mch (x : Int64) (k : Nat) : Int32 := (msh x k &&& 255).toInt32
def mEnd (x : Int64) (k : Nat) : Bool := decide (0 < k) && decide (msh x k = 0)
def mPn (x : Int64) : Nat → Nat
  | 0 => 0
  | k + 1 => if mEnd x k = true then mPn x k else mPn x k + 1
def mBd (x : Int64) : Nat → Bool
  | 0 => false
  | k + 1 => mBd x k || (!mEnd x k && !inB (mch x k) 33 126)
theorem mPn_le (x : Int64) : ∀ k, mPn x k ≤ k := by
  intro k
  induction k with
  | zero => exact Nat.le_refl _
  | succ k ih => rw [mPn]; split <;> omega
def mWr (x : Int64) (L : Nat) (m : xV) : Nat → xV
  | 0 => m
  | k + 1 => upd (mWr x L m k) (870 + (L - 1 - k)) (mch x k)
theorem mWr_o {x : Int64} {L : Nat} {m : xV} {j : Nat} (hL : L ≤ 60) (hj : j < 870 ∨ 930 ≤ j) (h1 : 1 ≤ L) : ∀ k, mWr x L m k j = m j := by
  intro k
  induction k with
  | zero => rfl
  | succ k ih => rw [mWr, upd_n (by omega)]; exact ih
def mPutS (m : xV) (n : Nat) (x : Int64) : Int32 × xV :=
  if mBd x 8 = true then (-100002, m) else if 60 < n + mPn x 8 then (-100004, m)
  else (nI (n + mPn x 8), upd (mWr x (n + mPn x 8) m (mPn x 8)) 941 (nI (n + mPn x 8)))
set_option maxHeartbeats 1000000 in
set_option maxRecDepth 100000 in
theorem c_X5_run (l : Launch) (U : xU) (μ0 : xH) (ma : Nat → Nat) (m : xV) (hM0 : FRep U μ0 ma 5 FM m) (kn : Nat) (hkn : kn ≤ 6) (hk9 : m 940 = nI kn) (n : Nat) (h941 : m 941 = nI n) (hn : n ≤ 60) (hgo : (mFF m n).1 = -100006 → mGo n (n + 1) 0 (mRun0 m kn n)) : CtFR l U yX5_run cX5_run 2 (some .int) ({ frames := 7, cells := 0, slots := 0, locals := 157 } : Room) [.ref (ma 0)] μ0 ma 5 FM (mRunS m kn n).1 (mRunS m kn n).2 := by
  refine Ct.of [some (.ref (ma 0)), none] (by decide +kernel) rfl (Nat.le_of_ble_eq_true rfl) (fun K Q X hnm hQ => ?_)
  obtain ⟨μ, hμ, hM⟩ : ∃ μ : xH, μ0 = μ ∧ FR U μ0 μ ma 5 FM m := ⟨μ0, rfl, FR.rf hM0⟩
  refine aw_mu hμ ?_
  refine aw_aload_n X dX5_run_0 rfl ?_
  refine aw_cVFR (As := []) X hM (c_X5_findFault (kl K) U _ ma _ hM.1 n h941 hn) s_X5_197 k_X5_findFault (by decide) ⟨rfl, rfl⟩ ⟨Nat.zero_le _, Nat.zero_le _⟩ rfl (by exact Nat.le_of_ble_eq_true rfl) rfl dX5_run_1 (fun μ z_1 ez_1 hM => ?_)
  refine aw_ldc X dX5_run_4 a_X5_36 ?_
  refine aw_icmp_eq (tgt := 12) X dX5_run_6 (by decide) (fun c6_2 => ?_) (fun c6_2 => ?_)
  · skip
    have hff : (mFF m n).1 = -100006 := c6_2
    refine aw_aload_n X dX5_run_12 rfl ?_
    refine aw_cVFK (As := []) X hM (c_X5_record (kl K) U _ ma _ hM.1 kn hkn (by rw [ez_1, mFF_o (by omega)]; exact hk9)) s_X5_100 k_X5_record (by decide) ⟨rfl, rfl⟩ ⟨Nat.zero_le _, Nat.zero_le _⟩ rfl (by exact Nat.le_of_ble_eq_true rfl) rfl dX5_run_13 (fun μ z_3 ez_3 hM => ?_)
    refine aw_iconst X (0) dX5_run_16 rfl ?_
    refine aw_istore_n X dX5_run_17 rfl (by decide) ?_
    refine aw_aload_n X dX5_run_18 rfl ?_
    refine aw_iconst X (0) dX5_run_19 rfl ?_
    refine aw_fput X FM_a hM 8 (b := 942) (n := 0) rfl f_X5_160 rfl (by decide +kernel) dX5_run_20 (fun μ z_4 ez_4 hM => ?_)
    have hz0 : z_4 = mRun0 m kn n := by rw [ez_4, ez_3, ez_1]; rfl
    have h941r : mRun0 m kn n 941 = nI n := by unfold mRun0; rw [upd_n (by decide), mRec_lt hkn (Or.inr (by decide)), mFF_o (by decide)]; exact h941
    have hgo0 := hgo hff
    have loop : ∀ (d a : Nat) (c : Int32) (μ : xH) (zc : xV), n + 1 ≤ a + d → a ≤ n + 1 → zc 941 = nI n → zc 942 = nI a → mGo n d a zc → mRunL n d a zc c = mRunL n (n + 1) 0 (mRun0 m kn n) 0 → FR U μ0 μ ma 5 FM zc → AW U K 2 0 0 Q μ 23 [some (.ref (ma 0)), some (.int c)] [] := by
      intro d
      induction d with
      | zero =>
        intro a c μ zc had han h941c h942c hg hR hM
        refine aw_aload_n X dX5_run_23 rfl ?_
        refine aw_fgetI X hM 8 (t := 0) (b := 942) (n := 0) rfl f_X5_160 dX5_run_24 ?_
        refine aw_aload_n X dX5_run_27 rfl ?_
        refine aw_fgetI X hM 7 (t := 0) (b := 941) (n := 0) rfl f_X5_143 dX5_run_28 ?_
        have hge : ¬ a < n := by omega
        refine aw_icmp_ge_t (tgt := 66) X dX5_run_31 (by decide) (by rw [h941c, h942c]; exact nI_le (by omega) (by omega)) ?_
        refine aw_aload_n X dX5_run_66 rfl ?_
        refine aw_iconst X (0) dX5_run_67 rfl ?_
        refine aw_fput X FM_a hM 7 (b := 941) (n := 0) rfl f_X5_143 rfl (by decide +kernel) dX5_run_68 (fun μ z_5 ez_5 hM => ?_)
        refine aw_iload_n X dX5_run_71 rfl ?_
        have hR2 : (c, zc) = mRunL n (n + 1) 0 (mRun0 m kn n) 0 := by rw [← hR]; rfl
        exact aw_iret X hQ dX5_run_72 ⟨congrArg (fun q => some (Value.int q)) (by rw [mRunS, if_pos hff, ← hR2]), hM.to (by rw [mRunS, if_pos hff, ← hR2, ez_5])⟩
      | succ d ih =>
        intro a c μ zc had han h941c h942c hg hR hM
        refine aw_aload_n X dX5_run_23 rfl ?_
        refine aw_fgetI X hM 8 (t := 0) (b := 942) (n := 0) rfl f_X5_160 dX5_run_24 ?_
        refine aw_aload_n X dX5_run_27 rfl ?_
        refine aw_fgetI X hM 7 (t := 0) (b := 941) (n := 0) rfl f_X5_143 dX5_run_28 ?_
        by_cases hlt : a < n
        · skip
          refine aw_icmp_ge_f (tgt := 66) X dX5_run_31 (by decide) (by rw [h941c, h942c]; exact nI_ge hlt (by omega)) ?_
          have hpat : patM zc n a := ⟨h941c, h942c, hn, by omega⟩
          obtain ⟨b, hb1, hb2, hpb, -⟩ := mOrd_pat hpat
          have hnx : mNx zc n a = b := by rw [mNx, hpb.2.1, tn, nI_clamp (by omega)]
          obtain ⟨⟨hiv, h80, hq, hb, h6⟩, hok, hgo2⟩ := hg hlt
          refine aw_aload_n X dX5_run_34 rfl ?_
          refine aw_cVFK (As := []) X hM (c_X5_readOrder (kl K) U _ ma _ hM.1 n (a) hpat) s_X5_194 k_X5_readOrder (by decide) ⟨rfl, rfl⟩ ⟨Nat.zero_le _, Nat.zero_le _⟩ rfl (by exact Nat.le_of_ble_eq_true rfl) rfl dX5_run_35 (fun μ z_5 ez_5 hM => ?_)
          refine aw_aload_n X dX5_run_38 rfl ?_
          refine aw_dup X dX5_run_39 rfl ?_
          refine aw_fgetI X hM 8 (t := 0) (b := 942) (n := 0) rfl f_X5_160 dX5_run_40 ?_
          refine aw_iconst X (1) dX5_run_43 rfl ?_
          refine aw_iadd X dX5_run_44 ?_
          refine aw_top (nI (b + 1)) (by rw [ez_5, hpb.2.1]; exact nI_1 _) ?_
          refine aw_fput X FM_a hM 8 (b := 942) (n := 0) rfl f_X5_160 rfl (by decide +kernel) dX5_run_45 (fun μ z_6 ez_6 hM => ?_)
          have hst : mStp zc n a = z_6 := by rw [ez_6, ez_5, mStp, hnx]
          rw [hst] at hiv h80 h6 hok hgo2
          refine aw_iload_n X dX5_run_48 rfl ?_
          refine aw_aload_n X dX5_run_49 rfl ?_
          refine aw_cVFR (As := []) X hM (c_X5_doOrder (kl K) U _ ma _ hM.1 hiv h80 _ h6 hb hok) s_X5_201 k_X5_doOrder (by decide) ⟨rfl, rfl⟩ ⟨Nat.zero_le _, Nat.zero_le _⟩ rfl (by exact Nat.le_of_ble_eq_true rfl) rfl dX5_run_50 (fun μ z_7 ez_7 hM => ?_)
          refine aw_bj (tgt := 60) (t2 := 61) X dX5_run_53 dX5_run_56 dX5_run_57 dX5_run_60 (by decide) (by decide) rfl ?_
          rw [bI_ne]
          refine aw_iadd X dX5_run_61 ?_
          refine aw_istore_n X dX5_run_62 rfl (by decide) ?_
          refine aw_goto (tgt := 23) X dX5_run_63 (by decide) ?_
          rw [mRunL, if_pos hlt, hst, hnx] at hR
          rw [hnx] at hgo2
          have ho : ∀ j, 84 ≤ j → z_7 j = z_6 j := fun j hj => by rw [ez_7]; exact mOrdD_o ⟨hiv, h80, hq, hb, h6⟩ hok hj
          exact ih (b + 1) _ μ _ (by omega) (by omega) (by rw [ho 941 (by decide), ← hst, mStp, upd_n (by decide)]; exact hpb.1) (by rw [ho 942 (by decide), ← hst, mStp, upd_s, hnx]) (by rw [ez_7]; exact hgo2) (by rw [ez_7]; exact hR) hM
        · have hge : ¬ a < n := hlt
          refine aw_icmp_ge_t (tgt := 66) X dX5_run_31 (by decide) (by rw [h941c, h942c]; exact nI_le (by omega) (by omega)) ?_
          refine aw_aload_n X dX5_run_66 rfl ?_
          refine aw_iconst X (0) dX5_run_67 rfl ?_
          refine aw_fput X FM_a hM 7 (b := 941) (n := 0) rfl f_X5_143 rfl (by decide +kernel) dX5_run_68 (fun μ z_5 ez_5 hM => ?_)
          refine aw_iload_n X dX5_run_71 rfl ?_
          have hR2 : (c, zc) = mRunL n (n + 1) 0 (mRun0 m kn n) 0 := by rw [← hR, mRunL, if_neg hge]
          exact aw_iret X hQ dX5_run_72 ⟨congrArg (fun q => some (Value.int q)) (by rw [mRunS, if_pos hff, ← hR2]), hM.to (by rw [mRunS, if_pos hff, ← hR2, ez_5])⟩
    exact loop (n + 1) 0 0 μ _ (by omega) (by omega) (by rw [hz0]; exact h941r) (by rw [hz0, mRun0, upd_s]; rfl) (by rw [hz0]; exact hgo0) (by rw [hz0]) hM
  · skip
    refine aw_ldc X dX5_run_9 a_X5_200 ?_
    exact aw_iret X hQ dX5_run_11 ⟨congrArg (fun q => some (Value.int q)) (by rw [mRunS, if_neg c6_2]), hM.to (by rw [mRunS, if_neg c6_2, ez_1])⟩
