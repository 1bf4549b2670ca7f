/-! the law's loop, its start -/
theorem df_X4 : ∀ j, j < 8 → defaultValue (tyX4 j) = vp_V [.null, .null, .null, .null, .int 0, .null, .null, .null] j := by
  intro j hj
  rcases (show j = 0 ∨ j = 1 ∨ j = 2 ∨ j = 3 ∨ j = 4 ∨ j = 5 ∨ j = 6 ∨ j = 7 by omega) with rfl | rfl | rfl | rfl | rfl | rfl | rfl | rfl <;> rfl
theorem df_X5 : ∀ j, j < 15 → defaultValue (tyX5 j) = vp_V [.null, .null, .null, .int 0, .null, .null, .null, .int 0, .int 0, .int 0, .int 0, .int 0, .int 0, .int 0, .null] j := by
  intro j hj
  rcases (show j = 0 ∨ j = 1 ∨ j = 2 ∨ j = 3 ∨ j = 4 ∨ j = 5 ∨ j = 6 ∨ j = 7 ∨ j = 8 ∨ j = 9 ∨ j = 10 ∨ j = 11 ∨ j = 12 ∨ j = 13 ∨ j = 14 by omega) with rfl | rfl | rfl | rfl | rfl | rfl | rfl | rfl | rfl | rfl | rfl | rfl | rfl | rfl | rfl <;> rfl
theorem and31 (v : Int32) : ∃ c : Nat, c < 32 ∧ v &&& 31 = nI c := by
  refine ⟨(v &&& 31).toUInt32.toNat, ?_, ?_⟩
  · show ((v.toBitVec &&& 31#32).toNat) < 32
    rw [BitVec.toNat_and]
    exact Nat.lt_of_le_of_lt Nat.and_le_right (by decide)
  · show v &&& 31 = Int32.ofNat _
    apply Int32.toBitVec.inj
    show (v &&& 31).toBitVec = BitVec.ofNat 32 ((v &&& 31).toBitVec.toNat)
    rw [BitVec.ofNat_toNat, BitVec.setWidth_eq]
theorem lgt {i L : Nat} (hi : i ≤ L) (hL : L ≤ 2560) : nI L - 5 < nI i ↔ ¬ (i + 5 ≤ L) := by
  have e1 := nI_toInt (n := L) (by omega)
  have e2 := nI_toInt (n := i) (by omega)
  have e3 : (5 : Int32).toInt = 5 := rfl
  rw [i_lt, i_sub (by omega) (by omega), e1, e2, e3]
  omega
section XLOOP
variable {U : xU} {K : xK} {cells slots : Nat} {Q : State → Prop} {lab : Nat → Nat} {pa o ma : Nat → Nat} {b L : Nat} {xs : Nat → Int32}
theorem law_loop (X : Cx U K yL_law cL_law 4 (some .boolean) room_1) (hX : va_X b L xs (ks K) (ks K).heap ∧ b < (ks K).heap.size ∧ ¬ uB U b) (hl : LA lab ma) (hf : cells ≤ room_1.cells ∧ slots ≤ room_1.slots) (hL : L ≤ 2560) (hend : ∀ (μ : xH) (i : Nat), AW U K 4 cells slots Q μ 913 [some (.ref b), some (.ref (o 0)), some (.ref (ma 0)), some (.int (nI i))] []) : ∀ (d i : Nat), L ≤ i + d → i ≤ L → ∀ μ : xH, LI U lab pa o ma μ → AW U K 4 cells slots Q μ 18 [some (.ref b), some (.ref (o 0)), some (.ref (ma 0)), some (.int (nI i))] [] := by
  intro d
  induction d using Nat.strongRecOn with
  | ind d ih =>
    intro i hd hiL μ hLI
    refine aw_iload_n X dL_law_18 rfl ?_
    refine aw_aload_n X dL_law_19 rfl ?_
    refine aw_slen X hX dL_law_20 ?_
    refine aw_iconst X (5) dL_law_21 rfl ?_
    refine aw_isub X dL_law_22 ?_
    refine aw_icmp_gt (tgt := 913) X dL_law_23 (by decide) (fun _ => hend μ i) (fun hn => ?_)
    have hi : i + 5 ≤ L := Classical.not_not.mp (fun q => hn ((lgt hiL hL).mpr q))
    have hnext : ∀ μ' : xH, LI U lab pa o ma μ' → AW U K 4 cells slots Q μ' 907 [some (.ref b), some (.ref (o 0)), some (.ref (ma 0)), some (.int (nI i))] [] := by
      intro μ' hLI'
      refine aw_iinc X (5) dL_law_907 rfl rfl rfl (by decide) ?_
      refine aw_goto (tgt := 18) X dL_law_910 (by decide) ?_
      have e : nI i + 5 = nI (i + 5) := nI_add (a := i) (b := 5)
      refine aw_loc [some (.ref b), some (.ref (o 0)), some (.ref (ma 0)), some (.int (nI (i + 5)))] (by rw [← e]; rfl) ?_
      by_cases h5 : 5 ≤ d
      · exact ih (d - 5) (by omega) (i + 5) (by omega) hi μ' hLI'
      · exact ih 0 (by omega) (i + 5) (by omega) hi μ' hLI'
    refine aw_aload_n X dL_law_26 rfl ?_
    refine aw_iload_n X dL_law_27 rfl ?_
    refine aw_sld X hX (vin0 hi hL) dL_law_28 ?_
    refine aw_bipush X (31) dL_law_29 rfl ?_
    refine aw_iand X dL_law_31 ?_
    obtain ⟨c, hc, ec⟩ := and31 (xs (nI i).toNatClampNeg)
    refine aw_top (nI c) ec ?_
    match c, hc with
    | 0, _ => exact aw_tableIn (off := 132) (tgt := 164) X dL_law_32 (by decide) (by decide) rfl (by decide) (lc_set X hX hl hf hi hL hLI hnext)
    | 1, _ => exact aw_tableIn (off := 165) (tgt := 197) X dL_law_32 (by decide) (by decide) rfl (by decide) (lc_arrive X hX hl hf hi hL hLI hnext)
    | 2, _ => exact aw_tableIn (off := 218) (tgt := 250) X dL_law_32 (by decide) (by decide) rfl (by decide) (lc_berth X hX hl hf hi hL hLI hnext)
    | 3, _ => exact aw_tableIn (off := 231) (tgt := 263) X dL_law_32 (by decide) (by decide) rfl (by decide) (lc_leave X hX hl hf hi hL hLI hnext)
    | 4, _ => exact aw_tableIn (off := 244) (tgt := 276) X dL_law_32 (by decide) (by decide) rfl (by decide) (lc_reach X hX hl hf hi hL hLI hnext)
    | 5, _ => exact aw_tableIn (off := 277) (tgt := 309) X dL_law_32 (by decide) (by decide) rfl (by decide) (lc_connect X hX hl hf hi hL hLI hnext)
    | 6, _ => exact aw_tableIn (off := 310) (tgt := 342) X dL_law_32 (by decide) (by decide) rfl (by decide) (lc_disconnect X hX hl hf hi hL hLI hnext)
    | 7, _ => exact aw_tableIn (off := 333) (tgt := 365) X dL_law_32 (by decide) (by decide) rfl (by decide) (lc_flush X hX hl hf hi hL hLI hnext)
    | 8, _ => exact aw_tableIn (off := 356) (tgt := 388) X dL_law_32 (by decide) (by decide) rfl (by decide) (lc_mend X hX hl hf hi hL hLI hnext)
    | 9, _ => exact aw_tableIn (off := 379) (tgt := 411) X dL_law_32 (by decide) (by decide) rfl (by decide) (lc_boom X hX hl hf hi hL hLI hnext)
    | 10, _ => exact aw_tableIn (off := 418) (tgt := 450) X dL_law_32 (by decide) (by decide) rfl (by decide) (lc_draw X hX hl hf hi hL hLI hnext)
    | 11, _ => exact aw_tableIn (off := 451) (tgt := 483) X dL_law_32 (by decide) (by decide) rfl (by decide) (lc_pass X hX hl hf hi hL hLI hnext)
    | 12, _ => exact aw_tableIn (off := 474) (tgt := 506) X dL_law_32 (by decide) (by decide) rfl (by decide) (lc_run X hX hl hf hi hL hLI hnext)
    | 13, _ => exact aw_tableIn (off := 487) (tgt := 519) X dL_law_32 (by decide) (by decide) rfl (by decide) (lc_tanker X hX hl hf hi hL hLI hnext)
    | 14, _ => exact aw_tableIn (off := 520) (tgt := 552) X dL_law_32 (by decide) (by decide) rfl (by decide) (lc_hose X hX hl hf hi hL hLI hnext)
    | 15, _ => exact aw_tableIn (off := 553) (tgt := 585) X dL_law_32 (by decide) (by decide) rfl (by decide) (lc_grade X hX hl hf hi hL hLI hnext)
    | 16, _ => exact aw_tableIn (off := 586) (tgt := 618) X dL_law_32 (by decide) (by decide) rfl (by decide) (lc_count X hX hl hf hi hL hLI hnext)
    | 17, _ => exact aw_tableIn (off := 609) (tgt := 641) X dL_law_32 (by decide) (by decide) rfl (by decide) (lc_tide X hX hl hf hi hL hLI hnext)
    | 18, _ => exact aw_tableIn (off := 632) (tgt := 664) X dL_law_32 (by decide) (by decide) rfl (by decide) (lc_untilFloats X hX hl hf hi hL hLI hnext)
    | 19, _ => exact aw_tableIn (off := 645) (tgt := 677) X dL_law_32 (by decide) (by decide) rfl (by decide) (lc_safeFor X hX hl hf hi hL hLI hnext)
    | 20, _ => exact aw_tableIn (off := 668) (tgt := 700) X dL_law_32 (by decide) (by decide) rfl (by decide) (lc_untilEmpty X hX hl hf hi hL hLI hnext)
    | 21, _ => exact aw_tableIn (off := 681) (tgt := 713) X dL_law_32 (by decide) (by decide) rfl (by decide) (lc_ifPassed X hX hl hf hi hL hLI hnext)
    | 22, _ => exact aw_tableIn (off := 714) (tgt := 746) X dL_law_32 (by decide) (by decide) rfl (by decide) (lc_leastReach X hX hl hf hi hL hLI hnext)
    | 23, _ => exact aw_tableIn (off := 737) (tgt := 769) X dL_law_32 (by decide) (by decide) rfl (by decide) (lc_put X hX hl hf hi hL hLI hnext)
    | 24, _ => exact aw_tableIn (off := 790) (tgt := 822) X dL_law_32 (by decide) (by decide) rfl (by decide) (lc_wipe X hX hl hf hi hL hLI hnext)
    | 25, _ => exact aw_tableIn (off := 803) (tgt := 835) X dL_law_32 (by decide) (by decide) rfl (by decide) (lc_fault X hX hl hf hi hL hLI hnext)
    | 26, _ => exact aw_tableIn (off := 816) (tgt := 848) X dL_law_32 (by decide) (by decide) rfl (by decide) (lc_undo X hX hl hf hi hL hLI hnext)
    | 27, _ => exact aw_tableIn (off := 829) (tgt := 861) X dL_law_32 (by decide) (by decide) rfl (by decide) (lc_save X hX hl hf hi hL hLI hnext)
    | 28, _ => exact aw_tableIn (off := 852) (tgt := 884) X dL_law_32 (by decide) (by decide) rfl (by decide) (lc_restore X hX hl hf hi hL hLI hnext)
    | 29, _ => exact aw_tableOut (tgt := 907) X dL_law_32 (by decide) (by decide) (hnext μ hLI)
    | 30, _ => exact aw_tableOut (tgt := 907) X dL_law_32 (by decide) (by decide) (hnext μ hLI)
    | 31, _ => exact aw_tableOut (tgt := 907) X dL_law_32 (by decide) (by decide) (hnext μ hLI)
    | c + 32, hc => exact absurd hc (by omega)
theorem law_start (X : Cx U K yL_law cL_law 4 (some .boolean) room_1) (hX : va_X b L xs (ks K) (ks K).heap ∧ b < (ks K).heap.size ∧ ¬ uB U b) (hL : L ≤ 2560) (hend : ∀ (μ : xH) (i o0 m0 : Nat), AW U K 4 (0 + 1 + 259 + 1 + 7) (0 + 8 + 1248 + 15 + 866) Q μ 913 [some (.ref b), some (.ref o0), some (.ref m0), some (.int (nI i))] []) : AW U K 4 0 0 Q (fun _ => none) 0 [some (.ref b), none, none, none] [] := by
  refine aw_new X (ci := 4) (fs := [.null, .null, .null, .null, .int 0, .null, .null, .null]) rfl e_L_7 i_X4 k_X4_init.2.1 tyX4 tyX4_ok df_X4 (by exact ⟨Nat.le_of_ble_eq_true rfl, Nat.le_of_ble_eq_true rfl⟩) dL_law_0 (fun a _ => ?_)
  refine aw_dup X dL_law_3 rfl ?_
  refine aw_cI (As := []) X (c_X4_init (kl K) U _ a xup_s) s_L_9 k_X4_init (by decide) (by rw [X.2.2.2.2.2.2.2.1]; exact ⟨Nat.le_of_ble_eq_true rfl, Nat.le_of_ble_eq_true rfl⟩) rfl (by exact Nat.le_of_ble_eq_true rfl) dL_law_4 (fun v μ2 hp => ?_)
  obtain ⟨rfl, hO⟩ := hp
  obtain ⟨shs, q, rfl, hOC⟩ := hO.at xup_s
  refine aw_astore_n X dL_law_7 rfl (by decide) ?_
  obtain ⟨B1, hB1⟩ := bnd (fun j => shs (j / 23) (j % 23)) 253
  obtain ⟨B2, hB2⟩ := bnd q 7
  have hb1 : ∀ r n, r < 11 → n < 23 → shs r n < B1 + B2 := fun r n hr hn => by
    have h := hB1 (23 * r + n) (by omega)
    have e1 : (23 * r + n) / 23 = r := by omega
    have e2 : (23 * r + n) % 23 = n := by omega
    simp only [e1, e2] at h
    omega
  have hb2 : ∀ i, i < 7 → q i < B1 + B2 := fun i hi => by
    have h := hB2 i hi
    omega
  refine aw_new X (ci := 5) (fs := [.null, .null, .null, .int 0, .null, .null, .null, .int 0, .int 0, .int 0, .int 0, .int 0, .int 0, .int 0, .null]) rfl e_L_10 i_X5 k_X5_init.2.1 tyX5 tyX5_ok df_X5 (by exact ⟨Nat.le_of_ble_eq_true rfl, Nat.le_of_ble_eq_true rfl⟩) dL_law_8 (fun a5 h5 => ?_)
  refine aw_dup X dL_law_11 rfl ?_
  refine aw_cI (As := []) X (c_X5_init (kl K) U _ a5 xup_s (B1 + B2)) s_L_12 k_X5_init (by decide) (by rw [X.2.2.2.2.2.2.2.1]; exact ⟨Nat.le_of_ble_eq_true rfl, Nat.le_of_ble_eq_true rfl⟩) rfl (by exact Nat.le_of_ble_eq_true rfl) dL_law_12 (fun v μ4 hp => ?_)
  obtain ⟨rfl, hM⟩ := hp
  obtain ⟨lab, pa, o, ma, ho, rfl, hl, hLI⟩ := LI.start hOC hb1 hb2 h5 hM
  refine aw_astore_n X dL_law_15 rfl (by decide) ?_
  refine aw_iconst X (0) dL_law_16 rfl ?_
  refine aw_istore_n X dL_law_17 rfl (by decide) ?_
  rw [← ho]
  exact law_loop X hX hl (by exact ⟨Nat.le_of_ble_eq_true rfl, Nat.le_of_ble_eq_true rfl⟩) hL (fun μ i => hend μ i _ _) L 0 (by omega) (Nat.zero_le _) μ4 hLI
end XLOOP
