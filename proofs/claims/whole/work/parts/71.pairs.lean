/-! a call of the one object and the same call of the other tell the same -/
section XPAIRS
variable {l : Launch} {U : xU} {lab : Nat → Nat} {pa o ma : Nat → Nat} 
theorem pr_set (hl : LA lab ma) (z0 z1 : Int32) : Pair l U lab pa o ma yX4_set cX4_set 3 ({ frames := 4, cells := 0, slots := 0, locals := 89 } : Room) yX5_set cX5_set 4 ({ frames := 1, cells := 0, slots := 0, locals := 22 } : Room) [.int z0, .int z1] := by
  rintro μ ⟨shs, rs, p, un, sv, m, hO, hM, h⟩
  obtain ⟨hn, hn9, h6⟩ := h.1.2.2.2.1
  obtain ⟨e, hs⟩ := h.set z0 z1
  apply Exists.intro
  refine ⟨⟨_, (OR.rf hO).g0⟩, Ct.mono (c_X4_set l U lab μ shs pa o rs p un sv hO z0 z1) ?_⟩
  rintro v μ' ⟨rfl, shs', hO', hF⟩
  have hM' := hM.across hl hF
  refine ⟨rfl, hM'.g0, Ct.mono (c_X5_set l U _ ma m hM' h.1.2.1 h.1.2.2.1 hn h6 hn9 un h.2.1.1 h.2.1.2 z0 z1) ?_⟩
  rintro v μ'' ⟨rfl, hM'', hF''⟩
  exact ⟨congrArg (fun r => some (Value.int r)) e.symm, shs', _, _, _, _, _, hO'.across hl hF'', hM'', hs⟩
theorem pr_arrive (hl : LA lab ma) (z0 z1 z2 z3 : Int32) : Pair l U lab pa o ma yX4_arrive cX4_arrive 5 ({ frames := 4, cells := 0, slots := 0, locals := 89 } : Room) yX5_arrive cX5_arrive 5 ({ frames := 2, cells := 0, slots := 0, locals := 47 } : Room) [.int z0, .int z1, .int z2, .int z3] := by
  rintro μ ⟨shs, rs, p, un, sv, m, hO, hM, h⟩
  obtain ⟨hn, hn9, h6⟩ := h.1.2.2.2.1
  obtain ⟨e, hs⟩ := h.arrive z0 z1 z2 z3
  apply Exists.intro
  refine ⟨⟨_, (OR.rf hO).g0⟩, Ct.mono (c_X4_arrive l U lab μ shs pa o rs p un sv hO z0 z1 z2 z3) ?_⟩
  rintro v μ' ⟨rfl, shs', hO', hF⟩
  have hM' := hM.across hl hF
  refine ⟨rfl, hM'.g0, Ct.mono (c_X5_arrive l U _ ma m hM' h.1.2.1 h.1.2.2.1 hn h6 hn9 un h.2.1.1 h.2.1.2 z0 z1 z2 z3) ?_⟩
  rintro v μ'' ⟨rfl, hM'', hF''⟩
  exact ⟨congrArg (fun r => some (Value.int r)) e.symm, shs', _, _, _, _, _, hO'.across hl hF'', hM'', hs⟩
theorem pr_berth (hl : LA lab ma) : Pair l U lab pa o ma yX4_berth cX4_berth 1 ({ frames := 4, cells := 0, slots := 0, locals := 89 } : Room) yX5_berth cX5_berth 2 ({ frames := 4, cells := 0, slots := 0, locals := 88 } : Room) [] := by
  rintro μ ⟨shs, rs, p, un, sv, m, hO, hM, h⟩
  obtain ⟨hn, hn9, h6⟩ := h.1.2.2.2.1
  obtain ⟨e, hs⟩ := h.berth 
  apply Exists.intro
  refine ⟨⟨_, (OR.rf hO).g0⟩, Ct.mono (c_X4_berth l U lab μ shs pa o rs p un sv hO) ?_⟩
  rintro v μ' ⟨rfl, shs', hO', hF⟩
  have hM' := hM.across hl hF
  refine ⟨rfl, hM'.g0, Ct.mono (c_X5_berth l U _ ma m hM' h.1.2.1 h.1.2.2.1 hn h6 hn9 un h.2.1.1 h.2.1.2) ?_⟩
  rintro v μ'' ⟨rfl, hM'', hF''⟩
  exact ⟨congrArg (fun r => some (Value.int r)) e.symm, shs', _, _, _, _, _, hO'.across hl hF'', hM'', hs⟩
theorem pr_leave (hl : LA lab ma) : Pair l U lab pa o ma yX4_leave cX4_leave 1 ({ frames := 4, cells := 0, slots := 0, locals := 89 } : Room) yX5_leave cX5_leave 2 ({ frames := 4, cells := 0, slots := 0, locals := 88 } : Room) [] := by
  rintro μ ⟨shs, rs, p, un, sv, m, hO, hM, h⟩
  obtain ⟨hn, hn9, h6⟩ := h.1.2.2.2.1
  obtain ⟨e, hs⟩ := h.leave 
  apply Exists.intro
  refine ⟨⟨_, (OR.rf hO).g0⟩, Ct.mono (c_X4_leave l U lab μ shs pa o rs p un sv hO) ?_⟩
  rintro v μ' ⟨rfl, shs', hO', hF⟩
  have hM' := hM.across hl hF
  refine ⟨rfl, hM'.g0, Ct.mono (c_X5_leave l U _ ma m hM' h.1.2.1 h.1.2.2.1 hn h6 hn9 un h.2.1.1 h.2.1.2) ?_⟩
  rintro v μ'' ⟨rfl, hM'', hF''⟩
  exact ⟨congrArg (fun r => some (Value.int r)) e.symm, shs', _, _, _, _, _, hO'.across hl hF'', hM'', hs⟩
theorem pr_reach (hl : LA lab ma) (z0 z1 : Int32) : Pair l U lab pa o ma yX4_reach cX4_reach 3 ({ frames := 4, cells := 0, slots := 0, locals := 89 } : Room) yX5_reach cX5_reach 4 ({ frames := 2, cells := 0, slots := 0, locals := 42 } : Room) [.int z0, .int z1] := by
  rintro μ ⟨shs, rs, p, un, sv, m, hO, hM, h⟩
  obtain ⟨hn, hn9, h6⟩ := h.1.2.2.2.1
  obtain ⟨e, hs⟩ := h.reach z0 z1
  apply Exists.intro
  refine ⟨⟨_, (OR.rf hO).g0⟩, Ct.mono (c_X4_reach l U lab μ shs pa o rs p un sv hO z0 z1) ?_⟩
  rintro v μ' ⟨rfl, shs', hO', hF⟩
  have hM' := hM.across hl hF
  refine ⟨rfl, hM'.g0, Ct.mono (c_X5_reach l U _ ma m hM' h.1.2.1 h.1.2.2.1 hn h6 hn9 un h.2.1.1 h.2.1.2 z0 z1) ?_⟩
  rintro v μ'' ⟨rfl, hM'', hF''⟩
  exact ⟨congrArg (fun r => some (Value.int r)) e.symm, shs', _, _, _, _, _, hO'.across hl hF'', hM'', hs⟩
theorem pr_connect (hl : LA lab ma) (z0 z1 : Int32) : Pair l U lab pa o ma yX4_connect cX4_connect 3 ({ frames := 4, cells := 0, slots := 0, locals := 89 } : Room) yX5_connect cX5_connect 3 ({ frames := 5, cells := 0, slots := 0, locals := 108 } : Room) [.int z0, .int z1] := by
  rintro μ ⟨shs, rs, p, un, sv, m, hO, hM, h⟩
  obtain ⟨hn, hn9, h6⟩ := h.1.2.2.2.1
  obtain ⟨e, hs⟩ := h.connect z0 z1
  apply Exists.intro
  refine ⟨⟨_, (OR.rf hO).g0⟩, Ct.mono (c_X4_connect l U lab μ shs pa o rs p un sv hO z0 z1) ?_⟩
  rintro v μ' ⟨rfl, shs', hO', hF⟩
  have hM' := hM.across hl hF
  refine ⟨rfl, hM'.g0, Ct.mono (c_X5_connect l U _ ma m hM' h.1.2.1 h.1.2.2.1 hn h6 hn9 un h.2.1.1 h.2.1.2 z0 z1) ?_⟩
  rintro v μ'' ⟨rfl, hM'', hF''⟩
  exact ⟨congrArg (fun r => some (Value.int r)) e.symm, shs', _, _, _, _, _, hO'.across hl hF'', hM'', hs⟩
theorem pr_disconnect (hl : LA lab ma) (z0 : Int32) : Pair l U lab pa o ma yX4_disconnect cX4_disconnect 2 ({ frames := 4, cells := 0, slots := 0, locals := 89 } : Room) yX5_disconnect cX5_disconnect 2 ({ frames := 2, cells := 0, slots := 0, locals := 45 } : Room) [.int z0] := by
  rintro μ ⟨shs, rs, p, un, sv, m, hO, hM, h⟩
  obtain ⟨hn, hn9, h6⟩ := h.1.2.2.2.1
  obtain ⟨e, hs⟩ := h.disconnect z0
  apply Exists.intro
  refine ⟨⟨_, (OR.rf hO).g0⟩, Ct.mono (c_X4_disconnect l U lab μ shs pa o rs p un sv hO z0) ?_⟩
  rintro v μ' ⟨rfl, shs', hO', hF⟩
  have hM' := hM.across hl hF
  refine ⟨rfl, hM'.g0, Ct.mono (c_X5_disconnect l U _ ma m hM' h.1.2.1 h.1.2.2.1 hn h6 hn9 un h.2.1.1 h.2.1.2 z0) ?_⟩
  rintro v μ'' ⟨rfl, hM'', hF''⟩
  exact ⟨congrArg (fun r => some (Value.int r)) e.symm, shs', _, _, _, _, _, hO'.across hl hF'', hM'', hs⟩
theorem pr_flush (hl : LA lab ma) (z0 : Int32) : Pair l U lab pa o ma yX4_flush cX4_flush 2 ({ frames := 4, cells := 0, slots := 0, locals := 89 } : Room) yX5_flush cX5_flush 2 ({ frames := 3, cells := 0, slots := 0, locals := 64 } : Room) [.int z0] := by
  rintro μ ⟨shs, rs, p, un, sv, m, hO, hM, h⟩
  obtain ⟨hn, hn9, h6⟩ := h.1.2.2.2.1
  obtain ⟨e, hs⟩ := h.flush z0
  apply Exists.intro
  refine ⟨⟨_, (OR.rf hO).g0⟩, Ct.mono (c_X4_flush l U lab μ shs pa o rs p un sv hO z0) ?_⟩
  rintro v μ' ⟨rfl, shs', hO', hF⟩
  have hM' := hM.across hl hF
  refine ⟨rfl, hM'.g0, Ct.mono (c_X5_flush l U _ ma m hM' h.1.2.1 h.1.2.2.1 hn h6 hn9 un h.2.1.1 h.2.1.2 z0) ?_⟩
  rintro v μ'' ⟨rfl, hM'', hF''⟩
  exact ⟨congrArg (fun r => some (Value.int r)) e.symm, shs', _, _, _, _, _, hO'.across hl hF'', hM'', hs⟩
theorem pr_mend (hl : LA lab ma) (z0 : Int32) : Pair l U lab pa o ma yX4_mend cX4_mend 2 ({ frames := 4, cells := 0, slots := 0, locals := 89 } : Room) yX5_mend cX5_mend 2 ({ frames := 2, cells := 0, slots := 0, locals := 44 } : Room) [.int z0] := by
  rintro μ ⟨shs, rs, p, un, sv, m, hO, hM, h⟩
  obtain ⟨hn, hn9, h6⟩ := h.1.2.2.2.1
  obtain ⟨e, hs⟩ := h.mend z0
  apply Exists.intro
  refine ⟨⟨_, (OR.rf hO).g0⟩, Ct.mono (c_X4_mend l U lab μ shs pa o rs p un sv hO z0) ?_⟩
  rintro v μ' ⟨rfl, shs', hO', hF⟩
  have hM' := hM.across hl hF
  refine ⟨rfl, hM'.g0, Ct.mono (c_X5_mend l U _ ma m hM' h.1.2.1 h.1.2.2.1 hn h6 hn9 un h.2.1.1 h.2.1.2 z0) ?_⟩
  rintro v μ'' ⟨rfl, hM'', hF''⟩
  exact ⟨congrArg (fun r => some (Value.int r)) e.symm, shs', _, _, _, _, _, hO'.across hl hF'', hM'', hs⟩
theorem pr_boom (hl : LA lab ma) (z0 : Int32) (hz0 : xz z0) : Pair l U lab pa o ma yX4_boom cX4_boom 2 ({ frames := 4, cells := 0, slots := 0, locals := 89 } : Room) yX5_boom cX5_boom 3 ({ frames := 1, cells := 0, slots := 0, locals := 21 } : Room) [.int z0] := by
  rintro μ ⟨shs, rs, p, un, sv, m, hO, hM, h⟩
  obtain ⟨hn, hn9, h6⟩ := h.1.2.2.2.1
  obtain ⟨e, hs⟩ := h.boom hz0
  apply Exists.intro
  refine ⟨⟨_, (OR.rf hO).g0⟩, Ct.mono (c_X4_boom l U lab μ shs pa o rs p un sv hO z0 hz0) ?_⟩
  rintro v μ' ⟨rfl, shs', hO', hF⟩
  have hM' := hM.across hl hF
  refine ⟨rfl, hM'.g0, Ct.mono (c_X5_boom l U _ ma m hM' h.1.2.1 h.1.2.2.1 hn h6 hn9 un h.2.1.1 h.2.1.2 z0 hz0) ?_⟩
  rintro v μ'' ⟨rfl, hM'', hF''⟩
  exact ⟨congrArg (fun r => some (Value.int r)) e.symm, shs', _, _, _, _, _, hO'.across hl hF'', hM'', hs⟩
theorem pr_draw (hl : LA lab ma) (z0 z1 : Int32) : Pair l U lab pa o ma yX4_draw cX4_draw 3 ({ frames := 4, cells := 0, slots := 0, locals := 89 } : Room) yX5_draw cX5_draw 3 ({ frames := 2, cells := 0, slots := 0, locals := 42 } : Room) [.int z0, .int z1] := by
  rintro μ ⟨shs, rs, p, un, sv, m, hO, hM, h⟩
  obtain ⟨hn, hn9, h6⟩ := h.1.2.2.2.1
  obtain ⟨e, hs⟩ := h.draw z0 z1
  apply Exists.intro
  refine ⟨⟨_, (OR.rf hO).g0⟩, Ct.mono (c_X4_draw l U lab μ shs pa o rs p un sv hO z0 z1) ?_⟩
  rintro v μ' ⟨rfl, shs', hO', hF⟩
  have hM' := hM.across hl hF
  refine ⟨rfl, hM'.g0, Ct.mono (c_X5_draw l U _ ma m hM' h.1.2.1 h.1.2.2.1 hn h6 hn9 un h.2.1.1 h.2.1.2 z0 z1) ?_⟩
  rintro v μ'' ⟨rfl, hM'', hF''⟩
  exact ⟨congrArg (fun r => some (Value.int r)) e.symm, shs', _, _, _, _, _, hO'.across hl hF'', hM'', hs⟩
theorem pr_pass (hl : LA lab ma) (z0 : Int32) : Pair l U lab pa o ma yX4_pass cX4_pass 2 ({ frames := 6, cells := 0, slots := 0, locals := 132 } : Room) yX5_pass cX5_pass 2 ({ frames := 6, cells := 0, slots := 0, locals := 136 } : Room) [.int z0] := by
  rintro μ ⟨shs, rs, p, un, sv, m, hO, hM, h⟩
  obtain ⟨hn, hn9, h6⟩ := h.1.2.2.2.1
  obtain ⟨e, hs⟩ := h.pass z0
  apply Exists.intro
  refine ⟨⟨_, (OR.rf hO).g0⟩, Ct.mono (c_X4_pass l U lab μ shs pa o rs p un sv hO z0) ?_⟩
  rintro v μ' ⟨rfl, shs', hO', hF⟩
  have hM' := hM.across hl hF
  refine ⟨rfl, hM'.g0, Ct.mono (c_X5_pass l U _ ma m hM' h.1.2.1 h.1.2.2.1 hn h6 hn9 un h.2.1.1 h.2.1.2 z0) ?_⟩
  rintro v μ'' ⟨rfl, hM'', hF''⟩
  exact ⟨congrArg (fun r => some (Value.int r)) e.symm, shs', _, _, _, _, _, hO'.across hl hF'', hM'', hs⟩
theorem pr_run (hl : LA lab ma) : Pair l U lab pa o ma yX4_run cX4_run 3 ({ frames := 7, cells := 0, slots := 0, locals := 152 } : Room) yX5_run cX5_run 2 ({ frames := 7, cells := 0, slots := 0, locals := 157 } : Room) [] := by
  rintro μ ⟨shs, rs, p, un, sv, m, hO, hM, h⟩
  obtain ⟨hn, hn9, h6⟩ := h.1.2.2.2.1
  obtain ⟨n, hn60, h60, h941, -⟩ := h.2.2.2.2
  obtain ⟨hgo, e, hs⟩ := h.run hn60 h60 h941
  apply Exists.intro
  refine ⟨⟨_, (OR.rf hO).g0⟩, Ct.mono (c_X4_run l U lab μ shs pa o rs p un sv hO n h60 hn60) ?_⟩
  rintro v μ' ⟨rfl, shs', hO', hF⟩
  have hM' := hM.across hl hF
  refine ⟨rfl, hM'.g0, Ct.mono (c_X5_run l U _ ma m hM' un h.2.1.1 h.2.1.2 n h941 hn60 hgo) ?_⟩
  rintro v μ'' ⟨rfl, hM'', hF''⟩
  exact ⟨congrArg (fun r => some (Value.int r)) e.symm, shs', _, _, _, _, _, hO'.across hl hF'', hM'', hs⟩
theorem pr_tanker (hl : LA lab ma) (z0 z1 : Int32) : Pair l U lab pa o ma yX4_tanker cX4_tanker 3 ({ frames := 4, cells := 0, slots := 0, locals := 88 } : Room) yX5_tanker cX5_tanker 3 ({ frames := 4, cells := 0, slots := 0, locals := 88 } : Room) [.int z0, .int z1] := by
  rintro μ ⟨shs, rs, p, un, sv, m, hO, hM, h⟩
  obtain ⟨hn, hn9, h6⟩ := h.1.2.2.2.1
  have e := h.1.1.tanker h.1.2.1 z0 z1
  apply Exists.intro
  refine ⟨⟨_, (OR.rf hO).g0⟩, Ct.mono (c_X4_tanker l U lab μ shs pa o rs p un sv hO z0 z1) ?_⟩
  rintro v μ' ⟨rfl, rfl⟩
  have hM' := hM
  have hO' := hO
  refine ⟨rfl, hM'.g0, Ct.mono (c_X5_tanker l U _ ma m hM' h.1.2.1 h.1.2.2.1 hn h6 hn9 z0 z1) ?_⟩
  rintro v μ'' ⟨rfl, rfl⟩
  exact ⟨congrArg (fun r => some (Value.int r)) e.symm, shs, _, _, _, _, _, hO', hM', h⟩
theorem pr_hose (hl : LA lab ma) (z0 z1 : Int32) : Pair l U lab pa o ma yX4_hose cX4_hose 3 ({ frames := 2, cells := 0, slots := 0, locals := 43 } : Room) yX5_hose cX5_hose 3 ({ frames := 2, cells := 0, slots := 0, locals := 42 } : Room) [.int z0, .int z1] := by
  rintro μ ⟨shs, rs, p, un, sv, m, hO, hM, h⟩
  obtain ⟨hn, hn9, h6⟩ := h.1.2.2.2.1
  have e := h.1.1.hose h.1.2.1 z0 z1
  apply Exists.intro
  refine ⟨⟨_, (OR.rf hO).g0⟩, Ct.mono (c_X4_hose l U lab μ shs pa o rs p un sv hO z0 z1) ?_⟩
  rintro v μ' ⟨rfl, rfl⟩
  have hM' := hM
  have hO' := hO
  refine ⟨rfl, hM'.g0, Ct.mono (c_X5_hose l U _ ma m hM' h.1.2.1 h.1.2.2.1 hn h6 hn9 z0 z1) ?_⟩
  rintro v μ'' ⟨rfl, rfl⟩
  exact ⟨congrArg (fun r => some (Value.int r)) e.symm, shs, _, _, _, _, _, hO', hM', h⟩
theorem pr_grade (hl : LA lab ma) (z0 z1 : Int32) : Pair l U lab pa o ma yX4_grade cX4_grade 3 ({ frames := 3, cells := 0, slots := 0, locals := 66 } : Room) yX5_grade cX5_grade 5 ({ frames := 2, cells := 0, slots := 0, locals := 43 } : Room) [.int z0, .int z1] := by
  rintro μ ⟨shs, rs, p, un, sv, m, hO, hM, h⟩
  obtain ⟨hn, hn9, h6⟩ := h.1.2.2.2.1
  have e := h.1.1.grade h.1.2.1 z0 z1
  apply Exists.intro
  refine ⟨⟨_, (OR.rf hO).g0⟩, Ct.mono (c_X4_grade l U lab μ shs pa o rs p un sv hO z0 z1) ?_⟩
  rintro v μ' ⟨rfl, rfl⟩
  have hM' := hM
  have hO' := hO
  refine ⟨rfl, hM'.g0, Ct.mono (c_X5_grade l U _ ma m hM' h.1.2.1 h.1.2.2.1 hn h6 hn9 z0 z1) ?_⟩
  rintro v μ'' ⟨rfl, rfl⟩
  exact ⟨congrArg (fun r => some (Value.int r)) e.symm, shs, _, _, _, _, _, hO', hM', h⟩
theorem pr_count (hl : LA lab ma) (z0 : Int32) : Pair l U lab pa o ma yX4_count cX4_count 2 ({ frames := 4, cells := 0, slots := 0, locals := 83 } : Room) yX5_count cX5_count 2 ({ frames := 3, cells := 0, slots := 0, locals := 65 } : Room) [.int z0] := by
  rintro μ ⟨shs, rs, p, un, sv, m, hO, hM, h⟩
  obtain ⟨hn, hn9, h6⟩ := h.1.2.2.2.1
  have e := h.count z0
  apply Exists.intro
  refine ⟨⟨_, (OR.rf hO).g0⟩, Ct.mono (c_X4_count l U lab μ shs pa o rs p un sv hO z0) ?_⟩
  rintro v μ' ⟨rfl, rfl⟩
  have hM' := hM
  have hO' := hO
  refine ⟨rfl, hM'.g0, Ct.mono (c_X5_count l U _ ma m hM' h.1.2.1 h.1.2.2.1 hn h6 hn9 z0) ?_⟩
  rintro v μ'' ⟨rfl, rfl⟩
  exact ⟨congrArg (fun r => some (Value.int r)) e.symm, shs, _, _, _, _, _, hO', hM', h⟩
theorem pr_tide (hl : LA lab ma) (z0 : Int32) : Pair l U lab pa o ma yX4_tide cX4_tide 2 ({ frames := 2, cells := 0, slots := 0, locals := 43 } : Room) yX5_tide cX5_tide 2 ({ frames := 1, cells := 0, slots := 0, locals := 22 } : Room) [.int z0] := by
  rintro μ ⟨shs, rs, p, un, sv, m, hO, hM, h⟩
  obtain ⟨hn, hn9, h6⟩ := h.1.2.2.2.1
  have e : (if z0 < 0 then (-100002 : Int32) else cTide (rs 0) z0) = if z0 < 0 then -100002 else cTide m z0 := by rw [h.1.1.tide z0]
  apply Exists.intro
  refine ⟨⟨_, (OR.rf hO).g0⟩, Ct.mono (c_X4_tide l U lab μ shs pa o rs p un sv hO z0) ?_⟩
  rintro v μ' ⟨rfl, rfl⟩
  have hM' := hM
  have hO' := hO
  refine ⟨rfl, hM'.g0, Ct.mono (c_X5_tide l U _ ma m hM' h.1.2.1 h.1.2.2.1 hn h6 hn9 z0) ?_⟩
  rintro v μ'' ⟨rfl, rfl⟩
  exact ⟨congrArg (fun r => some (Value.int r)) e.symm, shs, _, _, _, _, _, hO', hM', h⟩
theorem pr_untilFloats (hl : LA lab ma) : Pair l U lab pa o ma yX4_untilFloats cX4_untilFloats 3 ({ frames := 3, cells := 0, slots := 0, locals := 65 } : Room) yX5_untilFloats cX5_untilFloats 3 ({ frames := 4, cells := 0, slots := 0, locals := 88 } : Room) [] := by
  rintro μ ⟨shs, rs, p, un, sv, m, hO, hM, h⟩
  obtain ⟨hn, hn9, h6⟩ := h.1.2.2.2.1
  have e := h.1.1.until h.1.2.1
  apply Exists.intro
  refine ⟨⟨_, (OR.rf hO).g0⟩, Ct.mono (c_X4_untilFloats l U lab μ shs pa o rs p un sv hO) ?_⟩
  rintro v μ' ⟨rfl, rfl⟩
  have hM' := hM
  have hO' := hO
  refine ⟨rfl, hM'.g0, Ct.mono (c_X5_untilFloats l U _ ma m hM' h.1.2.1 h.1.2.2.1 hn h6 hn9) ?_⟩
  rintro v μ'' ⟨rfl, rfl⟩
  exact ⟨congrArg (fun r => some (Value.int r)) e.symm, shs, _, _, _, _, _, hO', hM', h⟩
theorem pr_safeFor (hl : LA lab ma) (z0 : Int32) : Pair l U lab pa o ma yX4_safeFor cX4_safeFor 3 ({ frames := 5, cells := 0, slots := 0, locals := 109 } : Room) yX5_safeFor cX5_safeFor 3 ({ frames := 6, cells := 0, slots := 0, locals := 137 } : Room) [.int z0] := by
  rintro μ ⟨shs, rs, p, un, sv, m, hO, hM, h⟩
  obtain ⟨hn, hn9, h6⟩ := h.1.2.2.2.1
  have e := h.safe z0
  apply Exists.intro
  refine ⟨⟨_, (OR.rf hO).g0⟩, Ct.mono (c_X4_safeFor l U lab μ shs pa o rs p un sv hO z0) ?_⟩
  rintro v μ' ⟨rfl, rs', hr, hO', hF⟩
  have hM' := hM.across hl hF
  refine ⟨rfl, hM'.g0, Ct.mono (c_X5_safeFor l U _ ma m hM' h.1.2.1 h.1.2.2.1 hn h6 hn9 z0) ?_⟩
  rintro v μ'' ⟨rfl, hM'', hF''⟩
  exact ⟨congrArg (fun r => some (Value.int r)) e.symm, shs, _, _, _, _, _, hO'.across hl hF'', hM'', by split <;> first | exact h.cg (fun r h1 _ => hr r h1) | exact (h.cg (fun r h1 _ => hr r h1)).xkeep⟩
theorem pr_untilEmpty (hl : LA lab ma) : Pair l U lab pa o ma yX4_untilEmpty cX4_untilEmpty 2 ({ frames := 5, cells := 0, slots := 0, locals := 109 } : Room) yX5_untilEmpty cX5_untilEmpty 3 ({ frames := 5, cells := 0, slots := 0, locals := 113 } : Room) [] := by
  rintro μ ⟨shs, rs, p, un, sv, m, hO, hM, h⟩
  obtain ⟨hn, hn9, h6⟩ := h.1.2.2.2.1
  have e := h.empty 
  apply Exists.intro
  refine ⟨⟨_, (OR.rf hO).g0⟩, Ct.mono (c_X4_untilEmpty l U lab μ shs pa o rs p un sv hO) ?_⟩
  rintro v μ' ⟨rfl, rs', hr, hO', hF⟩
  have hM' := hM.across hl hF
  refine ⟨rfl, hM'.g0, Ct.mono (c_X5_untilEmpty l U _ ma m hM' h.1.2.1 h.1.2.2.1 hn h6 hn9) ?_⟩
  rintro v μ'' ⟨rfl, hM'', hF''⟩
  exact ⟨congrArg (fun r => some (Value.int r)) e.symm, shs, _, _, _, _, _, hO'.across hl hF'', hM'', by split <;> first | exact h.cg (fun r h1 _ => hr r h1) | exact (h.cg (fun r h1 _ => hr r h1)).xkeep⟩
theorem pr_ifPassed (hl : LA lab ma) (z0 z1 : Int32) : Pair l U lab pa o ma yX4_ifPassed cX4_ifPassed 5 ({ frames := 5, cells := 0, slots := 0, locals := 109 } : Room) yX5_ifPassed cX5_ifPassed 8 ({ frames := 6, cells := 0, slots := 0, locals := 136 } : Room) [.int z0, .int z1] := by
  rintro μ ⟨shs, rs, p, un, sv, m, hO, hM, h⟩
  obtain ⟨hn, hn9, h6⟩ := h.1.2.2.2.1
  have e := h.ifp z0 z1
  apply Exists.intro
  refine ⟨⟨_, (OR.rf hO).g0⟩, Ct.mono (c_X4_ifPassed l U lab μ shs pa o rs p un sv hO z0 z1) ?_⟩
  rintro v μ' ⟨rfl, rs', hr, hO', hF⟩
  have hM' := hM.across hl hF
  refine ⟨rfl, hM'.g0, Ct.mono (c_X5_ifPassed l U _ ma m hM' h.1.2.1 h.1.2.2.1 hn h6 hn9 z0 z1) ?_⟩
  rintro v μ'' ⟨rfl, hM'', hF''⟩
  exact ⟨congrArg (fun r => some (Value.int r)) e.symm, shs, _, _, _, _, _, hO'.across hl hF'', hM'', by split <;> first | exact h.cg (fun r h1 _ => hr r h1) | exact (h.cg (fun r h1 _ => hr r h1)).xkeep⟩
theorem pr_leastReach (hl : LA lab ma) (z0 : Int32) : Pair l U lab pa o ma yX4_leastReach cX4_leastReach 4 ({ frames := 5, cells := 0, slots := 0, locals := 109 } : Room) yX5_leastReach cX5_leastReach 4 ({ frames := 6, cells := 0, slots := 0, locals := 137 } : Room) [.int z0] := by
  rintro μ ⟨shs, rs, p, un, sv, m, hO, hM, h⟩
  obtain ⟨hn, hn9, h6⟩ := h.1.2.2.2.1
  have e := h.least z0
  apply Exists.intro
  refine ⟨⟨_, (OR.rf hO).g0⟩, Ct.mono (c_X4_leastReach l U lab μ shs pa o rs p un sv hO z0) ?_⟩
  rintro v μ' ⟨rfl, rs', hr, hO', hF⟩
  have hM' := hM.across hl hF
  refine ⟨rfl, hM'.g0, Ct.mono (c_X5_leastReach l U _ ma m hM' h.1.2.1 h.1.2.2.1 hn h6 hn9 z0) ?_⟩
  rintro v μ'' ⟨rfl, hM'', hF''⟩
  exact ⟨congrArg (fun r => some (Value.int r)) e.symm, shs, _, _, _, _, _, hO'.across hl hF'', hM'', by split <;> first | exact h.cg (fun r h1 _ => hr r h1) | exact (h.cg (fun r h1 _ => hr r h1)).xkeep⟩
theorem pr_put (hl : LA lab ma) (z0 : Int64) : Pair l U lab pa o ma yX4_put cX4_put 3 ({ frames := 2, cells := 0, slots := 0, locals := 50 } : Room) yX5_put cX5_put 8 ({ frames := 1, cells := 0, slots := 0, locals := 22 } : Room) [.long z0] := by
  rintro μ ⟨shs, rs, p, un, sv, m, hO, hM, h⟩
  obtain ⟨hn, hn9, h6⟩ := h.1.2.2.2.1
  obtain ⟨n, hn60, h60, h941, -⟩ := h.2.2.2.2
  obtain ⟨e, hs⟩ := h.put hn60 h60 h941 z0
  apply Exists.intro
  refine ⟨⟨_, (OR.rf hO).g0⟩, Ct.mono (c_X4_put l U lab μ shs pa o rs p un sv hO n h60 hn60 z0) ?_⟩
  rintro v μ' ⟨rfl, hO', hF⟩
  have hM' := hM.across hl hF
  refine ⟨rfl, hM'.g0, Ct.mono (c_X5_put l U _ ma m hM' n h941 hn60 z0) ?_⟩
  rintro v μ'' ⟨rfl, hM'', hF''⟩
  exact ⟨congrArg (fun r => some (Value.int r)) e.symm, shs, _, _, _, _, _, hO'.across hl hF'', hM'', hs⟩
theorem pr_wipe (hl : LA lab ma) : Pair l U lab pa o ma yX4_wipe cX4_wipe 2 ({ frames := 0, cells := 0, slots := 0, locals := 0 } : Room) yX5_wipe cX5_wipe 2 ({ frames := 0, cells := 0, slots := 0, locals := 0 } : Room) [] := by
  rintro μ ⟨shs, rs, p, un, sv, m, hO, hM, h⟩
  obtain ⟨hn, hn9, h6⟩ := h.1.2.2.2.1
  obtain ⟨e, hs⟩ := h.wipe 
  apply Exists.intro
  refine ⟨⟨_, (OR.rf hO).g0⟩, Ct.mono (c_X4_wipe l U lab μ shs pa o rs p un sv hO) ?_⟩
  rintro v μ' ⟨rfl, hO', hF⟩
  have hM' := hM.across hl hF
  refine ⟨rfl, hM'.g0, Ct.mono (c_X5_wipe l U _ ma m hM') ?_⟩
  rintro v μ'' ⟨rfl, hM'', hF''⟩
  exact ⟨congrArg (fun r => some (Value.int r)) e.symm, shs, _, _, _, _, _, hO'.across hl hF'', hM'', hs⟩
theorem pr_fault (hl : LA lab ma) : Pair l U lab pa o ma yX4_fault cX4_fault 1 ({ frames := 5, cells := 0, slots := 0, locals := 107 } : Room) yX5_fault cX5_fault 1 ({ frames := 6, cells := 0, slots := 0, locals := 127 } : Room) [] := by
  rintro μ ⟨shs, rs, p, un, sv, m, hO, hM, h⟩
  obtain ⟨hn, hn9, h6⟩ := h.1.2.2.2.1
  obtain ⟨n, hn60, h60, h941, -⟩ := h.2.2.2.2
  obtain ⟨e, hs, -⟩ := h.fault hn60 h60 h941
  apply Exists.intro
  refine ⟨⟨_, (OR.rf hO).g0⟩, Ct.mono (c_X4_fault l U lab μ shs pa o rs p un sv hO n h60 hn60) ?_⟩
  rintro v μ' ⟨rfl, hO', hF⟩
  have hM' := hM.across hl hF
  refine ⟨rfl, hM'.g0, Ct.mono (c_X5_fault l U _ ma m hM' n h941 hn60) ?_⟩
  rintro v μ'' ⟨rfl, hM'', hF''⟩
  exact ⟨congrArg (fun r => some (Value.int r)) e.symm, shs, _, _, _, _, _, hO'.across hl hF'', hM'', hs⟩
theorem pr_undo (hl : LA lab ma) : Pair l U lab pa o ma yX4_undo cX4_undo 1 ({ frames := 3, cells := 0, slots := 0, locals := 69 } : Room) yX5_undo cX5_undo 2 ({ frames := 0, cells := 0, slots := 0, locals := 0 } : Room) [] := by
  rintro μ ⟨shs, rs, p, un, sv, m, hO, hM, h⟩
  obtain ⟨hn, hn9, h6⟩ := h.1.2.2.2.1
  obtain ⟨e, hs⟩ := h.undo 
  apply Exists.intro
  refine ⟨⟨_, (OR.rf hO).g0⟩, Ct.mono (c_X4_undo l U lab μ shs pa o rs p un sv hO) ?_⟩
  rintro v μ' ⟨rfl, hO', hF⟩
  have hM' := hM.across hl hF
  refine ⟨rfl, hM'.g0, Ct.mono (c_X5_undo l U _ ma m hM' un h.2.1.1 h.2.1.2) ?_⟩
  rintro v μ'' ⟨rfl, hM'', hF''⟩
  exact ⟨congrArg (fun r => some (Value.int r)) e.symm, shs, _, _, _, _, _, hO'.across hl hF'', hM'', hs⟩
theorem pr_save (hl : LA lab ma) (z0 : Int32) : Pair l U lab pa o ma yX4_save cX4_save 2 ({ frames := 3, cells := 0, slots := 0, locals := 69 } : Room) yX5_save cX5_save 3 ({ frames := 1, cells := 0, slots := 0, locals := 22 } : Room) [.int z0] := by
  rintro μ ⟨shs, rs, p, un, sv, m, hO, hM, h⟩
  obtain ⟨hn, hn9, h6⟩ := h.1.2.2.2.1
  obtain ⟨e, hs⟩ := h.save z0
  apply Exists.intro
  refine ⟨⟨_, (OR.rf hO).g0⟩, Ct.mono (c_X4_save l U lab μ shs pa o rs p un sv hO z0) ?_⟩
  rintro v μ' ⟨rfl, hO', hF⟩
  have hM' := hM.across hl hF
  refine ⟨rfl, hM'.g0, Ct.mono (c_X5_save l U _ ma m hM' z0) ?_⟩
  rintro v μ'' ⟨rfl, hM'', hF''⟩
  exact ⟨congrArg (fun r => some (Value.int r)) e.symm, shs, _, _, _, _, _, hO'.across hl hF'', hM'', hs⟩
theorem pr_restore (hl : LA lab ma) (z0 : Int32) : Pair l U lab pa o ma yX4_restore cX4_restore 2 ({ frames := 4, cells := 0, slots := 0, locals := 89 } : Room) yX5_restore cX5_restore 3 ({ frames := 1, cells := 0, slots := 0, locals := 22 } : Room) [.int z0] := by
  rintro μ ⟨shs, rs, p, un, sv, m, hO, hM, h⟩
  obtain ⟨hn, hn9, h6⟩ := h.1.2.2.2.1
  obtain ⟨e, hs⟩ := h.restore z0
  apply Exists.intro
  refine ⟨⟨_, (OR.rf hO).g0⟩, Ct.mono (c_X4_restore l U lab μ shs pa o rs p un sv hO z0) ?_⟩
  rintro v μ' ⟨rfl, shs', hO', hF⟩
  have hM' := hM.across hl hF
  refine ⟨rfl, hM'.g0, Ct.mono (c_X5_restore l U _ ma m hM' un h.2.1.1 h.2.1.2 z0) ?_⟩
  rintro v μ'' ⟨rfl, hM'', hF''⟩
  exact ⟨congrArg (fun r => some (Value.int r)) e.symm, shs', _, _, _, _, _, hO'.across hl hF'', hM'', hs⟩
end XPAIRS
