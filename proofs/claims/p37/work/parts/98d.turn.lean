/-! by hand: turns of the law -/
set_option maxRecDepth 20000 in
theorem tz_u33 : tz_Bd 1161 := by
  intro L xs Q m x Ψ ls w mc ms hl hI hr hs kk
  have hl1 := hl.2.1
  have hl2 := hl.2.2.1
  refine zy_la (k := 1) (n := 1) rfl hl1 (Or.inl ⟨_, rfl⟩) ?_
  refine tz_arg (k := 1) rfl rfl rfl rfl rfl rfl hl ?_
  refine tz_arg (k := 2) rfl rfl rfl rfl rfl rfl hl ?_
  refine tz_call (tz_X (C := te_s509) te_p509 rfl (by decide +kernel) hI (show tj_typed _ [(.inr (.inr (.inl 0))), (.inl _), (.inl _)] [(1, 100, 0), (0, 0, 4294967295), (0, 0, 4294967295)] from ⟨(tz_fr 0 100 _ hI.2.1), (tz_fi _ _), (tz_fi _ _), trivial⟩)) (n := 3) (st := []) rfl rfl (by decide) hs rfl hr (fun v1 Ψ1 w1 mc1 ms1 hI1 hr1 hs1 => ?_)
  refine zy_popI rfl ?_
  refine zy_la (k := 2) (n := 1) rfl hl2 (Or.inl ⟨_, rfl⟩) ?_
  refine tz_arg (k := 1) rfl rfl rfl rfl rfl rfl hl ?_
  refine tz_arg (k := 2) rfl rfl rfl rfl rfl rfl hl ?_
  refine tz_call (tz_Y (C := tr1_s94) tr1_p94 rfl (by decide +kernel) hI1 (show tj_typed _ [(.inr (.inr (.inl m))), (.inl _), (.inl _)] [(1, 149, 0), (0, 0, 4294967295), (0, 0, 4294967295)] from ⟨(tz_fr m 149 _ hI1.2.2.1), (tz_fi _ _), (tz_fi _ _), trivial⟩)) (n := 3) (st := []) rfl rfl (by decide) hs1 rfl hr1 (fun v2 Ψ2 w2 mc2 ms2 hI2 hr2 hs2 => ?_)
  refine zy_popI rfl ?_
  refine zy_goto rfl ?_
  exact kk _ _ _ _ hI2 hr2 hs2
set_option maxRecDepth 20000 in
theorem tz_u34 : tz_Bd 1194 := by
  intro L xs Q m x Ψ ls w mc ms hl hI hr hs kk
  have hl1 := hl.2.1
  have hl2 := hl.2.2.1
  refine zy_la (k := 1) (n := 1) rfl hl1 (Or.inl ⟨_, rfl⟩) ?_
  refine tz_arg (k := 1) rfl rfl rfl rfl rfl rfl hl ?_
  refine tz_call (tz_X (C := te_s557) te_p557 rfl (by decide +kernel) hI (show tj_typed _ [(.inr (.inr (.inl 0))), (.inl _)] [(1, 100, 0), (0, 0, 4294967295)] from ⟨(tz_fr 0 100 _ hI.2.1), (tz_fi _ _), trivial⟩)) (n := 2) (st := []) rfl rfl (by decide) hs rfl hr (fun v1 Ψ1 w1 mc1 ms1 hI1 hr1 hs1 => ?_)
  refine zy_popI rfl ?_
  refine zy_la (k := 2) (n := 1) rfl hl2 (Or.inl ⟨_, rfl⟩) ?_
  refine tz_arg (k := 1) rfl rfl rfl rfl rfl rfl hl ?_
  refine tz_call (tz_Y (C := tr1_s96) tr1_p96 rfl (by decide +kernel) hI1 (show tj_typed _ [(.inr (.inr (.inl m))), (.inl _)] [(1, 149, 0), (0, 0, 4294967295)] from ⟨(tz_fr m 149 _ hI1.2.2.1), (tz_fi _ _), trivial⟩)) (n := 2) (st := []) rfl rfl (by decide) hs1 rfl hr1 (fun v2 Ψ2 w2 mc2 ms2 hI2 hr2 hs2 => ?_)
  refine zy_popI rfl ?_
  refine zy_goto rfl ?_
  exact kk _ _ _ _ hI2 hr2 hs2
set_option maxRecDepth 20000 in
theorem tz_u35 : tz_Bd 1217 := by
  intro L xs Q m x Ψ ls w mc ms hl hI hr hs kk
  have hl1 := hl.2.1
  have hl2 := hl.2.2.1
  refine zy_la (k := 1) (n := 1) rfl hl1 (Or.inl ⟨_, rfl⟩) ?_
  refine tz_arg (k := 1) rfl rfl rfl rfl rfl rfl hl ?_
  refine tz_call (tz_XYlater hI) (n := 2) (st := []) rfl rfl (by decide) hs rfl hr (fun v Ψ1 w1 mc1 ms1 hV hr1 hs1 => ?_)
  obtain ⟨hw1, hm1, hD⟩ := hV
  have hlt : zx_limL w1.length [(.inl v)] = true := rfl
  refine zy_la (k := 2) (n := 1) rfl hl2 (Or.inl ⟨_, rfl⟩) ?_
  refine tz_arg (k := 1) rfl rfl rfl rfl rfl rfl hl ?_
  refine tz_call hD (n := 2) (st := [(.inl v)]) rfl rfl (Nat.le_of_ble_eq_true rfl) hs1 hlt hr1 (fun v2 Ψ2 w2 mc2 ms2 hV2 hr2 hs2 => ?_)
  obtain ⟨ev, hI2⟩ := hV2
  subst ev
  refine zy_jt rfl (fun _ => ?_) (fun h => absurd rfl h)
  exact kk _ _ _ _ hI2 hr2 hs2
set_option maxRecDepth 20000 in
theorem tz_u36 : tz_Bd 1240 := by
  intro L xs Q m x Ψ ls w mc ms hl hI hr hs kk
  have hl1 := hl.2.1
  have hl2 := hl.2.2.1
  refine zy_la (k := 1) (n := 1) rfl hl1 (Or.inl ⟨_, rfl⟩) ?_
  refine tz_arg (k := 1) rfl rfl rfl rfl rfl rfl hl ?_
  refine tz_arg (k := 2) rfl rfl rfl rfl rfl rfl hl ?_
  refine tz_call (tz_X (C := te_s80) te_p80 rfl (by decide +kernel) hI (show tj_typed _ [(.inr (.inr (.inl 0))), (.inl _), (.inl _)] [(1, 100, 0), (0, 0, 4294967295), (0, 0, 4294967295)] from ⟨(tz_fr 0 100 _ hI.2.1), (tz_fi _ _), (tz_fi _ _), trivial⟩)) (n := 3) (st := []) rfl rfl (by decide) hs rfl hr (fun v1 Ψ1 w1 mc1 ms1 hI1 hr1 hs1 => ?_)
  refine zy_popI rfl ?_
  refine zy_la (k := 2) (n := 1) rfl hl2 (Or.inl ⟨_, rfl⟩) ?_
  refine tz_arg (k := 1) rfl rfl rfl rfl rfl rfl hl ?_
  refine tz_arg (k := 2) rfl rfl rfl rfl rfl rfl hl ?_
  refine tz_call (tz_Y (C := tr1_s151) tr1_p151 rfl (by decide +kernel) hI1 (show tj_typed _ [(.inr (.inr (.inl m))), (.inl _), (.inl _)] [(1, 149, 0), (0, 0, 4294967295), (0, 0, 4294967295)] from ⟨(tz_fr m 149 _ hI1.2.2.1), (tz_fi _ _), (tz_fi _ _), trivial⟩)) (n := 3) (st := []) rfl rfl (by decide) hs1 rfl hr1 (fun v2 Ψ2 w2 mc2 ms2 hI2 hr2 hs2 => ?_)
  refine zy_popI rfl ?_
  refine zy_goto rfl ?_
  exact kk _ _ _ _ hI2 hr2 hs2
set_option maxRecDepth 20000 in
theorem tz_u37 : tz_Bd 1273 := by
  intro L xs Q m x Ψ ls w mc ms hl hI hr hs kk
  have hl1 := hl.2.1
  have hl2 := hl.2.2.1
  refine zy_la (k := 1) (n := 1) rfl hl1 (Or.inl ⟨_, rfl⟩) ?_
  refine tz_arg (k := 1) rfl rfl rfl rfl rfl rfl hl ?_
  refine tz_arg (k := 2) rfl rfl rfl rfl rfl rfl hl ?_
  refine tz_arg (k := 3) rfl rfl rfl rfl rfl rfl hl ?_
  refine tz_call (tz_X (C := te_s558) te_p558 rfl (by decide +kernel) hI (show tj_typed _ [(.inr (.inr (.inl 0))), (.inl _), (.inl _), (.inl _)] [(1, 100, 0), (0, 0, 4294967295), (0, 0, 4294967295), (0, 0, 4294967295)] from ⟨(tz_fr 0 100 _ hI.2.1), (tz_fi _ _), (tz_fi _ _), (tz_fi _ _), trivial⟩)) (n := 4) (st := []) rfl rfl (by decide) hs rfl hr (fun v1 Ψ1 w1 mc1 ms1 hI1 hr1 hs1 => ?_)
  refine zy_popI rfl ?_
  refine zy_la (k := 2) (n := 1) rfl hl2 (Or.inl ⟨_, rfl⟩) ?_
  refine tz_arg (k := 1) rfl rfl rfl rfl rfl rfl hl ?_
  refine tz_arg (k := 2) rfl rfl rfl rfl rfl rfl hl ?_
  refine tz_arg (k := 3) rfl rfl rfl rfl rfl rfl hl ?_
  refine tz_call (tz_Y (C := tr1_s178) tr1_p178 rfl (by decide +kernel) hI1 (show tj_typed _ [(.inr (.inr (.inl m))), (.inl _), (.inl _), (.inl _)] [(1, 149, 0), (0, 0, 4294967295), (0, 0, 4294967295), (0, 0, 4294967295)] from ⟨(tz_fr m 149 _ hI1.2.2.1), (tz_fi _ _), (tz_fi _ _), (tz_fi _ _), trivial⟩)) (n := 4) (st := []) rfl rfl (by decide) hs1 rfl hr1 (fun v2 Ψ2 w2 mc2 ms2 hI2 hr2 hs2 => ?_)
  refine zy_popI rfl ?_
  refine zy_goto rfl ?_
  exact kk _ _ _ _ hI2 hr2 hs2
set_option maxRecDepth 20000 in
theorem tz_u38 : tz_Bd 1316 := by
  intro L xs Q m x Ψ ls w mc ms hl hI hr hs kk
  have hl1 := hl.2.1
  have hl2 := hl.2.2.1
  refine zy_la (k := 1) (n := 1) rfl hl1 (Or.inl ⟨_, rfl⟩) ?_
  refine tz_arg (k := 1) rfl rfl rfl rfl rfl rfl hl ?_
  refine tz_arg (k := 2) rfl rfl rfl rfl rfl rfl hl ?_
  refine tz_call (tz_X (C := te_s529) te_p529 rfl (by decide +kernel) hI (show tj_typed _ [(.inr (.inr (.inl 0))), (.inl _), (.inl _)] [(1, 100, 0), (0, 0, 4294967295), (0, 0, 4294967295)] from ⟨(tz_fr 0 100 _ hI.2.1), (tz_fi _ _), (tz_fi _ _), trivial⟩)) (n := 3) (st := []) rfl rfl (by decide) hs rfl hr (fun v1 Ψ1 w1 mc1 ms1 hI1 hr1 hs1 => ?_)
  refine zy_popI rfl ?_
  refine zy_la (k := 2) (n := 1) rfl hl2 (Or.inl ⟨_, rfl⟩) ?_
  refine tz_arg (k := 1) rfl rfl rfl rfl rfl rfl hl ?_
  refine tz_arg (k := 2) rfl rfl rfl rfl rfl rfl hl ?_
  refine tz_call (tz_Y (C := tr1_s187) tr1_p187 rfl (by decide +kernel) hI1 (show tj_typed _ [(.inr (.inr (.inl m))), (.inl _), (.inl _)] [(1, 149, 0), (0, 0, 4294967295), (0, 0, 4294967295)] from ⟨(tz_fr m 149 _ hI1.2.2.1), (tz_fi _ _), (tz_fi _ _), trivial⟩)) (n := 3) (st := []) rfl rfl (by decide) hs1 rfl hr1 (fun v2 Ψ2 w2 mc2 ms2 hI2 hr2 hs2 => ?_)
  refine zy_popI rfl ?_
  refine zy_goto rfl ?_
  exact kk _ _ _ _ hI2 hr2 hs2
set_option maxRecDepth 20000 in
theorem tz_u39 : tz_Bd 1349 := by
  intro L xs Q m x Ψ ls w mc ms hl hI hr hs kk
  have hl1 := hl.2.1
  have hl2 := hl.2.2.1
  refine zy_la (k := 1) (n := 1) rfl hl1 (Or.inl ⟨_, rfl⟩) ?_
  refine tz_arg (k := 1) rfl rfl rfl rfl rfl rfl hl ?_
  refine tz_call (tz_X (C := te_s343) (te_p343 te_hands) rfl (by decide +kernel) hI (show tj_typed _ [(.inr (.inr (.inl 0))), (.inl _)] [(1, 100, 0), (0, 0, 4294967295)] from ⟨(tz_fr 0 100 _ hI.2.1), (tz_fi _ _), trivial⟩)) (n := 2) (st := []) rfl rfl (by decide) hs rfl hr (fun v1 Ψ1 w1 mc1 ms1 hI1 hr1 hs1 => ?_)
  refine zy_popI rfl ?_
  refine zy_la (k := 2) (n := 1) rfl hl2 (Or.inl ⟨_, rfl⟩) ?_
  refine tz_arg (k := 1) rfl rfl rfl rfl rfl rfl hl ?_
  refine tz_call (tz_Y (C := tr_h_image0) tr_b_image0 rfl (by decide +kernel) hI1 (show tj_typed _ [(.inr (.inr (.inl m))), (.inl _)] [(1, 149, 0), (0, 0, 4294967295)] from ⟨(tz_fr m 149 _ hI1.2.2.1), (tz_fi _ _), trivial⟩)) (n := 2) (st := []) rfl rfl (by decide) hs1 rfl hr1 (fun v2 Ψ2 w2 mc2 ms2 hI2 hr2 hs2 => ?_)
  refine zy_popI rfl ?_
  refine zy_goto rfl ?_
  exact kk _ _ _ _ hI2 hr2 hs2
set_option maxRecDepth 20000 in
theorem tz_u40 : tz_Bd 1372 := by
  intro L xs Q m x Ψ ls w mc ms hl hI hr hs kk
  have hl1 := hl.2.1
  have hl2 := hl.2.2.1
  refine zy_la (k := 1) (n := 1) rfl hl1 (Or.inl ⟨_, rfl⟩) ?_
  refine tz_arg (k := 1) rfl rfl rfl rfl rfl rfl hl ?_
  refine tz_call (tz_X (C := te_s83) (te_p83 te_hands) rfl (by decide +kernel) hI (show tj_typed _ [(.inr (.inr (.inl 0))), (.inl _)] [(1, 100, 0), (0, 0, 4294967295)] from ⟨(tz_fr 0 100 _ hI.2.1), (tz_fi _ _), trivial⟩)) (n := 2) (st := []) rfl rfl (by decide) hs rfl hr (fun v1 Ψ1 w1 mc1 ms1 hI1 hr1 hs1 => ?_)
  refine zy_popI rfl ?_
  refine zy_la (k := 2) (n := 1) rfl hl2 (Or.inl ⟨_, rfl⟩) ?_
  refine tz_arg (k := 1) rfl rfl rfl rfl rfl rfl hl ?_
  refine tz_call (tz_Y (C := tr_h_back0) tr_b_back0 rfl (by decide +kernel) hI1 (show tj_typed _ [(.inr (.inr (.inl m))), (.inl _)] [(1, 149, 0), (0, 0, 4294967295)] from ⟨(tz_fr m 149 _ hI1.2.2.1), (tz_fi _ _), trivial⟩)) (n := 2) (st := []) rfl rfl (by decide) hs1 rfl hr1 (fun v2 Ψ2 w2 mc2 ms2 hI2 hr2 hs2 => ?_)
  refine zy_popI rfl ?_
  refine zy_goto rfl ?_
  exact kk _ _ _ _ hI2 hr2 hs2
set_option maxRecDepth 20000 in
theorem tz_u41 : tz_Bd 1395 := by
  intro L xs Q m x Ψ ls w mc ms hl hI hr hs kk
  have hl1 := hl.2.1
  have hl2 := hl.2.2.1
  refine zy_la (k := 1) (n := 1) rfl hl1 (Or.inl ⟨_, rfl⟩) ?_
  refine tz_arg (k := 1) rfl rfl rfl rfl rfl rfl hl ?_
  refine tz_call (tz_X (C := te_s0) te_p0 rfl (by decide +kernel) hI (show tj_typed _ [(.inr (.inr (.inl 0))), (.inl _)] [(1, 100, 0), (0, 0, 4294967295)] from ⟨(tz_fr 0 100 _ hI.2.1), (tz_fi _ _), trivial⟩)) (n := 2) (st := []) rfl rfl (by decide) hs rfl hr (fun v1 Ψ1 w1 mc1 ms1 hI1 hr1 hs1 => ?_)
  refine zy_popI rfl ?_
  refine zy_la (k := 2) (n := 1) rfl hl2 (Or.inl ⟨_, rfl⟩) ?_
  refine tz_arg (k := 1) rfl rfl rfl rfl rfl rfl hl ?_
  refine tz_call (tz_Y (C := tr1_s188) tr1_p188 rfl (by decide +kernel) hI1 (show tj_typed _ [(.inr (.inr (.inl m))), (.inl _)] [(1, 149, 0), (0, 0, 4294967295)] from ⟨(tz_fr m 149 _ hI1.2.2.1), (tz_fi _ _), trivial⟩)) (n := 2) (st := []) rfl rfl (by decide) hs1 rfl hr1 (fun v2 Ψ2 w2 mc2 ms2 hI2 hr2 hs2 => ?_)
  refine zy_popI rfl ?_
  refine zy_goto rfl ?_
  exact kk _ _ _ _ hI2 hr2 hs2
