/-! by hand: turns of the law -/
set_option maxRecDepth 20000 in
theorem tz_u0 : tz_Bd 216 := by
  intro L xs Q m x Ψ ls w mc ms hl hI hr hs kk
  have hl1 := hl.2.1
  have hl2 := hl.2.2.1
  refine zy_la (k := 1) (n := 1) rfl hl1 (Or.inl ⟨_, rfl⟩) ?_
  refine tz_arg (k := 1) rfl rfl rfl rfl rfl rfl hl ?_
  refine tz_arg (k := 2) rfl rfl rfl rfl rfl rfl hl ?_
  refine tz_arg (k := 3) rfl rfl rfl rfl rfl rfl hl ?_
  refine tz_arg (k := 4) rfl rfl rfl rfl rfl rfl hl ?_
  refine tz_arg (k := 5) rfl rfl rfl rfl rfl rfl hl ?_
  refine tz_call (tz_X (C := te_s336) te_p336 rfl (by decide +kernel) hI (show tj_typed _ [(.inr (.inr (.inl 0))), (.inl _), (.inl _), (.inl _), (.inl _), (.inl _)] [(1, 100, 0), (0, 0, 4294967295), (0, 0, 4294967295), (0, 0, 4294967295), (0, 0, 4294967295), (0, 0, 4294967295)] from ⟨(tz_fr 0 100 _ hI.2.1), (tz_fi _ _), (tz_fi _ _), (tz_fi _ _), (tz_fi _ _), (tz_fi _ _), trivial⟩)) (n := 6) (st := []) rfl rfl (by decide) hs rfl hr (fun v1 Ψ1 w1 mc1 ms1 hI1 hr1 hs1 => ?_)
  refine zy_popI rfl ?_
  refine zy_la (k := 2) (n := 1) rfl hl2 (Or.inl ⟨_, rfl⟩) ?_
  refine tz_arg (k := 1) rfl rfl rfl rfl rfl rfl hl ?_
  refine tz_arg (k := 2) rfl rfl rfl rfl rfl rfl hl ?_
  refine tz_arg (k := 3) rfl rfl rfl rfl rfl rfl hl ?_
  refine tz_arg (k := 4) rfl rfl rfl rfl rfl rfl hl ?_
  refine tz_arg (k := 5) rfl rfl rfl rfl rfl rfl hl ?_
  refine tz_call (tz_Y (C := tr1_s0) tr1_p0 rfl (by decide +kernel) hI1 (show tj_typed _ [(.inr (.inr (.inl m))), (.inl _), (.inl _), (.inl _), (.inl _), (.inl _)] [(1, 149, 0), (0, 0, 4294967295), (0, 0, 4294967295), (0, 0, 4294967295), (0, 0, 4294967295), (0, 0, 4294967295)] from ⟨(tz_fr m 149 _ hI1.2.2.1), (tz_fi _ _), (tz_fi _ _), (tz_fi _ _), (tz_fi _ _), (tz_fi _ _), trivial⟩)) (n := 6) (st := []) rfl rfl (by decide) hs1 rfl hr1 (fun v2 Ψ2 w2 mc2 ms2 hI2 hr2 hs2 => ?_)
  refine zy_popI rfl ?_
  refine zy_goto rfl ?_
  exact kk _ _ _ _ hI2 hr2 hs2
set_option maxRecDepth 20000 in
theorem tz_u1 : tz_Bd 279 := by
  intro L xs Q m x Ψ ls w mc ms hl hI hr hs kk
  have hl1 := hl.2.1
  have hl2 := hl.2.2.1
  refine zy_la (k := 1) (n := 1) rfl hl1 (Or.inl ⟨_, rfl⟩) ?_
  refine tz_arg (k := 1) rfl rfl rfl rfl rfl rfl hl ?_
  refine tz_call (tz_X (C := te_s193) te_p193 rfl (by decide +kernel) hI (show tj_typed _ [(.inr (.inr (.inl 0))), (.inl _)] [(1, 100, 0), (0, 0, 4294967295)] from ⟨(tz_fr 0 100 _ hI.2.1), (tz_fi _ _), trivial⟩)) (n := 2) (st := []) rfl rfl (by decide) hs rfl hr (fun v1 Ψ1 w1 mc1 ms1 hI1 hr1 hs1 => ?_)
  refine zy_popI rfl ?_
  refine zy_la (k := 2) (n := 1) rfl hl2 (Or.inl ⟨_, rfl⟩) ?_
  refine tz_arg (k := 1) rfl rfl rfl rfl rfl rfl hl ?_
  refine tz_call (tz_Y (C := tr1_s1) tr1_p1 rfl (by decide +kernel) hI1 (show tj_typed _ [(.inr (.inr (.inl m))), (.inl _)] [(1, 149, 0), (0, 0, 4294967295)] from ⟨(tz_fr m 149 _ hI1.2.2.1), (tz_fi _ _), trivial⟩)) (n := 2) (st := []) rfl rfl (by decide) hs1 rfl hr1 (fun v2 Ψ2 w2 mc2 ms2 hI2 hr2 hs2 => ?_)
  refine zy_popI rfl ?_
  refine zy_goto rfl ?_
  exact kk _ _ _ _ hI2 hr2 hs2
set_option maxRecDepth 20000 in
theorem tz_u2 : tz_Bd 302 := by
  intro L xs Q m x Ψ ls w mc ms hl hI hr hs kk
  have hl1 := hl.2.1
  have hl2 := hl.2.2.1
  refine zy_la (k := 1) (n := 1) rfl hl1 (Or.inl ⟨_, rfl⟩) ?_
  refine tz_call (tz_X (C := te_s507) (te_p507 te_hands) rfl (by decide +kernel) hI (show tj_typed _ [(.inr (.inr (.inl 0)))] [(1, 100, 0)] from ⟨(tz_fr 0 100 _ hI.2.1), trivial⟩)) (n := 1) (st := []) rfl rfl (by decide) hs rfl hr (fun v1 Ψ1 w1 mc1 ms1 hI1 hr1 hs1 => ?_)
  refine zy_popI rfl ?_
  refine zy_la (k := 2) (n := 1) rfl hl2 (Or.inl ⟨_, rfl⟩) ?_
  refine tz_call (tz_Yreg hI1) (n := 1) (st := []) rfl rfl (by decide) hs1 rfl hr1 (fun v2 Ψ2 w2 mc2 ms2 hI2 hr2 hs2 => ?_)
  refine zy_popI rfl ?_
  refine zy_goto rfl ?_
  exact kk _ _ _ _ hI2 hr2 hs2
set_option maxRecDepth 20000 in
theorem tz_u3 : tz_Bd 315 := by
  intro L xs Q m x Ψ ls w mc ms hl hI hr hs kk
  have hl1 := hl.2.1
  have hl2 := hl.2.2.1
  refine zy_la (k := 1) (n := 1) rfl hl1 (Or.inl ⟨_, rfl⟩) ?_
  refine tz_arg (k := 1) rfl rfl rfl rfl rfl rfl hl ?_
  refine tz_call (tz_X (C := te_s334) te_p334 rfl (by decide +kernel) hI (show tj_typed _ [(.inr (.inr (.inl 0))), (.inl _)] [(1, 100, 0), (0, 0, 4294967295)] from ⟨(tz_fr 0 100 _ hI.2.1), (tz_fi _ _), trivial⟩)) (n := 2) (st := []) rfl rfl (by decide) hs rfl hr (fun v1 Ψ1 w1 mc1 ms1 hI1 hr1 hs1 => ?_)
  refine zy_popI rfl ?_
  refine zy_la (k := 2) (n := 1) rfl hl2 (Or.inl ⟨_, rfl⟩) ?_
  refine tz_arg (k := 1) rfl rfl rfl rfl rfl rfl hl ?_
  refine tz_call (tz_Y (C := tr1_s2) tr1_p2 rfl (by decide +kernel) hI1 (show tj_typed _ [(.inr (.inr (.inl m))), (.inl _)] [(1, 149, 0), (0, 0, 4294967295)] from ⟨(tz_fr m 149 _ hI1.2.2.1), (tz_fi _ _), trivial⟩)) (n := 2) (st := []) rfl rfl (by decide) hs1 rfl hr1 (fun v2 Ψ2 w2 mc2 ms2 hI2 hr2 hs2 => ?_)
  refine zy_popI rfl ?_
  refine zy_goto rfl ?_
  exact kk _ _ _ _ hI2 hr2 hs2
set_option maxRecDepth 20000 in
theorem tz_u4 : tz_Bd 338 := by
  intro L xs Q m x Ψ ls w mc ms hl hI hr hs kk
  have hl1 := hl.2.1
  have hl2 := hl.2.2.1
  refine zy_la (k := 1) (n := 1) rfl hl1 (Or.inl ⟨_, rfl⟩) ?_
  refine tz_arg (k := 1) rfl rfl rfl rfl rfl rfl hl ?_
  refine tz_arg (k := 2) rfl rfl rfl rfl rfl rfl hl ?_
  refine tz_call (tz_X (C := te_s340) te_p340 rfl (by decide +kernel) hI (show tj_typed _ [(.inr (.inr (.inl 0))), (.inl _), (.inl _)] [(1, 100, 0), (0, 0, 4294967295), (0, 0, 4294967295)] from ⟨(tz_fr 0 100 _ hI.2.1), (tz_fi _ _), (tz_fi _ _), trivial⟩)) (n := 3) (st := []) rfl rfl (by decide) hs rfl hr (fun v1 Ψ1 w1 mc1 ms1 hI1 hr1 hs1 => ?_)
  refine zy_popI rfl ?_
  refine zy_la (k := 2) (n := 1) rfl hl2 (Or.inl ⟨_, rfl⟩) ?_
  refine tz_arg (k := 1) rfl rfl rfl rfl rfl rfl hl ?_
  refine tz_arg (k := 2) rfl rfl rfl rfl rfl rfl hl ?_
  refine tz_call (tz_Y (C := tr1_s5) tr1_p5 rfl (by decide +kernel) hI1 (show tj_typed _ [(.inr (.inr (.inl m))), (.inl _), (.inl _)] [(1, 149, 0), (0, 0, 4294967295), (0, 0, 4294967295)] from ⟨(tz_fr m 149 _ hI1.2.2.1), (tz_fi _ _), (tz_fi _ _), trivial⟩)) (n := 3) (st := []) rfl rfl (by decide) hs1 rfl hr1 (fun v2 Ψ2 w2 mc2 ms2 hI2 hr2 hs2 => ?_)
  refine zy_popI rfl ?_
  refine zy_goto rfl ?_
  exact kk _ _ _ _ hI2 hr2 hs2
set_option maxRecDepth 20000 in
theorem tz_u5 : tz_Bd 371 := by
  intro L xs Q m x Ψ ls w mc ms hl hI hr hs kk
  have hl1 := hl.2.1
  have hl2 := hl.2.2.1
  refine zy_la (k := 1) (n := 1) rfl hl1 (Or.inl ⟨_, rfl⟩) ?_
  refine tz_arg (k := 1) rfl rfl rfl rfl rfl rfl hl ?_
  refine tz_arg (k := 2) rfl rfl rfl rfl rfl rfl hl ?_
  refine tz_call (tz_X (C := te_s351) te_p351 rfl (by decide +kernel) hI (show tj_typed _ [(.inr (.inr (.inl 0))), (.inl _), (.inl _)] [(1, 100, 0), (0, 0, 4294967295), (0, 0, 4294967295)] from ⟨(tz_fr 0 100 _ hI.2.1), (tz_fi _ _), (tz_fi _ _), trivial⟩)) (n := 3) (st := []) rfl rfl (by decide) hs rfl hr (fun v1 Ψ1 w1 mc1 ms1 hI1 hr1 hs1 => ?_)
  refine zy_popI rfl ?_
  refine zy_la (k := 2) (n := 1) rfl hl2 (Or.inl ⟨_, rfl⟩) ?_
  refine tz_arg (k := 1) rfl rfl rfl rfl rfl rfl hl ?_
  refine tz_arg (k := 2) rfl rfl rfl rfl rfl rfl hl ?_
  refine tz_call (tz_Y (C := tr1_s7) tr1_p7 rfl (by decide +kernel) hI1 (show tj_typed _ [(.inr (.inr (.inl m))), (.inl _), (.inl _)] [(1, 149, 0), (0, 0, 4294967295), (0, 0, 4294967295)] from ⟨(tz_fr m 149 _ hI1.2.2.1), (tz_fi _ _), (tz_fi _ _), trivial⟩)) (n := 3) (st := []) rfl rfl (by decide) hs1 rfl hr1 (fun v2 Ψ2 w2 mc2 ms2 hI2 hr2 hs2 => ?_)
  refine zy_popI rfl ?_
  refine zy_goto rfl ?_
  exact kk _ _ _ _ hI2 hr2 hs2
set_option maxRecDepth 20000 in
theorem tz_u6 : tz_Bd 404 := by
  intro L xs Q m x Ψ ls w mc ms hl hI hr hs kk
  have hl1 := hl.2.1
  have hl2 := hl.2.2.1
  refine zy_la (k := 1) (n := 1) rfl hl1 (Or.inl ⟨_, rfl⟩) ?_
  refine tz_arg (k := 1) rfl rfl rfl rfl rfl rfl hl ?_
  refine tz_arg (k := 2) rfl rfl rfl rfl rfl rfl hl ?_
  refine tz_call (tz_X (C := te_s357) te_p357 rfl (by decide +kernel) hI (show tj_typed _ [(.inr (.inr (.inl 0))), (.inl _), (.inl _)] [(1, 100, 0), (0, 0, 4294967295), (0, 0, 4294967295)] from ⟨(tz_fr 0 100 _ hI.2.1), (tz_fi _ _), (tz_fi _ _), trivial⟩)) (n := 3) (st := []) rfl rfl (by decide) hs rfl hr (fun v1 Ψ1 w1 mc1 ms1 hI1 hr1 hs1 => ?_)
  refine zy_popI rfl ?_
  refine zy_la (k := 2) (n := 1) rfl hl2 (Or.inl ⟨_, rfl⟩) ?_
  refine tz_arg (k := 1) rfl rfl rfl rfl rfl rfl hl ?_
  refine tz_arg (k := 2) rfl rfl rfl rfl rfl rfl hl ?_
  refine tz_call (tz_Y (C := tr1_s10) tr1_p10 rfl (by decide +kernel) hI1 (show tj_typed _ [(.inr (.inr (.inl m))), (.inl _), (.inl _)] [(1, 149, 0), (0, 0, 4294967295), (0, 0, 4294967295)] from ⟨(tz_fr m 149 _ hI1.2.2.1), (tz_fi _ _), (tz_fi _ _), trivial⟩)) (n := 3) (st := []) rfl rfl (by decide) hs1 rfl hr1 (fun v2 Ψ2 w2 mc2 ms2 hI2 hr2 hs2 => ?_)
  refine zy_popI rfl ?_
  refine zy_goto rfl ?_
  exact kk _ _ _ _ hI2 hr2 hs2
set_option maxRecDepth 20000 in
theorem tz_u7 : tz_Bd 437 := by
  intro L xs Q m x Ψ ls w mc ms hl hI hr hs kk
  have hl1 := hl.2.1
  have hl2 := hl.2.2.1
  refine zy_la (k := 1) (n := 1) rfl hl1 (Or.inl ⟨_, rfl⟩) ?_
  refine tz_arg (k := 1) rfl rfl rfl rfl rfl rfl hl ?_
  refine tz_arg (k := 2) rfl rfl rfl rfl rfl rfl hl ?_
  refine tz_call (tz_X (C := te_s344) te_p344 rfl (by decide +kernel) hI (show tj_typed _ [(.inr (.inr (.inl 0))), (.inl _), (.inl _)] [(1, 100, 0), (0, 0, 4294967295), (0, 0, 4294967295)] from ⟨(tz_fr 0 100 _ hI.2.1), (tz_fi _ _), (tz_fi _ _), trivial⟩)) (n := 3) (st := []) rfl rfl (by decide) hs rfl hr (fun v1 Ψ1 w1 mc1 ms1 hI1 hr1 hs1 => ?_)
  refine zy_popI rfl ?_
  refine zy_la (k := 2) (n := 1) rfl hl2 (Or.inl ⟨_, rfl⟩) ?_
  refine tz_arg (k := 1) rfl rfl rfl rfl rfl rfl hl ?_
  refine tz_arg (k := 2) rfl rfl rfl rfl rfl rfl hl ?_
  refine tz_call (tz_Y (C := tr1_s12) tr1_p12 rfl (by decide +kernel) hI1 (show tj_typed _ [(.inr (.inr (.inl m))), (.inl _), (.inl _)] [(1, 149, 0), (0, 0, 4294967295), (0, 0, 4294967295)] from ⟨(tz_fr m 149 _ hI1.2.2.1), (tz_fi _ _), (tz_fi _ _), trivial⟩)) (n := 3) (st := []) rfl rfl (by decide) hs1 rfl hr1 (fun v2 Ψ2 w2 mc2 ms2 hI2 hr2 hs2 => ?_)
  refine zy_popI rfl ?_
  refine zy_goto rfl ?_
  exact kk _ _ _ _ hI2 hr2 hs2
set_option maxRecDepth 20000 in
theorem tz_u8 : tz_Bd 470 := by
  intro L xs Q m x Ψ ls w mc ms hl hI hr hs kk
  have hl1 := hl.2.1
  have hl2 := hl.2.2.1
  refine zy_la (k := 1) (n := 1) rfl hl1 (Or.inl ⟨_, rfl⟩) ?_
  refine tz_arg (k := 1) rfl rfl rfl rfl rfl rfl hl ?_
  refine tz_arg (k := 2) rfl rfl rfl rfl rfl rfl hl ?_
  refine tz_call (tz_X (C := te_s175) te_p175 rfl (by decide +kernel) hI (show tj_typed _ [(.inr (.inr (.inl 0))), (.inl _), (.inl _)] [(1, 100, 0), (0, 0, 4294967295), (0, 0, 4294967295)] from ⟨(tz_fr 0 100 _ hI.2.1), (tz_fi _ _), (tz_fi _ _), trivial⟩)) (n := 3) (st := []) rfl rfl (by decide) hs rfl hr (fun v1 Ψ1 w1 mc1 ms1 hI1 hr1 hs1 => ?_)
  refine zy_popI rfl ?_
  refine zy_la (k := 2) (n := 1) rfl hl2 (Or.inl ⟨_, rfl⟩) ?_
  refine tz_arg (k := 1) rfl rfl rfl rfl rfl rfl hl ?_
  refine tz_arg (k := 2) rfl rfl rfl rfl rfl rfl hl ?_
  refine tz_call (tz_Y (C := tr1_s21) tr1_p21 rfl (by decide +kernel) hI1 (show tj_typed _ [(.inr (.inr (.inl m))), (.inl _), (.inl _)] [(1, 149, 0), (0, 0, 4294967295), (0, 0, 4294967295)] from ⟨(tz_fr m 149 _ hI1.2.2.1), (tz_fi _ _), (tz_fi _ _), trivial⟩)) (n := 3) (st := []) rfl rfl (by decide) hs1 rfl hr1 (fun v2 Ψ2 w2 mc2 ms2 hI2 hr2 hs2 => ?_)
  refine zy_popI rfl ?_
  refine zy_goto rfl ?_
  exact kk _ _ _ _ hI2 hr2 hs2
set_option maxRecDepth 20000 in
theorem tz_u9 : tz_Bd 503 := by
  intro L xs Q m x Ψ ls w mc ms hl hI hr hs kk
  have hl1 := hl.2.1
  have hl2 := hl.2.2.1
  refine zy_la (k := 1) (n := 1) rfl hl1 (Or.inl ⟨_, rfl⟩) ?_
  refine tz_arg (k := 1) rfl rfl rfl rfl rfl rfl hl ?_
  refine tz_arg (k := 2) rfl rfl rfl rfl rfl rfl hl ?_
  refine tz_call (tz_X (C := te_s345) te_p345 rfl (by decide +kernel) hI (show tj_typed _ [(.inr (.inr (.inl 0))), (.inl _), (.inl _)] [(1, 100, 0), (0, 0, 4294967295), (0, 0, 4294967295)] from ⟨(tz_fr 0 100 _ hI.2.1), (tz_fi _ _), (tz_fi _ _), trivial⟩)) (n := 3) (st := []) rfl rfl (by decide) hs rfl hr (fun v1 Ψ1 w1 mc1 ms1 hI1 hr1 hs1 => ?_)
  refine zy_popI rfl ?_
  refine zy_la (k := 2) (n := 1) rfl hl2 (Or.inl ⟨_, rfl⟩) ?_
  refine tz_arg (k := 1) rfl rfl rfl rfl rfl rfl hl ?_
  refine tz_arg (k := 2) rfl rfl rfl rfl rfl rfl hl ?_
  refine tz_call (tz_Y (C := tr1_s24) tr1_p24 rfl (by decide +kernel) hI1 (show tj_typed _ [(.inr (.inr (.inl m))), (.inl _), (.inl _)] [(1, 149, 0), (0, 0, 4294967295), (0, 0, 4294967295)] from ⟨(tz_fr m 149 _ hI1.2.2.1), (tz_fi _ _), (tz_fi _ _), trivial⟩)) (n := 3) (st := []) rfl rfl (by decide) hs1 rfl hr1 (fun v2 Ψ2 w2 mc2 ms2 hI2 hr2 hs2 => ?_)
  refine zy_popI rfl ?_
  refine zy_goto rfl ?_
  exact kk _ _ _ _ hI2 hr2 hs2
set_option maxRecDepth 20000 in
theorem tz_u10 : tz_Bd 536 := by
  intro L xs Q m x Ψ ls w mc ms hl hI hr hs kk
  have hl1 := hl.2.1
  have hl2 := hl.2.2.1
  refine zy_la (k := 1) (n := 1) rfl hl1 (Or.inl ⟨_, rfl⟩) ?_
  refine tz_arg (k := 1) rfl rfl rfl rfl rfl rfl hl ?_
  refine tz_arg (k := 2) rfl rfl rfl rfl rfl rfl hl ?_
  refine tz_call (tz_X (C := te_s391) te_p391 rfl (by decide +kernel) hI (show tj_typed _ [(.inr (.inr (.inl 0))), (.inl _), (.inl _)] [(1, 100, 0), (0, 0, 4294967295), (0, 0, 4294967295)] from ⟨(tz_fr 0 100 _ hI.2.1), (tz_fi _ _), (tz_fi _ _), trivial⟩)) (n := 3) (st := []) rfl rfl (by decide) hs rfl hr (fun v1 Ψ1 w1 mc1 ms1 hI1 hr1 hs1 => ?_)
  refine zy_popI rfl ?_
  refine zy_la (k := 2) (n := 1) rfl hl2 (Or.inl ⟨_, rfl⟩) ?_
  refine tz_arg (k := 1) rfl rfl rfl rfl rfl rfl hl ?_
  refine tz_arg (k := 2) rfl rfl rfl rfl rfl rfl hl ?_
  refine tz_call (tz_Y (C := tr1_s25) tr1_p25 rfl (by decide +kernel) hI1 (show tj_typed _ [(.inr (.inr (.inl m))), (.inl _), (.inl _)] [(1, 149, 0), (0, 0, 4294967295), (0, 0, 4294967295)] from ⟨(tz_fr m 149 _ hI1.2.2.1), (tz_fi _ _), (tz_fi _ _), trivial⟩)) (n := 3) (st := []) rfl rfl (by decide) hs1 rfl hr1 (fun v2 Ψ2 w2 mc2 ms2 hI2 hr2 hs2 => ?_)
  refine zy_popI rfl ?_
  refine zy_goto rfl ?_
  exact kk _ _ _ _ hI2 hr2 hs2
