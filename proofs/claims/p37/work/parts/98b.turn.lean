/-! by hand: turns of the law -/
set_option maxRecDepth 20000 in
theorem tz_u11 : tz_Bd 569 := by
  intro L xs Q m x Ψ ls w mc ms hl hI hr hs kk
  have hl1 := hl.2.1
  have hl2 := hl.2.2.1
  refine zy_la (k := 1) (n := 1) rfl hl1 (Or.inl ⟨_, rfl⟩) ?_
  refine tz_arg (k := 1) rfl rfl rfl rfl rfl rfl hl ?_
  refine tz_arg (k := 2) rfl rfl rfl rfl rfl rfl hl ?_
  refine tz_arg (k := 3) rfl rfl rfl rfl rfl rfl hl ?_
  refine tz_call (tz_X (C := te_s339) te_p339 rfl (by decide +kernel) hI (show tj_typed _ [(.inr (.inr (.inl 0))), (.inl _), (.inl _), (.inl _)] [(1, 100, 0), (0, 0, 4294967295), (0, 0, 4294967295), (0, 0, 4294967295)] from ⟨(tz_fr 0 100 _ hI.2.1), (tz_fi _ _), (tz_fi _ _), (tz_fi _ _), trivial⟩)) (n := 4) (st := []) rfl rfl (by decide) hs rfl hr (fun v1 Ψ1 w1 mc1 ms1 hI1 hr1 hs1 => ?_)
  refine zy_popI rfl ?_
  refine zy_la (k := 2) (n := 1) rfl hl2 (Or.inl ⟨_, rfl⟩) ?_
  refine tz_arg (k := 1) rfl rfl rfl rfl rfl rfl hl ?_
  refine tz_arg (k := 2) rfl rfl rfl rfl rfl rfl hl ?_
  refine tz_arg (k := 3) rfl rfl rfl rfl rfl rfl hl ?_
  refine tz_call (tz_Y (C := tr1_s27) tr1_p27 rfl (by decide +kernel) hI1 (show tj_typed _ [(.inr (.inr (.inl m))), (.inl _), (.inl _), (.inl _)] [(1, 149, 0), (0, 0, 4294967295), (0, 0, 4294967295), (0, 0, 4294967295)] from ⟨(tz_fr m 149 _ hI1.2.2.1), (tz_fi _ _), (tz_fi _ _), (tz_fi _ _), trivial⟩)) (n := 4) (st := []) rfl rfl (by decide) hs1 rfl hr1 (fun v2 Ψ2 w2 mc2 ms2 hI2 hr2 hs2 => ?_)
  refine zy_popI rfl ?_
  refine zy_goto rfl ?_
  exact kk _ _ _ _ hI2 hr2 hs2
set_option maxRecDepth 20000 in
theorem tz_u12 : tz_Bd 612 := by
  intro L xs Q m x Ψ ls w mc ms hl hI hr hs kk
  have hl1 := hl.2.1
  have hl2 := hl.2.2.1
  refine zy_la (k := 1) (n := 1) rfl hl1 (Or.inl ⟨_, rfl⟩) ?_
  refine tz_arg (k := 1) rfl rfl rfl rfl rfl rfl hl ?_
  refine tz_call (tz_X (C := te_s181) (te_p181 te_hands) rfl (by decide +kernel) hI (show tj_typed _ [(.inr (.inr (.inl 0))), (.inl _)] [(1, 100, 0), (0, 0, 4294967295)] from ⟨(tz_fr 0 100 _ hI.2.1), (tz_fi _ _), trivial⟩)) (n := 2) (st := []) rfl rfl (by decide) hs rfl hr (fun v1 Ψ1 w1 mc1 ms1 hI1 hr1 hs1 => ?_)
  refine zy_popI rfl ?_
  refine zy_la (k := 2) (n := 1) rfl hl2 (Or.inl ⟨_, rfl⟩) ?_
  refine tz_arg (k := 1) rfl rfl rfl rfl rfl rfl hl ?_
  refine tz_call (tz_Y (C := tr_h_days0) tr_b_days0 rfl (by decide +kernel) hI1 (show tj_typed _ [(.inr (.inr (.inl m))), (.inl _)] [(1, 149, 0), (0, 0, 4294967295)] from ⟨(tz_fr m 149 _ hI1.2.2.1), (tz_fi _ _), trivial⟩)) (n := 2) (st := []) rfl rfl (by decide) hs1 rfl hr1 (fun v2 Ψ2 w2 mc2 ms2 hI2 hr2 hs2 => ?_)
  refine zy_popI rfl ?_
  refine zy_goto rfl ?_
  exact kk _ _ _ _ hI2 hr2 hs2
set_option maxRecDepth 20000 in
theorem tz_u13 : tz_Bd 635 := by
  intro L xs Q m x Ψ ls w mc ms hl hI hr hs kk
  have hl1 := hl.2.1
  have hl2 := hl.2.2.1
  refine zy_la (k := 1) (n := 1) rfl hl1 (Or.inl ⟨_, rfl⟩) ?_
  refine tz_arg (k := 1) rfl rfl rfl rfl rfl rfl hl ?_
  refine tz_arg (k := 2) rfl rfl rfl rfl rfl rfl hl ?_
  refine tz_call (tz_X (C := te_s184) (te_p184 te_hands) rfl (by decide +kernel) hI (show tj_typed _ [(.inr (.inr (.inl 0))), (.inl _), (.inl _)] [(1, 100, 0), (0, 0, 4294967295), (0, 0, 4294967295)] from ⟨(tz_fr 0 100 _ hI.2.1), (tz_fi _ _), (tz_fi _ _), trivial⟩)) (n := 3) (st := []) rfl rfl (by decide) hs rfl hr (fun v1 Ψ1 w1 mc1 ms1 hI1 hr1 hs1 => ?_)
  refine zy_popI rfl ?_
  refine zy_la (k := 2) (n := 1) rfl hl2 (Or.inl ⟨_, rfl⟩) ?_
  refine tz_arg (k := 1) rfl rfl rfl rfl rfl rfl hl ?_
  refine tz_arg (k := 2) rfl rfl rfl rfl rfl rfl hl ?_
  refine tz_call (tz_Y (C := tr_h_decree0) tr_b_decree0 rfl (by decide +kernel) hI1 (show tj_typed _ [(.inr (.inr (.inl m))), (.inl _), (.inl _)] [(1, 149, 0), (0, 0, 4294967295), (0, 0, 4294967295)] from ⟨(tz_fr m 149 _ hI1.2.2.1), (tz_fi _ _), (tz_fi _ _), trivial⟩)) (n := 3) (st := []) rfl rfl (by decide) hs1 rfl hr1 (fun v2 Ψ2 w2 mc2 ms2 hI2 hr2 hs2 => ?_)
  refine zy_popI rfl ?_
  refine zy_goto rfl ?_
  exact kk _ _ _ _ hI2 hr2 hs2
set_option maxRecDepth 20000 in
theorem tz_u14 : tz_Bd 668 := by
  intro L xs Q m x Ψ ls w mc ms hl hI hr hs kk
  have hl1 := hl.2.1
  have hl2 := hl.2.2.1
  refine zy_la (k := 1) (n := 1) rfl hl1 (Or.inl ⟨_, rfl⟩) ?_
  refine tz_arg (k := 1) rfl rfl rfl rfl rfl rfl hl ?_
  refine tz_arg (k := 2) rfl rfl rfl rfl rfl rfl hl ?_
  refine tz_arg (k := 3) rfl rfl rfl rfl rfl rfl hl ?_
  refine tz_call (tz_X (C := te_s196) (te_p196 te_hands) rfl (by decide +kernel) hI (show tj_typed _ [(.inr (.inr (.inl 0))), (.inl _), (.inl _), (.inl _)] [(1, 100, 0), (0, 0, 4294967295), (0, 0, 4294967295), (0, 0, 4294967295)] from ⟨(tz_fr 0 100 _ hI.2.1), (tz_fi _ _), (tz_fi _ _), (tz_fi _ _), trivial⟩)) (n := 4) (st := []) rfl rfl (by decide) hs rfl hr (fun v1 Ψ1 w1 mc1 ms1 hI1 hr1 hs1 => ?_)
  refine zy_popI rfl ?_
  refine zy_la (k := 2) (n := 1) rfl hl2 (Or.inl ⟨_, rfl⟩) ?_
  refine tz_arg (k := 1) rfl rfl rfl rfl rfl rfl hl ?_
  refine tz_arg (k := 2) rfl rfl rfl rfl rfl rfl hl ?_
  refine tz_arg (k := 3) rfl rfl rfl rfl rfl rfl hl ?_
  refine tz_call (tz_Y (C := tr1_s29) tr1_p29 rfl (by decide +kernel) hI1 (show tj_typed _ [(.inr (.inr (.inl m))), (.inl _), (.inl _), (.inl _)] [(1, 149, 0), (0, 0, 4294967295), (0, 0, 4294967295), (0, 0, 4294967295)] from ⟨(tz_fr m 149 _ hI1.2.2.1), (tz_fi _ _), (tz_fi _ _), (tz_fi _ _), trivial⟩)) (n := 4) (st := []) rfl rfl (by decide) hs1 rfl hr1 (fun v2 Ψ2 w2 mc2 ms2 hI2 hr2 hs2 => ?_)
  refine zy_popI rfl ?_
  refine zy_goto rfl ?_
  exact kk _ _ _ _ hI2 hr2 hs2
set_option maxRecDepth 20000 in
theorem tz_u15 : tz_Bd 711 := by
  intro L xs Q m x Ψ ls w mc ms hl hI hr hs kk
  have hl1 := hl.2.1
  have hl2 := hl.2.2.1
  refine zy_la (k := 1) (n := 1) rfl hl1 (Or.inl ⟨_, rfl⟩) ?_
  refine tz_arg (k := 1) rfl rfl rfl rfl rfl rfl hl ?_
  refine tz_call (tz_X (C := te_s185) (te_p185 te_hands) rfl (by decide +kernel) hI (show tj_typed _ [(.inr (.inr (.inl 0))), (.inl _)] [(1, 100, 0), (0, 0, 4294967295)] from ⟨(tz_fr 0 100 _ hI.2.1), (tz_fi _ _), trivial⟩)) (n := 2) (st := []) rfl rfl (by decide) hs rfl hr (fun v1 Ψ1 w1 mc1 ms1 hI1 hr1 hs1 => ?_)
  refine zy_popI rfl ?_
  refine zy_la (k := 2) (n := 1) rfl hl2 (Or.inl ⟨_, rfl⟩) ?_
  refine tz_arg (k := 1) rfl rfl rfl rfl rfl rfl hl ?_
  refine tz_call (tz_Y (C := tr1_s30) tr1_p30 rfl (by decide +kernel) hI1 (show tj_typed _ [(.inr (.inr (.inl m))), (.inl _)] [(1, 149, 0), (0, 0, 4294967295)] from ⟨(tz_fr m 149 _ hI1.2.2.1), (tz_fi _ _), trivial⟩)) (n := 2) (st := []) rfl rfl (by decide) hs1 rfl hr1 (fun v2 Ψ2 w2 mc2 ms2 hI2 hr2 hs2 => ?_)
  refine zy_popI rfl ?_
  refine zy_goto rfl ?_
  exact kk _ _ _ _ hI2 hr2 hs2
set_option maxRecDepth 20000 in
theorem tz_u16 : tz_Bd 734 := by
  intro L xs Q m x Ψ ls w mc ms hl hI hr hs kk
  have hl1 := hl.2.1
  have hl2 := hl.2.2.1
  refine zy_la (k := 1) (n := 1) rfl hl1 (Or.inl ⟨_, rfl⟩) ?_
  refine tz_call (tz_X (C := te_s390) (te_p390 te_hands) rfl (by decide +kernel) hI (show tj_typed _ [(.inr (.inr (.inl 0)))] [(1, 100, 0)] from ⟨(tz_fr 0 100 _ hI.2.1), trivial⟩)) (n := 1) (st := []) rfl rfl (by decide) hs rfl hr (fun v1 Ψ1 w1 mc1 ms1 hI1 hr1 hs1 => ?_)
  refine zy_popI rfl ?_
  refine zy_la (k := 2) (n := 1) rfl hl2 (Or.inl ⟨_, rfl⟩) ?_
  refine tz_call (tz_Y (C := tr1_s31) tr1_p31 rfl (by decide +kernel) hI1 (show tj_typed _ [(.inr (.inr (.inl m)))] [(1, 149, 0)] from ⟨(tz_fr m 149 _ hI1.2.2.1), trivial⟩)) (n := 1) (st := []) rfl rfl (by decide) hs1 rfl hr1 (fun v2 Ψ2 w2 mc2 ms2 hI2 hr2 hs2 => ?_)
  refine zy_popI rfl ?_
  refine zy_goto rfl ?_
  exact kk _ _ _ _ hI2 hr2 hs2
set_option maxRecDepth 20000 in
theorem tz_u17 : tz_Bd 747 := by
  intro L xs Q m x Ψ ls w mc ms hl hI hr hs kk
  have hl1 := hl.2.1
  have hl2 := hl.2.2.1
  refine zy_la (k := 1) (n := 1) rfl hl1 (Or.inl ⟨_, rfl⟩) ?_
  refine tz_call (tz_X (C := te_s555) (te_p555 te_hands) rfl (by decide +kernel) hI (show tj_typed _ [(.inr (.inr (.inl 0)))] [(1, 100, 0)] from ⟨(tz_fr 0 100 _ hI.2.1), trivial⟩)) (n := 1) (st := []) rfl rfl (by decide) hs rfl hr (fun v1 Ψ1 w1 mc1 ms1 hI1 hr1 hs1 => ?_)
  refine zy_popI rfl ?_
  refine zy_la (k := 2) (n := 1) rfl hl2 (Or.inl ⟨_, rfl⟩) ?_
  refine tz_call (tz_Y (C := tr_h_undo0) tr_b_undo0 rfl (by decide +kernel) hI1 (show tj_typed _ [(.inr (.inr (.inl m)))] [(1, 149, 0)] from ⟨(tz_fr m 149 _ hI1.2.2.1), trivial⟩)) (n := 1) (st := []) rfl rfl (by decide) hs1 rfl hr1 (fun v2 Ψ2 w2 mc2 ms2 hI2 hr2 hs2 => ?_)
  refine zy_popI rfl ?_
  refine zy_goto rfl ?_
  exact kk _ _ _ _ hI2 hr2 hs2
set_option maxRecDepth 20000 in
theorem tz_u18 : tz_Bd 760 := by
  intro L xs Q m x Ψ ls w mc ms hl hI hr hs kk
  have hl1 := hl.2.1
  have hl2 := hl.2.2.1
  refine zy_la (k := 1) (n := 1) rfl hl1 (Or.inl ⟨_, rfl⟩) ?_
  refine tz_call (tz_X (C := te_s392) (te_p392 te_hands) rfl (by decide +kernel) hI (show tj_typed _ [(.inr (.inr (.inl 0)))] [(1, 100, 0)] from ⟨(tz_fr 0 100 _ hI.2.1), trivial⟩)) (n := 1) (st := []) rfl rfl (by decide) hs rfl hr (fun v1 Ψ1 w1 mc1 ms1 hI1 hr1 hs1 => ?_)
  refine zy_popI rfl ?_
  refine zy_la (k := 2) (n := 1) rfl hl2 (Or.inl ⟨_, rfl⟩) ?_
  refine tz_call (tz_Y (C := tr_h_redo0) tr_b_redo0 rfl (by decide +kernel) hI1 (show tj_typed _ [(.inr (.inr (.inl m)))] [(1, 149, 0)] from ⟨(tz_fr m 149 _ hI1.2.2.1), trivial⟩)) (n := 1) (st := []) rfl rfl (by decide) hs1 rfl hr1 (fun v2 Ψ2 w2 mc2 ms2 hI2 hr2 hs2 => ?_)
  refine zy_popI rfl ?_
  refine zy_goto rfl ?_
  exact kk _ _ _ _ hI2 hr2 hs2
set_option maxRecDepth 20000 in
theorem tz_u19 : tz_Bd 773 := by
  intro L xs Q m x Ψ ls w mc ms hl hI hr hs kk
  have hl1 := hl.2.1
  have hl2 := hl.2.2.1
  refine zy_la (k := 1) (n := 1) rfl hl1 (Or.inl ⟨_, rfl⟩) ?_
  refine tz_arg (k := 1) rfl rfl rfl rfl rfl rfl hl ?_
  refine tz_arg (k := 2) rfl rfl rfl rfl rfl rfl hl ?_
  refine tz_arg (k := 3) rfl rfl rfl rfl rfl rfl hl ?_
  refine tz_call (tz_X (C := te_s386) te_p386 rfl (by decide +kernel) hI (show tj_typed _ [(.inr (.inr (.inl 0))), (.inl _), (.inl _), (.inl _)] [(1, 100, 0), (0, 0, 4294967295), (0, 0, 4294967295), (0, 0, 4294967295)] from ⟨(tz_fr 0 100 _ hI.2.1), (tz_fi _ _), (tz_fi _ _), (tz_fi _ _), trivial⟩)) (n := 4) (st := []) rfl rfl (by decide) hs rfl hr (fun v1 Ψ1 w1 mc1 ms1 hI1 hr1 hs1 => ?_)
  refine zy_popI rfl ?_
  refine zy_la (k := 2) (n := 1) rfl hl2 (Or.inl ⟨_, rfl⟩) ?_
  refine tz_arg (k := 1) rfl rfl rfl rfl rfl rfl hl ?_
  refine tz_arg (k := 2) rfl rfl rfl rfl rfl rfl hl ?_
  refine tz_arg (k := 3) rfl rfl rfl rfl rfl rfl hl ?_
  refine tz_call (tz_Y (C := tr2_s2) tr2_p2 rfl (by decide +kernel) hI1 (show tj_typed _ [(.inr (.inr (.inl m))), (.inl _), (.inl _), (.inl _)] [(1, 149, 0), (0, 0, 4294967295), (0, 0, 4294967295), (0, 0, 4294967295)] from ⟨(tz_fr m 149 _ hI1.2.2.1), (tz_fi _ _), (tz_fi _ _), (tz_fi _ _), trivial⟩)) (n := 4) (st := []) rfl rfl (by decide) hs1 rfl hr1 (fun v2 Ψ2 w2 mc2 ms2 hI2 hr2 hs2 => ?_)
  refine zy_popI rfl ?_
  refine zy_goto rfl ?_
  exact kk _ _ _ _ hI2 hr2 hs2
set_option maxRecDepth 20000 in
theorem tz_u20 : tz_Bd 816 := by
  intro L xs Q m x Ψ ls w mc ms hl hI hr hs kk
  have hl1 := hl.2.1
  have hl2 := hl.2.2.1
  refine zy_la (k := 1) (n := 1) rfl hl1 (Or.inl ⟨_, rfl⟩) ?_
  refine tz_arg (k := 1) rfl rfl rfl rfl rfl rfl hl ?_
  refine tz_arg (k := 2) rfl rfl rfl rfl rfl rfl hl ?_
  refine tz_call (tz_Xtog hI) (n := 3) (st := []) rfl rfl (by decide) hs rfl hr (fun v1 Ψ1 w1 mc1 ms1 hI1 hr1 hs1 => ?_)
  refine zy_popI rfl ?_
  refine zy_la (k := 2) (n := 1) rfl hl2 (Or.inl ⟨_, rfl⟩) ?_
  refine tz_arg (k := 1) rfl rfl rfl rfl rfl rfl hl ?_
  refine tz_arg (k := 2) rfl rfl rfl rfl rfl rfl hl ?_
  refine tz_call (tz_Y (C := tr2_s3) tr2_p3 rfl (by decide +kernel) hI1 (show tj_typed _ [(.inr (.inr (.inl m))), (.inl _), (.inl _)] [(1, 149, 0), (0, 0, 4294967295), (0, 0, 4294967295)] from ⟨(tz_fr m 149 _ hI1.2.2.1), (tz_fi _ _), (tz_fi _ _), trivial⟩)) (n := 3) (st := []) rfl rfl (by decide) hs1 rfl hr1 (fun v2 Ψ2 w2 mc2 ms2 hI2 hr2 hs2 => ?_)
  refine zy_popI rfl ?_
  refine zy_goto rfl ?_
  exact kk _ _ _ _ hI2 hr2 hs2
set_option maxRecDepth 20000 in
theorem tz_u21 : tz_Bd 849 := by
  intro L xs Q m x Ψ ls w mc ms hl hI hr hs kk
  have hl1 := hl.2.1
  have hl2 := hl.2.2.1
  refine zy_la (k := 1) (n := 1) rfl hl1 (Or.inl ⟨_, rfl⟩) ?_
  refine tz_arg (k := 1) rfl rfl rfl rfl rfl rfl hl ?_
  refine tz_call (tz_X (C := te_s353) te_p353 rfl (by decide +kernel) hI (show tj_typed _ [(.inr (.inr (.inl 0))), (.inl _)] [(1, 100, 0), (0, 0, 4294967295)] from ⟨(tz_fr 0 100 _ hI.2.1), (tz_fi _ _), trivial⟩)) (n := 2) (st := []) rfl rfl (by decide) hs rfl hr (fun v1 Ψ1 w1 mc1 ms1 hI1 hr1 hs1 => ?_)
  refine zy_popI rfl ?_
  refine zy_la (k := 2) (n := 1) rfl hl2 (Or.inl ⟨_, rfl⟩) ?_
  refine tz_arg (k := 1) rfl rfl rfl rfl rfl rfl hl ?_
  refine tz_call (tz_Y (C := tr_h_next0) tr_b_next0 rfl (by decide +kernel) hI1 (show tj_typed _ [(.inr (.inr (.inl m))), (.inl _)] [(1, 149, 0), (0, 0, 4294967295)] from ⟨(tz_fr m 149 _ hI1.2.2.1), (tz_fi _ _), trivial⟩)) (n := 2) (st := []) rfl rfl (by decide) hs1 rfl hr1 (fun v2 Ψ2 w2 mc2 ms2 hI2 hr2 hs2 => ?_)
  refine zy_popI rfl ?_
  refine zy_goto rfl ?_
  exact kk _ _ _ _ hI2 hr2 hs2
