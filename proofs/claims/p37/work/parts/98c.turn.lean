/-! by hand: turns of the law -/
set_option maxRecDepth 20000 in
theorem tz_u22 : tz_Bd 872 := by
  intro L xs Q m x Ψ ls w mc ms hl hI hr hs kk
  have hl1 := hl.2.1
  have hl2 := hl.2.2.1
  refine zy_la (k := 1) (n := 1) rfl hl1 (Or.inl ⟨_, rfl⟩) ?_
  refine tz_call (tz_X (C := te_s342) te_p342 rfl (by decide +kernel) hI (show tj_typed _ [(.inr (.inr (.inl 0)))] [(1, 100, 0)] from ⟨(tz_fr 0 100 _ hI.2.1), trivial⟩)) (n := 1) (st := []) rfl rfl (by decide) hs rfl hr (fun v1 Ψ1 w1 mc1 ms1 hI1 hr1 hs1 => ?_)
  refine zy_popI rfl ?_
  refine zy_la (k := 2) (n := 1) rfl hl2 (Or.inl ⟨_, rfl⟩) ?_
  refine tz_call (tz_Y (C := tr_h_hush0) tr_b_hush0 rfl (by decide +kernel) hI1 (show tj_typed _ [(.inr (.inr (.inl m)))] [(1, 149, 0)] from ⟨(tz_fr m 149 _ hI1.2.2.1), trivial⟩)) (n := 1) (st := []) rfl rfl (by decide) hs1 rfl hr1 (fun v2 Ψ2 w2 mc2 ms2 hI2 hr2 hs2 => ?_)
  refine zy_popI rfl ?_
  refine zy_goto rfl ?_
  exact kk _ _ _ _ hI2 hr2 hs2
set_option maxRecDepth 20000 in
theorem tz_u23 : tz_Bd 885 := by
  intro L xs Q m x Ψ ls w mc ms hl hI hr hs kk
  have hl1 := hl.2.1
  have hl2 := hl.2.2.1
  refine zy_la (k := 1) (n := 1) rfl hl1 (Or.inl ⟨_, rfl⟩) ?_
  refine tz_arg (k := 1) rfl rfl rfl rfl rfl rfl hl ?_
  refine tz_arg (k := 2) rfl rfl rfl rfl rfl rfl hl ?_
  refine tz_call (tz_X (C := te_s171) te_p171 rfl (by decide +kernel) hI (show tj_typed _ [(.inr (.inr (.inl 0))), (.inl _), (.inl _)] [(1, 100, 0), (0, 0, 4294967295), (0, 0, 4294967295)] from ⟨(tz_fr 0 100 _ hI.2.1), (tz_fi _ _), (tz_fi _ _), trivial⟩)) (n := 3) (st := []) rfl rfl (by decide) hs rfl hr (fun v1 Ψ1 w1 mc1 ms1 hI1 hr1 hs1 => ?_)
  refine zy_popI rfl ?_
  refine zy_la (k := 2) (n := 1) rfl hl2 (Or.inl ⟨_, rfl⟩) ?_
  refine tz_arg (k := 1) rfl rfl rfl rfl rfl rfl hl ?_
  refine tz_arg (k := 2) rfl rfl rfl rfl rfl rfl hl ?_
  refine tz_call (tz_Y (C := tr1_s70) tr1_p70 rfl (by decide +kernel) hI1 (show tj_typed _ [(.inr (.inr (.inl m))), (.inl _), (.inl _)] [(1, 149, 0), (0, 0, 4294967295), (0, 0, 4294967295)] from ⟨(tz_fr m 149 _ hI1.2.2.1), (tz_fi _ _), (tz_fi _ _), trivial⟩)) (n := 3) (st := []) rfl rfl (by decide) hs1 rfl hr1 (fun v2 Ψ2 w2 mc2 ms2 hI2 hr2 hs2 => ?_)
  refine zy_popI rfl ?_
  refine zy_goto rfl ?_
  exact kk _ _ _ _ hI2 hr2 hs2
set_option maxRecDepth 20000 in
theorem tz_u24 : tz_Bd 918 := by
  intro L xs Q m x Ψ ls w mc ms hl hI hr hs kk
  have hl1 := hl.2.1
  have hl2 := hl.2.2.1
  refine zy_la (k := 1) (n := 1) rfl hl1 (Or.inl ⟨_, rfl⟩) ?_
  refine tz_arg (k := 1) rfl rfl rfl rfl rfl rfl hl ?_
  refine tz_arg (k := 2) rfl rfl rfl rfl rfl rfl hl ?_
  refine tz_call (tz_X (C := te_s174) te_p174 rfl (by decide +kernel) hI (show tj_typed _ [(.inr (.inr (.inl 0))), (.inl _), (.inl _)] [(1, 100, 0), (0, 0, 4294967295), (0, 0, 4294967295)] from ⟨(tz_fr 0 100 _ hI.2.1), (tz_fi _ _), (tz_fi _ _), trivial⟩)) (n := 3) (st := []) rfl rfl (by decide) hs rfl hr (fun v1 Ψ1 w1 mc1 ms1 hI1 hr1 hs1 => ?_)
  refine zy_popI rfl ?_
  refine zy_la (k := 2) (n := 1) rfl hl2 (Or.inl ⟨_, rfl⟩) ?_
  refine tz_arg (k := 1) rfl rfl rfl rfl rfl rfl hl ?_
  refine tz_arg (k := 2) rfl rfl rfl rfl rfl rfl hl ?_
  refine tz_call (tz_Y (C := tr1_s79) tr1_p79 rfl (by decide +kernel) hI1 (show tj_typed _ [(.inr (.inr (.inl m))), (.inl _), (.inl _)] [(1, 149, 0), (0, 0, 4294967295), (0, 0, 4294967295)] from ⟨(tz_fr m 149 _ hI1.2.2.1), (tz_fi _ _), (tz_fi _ _), trivial⟩)) (n := 3) (st := []) rfl rfl (by decide) hs1 rfl hr1 (fun v2 Ψ2 w2 mc2 ms2 hI2 hr2 hs2 => ?_)
  refine zy_popI rfl ?_
  refine zy_goto rfl ?_
  exact kk _ _ _ _ hI2 hr2 hs2
set_option maxRecDepth 20000 in
theorem tz_u25 : tz_Bd 951 := by
  intro L xs Q m x Ψ ls w mc ms hl hI hr hs kk
  have hl1 := hl.2.1
  have hl2 := hl.2.2.1
  refine zy_la (k := 1) (n := 1) rfl hl1 (Or.inl ⟨_, rfl⟩) ?_
  refine tz_arg (k := 1) rfl rfl rfl rfl rfl rfl hl ?_
  refine tz_arg (k := 2) rfl rfl rfl rfl rfl rfl hl ?_
  refine tz_arg (k := 3) rfl rfl rfl rfl rfl rfl hl ?_
  refine tz_call (tz_X (C := te_s347) te_p347 rfl (by decide +kernel) hI (show tj_typed _ [(.inr (.inr (.inl 0))), (.inl _), (.inl _), (.inl _)] [(1, 100, 0), (0, 0, 4294967295), (0, 0, 4294967295), (0, 0, 4294967295)] from ⟨(tz_fr 0 100 _ hI.2.1), (tz_fi _ _), (tz_fi _ _), (tz_fi _ _), trivial⟩)) (n := 4) (st := []) rfl rfl (by decide) hs rfl hr (fun v1 Ψ1 w1 mc1 ms1 hI1 hr1 hs1 => ?_)
  refine zy_popI rfl ?_
  refine zy_la (k := 2) (n := 1) rfl hl2 (Or.inl ⟨_, rfl⟩) ?_
  refine tz_arg (k := 1) rfl rfl rfl rfl rfl rfl hl ?_
  refine tz_arg (k := 2) rfl rfl rfl rfl rfl rfl hl ?_
  refine tz_arg (k := 3) rfl rfl rfl rfl rfl rfl hl ?_
  refine tz_call (tz_Y (C := tr1_s80) tr1_p80 rfl (by decide +kernel) hI1 (show tj_typed _ [(.inr (.inr (.inl m))), (.inl _), (.inl _), (.inl _)] [(1, 149, 0), (0, 0, 4294967295), (0, 0, 4294967295), (0, 0, 4294967295)] from ⟨(tz_fr m 149 _ hI1.2.2.1), (tz_fi _ _), (tz_fi _ _), (tz_fi _ _), trivial⟩)) (n := 4) (st := []) rfl rfl (by decide) hs1 rfl hr1 (fun v2 Ψ2 w2 mc2 ms2 hI2 hr2 hs2 => ?_)
  refine zy_popI rfl ?_
  refine zy_goto rfl ?_
  exact kk _ _ _ _ hI2 hr2 hs2
set_option maxRecDepth 20000 in
theorem tz_u26 : tz_Bd 994 := by
  intro L xs Q m x Ψ ls w mc ms hl hI hr hs kk
  have hl1 := hl.2.1
  have hl2 := hl.2.2.1
  refine zy_la (k := 1) (n := 1) rfl hl1 (Or.inl ⟨_, rfl⟩) ?_
  refine tz_arg (k := 1) rfl rfl rfl rfl rfl rfl hl ?_
  suffices rest : ∀ b : Int32, b = Int32.ofNat 0 ∨ b = Int32.ofNat 1 → zx_wp tz_K (some (L, xs)) tz_cap tz_tab Q (1008, ls, [(.inl b), (.inr (.inr (.inl 0)))], w, mc, ms) by
    refine zy_j0 rfl (fun _ => ?_) (fun _ => ?_)
    · refine zy_ci (n := 1) (c := 0) rfl ?_
      exact rest _ (Or.inl rfl)
    · refine zy_ci (n := 1) (c := 1) rfl ?_
      refine zy_goto rfl ?_
      exact rest _ (Or.inr rfl)
  intro b hb
  have hbt : ∀ Ψ : List Nat, tj_vt Ψ (0, 2147483648, 2147483649) (.inl b) := fun Ψ => by
    rcases hb with e | e
    · subst e
      exact ⟨_, rfl, by decide, by decide⟩
    · subst e
      exact ⟨_, rfl, by decide, by decide⟩
  refine tz_call (tz_X (C := te_s356) te_p356 rfl (by decide +kernel) hI (show tj_typed _ [(.inr (.inr (.inl 0))), (.inl b)] [(1, 100, 0), (0, 2147483648, 2147483649)] from ⟨(tz_fr 0 100 _ hI.2.1), (hbt _), trivial⟩)) (n := 2) (st := []) rfl rfl (by decide) hs rfl hr (fun v1 Ψ1 w1 mc1 ms1 hI1 hr1 hs1 => ?_)
  refine zy_popI rfl ?_
  refine zy_la (k := 2) (n := 1) rfl hl2 (Or.inl ⟨_, rfl⟩) ?_
  refine tz_arg (k := 1) rfl rfl rfl rfl rfl rfl hl ?_
  suffices rest : ∀ b : Int32, b = Int32.ofNat 0 ∨ b = Int32.ofNat 1 → zx_wp tz_K (some (L, xs)) tz_cap tz_tab Q (1026, ls, [(.inl b), (.inr (.inr (.inl m)))], w1, mc1, ms1) by
    refine zy_j0 rfl (fun _ => ?_) (fun _ => ?_)
    · refine zy_ci (n := 1) (c := 0) rfl ?_
      exact rest _ (Or.inl rfl)
    · refine zy_ci (n := 1) (c := 1) rfl ?_
      refine zy_goto rfl ?_
      exact rest _ (Or.inr rfl)
  intro b hb
  have hbt : ∀ Ψ : List Nat, tj_vt Ψ (0, 2147483648, 2147483649) (.inl b) := fun Ψ => by
    rcases hb with e | e
    · subst e
      exact ⟨_, rfl, by decide, by decide⟩
    · subst e
      exact ⟨_, rfl, by decide, by decide⟩
  refine tz_call (tz_Y (C := tr2_s0) tr2_p0 rfl (by decide +kernel) hI1 (show tj_typed _ [(.inr (.inr (.inl m))), (.inl b)] [(1, 149, 0), (0, 2147483648, 2147483649)] from ⟨(tz_fr m 149 _ hI1.2.2.1), (hbt _), trivial⟩)) (n := 2) (st := []) rfl rfl (by decide) hs1 rfl hr1 (fun v2 Ψ2 w2 mc2 ms2 hI2 hr2 hs2 => ?_)
  refine zy_popI rfl ?_
  refine zy_goto rfl ?_
  exact kk _ _ _ _ hI2 hr2 hs2
set_option maxRecDepth 20000 in
theorem tz_u27 : tz_Bd 1033 := by
  intro L xs Q m x Ψ ls w mc ms hl hI hr hs kk
  have hl1 := hl.2.1
  have hl2 := hl.2.2.1
  refine zy_la (k := 1) (n := 1) rfl hl1 (Or.inl ⟨_, rfl⟩) ?_
  refine tz_call (tz_X (C := te_s333) te_p333 rfl (by decide +kernel) hI (show tj_typed _ [(.inr (.inr (.inl 0)))] [(1, 100, 0)] from ⟨(tz_fr 0 100 _ hI.2.1), trivial⟩)) (n := 1) (st := []) rfl rfl (by decide) hs rfl hr (fun v1 Ψ1 w1 mc1 ms1 hI1 hr1 hs1 => ?_)
  refine zy_popI rfl ?_
  refine zy_la (k := 2) (n := 1) rfl hl2 (Or.inl ⟨_, rfl⟩) ?_
  refine tz_call (tz_Y (C := tr2_s1) tr2_p1 rfl (by decide +kernel) hI1 (show tj_typed _ [(.inr (.inr (.inl m)))] [(1, 149, 0)] from ⟨(tz_fr m 149 _ hI1.2.2.1), trivial⟩)) (n := 1) (st := []) rfl rfl (by decide) hs1 rfl hr1 (fun v2 Ψ2 w2 mc2 ms2 hI2 hr2 hs2 => ?_)
  refine zy_popI rfl ?_
  refine zy_goto rfl ?_
  exact kk _ _ _ _ hI2 hr2 hs2
set_option maxRecDepth 20000 in
theorem tz_u28 : tz_Bd 1046 := by
  intro L xs Q m x Ψ ls w mc ms hl hI hr hs kk
  have hl1 := hl.2.1
  have hl2 := hl.2.2.1
  refine zy_la (k := 1) (n := 1) rfl hl1 (Or.inl ⟨_, rfl⟩) ?_
  refine tz_arg (k := 1) rfl rfl rfl rfl rfl rfl hl ?_
  refine tz_call (tz_X (C := te_s192) te_p192 rfl (by decide +kernel) hI (show tj_typed _ [(.inr (.inr (.inl 0))), (.inl _)] [(1, 100, 0), (0, 0, 4294967295)] from ⟨(tz_fr 0 100 _ hI.2.1), (tz_fi _ _), trivial⟩)) (n := 2) (st := []) rfl rfl (by decide) hs rfl hr (fun v1 Ψ1 w1 mc1 ms1 hI1 hr1 hs1 => ?_)
  refine zy_popI rfl ?_
  refine zy_la (k := 2) (n := 1) rfl hl2 (Or.inl ⟨_, rfl⟩) ?_
  refine tz_arg (k := 1) rfl rfl rfl rfl rfl rfl hl ?_
  refine tz_call (tz_Y (C := tr1_s84) tr1_p84 rfl (by decide +kernel) hI1 (show tj_typed _ [(.inr (.inr (.inl m))), (.inl _)] [(1, 149, 0), (0, 0, 4294967295)] from ⟨(tz_fr m 149 _ hI1.2.2.1), (tz_fi _ _), trivial⟩)) (n := 2) (st := []) rfl rfl (by decide) hs1 rfl hr1 (fun v2 Ψ2 w2 mc2 ms2 hI2 hr2 hs2 => ?_)
  refine zy_popI rfl ?_
  refine zy_goto rfl ?_
  exact kk _ _ _ _ hI2 hr2 hs2
set_option maxRecDepth 20000 in
theorem tz_u29 : tz_Bd 1069 := by
  intro L xs Q m x Ψ ls w mc ms hl hI hr hs kk
  have hl1 := hl.2.1
  have hl2 := hl.2.2.1
  refine zy_la (k := 1) (n := 1) rfl hl1 (Or.inl ⟨_, rfl⟩) ?_
  refine tz_call (tz_X (C := te_s388) te_p388 rfl (by decide +kernel) hI (show tj_typed _ [(.inr (.inr (.inl 0)))] [(1, 100, 0)] from ⟨(tz_fr 0 100 _ hI.2.1), trivial⟩)) (n := 1) (st := []) rfl rfl (by decide) hs rfl hr (fun v1 Ψ1 w1 mc1 ms1 hI1 hr1 hs1 => ?_)
  refine zy_popI rfl ?_
  refine zy_la (k := 2) (n := 1) rfl hl2 (Or.inl ⟨_, rfl⟩) ?_
  refine tz_call (tz_Y (C := tr1_s85) tr1_p85 rfl (by decide +kernel) hI1 (show tj_typed _ [(.inr (.inr (.inl m)))] [(1, 149, 0)] from ⟨(tz_fr m 149 _ hI1.2.2.1), trivial⟩)) (n := 1) (st := []) rfl rfl (by decide) hs1 rfl hr1 (fun v2 Ψ2 w2 mc2 ms2 hI2 hr2 hs2 => ?_)
  refine zy_popI rfl ?_
  refine zy_goto rfl ?_
  exact kk _ _ _ _ hI2 hr2 hs2
set_option maxRecDepth 20000 in
theorem tz_u30 : tz_Bd 1082 := by
  intro L xs Q m x Ψ ls w mc ms hl hI hr hs kk
  have hl1 := hl.2.1
  have hl2 := hl.2.2.1
  refine zy_la (k := 1) (n := 1) rfl hl1 (Or.inl ⟨_, rfl⟩) ?_
  refine tz_arg (k := 1) rfl rfl rfl rfl rfl rfl hl ?_
  refine tz_call (tz_X (C := te_s514) te_p514 rfl (by decide +kernel) hI (show tj_typed _ [(.inr (.inr (.inl 0))), (.inl _)] [(1, 100, 0), (0, 0, 4294967295)] from ⟨(tz_fr 0 100 _ hI.2.1), (tz_fi _ _), trivial⟩)) (n := 2) (st := []) rfl rfl (by decide) hs rfl hr (fun v1 Ψ1 w1 mc1 ms1 hI1 hr1 hs1 => ?_)
  refine zy_popI rfl ?_
  refine zy_la (k := 2) (n := 1) rfl hl2 (Or.inl ⟨_, rfl⟩) ?_
  refine tz_arg (k := 1) rfl rfl rfl rfl rfl rfl hl ?_
  refine tz_call (tz_Y (C := tr1_s87) tr1_p87 rfl (by decide +kernel) hI1 (show tj_typed _ [(.inr (.inr (.inl m))), (.inl _)] [(1, 149, 0), (0, 0, 4294967295)] from ⟨(tz_fr m 149 _ hI1.2.2.1), (tz_fi _ _), trivial⟩)) (n := 2) (st := []) rfl rfl (by decide) hs1 rfl hr1 (fun v2 Ψ2 w2 mc2 ms2 hI2 hr2 hs2 => ?_)
  refine zy_popI rfl ?_
  refine zy_goto rfl ?_
  exact kk _ _ _ _ hI2 hr2 hs2
set_option maxRecDepth 20000 in
theorem tz_u31 : tz_Bd 1105 := by
  intro L xs Q m x Ψ ls w mc ms hl hI hr hs kk
  have hl1 := hl.2.1
  have hl2 := hl.2.2.1
  refine zy_la (k := 1) (n := 1) rfl hl1 (Or.inl ⟨_, rfl⟩) ?_
  refine tz_arg (k := 1) rfl rfl rfl rfl rfl rfl hl ?_
  refine tz_call (tz_X (C := te_s350) te_p350 rfl (by decide +kernel) hI (show tj_typed _ [(.inr (.inr (.inl 0))), (.inl _)] [(1, 100, 0), (0, 0, 4294967295)] from ⟨(tz_fr 0 100 _ hI.2.1), (tz_fi _ _), trivial⟩)) (n := 2) (st := []) rfl rfl (by decide) hs rfl hr (fun v1 Ψ1 w1 mc1 ms1 hI1 hr1 hs1 => ?_)
  refine zy_popI rfl ?_
  refine zy_la (k := 2) (n := 1) rfl hl2 (Or.inl ⟨_, rfl⟩) ?_
  refine tz_arg (k := 1) rfl rfl rfl rfl rfl rfl hl ?_
  refine tz_call (tz_Y (C := tr1_s89) tr1_p89 rfl (by decide +kernel) hI1 (show tj_typed _ [(.inr (.inr (.inl m))), (.inl _)] [(1, 149, 0), (0, 0, 4294967295)] from ⟨(tz_fr m 149 _ hI1.2.2.1), (tz_fi _ _), trivial⟩)) (n := 2) (st := []) rfl rfl (by decide) hs1 rfl hr1 (fun v2 Ψ2 w2 mc2 ms2 hI2 hr2 hs2 => ?_)
  refine zy_popI rfl ?_
  refine zy_goto rfl ?_
  exact kk _ _ _ _ hI2 hr2 hs2
set_option maxRecDepth 20000 in
theorem tz_u32 : tz_Bd 1128 := by
  intro L xs Q m x Ψ ls w mc ms hl hI hr hs kk
  have hl1 := hl.2.1
  have hl2 := hl.2.2.1
  refine zy_la (k := 1) (n := 1) rfl hl1 (Or.inl ⟨_, rfl⟩) ?_
  refine tz_arg (k := 1) rfl rfl rfl rfl rfl rfl hl ?_
  refine tz_arg (k := 2) rfl rfl rfl rfl rfl rfl hl ?_
  refine tz_call (tz_X (C := te_s511) te_p511 rfl (by decide +kernel) hI (show tj_typed _ [(.inr (.inr (.inl 0))), (.inl _), (.inl _)] [(1, 100, 0), (0, 0, 4294967295), (0, 0, 4294967295)] from ⟨(tz_fr 0 100 _ hI.2.1), (tz_fi _ _), (tz_fi _ _), trivial⟩)) (n := 3) (st := []) rfl rfl (by decide) hs rfl hr (fun v1 Ψ1 w1 mc1 ms1 hI1 hr1 hs1 => ?_)
  refine zy_popI rfl ?_
  refine zy_la (k := 2) (n := 1) rfl hl2 (Or.inl ⟨_, rfl⟩) ?_
  refine tz_arg (k := 1) rfl rfl rfl rfl rfl rfl hl ?_
  refine tz_arg (k := 2) rfl rfl rfl rfl rfl rfl hl ?_
  refine tz_call (tz_Y (C := tr1_s91) tr1_p91 rfl (by decide +kernel) hI1 (show tj_typed _ [(.inr (.inr (.inl m))), (.inl _), (.inl _)] [(1, 149, 0), (0, 0, 4294967295), (0, 0, 4294967295)] from ⟨(tz_fr m 149 _ hI1.2.2.1), (tz_fi _ _), (tz_fi _ _), trivial⟩)) (n := 3) (st := []) rfl rfl (by decide) hs1 rfl hr1 (fun v2 Ψ2 w2 mc2 ms2 hI2 hr2 hs2 => ?_)
  refine zy_popI rfl ?_
  refine zy_goto rfl ?_
  exact kk _ _ _ _ hI2 hr2 hs2
