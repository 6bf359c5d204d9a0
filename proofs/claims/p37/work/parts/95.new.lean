/-! by hand: new TwoInOne: a run from the empty world, then two calls -/
def tz_rm (y : Nat) : Nat × Nat := (zx_row y [(31, (13, 826)), (260, (18, 870)), (329, (5, 124)), (236, (3, 47)), (282, (1, 20)), (12, (2, 33)), (221, (6, 12030)), (244, (3, 24)), (316, (7, 173))]).getD (0, 0)
def tz_s0 : zx_S := (0, [(0, (.inr (.inr (.inl 0))))], [], [(.inl (11, (zx_cls 11)))], 0, 0)
noncomputable def tz_go : Option zx_S := tz_gx (tz_ex zx_mt zx_rc zx_mx' tz_rm 700 10) tz_rm none (1000, 1200000) (zx_find zx_t_X11_init) 79 tz_s0
def tz_Ps : List Nat := [100, 48, 13, 0, 1, 2, 3, 4, 5, 6, 7, 8, 9, 10, 11, 12, 49, 27, 14, 15, 16, 17, 18, 19, 20, 21, 22, 23, 24, 25, 26, 44, 45, 46, 47, 33, 28, 29, 30, 31, 32, 53, 50, 51, 52, 42, 40, 56, 54, 55, 61, 57, 58, 59, 60, 43, 41, 65, 62, 63, 64, 73, 70, 66, 67, 68, 69, 71, 72]
def tz_l0 (ls : List (Nat × zx_V)) : Bool := match zx_look 0 ls with
  | some (.inr (.inr (.inl q))) => Nat.beq q 0
  | _ => false
theorem tz_l0_ok {ls : List (Nat × zx_V)} (h : tz_l0 ls = true) : zx_look 0 ls = some (.inr (.inr (.inl 0))) := by
  unfold tz_l0 at h
  split at h
  next q e => rw [e, Nat.eq_of_beq_eq_true h]
  next => cases h
def tz_fB (w : List zx_E) : Bool := tz_f w 0 11 2 (.inr (.inr (.inl 2))) && (tz_f w 0 11 4 (.inr (.inr (.inl 35))) && (tz_f w 0 11 5 (.inr (.inr (.inl 41))) && (tz_f w 0 11 8 (.inr (.inr (.inl 50))) && (tz_f w 0 11 9 (.inr (.inr (.inr 0))) && (tz_f w 0 11 10 (.inr (.inr (.inr 0))) && (tz_f w 0 11 12 (.inr (.inr (.inl 61))) && tz_f w 61 7 7 (.inl 0)))))))
def tz_ok (o : Option zx_S) : Bool := match o with
  | some (pc, ls, [], w, mc, ms) => Nat.beq pc 165 && (tz_l0 ls && (zx_limP w.length ls && (tz_wt tj_Lam tz_Ps tz_Ps w && (Nat.ble (mc + tj_P tj_c1 w) 1000 && (Nat.ble (ms + tj_P tj_c2 w) 1200000 && tz_fB w)))))
  | _ => false
set_option maxRecDepth 100000 in
theorem tz_chk : tz_ok tz_go = true := by decide +kernel
def tz_E1 : tj_Ef := ([(53, 3), (53, 4), (53, 5), (39, 0), (39, 1), (33, 0), (33, 1)], [50, 36, 37, 38, 34, 35, 30, 31, 32, 28, 29])
/-- the time of the class -/
def tz_tm (w : List zx_E) (x : Nat) (t : Int32) : Prop := ∃ (fs : List zx_V) (s : Nat), w[x]? = some (.inl (11, fs)) ∧ fs[12]? = some (.inr (.inr (.inl s))) ∧ tj_fi w s 7 7 t
theorem tz_tm_fr {Ψ : List Nat} {w w' : List zx_E} {x : Nat} {t : Int32} {e : tj_Ef} (hw : tj_wt tj_Lam Ψ w) (hx : Ψ[x]? = some 100) (h : tz_tm w x t) (hfr : tj_fr e Ψ w w') (hc : tj_dj ([(100, 12), (73, 7)], []) e = true) : tz_tm w' x t := by
  obtain ⟨fs, s, h0, h1, h2⟩ := h
  obtain ⟨fs', m0, mm⟩ := (hfr x 100 hx).1 11 fs h0
  obtain ⟨z1, -⟩ := tm_djn hc
  have hk := te_fi hw hfr (d := ([(100, 12), (73, 7)], [])) hc (by decide +kernel) h2
  exact ⟨fs', s, m0, (mm 12 (z1 100 12 (by decide))).trans h1, hk⟩
set_option maxRecDepth 20000 in
theorem tz_new56 : ∃ (r : zx_R) (cy : Nat × Nat) (Ψ : List Nat), zx_Cl zx_mt zx_rc zx_mx' 101 56 [(.inr (.inr (.inl 0)))] [(.inl (11, (zx_cls 11)))] cy r ∧ r.1 = none ∧ cy.1 + tj_P tj_c1 r.2 ≤ 1000 ∧ cy.2 + tj_P tj_c2 r.2 ≤ 1200000 ∧ tj_wt tj_Lam Ψ r.2 ∧ Ψ[0]? = some 100 ∧ tm_IN 0 r.2 ∧ tz_tm r.2 0 0 := by
  have hrun : zx_wp (zx_Cl zx_mt zx_rc zx_mx' 100) none (1000, 1200000) (zx_find (zx_cT zx_d_X11_init)) (fun τ => ∃ (w : List zx_E) (Ψ : List Nat), zx_ret (zx_find (zx_cT zx_d_X11_init)) τ.2.2.2.2 τ (none, w) ∧ (τ.2.2.2.2.1 + tj_P tj_c1 w ≤ 1000 ∧ τ.2.2.2.2.2 + tj_P tj_c2 w ≤ 1200000) ∧ tj_wt tj_Lam Ψ w ∧ Ψ[0]? = some 100 ∧ tm_IN 0 w ∧ tz_tm w 0 0) tz_s0 := by
    have hc := tz_chk
    cases hg : tz_go with
    | none =>
      rw [hg] at hc
      cases hc
    | some σ =>
      rw [hg] at hc
      unfold tz_go at hg
      rw [zx_q_X11_init] at hg
      refine tz_gx_ok (C := tz_ex zx_mt zx_rc zx_mx' tz_rm 700 10) (rm := tz_rm) (fun y av w r h => zx_Cl_le (by decide : 10 ≤ 100) (tz_ex_ok h)) hg ?_
      clear hg
      obtain ⟨pc, ls, st, w1, mc, ms⟩ := σ
      cases st with
      | cons a b => cases hc
      | nil =>
        have hc : (Nat.beq pc 165 && (tz_l0 ls && (zx_limP w1.length ls && (tz_wt tj_Lam tz_Ps tz_Ps w1 && (Nat.ble (mc + tj_P tj_c1 w1) 1000 && (Nat.ble (ms + tj_P tj_c2 w1) 1200000 && tz_fB w1)))))) = true := hc
        simp only [tz_fB, Bool.and_eq_true] at hc
        obtain ⟨c1, c2, hlim, c4, c5, c6, g2, g4, g5, g8, g9, g10, g12, gt⟩ := hc
        have e := Nat.eq_of_beq_eq_true c1
        subst e
        have hl := tz_l0_ok c2
        have hwt := tz_wt_ok c4
        have b1 := Nat.le_of_ble_eq_true c5
        have b2 := Nat.le_of_ble_eq_true c6
        obtain ⟨fs, k0, f2⟩ := tz_f_ok g2
        obtain ⟨fs4, k4, f4⟩ := tz_f_ok g4
        obtain ⟨fs5, k5, f5⟩ := tz_f_ok g5
        obtain ⟨fs8, k8, f8⟩ := tz_f_ok g8
        obtain ⟨fs9, k9, f9⟩ := tz_f_ok g9
        obtain ⟨fsA, kA, fA⟩ := tz_f_ok g10
        obtain ⟨fsC, kC, fC⟩ := tz_f_ok g12
        have ht : tj_fi w1 61 7 7 0 := tz_f_ok gt
        rw [k0] at k4 k5 k8 k9 kA kC
        cases k4
        cases k5
        cases k8
        cases k9
        cases kA
        cases kC
        have hx : tz_Ps[0]? = some 100 := rfl
        have hI : tm_IN 0 w1 := ⟨fs, 50, k0, f8, fun s hs => (by rw [f9] at hs; cases hs), fun z hz => (by rw [fA] at hz; cases hz)⟩
        have hT : tz_tm w1 0 0 := ⟨fs, 61, k0, fC, ht⟩
        have hW : tj_W tj_Lam (1000, 1200000) tz_E1 tz_Ps w1 tz_Ps w1 mc ms := ⟨hwt, ⟨b1, b2⟩, tj_le_rf, tj_fr_rf⟩
        have hty : tj_typed tz_Ps [(.inr (.inr (.inl 35))), (.inr (.inr (.inl 2)))] [(1, 33, 0), (1, 13, 0)] := ⟨⟨_, rfl, rfl⟩, ⟨_, rfl, rfl⟩, trivial⟩
        refine zy_la (k := 0) (n := 1) rfl hl (Or.inl ⟨_, rfl⟩) ?_
        refine zy_get rfl k0 f4 ?_
        refine zy_la (k := 0) (n := 1) rfl hl (Or.inl ⟨_, rfl⟩) ?_
        refine zy_get rfl k0 f2 ?_
        refine zy_call (C := te_s504) (tj_KS1_le (by decide) te_p504) (n := 2) (av := [(.inr (.inr (.inl 35))), (.inr (.inr (.inl 2)))]) (st := []) rfl rfl (by decide) hlim rfl hW hty (zy_nopre hty) (by decide +kernel) (by decide +kernel) (fun r cy Ψ1 o hW1 hle1 hfr1 hl1 ho hto hro hHo => ?_)
        obtain ⟨ra, w2⟩ := r
        have eo := List.mem_singleton.mp ho
        subst eo
        have hro : ra = none := hro
        subst hro
        have hx1 := hle1 0 100 hx
        obtain ⟨fs2, m0, mm⟩ := (hfr1 0 100 hx).1 11 fs k0
        have f4' := (mm 4 (by decide +kernel)).trans f4
        have f5' := (mm 5 (by decide +kernel)).trans f5
        have hty2 : tj_typed Ψ1 [(.inr (.inr (.inl 41))), (.inr (.inr (.inl 35)))] [(1, 53, 0), (1, 33, 0)] := ⟨⟨_, rfl, hle1 41 53 rfl⟩, ⟨_, rfl, hle1 35 33 rfl⟩, trivial⟩
        refine zy_la (k := 0) (n := 1) rfl hl (Or.inl ⟨_, rfl⟩) ?_
        refine zy_get rfl m0 f5' ?_
        refine zy_la (k := 0) (n := 1) rfl hl (Or.inl ⟨_, rfl⟩) ?_
        refine zy_get rfl m0 f4' ?_
        refine zy_call (C := te_h0) (te_hh0 te_hands) (n := 2) (av := [(.inr (.inr (.inl 41))), (.inr (.inr (.inl 35)))]) (st := []) rfl rfl (by decide) hl1 rfl hW1 hty2 (zy_nopre hty2) (by decide +kernel) (by decide +kernel) (fun r cy' Ψ2 o hW2 hle2 hfr2 hl2 ho hto hro hHo => ?_)
        obtain ⟨ra, w3⟩ := r
        have eo := List.mem_singleton.mp ho
        subst eo
        have hro : ra = none := hro
        subst hro
        refine zx_wp_done ⟨w3, Ψ2, ⟨Nat.le_refl _, Nat.le_refl _, rfl, ?_⟩, hW2.2.1, hW2.1, hle2 0 100 hx1, tm_IN_fr hwt hx hI hW2.2.2.2 (by decide +kernel), tz_tm_fr hwt hx hT hW2.2.2.2 (by decide +kernel)⟩
        exact ⟨rfl, rfl⟩
  obtain ⟨n, σ, h1, w, Ψ, h2, h3, h4, h5, h6, h7⟩ := hrun
  exact ⟨(none, w), σ.2.2.2.2, Ψ, ⟨_, (by rw [← zx_q_X11_init]; rfl : zx_mt 56 = some (zx_find (zx_cT zx_d_X11_init))), (by rw [(by decide +kernel : zx_rc 56 = 12)]; exact ⟨0, [], _, rfl, rfl⟩), (by decide +kernel : 1 ≤ zx_mx' 56), n, σ, (zx_star_shr h1).2 _ (Nat.le_refl _) (Nat.le_refl _), h2⟩, rfl, h3.1, h3.2, h4, h5, h6, h7⟩
