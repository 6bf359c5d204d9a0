/-! by hand: together -/
def tm_ET : tj_Ef := ([(42, 1), (56, 4), (56, 5), (56, 6), (61, 8), (61, 9), (83, 14), (83, 7), (93, 7), (93, 10), (93, 11), (93, 12), (93, 14), (93, 15), (99, 2), (99, 3), (99, 4), (99, 5), (99, 6), (99, 9), (99, 10), (99, 11), (99, 13), (99, 14), (99, 15), (99, 16), (99, 17), (99, 18), (100, 9), (100, 10)], [40, 54, 57, 59, 60, 74, 75, 76, 77, 78, 79, 80, 82, 84, 85, 86, 87, 88, 89, 90, 91, 92, 94, 95, 96, 97, 98])
/-- the game's length, told by playAll -/
def tm_GL (ga : Nat) (w : List zx_E) : Prop := ∃ gs L, w[ga]? = some (.inl (1, gs)) ∧ gs[9]? = some (.inl L) ∧ 2147483649 ≤ zx_b L ∧ zx_b L ≤ 2147483668
theorem tm_GL_fr {ga : Nat} {Ψ : List Nat} {w w' : List zx_E} {e : tj_Ef} (hg : Ψ[ga]? = some 61) (h : tm_GL ga w) (hfr : tj_fr e Ψ w w') (hz : tj_h2 61 9 e.1 = false) : tm_GL ga w' := by
  obtain ⟨gs, L, h0, h1, h2⟩ := h
  obtain ⟨gs', m0, mm⟩ := (hfr ga 61 hg).1 1 gs h0
  exact ⟨gs', L, m0, (mm 9 hz).trans h1, h2⟩
set_option maxRecDepth 20000 in
theorem tm_tog {Ψ : List Nat} {w : List zx_E} {x : Nat} {p n : Int32} (hw : tj_wt tj_Lam Ψ w) (hx : Ψ[x]? = some 100) (hI : tm_IN x w) : ∃ (r : zx_R) (cy : Nat × Nat), zx_Cl zx_mt zx_rc zx_mx' (399 + 1) 77 [(.inr (.inr (.inl x))), (.inl p), (.inl n)] w cy r ∧ (cy.1 + tj_P tj_c1 r.2 ≤ tj_P tj_c1 w ∧ cy.2 + tj_P tj_c2 r.2 ≤ tj_P tj_c2 w) ∧ ((∃ v, r.1 = some (.inl v)) ∧ ∃ Ψ' : List Nat, tj_le Ψ Ψ' ∧ tj_wt tj_Lam Ψ' r.2 ∧ tj_fr tm_ET Ψ w r.2 ∧ tm_IN x r.2) := by
  have hd : ∃ fts, tj_Lam[100]? = some (.inl (11, 0, fts)) ∧ fts[2]? = some (1, 13, 0) ∧ fts[4]? = some (1, 33, 0) ∧ fts[6]? = some (1, 42, 0) ∧ fts[8]? = some (1, 61, 0) ∧ fts[9]? = some (2, 83, 0) ∧ fts[10]? = some (2, 99, 0) := ⟨_, rfl, rfl, rfl, rfl, rfl, rfl, rfl⟩
  obtain ⟨fts, hd, t2, t4, t6, t8, t9, t10⟩ := hd
  obtain ⟨fs, hf, hlen, -, htf⟩ := tj_obj hw hx hd
  obtain ⟨v2, f2, to, y2, hto⟩ := htf 2 _ t2
  obtain ⟨v4, f4, nw, y4, hnw⟩ := htf 4 _ t4
  obtain ⟨v6, f6, ly, y6, hly⟩ := htf 6 _ t6
  obtain ⟨v8, f8, ga, y8, hga⟩ := htf 8 _ t8
  subst y2 y4 y6 y8
  refine zy_meth (dt := zx_d_X11_together) (by rw [← zx_q_X11_together]; rfl) (by rw [(by decide +kernel : zx_rc 77 = 12)]; exact ⟨x, _, fs, rfl, hf⟩) (by decide +kernel : 4 - 1 ≤ zx_mx' 77) ?_
  let WP : zx_S → Prop := fun σ => zx_wp (zx_Cl zx_mt zx_rc zx_mx' 399) none (tj_P tj_c1 w, tj_P tj_c2 w) (zx_find (zx_cT zx_d_X11_together)) (fun τ => ∃ r : zx_R, zx_ret (zx_find (zx_cT zx_d_X11_together)) τ.2.2.2.2 τ r ∧ (τ.2.2.2.2.1 + tj_P tj_c1 r.2 ≤ tj_P tj_c1 w ∧ τ.2.2.2.2.2 + tj_P tj_c2 r.2 ≤ tj_P tj_c2 w) ∧ ((∃ v, r.1 = some (.inl v)) ∧ ∃ Ψ' : List Nat, tj_le Ψ Ψ' ∧ tj_wt tj_Lam Ψ' r.2 ∧ tj_fr tm_ET Ψ w r.2 ∧ tm_IN x r.2)) σ
  let J : List Nat → List zx_E → Nat → Nat → Prop := fun Ψ' w' mc ms => tj_W tj_Lam (tj_P tj_c1 w, tj_P tj_c2 w) tm_ET Ψ w Ψ' w' mc ms
  have hq' : ∀ {Ψ' : List Nat} {w' : List zx_E} {mc ms : Nat}, J Ψ' w' mc ms → Ψ'[x]? = some 100 ∧ Ψ'[to]? = some 13 ∧ Ψ'[nw]? = some 33 ∧ Ψ'[ly]? = some 42 ∧ Ψ'[ga]? = some 61 := fun h => ⟨h.2.2.1 _ _ hx, h.2.2.1 _ _ hto, h.2.2.1 _ _ hnw, h.2.2.1 _ _ hly, h.2.2.1 _ _ hga⟩
  have hX : ∀ {Ψ' : List Nat} {w' : List zx_E} {mc ms : Nat}, J Ψ' w' mc ms → ∃ fs', w'[x]? = some (.inl (11, fs')) ∧ fs'[2]? = some (.inr (.inr (.inl to))) ∧ fs'[4]? = some (.inr (.inr (.inl nw))) ∧ fs'[6]? = some (.inr (.inr (.inl ly))) ∧ fs'[8]? = some (.inr (.inr (.inl ga))) ∧ (∃ v, fs'[9]? = some v ∧ tj_vt Ψ' (2, 83, 0) v) ∧ (∃ v, fs'[10]? = some v ∧ tj_vt Ψ' (2, 99, 0) v) ∧ x < w'.length := by
    intro Ψ' w' mc ms h
    obtain ⟨fs', k1, k2⟩ := (h.2.2.2 x 100 hx).1 11 fs hf
    obtain ⟨fs2, g1, -, -, g3⟩ := tj_obj h.1 (hq' h).1 hd
    rw [k1] at g1
    cases g1
    exact ⟨fs', k1, (k2 2 (by decide +kernel)).trans f2, (k2 4 (by decide +kernel)).trans f4, (k2 6 (by decide +kernel)).trans f6, (k2 8 (by decide +kernel)).trans f8, g3 9 _ t9, g3 10 _ t10, (List.getElem?_eq_some_iff.mp k1).1⟩
  have hret : ∀ {pc a b : Nat} {g : zx_F} {Ψ' : List Nat} {w' : List zx_E} {mc ms : Nat} {ls : List (Nat × zx_V)} {v : Int32}, zx_find (zx_cT zx_d_X11_together) pc = some (1, a, b, g) → J Ψ' w' mc ms → tm_IN x w' → WP (pc, ls, [(.inl v)], w', mc, ms) := by
    intro pc a b g Ψ' w' mc ms ls v ht hJ hI
    refine zx_wp_done ⟨(some (.inl v), w'), ⟨Nat.le_refl _, Nat.le_refl _, rfl, ?_⟩, hJ.2.1, ⟨v, rfl⟩, Ψ', hJ.2.2.1, hJ.1, hJ.2.2.2, hI⟩
    show (match zx_find (zx_cT zx_d_X11_together) pc with
      | some (1, _, _, _) => _
      | some (5, _, _, _) => _
      | some (4, _, _, _) => _
      | some (2, _, _, _) => _
      | _ => False)
    rw [ht]
    exact ⟨v, rfl, rfl⟩
  -- the search
  have h170 : ∀ (Ψ' : List Nat) (w' : List zx_E) (mc ms : Nat) (ls : List (Nat × zx_V)) (z : Nat) (l : Int32) (fs' : List zx_V), J Ψ' w' mc ms → tm_IN x w' → tm_GL ga w' → w'[x]? = some (.inl (11, fs')) → fs'[10]? = some (.inr (.inr (.inl z))) → Ψ'[z]? = some 99 → zx_limP w'.length ls = true → zx_look 0 ls = some (.inr (.inr (.inl x))) → zx_look 3 ls = some (.inl l) → 2147483648 ≤ zx_b l → zx_b l ≤ 2147483747 → WP (170, ls, [], w', mc, ms) := by
    intro Ψ' w' mc ms ls z l fs' hJ hI hG k0 k10 hz hls l0 l3 b1 b2
    obtain ⟨fs1, ga', i0, i8, i9, i10⟩ := id hI
    rw [k0] at i0
    cases i0
    obtain ⟨fs2, m0, m2, m4, m6, m8, m9, m10, mx⟩ := hX hJ
    rw [k0] at m0
    cases m0
    rw [m8] at i8
    cases i8
    obtain ⟨zs, su, z0, z1, z2, ⟨ss, s0, s1⟩, z3⟩ := i10 z k10
    have hsu := tm_INZ_su (ga := ga) hJ.1 hz z0 z2
    obtain ⟨gs, L, g0, g9, L1, L2⟩ := hG
    have iL := zx_b_int L
    refine zy_la rfl l0 (Or.inl ⟨_, rfl⟩) ?_
    refine zy_get rfl k0 k10 ?_
    refine zy_li rfl l3 ?_
    refine zy_la rfl l0 (Or.inl ⟨_, rfl⟩) ?_
    refine zy_get rfl k0 m6 ?_
    have ty : tj_typed Ψ' [(.inr (.inr (.inl z))), (.inl l), (.inr (.inr (.inl ly)))] [(1, 99, 0), (0, 2147483648, 2147483747), (1, 42, 0)] := ⟨⟨z, rfl, hz⟩, ⟨l, rfl, b1, b2⟩, ⟨ly, rfl, (hq' hJ).2.2.2.1⟩, trivial⟩
    have tv : tj_typed Ψ' [(.inr (.inr (.inl su))), (.inr (.inr (.inl ga))), (.inl L)] [(1, 93, 0), (1, 61, 0), (0, 2147483648, 2147483668)] := ⟨⟨su, rfl, hsu⟩, ⟨ga, rfl, (hq' hJ).2.2.2.2⟩, ⟨L, rfl, by omega, L2⟩, trivial⟩
    refine zy_call (tj_KS1_le (by decide) (tg_p261 tg_hands)) (n := 3) (av := [(.inr (.inr (.inl z))), (.inl l), (.inr (.inr (.inl ly)))]) (st := []) rfl rfl (by decide) hls rfl hJ ty (zy_pre (vs := [(.inr (.inr (.inl su))), (.inr (.inr (.inl ga))), (.inl L)]) (us := [(1, 93, 0), (1, 61, 0), (0, 2147483648, 2147483668)]) ty tv (fun f hf => ?_)) (by decide +kernel) (by decide +kernel) ?_
    · rcases List.mem_cons.mp hf with e | hf
      · subst e
        exact ⟨z, 6, zs, rfl, z0, z2⟩
      rcases List.mem_cons.mp hf with e | hf
      · subst e
        exact ⟨z, 6, zs, rfl, z0, z1⟩
      rcases List.mem_cons.mp hf with e | hf
      · subst e
        exact ⟨ga, 1, gs, rfl, g0, g9⟩
      rcases List.mem_cons.mp hf with e | hf
      · subst e
        exact z3
      rcases List.mem_cons.mp hf with e | hf
      · subst e
        exact ⟨z, ga, su, zs, ss, rfl, z0, z1, z2, s0, s1⟩
      · have e := List.mem_singleton.mp hf
        subst e
        refine tl_fd_lin (n := 9932525098444199596950290431) (by decide +kernel) ⟨Int32.ofNat 0, L, Int32.ofNat 0, rfl, rfl, rfl, ?_⟩
        rw [tl_k1.1, tl_k1.2.1, tl_k1.2.2.1, tl_k1.2.2.2, show (Int32.ofNat 0).toInt = 0 by decide]
        omega
    intro r cy Ψ1 o hW1 hle1 hfr1 hls1 ho hto2 hro hho
    have e := List.mem_singleton.mp ho
    subst e
    obtain ⟨v, hr, xv, ev, -, -⟩ := hro
    subst ev
    rw [hr]
    have hJ1 : J Ψ1 r.2 (mc + cy.1) (ms + cy.2) := hW1
    obtain ⟨ρ, o1, o2, o3⟩ := hho
    have e0 : ρ 0 = (.inr (.inr (.inl z))) := o1 0 _ rfl
    have F1 : ∃ q' ci fs', ρ 0 = (.inr (.inr (.inl q'))) ∧ r.2[q']? = some (.inl (ci, fs')) ∧ fs'[1]? = some (ρ 4) := o3 (0, .inr 0, .inl 1, .inr 4) List.mem_cons_self
    have F2 : tj_sm3 (ρ 4) (.inl (Int32.ofNat 262144)) r.2 := o3 (106, .inr 4, .inl 262144, .inr 4) (List.mem_cons_of_mem _ List.mem_cons_self)
    obtain ⟨q2, c2, zs2, a1, a2, a3⟩ := F1
    rw [e0] at a1
    cases a1
    obtain ⟨zs', n0, nn⟩ := (hfr1 z 99 hz).1 6 zs z0
    rw [n0] at a2
    cases a2
    have n2 := (nn 1 (by decide +kernel)).trans z2
    rw [n2] at a3
    rw [← Option.some.inj a3] at F2
    have n1 := (nn 0 (by decide +kernel)).trans z1
    obtain ⟨ss', p0, pp⟩ := (hfr1 su 93 hsu).1 9 ss s0
    obtain ⟨fs3, u0, uu⟩ := (hfr1 x 100 (hq' hJ).1).1 11 fs' k0
    refine hret rfl hJ1 ⟨fs3, ga, u0, (uu 8 (by decide +kernel)).trans m8, fun s hs => ?_, fun z' hz' => ?_⟩
    · rw [uu 9 (by decide +kernel)] at hs
      obtain ⟨v9, k9, hv9⟩ := m9
      rw [hs] at k9
      cases k9
      rcases hv9 with hv | ⟨s', hv, hs'⟩
      · cases hv
      · cases hv
        exact tm_INSF hJ.1 hs' (i9 s hs) hfr1 (by decide +kernel)
    · rw [uu 10 (by decide +kernel), k10] at hz'
      cases hz'
      exact ⟨_, su, n0, n1, n2, ⟨ss', p0, (pp 1 (by decide +kernel)).trans s1⟩, F2⟩
  -- the sums that are few
  have h112 : ∀ (Ψ' : List Nat) (w' : List zx_E) (mc ms : Nat) (ls : List (Nat × zx_V)) (s : Nat) (l : Int32) (fs' : List zx_V), J Ψ' w' mc ms → tm_IN x w' → tm_GL ga w' → w'[x]? = some (.inl (11, fs')) → fs'[9]? = some (.inr (.inr (.inl s))) → Ψ'[s]? = some 83 → zx_limP w'.length ls = true → zx_look 0 ls = some (.inr (.inr (.inl x))) → zx_look 3 ls = some (.inl l) → 2147483648 ≤ zx_b l → zx_b l ≤ 2147483747 → WP (112, ls, [], w', mc, ms) := by
    intro Ψ' w' mc ms ls s l fs' hJ hI hG k0 k9 hs hls l0 l3 b1 b2
    obtain ⟨fs1, ga', i0, i8, i9, i10⟩ := id hI
    rw [k0] at i0
    cases i0
    obtain ⟨fs2, m0, m2, m4, m6, m8, m9, m10, mx⟩ := hX hJ
    rw [k0] at m0
    cases m0
    rw [m8] at i8
    cases i8
    obtain ⟨⟨ss, s0, s1⟩, s3⟩ := i9 s k9
    refine zy_la rfl l0 (Or.inl ⟨_, rfl⟩) ?_
    refine zy_get rfl k0 k9 ?_
    have ty : tj_typed Ψ' [(.inr (.inr (.inl s)))] [(1, 83, 0)] := ⟨⟨s, rfl, hs⟩, trivial⟩
    refine zy_call (tj_KS1_le (by decide) tm_beginF) (n := 1) (av := [(.inr (.inr (.inl s)))]) (st := []) rfl rfl (by decide) hls rfl hJ ty (zy_pre (vs := []) (us := []) ty trivial (fun f hf => ?_)) (by decide +kernel) (by decide +kernel) ?_
    · have e := List.mem_singleton.mp hf
      subst e
      exact s3
    intro r cy Ψ1 o hW1 hle1 hfr1 hls1 ho hto2 hro hho
    have e := List.mem_singleton.mp ho
    subst e
    have hr : r.1 = none := hro
    rw [hr]
    have hJ1 : J Ψ1 r.2 (mc + cy.1) (ms + cy.2) := hW1
    obtain ⟨ρ, o1, o2, o3⟩ := hho
    have e0 : ρ 0 = (.inr (.inr (.inl s))) := o1 0 _ rfl
    have F1 : tj_sm3 (ρ 0) (.inl (Int32.ofNat 32768)) r.2 := o3 (106, .inr 0, .inl 32768, .inr 0) List.mem_cons_self
    have F2 : tj_sm4 (ρ 0) r.2 := o3 (107, .inr 0, .inr 0, .inr 0) (List.mem_cons_of_mem _ List.mem_cons_self)
    rw [e0] at F1 F2
    obtain ⟨ss', p0, pp⟩ := (hfr1 s 83 hs).1 9 ss s0
    have p1 := (pp 1 (by decide +kernel)).trans s1
    obtain ⟨fs3, u0, uu⟩ := (hfr1 x 100 (hq' hJ).1).1 11 fs' k0
    have u9 := (uu 9 (by decide +kernel)).trans k9
    have u8 := (uu 8 (by decide +kernel)).trans m8
    have hI1 : tm_IN x r.2 := by
      refine ⟨fs3, ga, u0, u8, fun s' hs' => ?_, fun z hz => ?_⟩
      · rw [u9] at hs'
        cases hs'
        exact ⟨⟨ss', p0, p1⟩, F1⟩
      · rw [uu 10 (by decide +kernel)] at hz
        obtain ⟨v10, k10, hv10⟩ := m10
        rw [hz] at k10
        cases k10
        rcases hv10 with hv | ⟨z', hv, hz'⟩
        · cases hv
        · cases hv
          exact tm_INZ_fr hJ.1 hz' (i10 z hz) hfr1 (by decide +kernel)
    have hG1 := tm_GL_fr (hq' hJ).2.2.2.2 hG hfr1 (by decide +kernel)
    have hs1 := hle1 _ _ hs
    clear hW1 hro ho hto2 hr hI hG k0 i9 i10 m2 m4 m6 m8 m9 m10 mx s0 s1 s3 k9 hs hfr1 pp uu o1 o2 o3 e0 hJ
    clear ρ
    generalize r.2 = w1 at hJ1 hls1 hI1 hG1 F1 F2 p0 u0 ⊢
    generalize mc + cy.1 = mc1 at hJ1 ⊢
    generalize ms + cy.2 = ms1 at hJ1 ⊢
    show WP (119, ls, [], w1, mc1, ms1)
    obtain ⟨gs, L, g0, g9, L1, L2⟩ := id hG1
    have iL := zx_b_int L
    refine zy_la rfl l0 (Or.inl ⟨_, rfl⟩) ?_
    refine zy_get rfl u0 u9 ?_
    refine zy_ci (n := 1) (c := 0) rfl ?_
    refine zy_li rfl l3 ?_
    have ty2 : tj_typed Ψ1 [(.inr (.inr (.inl s))), (.inl (Int32.ofNat 0)), (.inl l)] [(1, 83, 0), (0, 2147483648, 2147483668), (0, 0, 4294967295)] := ⟨⟨s, rfl, hs1⟩, ⟨_, rfl, by decide, by decide⟩, ⟨l, rfl, Nat.zero_le _, by omega⟩, trivial⟩
    have tv2 : tj_typed Ψ1 [(.inr (.inr (.inl ga))), (.inl L)] [(1, 61, 0), (0, 2147483648, 2147483668)] := ⟨⟨ga, rfl, (hq' hJ1).2.2.2.2⟩, ⟨L, rfl, by omega, L2⟩, trivial⟩
    refine zy_call (tj_KS1_le (by decide) tg_knownF) (n := 3) (av := [(.inr (.inr (.inl s))), (.inl (Int32.ofNat 0)), (.inl l)]) (st := []) rfl rfl (by decide) hls1 rfl hJ1 ty2 (zy_pre (vs := [(.inr (.inr (.inl ga))), (.inl L)]) (us := [(1, 61, 0), (0, 2147483648, 2147483668)]) ty2 tv2 (fun f hf => ?_)) (by decide +kernel) (by decide +kernel) ?_
    · rcases List.mem_cons.mp hf with e | hf
      · subst e
        exact ⟨s, 9, ss', rfl, p0, p1⟩
      rcases List.mem_cons.mp hf with e | hf
      · subst e
        exact ⟨ga, 1, gs, rfl, g0, g9⟩
      rcases List.mem_cons.mp hf with e | hf
      · subst e
        exact F2
      · have e := List.mem_singleton.mp hf
        subst e
        refine tl_fd_lin (n := 9932525098444199596950290432) (by decide +kernel) ⟨Int32.ofNat 0, L, Int32.ofNat 0, rfl, rfl, rfl, ?_⟩
        rw [tl_k0.1, tl_k0.2.1, tl_k0.2.2.1, tl_k0.2.2.2, show (Int32.ofNat 0).toInt = 0 by decide]
        omega
    intro r cy Ψ2 o hW2 hle2 hfr2 hls2 ho hto2 hro hho
    have hJ2 : J Ψ2 r.2 (mc1 + cy.1) (ms1 + cy.2) := hW2
    have hI2 := tm_IN_fr hJ1.1 (hq' hJ1).1 hI1 hfr2 (by decide +kernel)
    have hG2 := tm_GL_fr (hq' hJ1).2.2.2.2 hG1 hfr2 (by decide +kernel)
    have G1 := te_so 3 (.inr (.inr (.inl s))) (.inl (Int32.ofNat 32768)) (.inr (.inr (.inr 0))) Ψ1 w1 r.2 _ hJ1.1 hfr2 (by decide +kernel) F1
    have hs2 := hle2 _ _ hs1
    obtain ⟨fs4, n0, nn⟩ := (hfr2 x 100 (hq' hJ1).1).1 11 fs3 u0
    have n9 := (nn 9 (by decide +kernel)).trans u9
    obtain ⟨fs5, q0, q2, q4, q6, q8, q9, q10, qx⟩ := hX hJ2
    rw [n0] at q0
    cases q0
    have hc : (∃ v, r.1 = some (.inl v) ∧ zx_b v = 2147483648) ∨ ∃ v, r.1 = some (.inl v) ∧ zx_b v = 2147483649 ∧ tj_sm5 (.inr (.inr (.inl s))) (.inl (Int32.ofNat 0)) (.inl l) r.2 := by
      rcases List.mem_cons.mp ho with e | ho
      · subst e
        obtain ⟨v, e1, xv, e2, c1, c2⟩ := hro
        subst e2
        exact Or.inl ⟨xv, e1, by omega⟩
      · have e := List.mem_singleton.mp ho
        subst e
        obtain ⟨v, e1, xv, e2, c1, c2⟩ := hro
        subst e2
        obtain ⟨ρ, o1, o2, o3⟩ := hho
        have e0 : ρ 0 = (.inr (.inr (.inl s))) := o1 0 _ rfl
        have e3 : ρ 1 = (.inl (Int32.ofNat 0)) := o1 1 _ rfl
        have e4 : ρ 2 = (.inl l) := o1 2 _ rfl
        have F5 : tj_sm5 (ρ 0) (ρ 1) (ρ 2) r.2 := o3 (108, .inr 0, .inr 1, .inr 2) List.mem_cons_self
        rw [e0, e3, e4] at F5
        exact Or.inr ⟨xv, e1, by omega, F5⟩
    clear hW2 hro hho ho hto2 hI1 hG1 F1 F2 p0 p1 u0 u8 u9 g0 g9 hs1 hfr2 nn hls1 hJ1 ty2 tv2
    rcases hc with ⟨v, hr, hv⟩ | ⟨v, hr, hv, F5⟩
    · rw [hr]
      clear hr
      generalize r.2 = w2 at hJ2 hls2 hI2 hG2 G1 n0 qx ⊢
      generalize mc1 + cy.1 = mc2 at hJ2 ⊢
      generalize ms1 + cy.2 = ms2 at hJ2 ⊢
      show WP (128, ls, [(.inl v)], w2, mc2, ms2)
      refine zy_j0 rfl (fun _ => ?_) (fun h => ?_)
      · obtain ⟨v10, k10, hv10⟩ := id q10
        refine zy_la rfl l0 (Or.inl ⟨_, rfl⟩) ?_
        refine zy_get rfl n0 k10 ?_
        rcases hv10 with hv | ⟨z, hv, hz⟩
        · subst hv
          refine zy_nn (o := none) rfl (fun _ e => by cases e) (fun _ => ?_)
          have hp1 : tj_p tj_c1 (.inl (11, (fs4.set 10 (.inr (.inr (.inl w2.length)))))) + 32 = tj_p tj_c1 (.inl (11, fs4)) := by
            have hl : 10 < fs4.length := (List.getElem?_eq_some_iff.mp k10).1
            show 16 * tj_isN (fs4.set 10 (.inr (.inr (.inl w2.length))))[9]? + 32 * tj_isN (fs4.set 10 (.inr (.inr (.inl w2.length))))[10]? + 32 = 16 * tj_isN fs4[9]? + 32 * tj_isN fs4[10]?
            rw [List.getElem?_set_ne (by decide), List.getElem?_set_self hl, k10]
            rfl
          have hp2 : tj_p tj_c2 (.inl (11, (fs4.set 10 (.inr (.inr (.inl w2.length)))))) + 1000000 = tj_p tj_c2 (.inl (11, fs4)) := by
            have hl : 10 < fs4.length := (List.getElem?_eq_some_iff.mp k10).1
            show 100000 * tj_isN (fs4.set 10 (.inr (.inr (.inl w2.length))))[9]? + 1000000 * tj_isN (fs4.set 10 (.inr (.inr (.inl w2.length))))[10]? + 1000000 = 100000 * tj_isN fs4[9]? + 1000000 * tj_isN fs4[10]?
            rw [List.getElem?_set_ne (by decide), List.getElem?_set_self hl, k10]
            rfl
          obtain ⟨⟨c1, c2⟩, hnew⟩ := tm_newX (k := 10) (lk := 99) (Δ := tm_d6) (e := tm_w6 w2.length to ga) hJ2 (hq' hJ2).1 n0 hd t10 hp1 hp2 (tm_wt6 hJ2.1 (hq' hJ2).2.1 (hq' hJ2).2.2.2.2) rfl rfl rfl (by decide +kernel)
          have c1 : mc2 + 32 ≤ tj_P tj_c1 w := c1
          have c2 : ms2 + 1000000 ≤ tj_P tj_c2 w := c2
          have hgl : ga < w2.length := by rw [← hJ2.1.1]; exact (List.getElem?_eq_some_iff.mp (hq' hJ2).2.2.2.2).1
          have htl : to < w2.length := by rw [← hJ2.1.1]; exact (List.getElem?_eq_some_iff.mp (hq' hJ2).2.1).1
          have hwl := tj_wt_lim hJ2.1
          refine zy_la rfl l0 (Or.inl ⟨_, rfl⟩) ?_
          refine zy_newO (ci := 6) (fs := zx_cls 6) rfl (by show mc2 + 1 ≤ tj_P tj_c1 w; omega) (by show ms2 + 19 ≤ tj_P tj_c2 w; omega) ?_ ?_
          · unfold zx_limS
            rw [hls2, hwl]
            show (true && ((Nat.blt x w2.length && true) && true)) = true
            rw [show Nat.blt x w2.length = true from Nat.ble_eq_true_of_le qx]
            rfl
          refine zy_dup rfl ?_
          have hl1 : (w2 ++ ([(.inl (6, (zx_cls 6)))] : List zx_E)).length = w2.length + 1 := by rw [List.length_append]; rfl
          have n0' : (w2 ++ ([(.inl (6, (zx_cls 6)))] : List zx_E))[x]? = some (.inl (11, fs4)) := by rw [List.getElem?_append_left qx]; exact n0
          refine zy_la rfl l0 (Or.inl ⟨_, rfl⟩) ?_
          refine zy_get rfl n0' q2 ?_
          refine zy_la rfl l0 (Or.inl ⟨_, rfl⟩) ?_
          refine zy_get rfl n0' q8 ?_
          refine zx_wp_call (a := 0) (n := 3) (y := 291) (g := zx_no) (av := [(.inr (.inr (.inl w2.length))), (.inr (.inr (.inl to))), (.inr (.inr (.inl ga)))]) (st' := [(.inr (.inr (.inl w2.length))), (.inr (.inr (.inl x)))]) (cy := (17, 819170)) (r := (none, w2 ++ tm_w6 w2.length to ga)) rfl rfl (Nat.le_of_ble_eq_true rfl) (tj_limP_le (by rw [hl1]; omega) hls2) ?_ (by show mc2 + 1 + 17 ≤ tj_P tj_c1 w; omega) (by show ms2 + 19 + 819170 ≤ tj_P tj_c2 w; omega) (zx_Cl_le (by decide) (tm_init6 hwl htl hgl)) ?_
          · show (Nat.blt w2.length (w2 ++ ([(.inl (6, (zx_cls 6)))] : List zx_E)).length && (Nat.blt x (w2 ++ ([(.inl (6, (zx_cls 6)))] : List zx_E)).length && true)) = true
            rw [hl1, show Nat.blt w2.length (w2.length + 1) = true from te_blt0 (by decide), show Nat.blt x (w2.length + 1) = true from Nat.ble_eq_true_of_le (by omega)]
            rfl
          refine zy_put rfl (by rw [List.getElem?_append_left qx]; exact n0) (List.getElem?_eq_some_iff.mp k10).1 rfl ?_
          have hJ3 : J (Ψ2 ++ tm_d6) ((w2 ++ tm_w6 w2.length to ga).set x (.inl (11, (fs4.set 10 (.inr (.inr (.inl w2.length))))))) (mc2 + 1 + 17) (ms2 + 19 + 819170) := by
            have h := hnew 18 (19 + 819170) (by decide) (by decide)
            rw [show mc2 + 1 + 17 = mc2 + 18 by omega, Nat.add_assoc ms2]
            exact h
          have hxl : x < (w2 ++ tm_w6 w2.length to ga).length := by rw [List.length_append]; omega
          obtain ⟨fs6, ga', i0, i8, i9, i10⟩ := id hI2
          rw [n0] at i0
          cases i0
          rw [q8] at i8
          cases i8
          have hget : ∀ j e, (tm_w6 w2.length to ga)[j]? = some e → ((w2 ++ tm_w6 w2.length to ga).set x (.inl (11, (fs4.set 10 (.inr (.inr (.inl w2.length)))))))[w2.length + j]? = some e := fun j e h => by
            rw [List.getElem?_set_ne (by omega), List.getElem?_append_right (by omega), Nat.add_sub_cancel_left]
            exact h
          have hold : ∀ j e, j ≠ x → w2[j]? = some e → ((w2 ++ tm_w6 w2.length to ga).set x (.inl (11, (fs4.set 10 (.inr (.inr (.inl w2.length)))))))[j]? = some e := fun j e hne h => by
            rw [List.getElem?_set_ne (Ne.symm hne), List.getElem?_append_left (List.getElem?_eq_some_iff.mp h).1]
            exact h
          have hI3 : tm_IN x ((w2 ++ tm_w6 w2.length to ga).set x (.inl (11, (fs4.set 10 (.inr (.inr (.inl w2.length))))))) := by
            refine ⟨fs4.set 10 (.inr (.inr (.inl w2.length))), ga, List.getElem?_set_self hxl, by rw [List.getElem?_set_ne (by decide)]; exact q8, fun s' hs' => ?_, fun z hz => ?_⟩
            · rw [List.getElem?_set_ne (by decide), n9] at hs'
              cases hs'
              obtain ⟨⟨st, t0', t1'⟩, t3'⟩ := i9 s n9
              exact tm_INS_mono (fun j e h1 h => hold j e (fun ej => by
                rw [ej, n0] at h
                cases h
                exact h1 _ rfl) h) ⟨⟨st, t0', t1'⟩, t3'⟩
            · rw [List.getElem?_set_self (List.getElem?_eq_some_iff.mp k10).1] at hz
              cases hz
              refine ⟨_, w2.length + 8, hget 0 _ rfl, rfl, rfl, ⟨_, hget 8 _ rfl, rfl⟩, ⟨w2.length + 8, Int32.ofNat 262144, fun _ => 0, fun _ => 0, rfl, rfl, ⟨_, w2.length + 11, hget 8 _ rfl, rfl, hget 11 _ rfl⟩, ⟨_, w2.length + 12, hget 8 _ rfl, rfl, hget 12 _ rfl⟩, fun i hi => (by decide : (0 : Int32).toInt + (0 : Int32).toInt ≤ (Int32.ofNat 262144).toInt)⟩⟩
          have hG3 : tm_GL ga ((w2 ++ tm_w6 w2.length to ga).set x (.inl (11, (fs4.set 10 (.inr (.inr (.inl w2.length))))))) := by
            obtain ⟨gs, L, g0, g9, gL⟩ := hG2
            exact ⟨gs, L, hold ga _ (fun e => by rw [e, n0] at g0; cases g0) g0, g9, gL⟩
          refine h170 (Ψ2 ++ tm_d6) _ _ _ ls w2.length l (fs4.set 10 (.inr (.inr (.inl w2.length)))) hJ3 hI3 hG3 (List.getElem?_set_self hxl) (List.getElem?_set_self (List.getElem?_eq_some_iff.mp k10).1) ?_ (tj_limP_le (by rw [List.length_set, List.length_append]; omega) hls2) l0 l3 b1 b2
          rw [List.getElem?_append_right (by rw [hJ2.1.1]; exact Nat.le_refl _), hJ2.1.1, Nat.sub_self]
          rfl
        · subst hv
          refine zy_nn (o := some z) rfl (fun _ e => ?_) (fun e => by cases e)
          exact h170 Ψ2 w2 mc2 ms2 ls z l fs4 hJ2 hI2 hG2 n0 k10 hz hls2 l0 l3 b1 b2
      · have h : zx_b v ≠ 2147483648 := h
        exact absurd hv h
    · rw [hr]
      clear hr
      generalize r.2 = w2 at hJ2 hls2 hI2 hG2 G1 n0 qx F5 ⊢
      generalize mc1 + cy.1 = mc2 at hJ2 ⊢
      generalize ms1 + cy.2 = ms2 at hJ2 ⊢
      show WP (128, ls, [(.inl v)], w2, mc2, ms2)
      refine zy_j0 rfl (fun h => ?_) (fun _ => ?_)
      · have h : zx_b v = 2147483648 := h
        omega
      · refine zy_la rfl l0 (Or.inl ⟨_, rfl⟩) ?_
        refine zy_get rfl n0 n9 ?_
        refine zy_li rfl l3 ?_
        refine zy_la rfl l0 (Or.inl ⟨_, rfl⟩) ?_
        refine zy_get rfl n0 q6 ?_
        have ty3 : tj_typed Ψ2 [(.inr (.inr (.inl s))), (.inl l), (.inr (.inr (.inl ly)))] [(1, 83, 0), (0, 2147483648, 2147483747), (1, 42, 0)] := ⟨⟨s, rfl, hs2⟩, ⟨l, rfl, b1, b2⟩, ⟨ly, rfl, (hq' hJ2).2.2.2.1⟩, trivial⟩
        refine zy_call (tj_KS1_le (by decide) tg_p60) (n := 3) (av := [(.inr (.inr (.inl s))), (.inl l), (.inr (.inr (.inl ly)))]) (st := []) rfl rfl (by decide) hls2 rfl hJ2 ty3 (zy_pre (vs := []) (us := []) ty3 trivial (fun f hf => ?_)) (by decide +kernel) (by decide +kernel) ?_
        · rcases List.mem_cons.mp hf with e | hf
          · subst e
            exact G1
          · have e := List.mem_singleton.mp hf
            subst e
            exact F5
        intro r cy Ψ3 o hW3 hle3 hfr3 hls3 ho hto3 hro hho
        obtain ⟨v', hr⟩ := zy_retI (by decide +kernel) ho hro
        rw [hr]
        exact hret rfl hW3 (tm_IN_fr hJ2.1 (hq' hJ2).1 hI2 hfr3 (by decide +kernel))
  have h82 : ∀ (Ψ' : List Nat) (w' : List zx_E) (mc ms : Nat) (ls : List (Nat × zx_V)) (l : Int32), J Ψ' w' mc ms → tm_IN x w' → tm_GL ga w' → zx_limP w'.length ls = true → zx_look 0 ls = some (.inr (.inr (.inl x))) → zx_look 3 ls = some (.inl l) → 2147483648 ≤ zx_b l → zx_b l ≤ 2147483747 → WP (82, ls, [], w', mc, ms) := by
    intro Ψ2 w2 mc2 ms2 ls l hJ2 hI2 hG2 hls2 l0 l3 b1 b2
    obtain ⟨fs4, n0, q2, q4, q6, q8, q9, q10, qx⟩ := hX hJ2
    obtain ⟨v9, k9, hv9⟩ := id q9
    refine zy_la rfl l0 (Or.inl ⟨_, rfl⟩) ?_
    refine zy_get rfl n0 k9 ?_
    rcases hv9 with hv | ⟨s, hv, hs⟩
    · subst hv
      refine zy_nn (o := none) rfl (fun _ e => by cases e) (fun _ => ?_)
      have hp1 : tj_p tj_c1 (.inl (11, (fs4.set 9 (.inr (.inr (.inl w2.length)))))) + 16 = tj_p tj_c1 (.inl (11, fs4)) := by
        have hl : 9 < fs4.length := (List.getElem?_eq_some_iff.mp k9).1
        show 16 * tj_isN (fs4.set 9 (.inr (.inr (.inl w2.length))))[9]? + 32 * tj_isN (fs4.set 9 (.inr (.inr (.inl w2.length))))[10]? + 16 = 16 * tj_isN fs4[9]? + 32 * tj_isN fs4[10]?
        rw [List.getElem?_set_self hl, List.getElem?_set_ne (by decide), k9]
        show 16 * 0 + 32 * tj_isN fs4[10]? + 16 = 16 * 1 + 32 * tj_isN fs4[10]?
        omega
      have hp2 : tj_p tj_c2 (.inl (11, (fs4.set 9 (.inr (.inr (.inl w2.length)))))) + 100000 = tj_p tj_c2 (.inl (11, fs4)) := by
        have hl : 9 < fs4.length := (List.getElem?_eq_some_iff.mp k9).1
        show 100000 * tj_isN (fs4.set 9 (.inr (.inr (.inl w2.length))))[9]? + 1000000 * tj_isN (fs4.set 9 (.inr (.inr (.inl w2.length))))[10]? + 100000 = 100000 * tj_isN fs4[9]? + 1000000 * tj_isN fs4[10]?
        rw [List.getElem?_set_self hl, List.getElem?_set_ne (by decide), k9]
        show 100000 * 0 + 1000000 * tj_isN fs4[10]? + 100000 = 100000 * 1 + 1000000 * tj_isN fs4[10]?
        omega
      obtain ⟨⟨c1, c2⟩, hnew⟩ := tm_newX (k := 9) (lk := 83) (Δ := tm_d9F) (e := tm_w9F w2.length to ga) hJ2 (hq' hJ2).1 n0 hd t9 hp1 hp2 (tm_wt9F hJ2.1 (hq' hJ2).2.1 (hq' hJ2).2.2.2.2) rfl rfl rfl (by decide +kernel)
      have c1 : mc2 + 16 ≤ tj_P tj_c1 w := c1
      have c2 : ms2 + 100000 ≤ tj_P tj_c2 w := c2
      have hgl : ga < w2.length := by rw [← hJ2.1.1]; exact (List.getElem?_eq_some_iff.mp (hq' hJ2).2.2.2.2).1
      have htl : to < w2.length := by rw [← hJ2.1.1]; exact (List.getElem?_eq_some_iff.mp (hq' hJ2).2.1).1
      have hwl := tj_wt_lim hJ2.1
      refine zy_la rfl l0 (Or.inl ⟨_, rfl⟩) ?_
      refine zy_newO (ci := 9) (fs := zx_cls 9) rfl (by show mc2 + 1 ≤ tj_P tj_c1 w; omega) (by show ms2 + 17 ≤ tj_P tj_c2 w; omega) ?_ ?_
      · unfold zx_limS
        rw [hls2, hwl]
        show (true && ((Nat.blt x w2.length && true) && true)) = true
        rw [show Nat.blt x w2.length = true from Nat.ble_eq_true_of_le qx]
        rfl
      refine zy_dup rfl ?_
      have hl1 : (w2 ++ ([(.inl (9, (zx_cls 9)))] : List zx_E)).length = w2.length + 1 := by rw [List.length_append]; rfl
      have n0' : (w2 ++ ([(.inl (9, (zx_cls 9)))] : List zx_E))[x]? = some (.inl (11, fs4)) := by rw [List.getElem?_append_left qx]; exact n0
      refine zy_la rfl l0 (Or.inl ⟨_, rfl⟩) ?_
      refine zy_get rfl n0' q2 ?_
      refine zy_la rfl l0 (Or.inl ⟨_, rfl⟩) ?_
      refine zy_get rfl n0' q8 ?_
      refine zy_ci (n := 3) (c := 32768) rfl ?_
      refine zy_ci (n := 1) (c := 0) rfl ?_
      refine zx_wp_call (a := 0) (n := 5) (y := 336) (g := zx_no) (av := [(.inr (.inr (.inl w2.length))), (.inr (.inr (.inl to))), (.inr (.inr (.inl ga))), (.inl (Int32.ofNat 32768)), (.inl (Int32.ofNat 0))]) (st' := [(.inr (.inr (.inl w2.length))), (.inr (.inr (.inl x)))]) (cy := (9, 77373)) (r := (none, w2 ++ tm_w9F w2.length to ga)) rfl rfl (Nat.le_of_ble_eq_true rfl) (tj_limP_le (by rw [hl1]; omega) hls2) ?_ (by show mc2 + 1 + 9 ≤ tj_P tj_c1 w; omega) (by show ms2 + 17 + 77373 ≤ tj_P tj_c2 w; omega) (zx_Cl_le (by decide) (tm_init9F hwl htl hgl)) ?_
      · show (Nat.blt w2.length (w2 ++ ([(.inl (9, (zx_cls 9)))] : List zx_E)).length && (Nat.blt x (w2 ++ ([(.inl (9, (zx_cls 9)))] : List zx_E)).length && true)) = true
        rw [hl1, show Nat.blt w2.length (w2.length + 1) = true from te_blt0 (by decide), show Nat.blt x (w2.length + 1) = true from Nat.ble_eq_true_of_le (by omega)]
        rfl
      refine zy_put rfl (by rw [List.getElem?_append_left qx]; exact n0) (List.getElem?_eq_some_iff.mp k9).1 rfl ?_
      have hJ3 : J (Ψ2 ++ tm_d9F) ((w2 ++ tm_w9F w2.length to ga).set x (.inl (11, (fs4.set 9 (.inr (.inr (.inl w2.length))))))) (mc2 + 1 + 9) (ms2 + 17 + 77373) := by
        have h := hnew 10 (17 + 77373) (by decide) (by decide)
        rw [show mc2 + 1 + 9 = mc2 + 10 by omega, Nat.add_assoc ms2]
        exact h
      have hxl : x < (w2 ++ tm_w9F w2.length to ga).length := by rw [List.length_append]; omega
      obtain ⟨fs6, ga', i0, i8, i9, i10⟩ := id hI2
      rw [n0] at i0
      cases i0
      rw [q8] at i8
      cases i8
      have hget : ∀ j e, (tm_w9F w2.length to ga)[j]? = some e → ((w2 ++ tm_w9F w2.length to ga).set x (.inl (11, (fs4.set 9 (.inr (.inr (.inl w2.length)))))))[w2.length + j]? = some e := fun j e h => by
        rw [List.getElem?_set_ne (by omega), List.getElem?_append_right (by omega), Nat.add_sub_cancel_left]
        exact h
      have hold : ∀ j e, j ≠ x → w2[j]? = some e → ((w2 ++ tm_w9F w2.length to ga).set x (.inl (11, (fs4.set 9 (.inr (.inr (.inl w2.length)))))))[j]? = some e := fun j e hne h => by
        rw [List.getElem?_set_ne (Ne.symm hne), List.getElem?_append_left (List.getElem?_eq_some_iff.mp h).1]
        exact h
      have hI3 : tm_IN x ((w2 ++ tm_w9F w2.length to ga).set x (.inl (11, (fs4.set 9 (.inr (.inr (.inl w2.length))))))) := by
        refine ⟨fs4.set 9 (.inr (.inr (.inl w2.length))), ga, List.getElem?_set_self hxl, by rw [List.getElem?_set_ne (by decide)]; exact q8, fun s' hs' => ?_, fun z hz => ?_⟩
        · rw [List.getElem?_set_self (List.getElem?_eq_some_iff.mp k9).1] at hs'
          cases hs'
          exact ⟨⟨_, hget 0 _ rfl, rfl⟩, ⟨w2.length, Int32.ofNat 32768, fun _ => 0, fun _ => 0, rfl, rfl, ⟨_, w2.length + 3, hget 0 _ rfl, rfl, hget 3 _ rfl⟩, ⟨_, w2.length + 4, hget 0 _ rfl, rfl, hget 4 _ rfl⟩, fun i hi => (by decide : (0 : Int32).toInt + (0 : Int32).toInt ≤ (Int32.ofNat 32768).toInt)⟩⟩
        · rw [List.getElem?_set_ne (by decide)] at hz
          obtain ⟨zs, su, z0, z1, z2, z3⟩ := i10 z hz
          exact ⟨zs, su, hold z _ (fun e => by
            rw [e, n0] at z0
            cases z0) z0, z1, z2, tm_INS_mono (fun j e h1 h => hold j e (fun ej => by
              rw [ej, n0] at h
              cases h
              exact h1 _ rfl) h) z3⟩
      have hG3 : tm_GL ga ((w2 ++ tm_w9F w2.length to ga).set x (.inl (11, (fs4.set 9 (.inr (.inr (.inl w2.length))))))) := by
        obtain ⟨gs, L, g0, g9, gL⟩ := hG2
        exact ⟨gs, L, hold ga _ (fun e => by rw [e, n0] at g0; cases g0) g0, g9, gL⟩
      refine h112 (Ψ2 ++ tm_d9F) _ _ _ ls w2.length l (fs4.set 9 (.inr (.inr (.inl w2.length)))) hJ3 hI3 hG3 (List.getElem?_set_self hxl) (List.getElem?_set_self (List.getElem?_eq_some_iff.mp k9).1) ?_ (tj_limP_le (by rw [List.length_set, List.length_append]; omega) hls2) l0 l3 b1 b2
      rw [List.getElem?_append_right (by rw [hJ2.1.1]; exact Nat.le_refl _), hJ2.1.1, Nat.sub_self]
      rfl
    · subst hv
      refine zy_nn (o := some s) rfl (fun _ e => ?_) (fun e => by cases e)
      exact h112 Ψ2 w2 mc2 ms2 ls s l fs4 hJ2 hI2 hG2 n0 k9 hs hls2 l0 l3 b1 b2
  -- the start
  have hW0 := tm_W0 (E := tm_ET) hw
  have hls0 : zx_limP w.length [(0, (.inr (.inr (.inl x)))), (1, (.inl p)), (2, (.inl n))] = true := tm_lim (List.getElem?_eq_some_iff.mp hf).1 rfl
  show WP (0, [(0, (.inr (.inr (.inl x)))), (1, (.inl p)), (2, (.inl n))], [], w, 0, 0)
  have ty281 : tj_typed Ψ [(.inr (.inr (.inl ly)))] [(1, 42, 0)] := ⟨⟨ly, rfl, hly⟩, trivial⟩
  refine zy_la (k := 0) rfl rfl (Or.inl ⟨_, rfl⟩) ?_
  refine zy_get rfl hf f6 ?_
  refine zy_call (tj_KS1_le (by decide) te_p1) (n := 1) (av := [(.inr (.inr (.inl ly)))]) (st := []) rfl rfl (by decide) hls0 rfl hW0 ty281 (zy_nopre ty281) (by decide +kernel) (by decide +kernel) ?_
  intro r cy Ψ1 o hW1 hle1 hfr1 hls1 ho hto1 hro hho
  rw [zy_retN (by decide +kernel) ho hro]
  have hJ1 : J Ψ1 r.2 (0 + cy.1) (0 + cy.2) := hW1
  have hI1 := tm_IN_fr hw hx hI hfr1 (by decide +kernel)
  clear hto1 hro hho ho hW1 hfr1
  generalize r.2 = w1 at hJ1 hls1 hI1 ⊢
  generalize 0 + cy.1 = mc1 at hJ1 ⊢
  generalize 0 + cy.2 = ms1 at hJ1 ⊢
  show WP (7, [(0, (.inr (.inr (.inl x)))), (1, (.inl p)), (2, (.inl n))], [], w1, mc1, ms1)
  obtain ⟨fs1, n0, q2, q4, q6, q8, q9, q10, qx⟩ := hX hJ1
  refine zy_la (k := 0) rfl rfl (Or.inl ⟨_, rfl⟩) ?_
  refine zy_get rfl n0 q2 ?_
  refine zy_li (k := 1) rfl rfl ?_
  have ty29 : tj_typed Ψ1 [(.inr (.inr (.inl to))), (.inl p)] [(1, 13, 0), (0, 0, 4294967295)] := ⟨⟨to, rfl, (hq' hJ1).2.1⟩, ⟨p, rfl, Nat.zero_le _, by have := tj_b_lt p; omega⟩, trivial⟩
  refine zy_call (tj_KS1_le (by decide) te_p2) (n := 2) (av := [(.inr (.inr (.inl to))), (.inl p)]) (st := []) rfl rfl (by decide) hls1 rfl hJ1 ty29 (zy_nopre ty29) (by decide +kernel) (by decide +kernel) ?_
  intro r cy Ψ2 o hW2 hle2 hfr2 hls2 ho hto2 hro hho
  have hc : ∃ v, r.1 = some (.inl v) ∧ (zx_b v ≠ 2147483648 → 2147483648 ≤ zx_b p ∧ zx_b p ≤ 2147483651) := by
    rcases List.mem_cons.mp ho with e | ho
    · subst e
      obtain ⟨v, e1, xv, e2, c1, c2⟩ := hro
      subst e2
      exact ⟨xv, e1, fun h => absurd (by omega) h⟩
    · have e := List.mem_singleton.mp ho
      subst e
      obtain ⟨v, e1, xv, e2, c1, c2⟩ := hro
      subst e2
      obtain ⟨-, ⟨p', ep, d1, d2⟩, -⟩ := hto2
      cases ep
      exact ⟨xv, e1, fun _ => ⟨d1, d2⟩⟩
  obtain ⟨v, hr, hv⟩ := hc
  rw [hr]
  have hJ2 : J Ψ2 r.2 (mc1 + cy.1) (ms1 + cy.2) := hW2
  have hI2 := tm_IN_fr hJ1.1 (hq' hJ1).1 hI1 hfr2 (by decide +kernel)
  clear hto2 hro hho ho hW2 hfr2 hr hJ1 hI1 n0 q2 q4 q6 q8 q9 q10 qx hls1
  clear fs1
  generalize r.2 = w2 at hJ2 hls2 hI2 ⊢
  generalize mc1 + cy.1 = mc2 at hJ2 ⊢
  generalize ms1 + cy.2 = ms2 at hJ2 ⊢
  show WP (15, [(0, (.inr (.inr (.inl x)))), (1, (.inl p)), (2, (.inl n))], [(.inl v)], w2, mc2, ms2)
  have hgap : ∀ (Ψ' : List Nat) (w' : List zx_E) (mc ms : Nat), J Ψ' w' mc ms → tm_IN x w' → WP (25, [(0, (.inr (.inr (.inl x)))), (1, (.inl p)), (2, (.inl n))], [], w', mc, ms) := by
    intro Ψ' w' mc ms hJ hI
    refine zy_ci (n := 2) (c := 3294967296) rfl ?_
    exact hret rfl hJ hI
  refine zy_j0 rfl (fun _ => hgap _ _ _ _ hJ2 hI2) (fun h => ?_)
  obtain ⟨p1, p2⟩ := hv h
  refine zy_li (k := 2) rfl rfl ?_
  have ty57 : tj_typed Ψ2 [(.inl n)] [(0, 0, 4294967295)] := ⟨⟨n, rfl, Nat.zero_le _, by have := tj_b_lt n; omega⟩, trivial⟩
  refine zy_call (tj_KS1_le (by decide) te_p84) (n := 1) (av := [(.inl n)]) (st := []) rfl rfl (by decide) hls2 rfl hJ2 ty57 (zy_nopre ty57) (by decide +kernel) (by decide +kernel) ?_
  intro r cy Ψ3 o hW3 hle3 hfr3 hls3 ho hto3 hro hho
  have hc : ∃ v, r.1 = some (.inl v) ∧ (zx_b v ≠ 2147483648 → 2147483649 ≤ zx_b n ∧ zx_b n ≤ 2147483668) := by
    rcases List.mem_cons.mp ho with e | ho
    · subst e
      obtain ⟨v, e1, xv, e2, c1, c2⟩ := hro
      subst e2
      exact ⟨xv, e1, fun h => absurd (by omega) h⟩
    · have e := List.mem_singleton.mp ho
      subst e
      obtain ⟨v, e1, xv, e2, c1, c2⟩ := hro
      subst e2
      obtain ⟨⟨n', en, d1, d2⟩, -⟩ := hto3
      cases en
      exact ⟨xv, e1, fun _ => ⟨d1, d2⟩⟩
  obtain ⟨v3, hr, hv3⟩ := hc
  rw [hr]
  have hJ3 : J Ψ3 r.2 (mc2 + cy.1) (ms2 + cy.2) := hW3
  have hI3 := tm_IN_fr hJ2.1 (hq' hJ2).1 hI2 hfr3 (by decide +kernel)
  clear hto3 hro hho ho hW3 hfr3 hr hJ2 hI2 hls2 hv
  generalize r.2 = w3 at hJ3 hls3 hI3 ⊢
  generalize mc2 + cy.1 = mc3 at hJ3 ⊢
  generalize ms2 + cy.2 = ms3 at hJ3 ⊢
  show WP (22, [(0, (.inr (.inr (.inl x)))), (1, (.inl p)), (2, (.inl n))], [(.inl v3)], w3, mc3, ms3)
  refine zy_j0 rfl (fun h3 => ?_) (fun _ => hgap _ _ _ _ hJ3 hI3)
  obtain ⟨n1, n2⟩ := hv3 h3
  obtain ⟨fs3, n0, q2, q4, q6, q8, q9, q10, qx⟩ := hX hJ3
  have hdn : ∃ nts, tj_Lam[33]? = some (.inl (8, 0, nts)) ∧ nts[2]? = some (1, 28, 0) := ⟨_, rfl, rfl⟩
  obtain ⟨nts, hdn, u2⟩ := hdn
  obtain ⟨ns, hn', -, -, htn⟩ := tj_obj hJ3.1 (hq' hJ3).2.2.1 hdn
  obtain ⟨x2, g2, la, y2, hla⟩ := htn 2 _ u2
  subst y2
  obtain ⟨fl, hfl, bfl⟩ := tj_iarr (kd := 0) (n := 4) (s := [(4, 2147483648, 2147483747)]) hJ3.1 hla rfl (Or.inl rfl)
  obtain ⟨hin, hiv⟩ := tj_in (x := p) (n := 4) p1 (by omega)
  have hbl := bfl p.toNatClampNeg (by omega) 2147483648 2147483747 (by
    unfold tj_sel
    rw [show Nat.blt p.toNatClampNeg 4 = true from Nat.ble_eq_true_of_le (by omega)])
  refine zy_la (k := 0) rfl rfl (Or.inl ⟨_, rfl⟩) ?_
  refine zy_get rfl n0 q4 ?_
  refine zy_get rfl hn' g2 ?_
  refine zy_li (k := 1) rfl rfl ?_
  refine zy_ld rfl hfl hin ?_
  generalize fl p.toNatClampNeg = l at hbl ⊢
  refine zy_si (k := 3) rfl ?_
  show WP (38, [(3, (.inl l)), (0, (.inr (.inr (.inl x)))), (1, (.inl p)), (2, (.inl n))], [], w3, mc3, ms3)
  refine zy_la (k := 0) rfl rfl (Or.inl ⟨_, rfl⟩) ?_
  refine zy_get rfl n0 q8 ?_
  refine zy_li (k := 1) rfl rfl ?_
  refine zy_li (k := 2) rfl rfl ?_
  have ty226 : tj_typed Ψ3 [(.inr (.inr (.inl ga))), (.inl p), (.inl n)] [(1, 61, 0), (0, 2147483648, 2147483651), (0, 2147483649, 2147483668)] := ⟨⟨ga, rfl, (hq' hJ3).2.2.2.2⟩, ⟨p, rfl, p1, p2⟩, ⟨n, rfl, n1, n2⟩, trivial⟩
  refine zy_call (tj_KS1_le (by decide) te_p553) (n := 3) (av := [(.inr (.inr (.inl ga))), (.inl p), (.inl n)]) (st := []) rfl rfl (by decide) hls3 rfl hJ3 ty226 (zy_nopre ty226) (by decide +kernel) (by decide +kernel) ?_
  intro r cy Ψ4 o hW4 hle4 hfr4 hls4 ho hto4 hro hho
  have e := List.mem_singleton.mp ho
  subst e
  have hr : r.1 = none := hro
  rw [hr]
  have hJ4 : J Ψ4 r.2 (mc3 + cy.1) (ms3 + cy.2) := hW4
  have hI4 := tm_IN_fr hJ3.1 (hq' hJ3).1 hI3 hfr4 (by decide +kernel)
  have hG4 : tm_GL ga r.2 := by
    obtain ⟨ρ, o1, o2, o3⟩ := hho
    have e0 : ρ 0 = (.inr (.inr (.inl ga))) := o1 0 _ rfl
    have F1 : ∃ q' ci fs', ρ 0 = (.inr (.inr (.inl q'))) ∧ r.2[q']? = some (.inl (ci, fs')) ∧ fs'[9]? = some (ρ 3) := o3 (0, .inr 0, .inl 9, .inr 3) List.mem_cons_self
    obtain ⟨L, eL, L1, L2⟩ : ∃ L, ρ 3 = (.inl L) ∧ 2147483649 ≤ zx_b L ∧ zx_b L ≤ 2147483668 := o2 0 (0, 2147483649, 2147483668) rfl
    obtain ⟨q', ci, gs, a1, a2, a3⟩ := F1
    rw [e0] at a1
    cases a1
    rw [eL] at a3
    have hdg : ∃ gts, tj_Lam[61]? = some (.inl (1, 0, gts)) := ⟨_, rfl⟩
    obtain ⟨gts, hdg⟩ := hdg
    obtain ⟨gs', m0, -, -, -⟩ := tj_obj hJ4.1 (hq' hJ4).2.2.2.2 hdg
    rw [a2] at m0
    cases m0
    exact ⟨_, L, a2, a3, L1, L2⟩
  clear hro hho ho hto4 hW4 hfr4 hr hJ3 hI3 hls3 n0 q2 q4 q6 q8 q9 q10 qx hn' htn hfl bfl hin hiv g2
  clear fs3 ns
  generalize r.2 = w4 at hJ4 hls4 hI4 hG4 ⊢
  generalize mc3 + cy.1 = mc4 at hJ4 ⊢
  generalize ms3 + cy.2 = ms4 at hJ4 ⊢
  have hls4 : zx_limP w4.length [(3, (.inl l)), (0, (.inr (.inr (.inl x)))), (1, (.inl p)), (2, (.inl n))] = true := hls4
  show WP (47, [(3, (.inl l)), (0, (.inr (.inr (.inl x)))), (1, (.inl p)), (2, (.inl n))], [], w4, mc4, ms4)
  obtain ⟨fs4, n0, q2, q4, q6, q8, q9, q10, qx⟩ := hX hJ4
  refine zy_la (k := 0) rfl rfl (Or.inl ⟨_, rfl⟩) ?_
  refine zy_get rfl n0 q8 ?_
  refine zy_ci (n := 1) (c := 0) rfl ?_
  refine zy_li (k := 3) rfl rfl ?_
  refine zy_ci (n := 1) (c := 0) rfl ?_
  have ty216 : tj_typed Ψ4 [(.inr (.inr (.inl ga))), (.inl (Int32.ofNat 0)), (.inl l), (.inl (Int32.ofNat 0))] [(1, 61, 0), (0, 2147483648, 2147483648), (0, 2147483648, 2147483747), (0, 2147483648, 2147483648)] := ⟨⟨ga, rfl, (hq' hJ4).2.2.2.2⟩, ⟨_, rfl, by decide, by decide⟩, ⟨l, rfl, hbl.1, hbl.2⟩, ⟨_, rfl, by decide, by decide⟩, trivial⟩
  refine zy_call (tj_KS1_le (by decide) te_p554) (n := 4) (av := [(.inr (.inr (.inl ga))), (.inl (Int32.ofNat 0)), (.inl l), (.inl (Int32.ofNat 0))]) (st := []) rfl rfl (by decide) hls4 rfl hJ4 ty216 (zy_nopre ty216) (by decide +kernel) (by decide +kernel) ?_
  intro r cy Ψ5 o hW5 hle5 hfr5 hls5 ho hto5 hro hho
  obtain ⟨v5, hr⟩ := zy_retI (by decide +kernel) ho hro
  rw [hr]
  have hJ5 : J Ψ5 r.2 (mc4 + cy.1) (ms4 + cy.2) := hW5
  have hI5 := tm_IN_fr hJ4.1 (hq' hJ4).1 hI4 hfr5 (by decide +kernel)
  have hG5 := tm_GL_fr (hq' hJ4).2.2.2.2 hG4 hfr5 (by decide +kernel)
  clear hro hho ho hto5 hW5 hfr5 hr hJ4 hI4 hG4 hls4 n0 q2 q4 q6 q8 q9 q10 qx
  clear fs4
  generalize r.2 = w5 at hJ5 hls5 hI5 hG5 ⊢
  generalize mc4 + cy.1 = mc5 at hJ5 ⊢
  generalize ms4 + cy.2 = ms5 at hJ5 ⊢
  show WP (57, [(3, (.inl l)), (0, (.inr (.inr (.inl x)))), (1, (.inl p)), (2, (.inl n))], [(.inl v5)], w5, mc5, ms5)
  refine zy_j0 rfl (fun _ => h82 Ψ5 w5 mc5 ms5 _ l hJ5 hI5 hG5 hls5 rfl rfl hbl.1 hbl.2) (fun _ => ?_)
  obtain ⟨fs5, n0, q2, q4, q6, q8, q9, q10, qx⟩ := hX hJ5
  refine zy_la (k := 0) rfl rfl (Or.inl ⟨_, rfl⟩) ?_
  refine zy_get rfl n0 q8 ?_
  refine zy_la (k := 0) rfl rfl (Or.inl ⟨_, rfl⟩) ?_
  refine zy_get rfl n0 q6 ?_
  have ty231 : tj_typed Ψ5 [(.inr (.inr (.inl ga))), (.inr (.inr (.inl ly)))] [(1, 61, 0), (1, 42, 0)] := ⟨⟨ga, rfl, (hq' hJ5).2.2.2.2⟩, ⟨ly, rfl, (hq' hJ5).2.2.2.1⟩, trivial⟩
  refine zy_call (tj_KS1_le (by decide) te_p384) (n := 2) (av := [(.inr (.inr (.inl ga))), (.inr (.inr (.inl ly)))]) (st := []) rfl rfl (by decide) hls5 rfl hJ5 ty231 (zy_nopre ty231) (by decide +kernel) (by decide +kernel) ?_
  intro r cy Ψ6 o hW6 hle6 hfr6 hls6 ho hto6 hro hho
  rw [zy_retN (by decide +kernel) ho hro]
  have hJ6 : J Ψ6 r.2 (mc5 + cy.1) (ms5 + cy.2) := hW6
  have hI6 := tm_IN_fr hJ5.1 (hq' hJ5).1 hI5 hfr6 (by decide +kernel)
  clear hro hho ho hto6 hW6 hfr6 hJ5 hI5 hG5 hls5 n0 q2 q4 q6 q8 q9 q10 qx
  clear fs5
  generalize r.2 = w6 at hJ6 hls6 hI6 ⊢
  generalize mc5 + cy.1 = mc6 at hJ6 ⊢
  generalize ms5 + cy.2 = ms6 at hJ6 ⊢
  show WP (71, [(3, (.inl l)), (0, (.inr (.inr (.inl x)))), (1, (.inl p)), (2, (.inl n))], [], w6, mc6, ms6)
  obtain ⟨fs6, n0, q2, q4, q6, q8, q9, q10, qx⟩ := hX hJ6
  refine zy_la (k := 0) rfl rfl (Or.inl ⟨_, rfl⟩) ?_
  refine zy_get rfl n0 q8 ?_
  refine zy_ci (n := 1) (c := 0) rfl ?_
  refine zy_li (k := 3) rfl rfl ?_
  have ty225 : tj_typed Ψ6 [(.inr (.inr (.inl ga))), (.inl (Int32.ofNat 0)), (.inl l)] [(1, 61, 0), (0, 2147483648, 2147483668), (0, 0, 4294967295)] := ⟨⟨ga, rfl, (hq' hJ6).2.2.2.2⟩, ⟨_, rfl, by decide, by decide⟩, ⟨l, rfl, Nat.zero_le _, by omega⟩, trivial⟩
  refine zy_call (tj_KS1_le (by decide) te_p531) (n := 3) (av := [(.inr (.inr (.inl ga))), (.inl (Int32.ofNat 0)), (.inl l)]) (st := []) rfl rfl (by decide) hls6 rfl hJ6 ty225 (zy_nopre ty225) (by decide +kernel) (by decide +kernel) ?_
  intro r cy Ψ7 o hW7 hle7 hfr7 hls7 ho hto7 hro hho
  have hr : ∃ xx, r.1 = some (.inr (.inl xx)) := by
    have e := List.mem_singleton.mp ho
    subst e
    obtain ⟨v, e1, xx, e2⟩ := hro
    exact ⟨xx, by rw [e1, e2]⟩
  obtain ⟨xx, hr⟩ := hr
  rw [hr]
  refine zy_l2i rfl ?_
  exact hret rfl hW7 (tm_IN_fr hJ6.1 (hq' hJ6).1 hI6 hfr7 (by decide +kernel))
