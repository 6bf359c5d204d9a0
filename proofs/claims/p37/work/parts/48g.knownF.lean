/-! by hand: Sums.isKnown for the few sums, too -/
set_option maxRecDepth 20000 in
theorem tg_knownF : tj_KS1 (zx_Cl zx_mt zx_rc zx_mx' 2) tj_Lam (337, [(1, 83, 0), (0, 2147483648, 2147483668), (0, 0, 4294967295)], ([], []), [([(1, 83, 0), (0, 2147483648, 2147483668), (0, 0, 4294967295)], some (0, 2147483648, 2147483648), ([.inr (0, 1), .inr (4, 9)], [(1, 61, 0), (0, 2147483648, 2147483668)], [(0, .inr 0, .inl 1, .inr 4), (0, .inr 4, .inl 9, .inr 5), (9932525098444199596950291534, .inr 1, .inr 5, .inl 0)])), ([(1, 83, 0), (0, 2147483648, 2147483668), (0, 0, 4294967295)], some (0, 2147483649, 2147483649), ([], [], [(108, .inr 0, .inr 1, .inr 2)]))], ([.inr (0, 1), .inr (3, 9)], [(1, 61, 0), (0, 2147483648, 2147483668)], [(0, .inr 0, .inl 1, .inr 3), (0, .inr 3, .inl 9, .inr 4), (107, .inr 0, .inr 0, .inr 0), (9932525098444199596950291535, .inr 1, .inr 4, .inl 0)])) := by
  refine zy_method (d := 1) (dt := zx_d_X9_isKnown) (by rw [← zx_q_X9_isKnown]; rfl) (by decide +kernel) (by decide +kernel) ?_
  intro Ψ av w hw hty hp
  match av, hty with
  | [v0, v1, v2], ⟨⟨q, hv0, hq⟩, ⟨x, hv1, x1, x2⟩, ⟨y, hv2, y1, y2⟩, _⟩ =>
    subst hv0
    subst hv1
    subst hv2
    obtain ⟨ρ, r1, r2, r3⟩ := hp
    have e0 : ρ 0 = (.inr (.inr (.inl q))) := r1 0 _ rfl
    have e1 : ρ 1 = (.inl x) := r1 1 _ rfl
    obtain ⟨g0, eg, hg⟩ : ∃ q', ρ 3 = (.inr (.inr (.inl q'))) ∧ Ψ[q']? = some 61 := r2 3 (1, 61, 0) rfl
    obtain ⟨L, eL, L1, L2⟩ : ∃ L, ρ 4 = (.inl L) ∧ 2147483648 ≤ zx_b L ∧ zx_b L ≤ 2147483668 := r2 4 (0, 2147483648, 2147483668) rfl
    have hd : ∃ fts, tj_Lam[83]? = some (.inl (9, 0, fts)) ∧ fts.length = 17 ∧ fts[6]? = some (1, 78, 0) := ⟨_, rfl, rfl, rfl⟩
    obtain ⟨fts, hd, hl, t6⟩ := hd
    obtain ⟨fs, hf, hlen, -, htyf⟩ := tj_obj hw hq hd
    obtain ⟨v6, h6, ⟨p, e6, hp6⟩⟩ := htyf 6 _ t6
    subst e6
    obtain ⟨c, hc, hcb⟩ := tj_iarr (n := 2100) (s := [(2100, 2147483647, 2147516416)]) hw hp6 rfl (Or.inl rfl)
    have F1 : ∃ q' ci fs', ρ 0 = (.inr (.inr (.inl q'))) ∧ w[q']? = some (.inl (ci, fs')) ∧ fs'[1]? = some (ρ 3) := r3 (0, .inr 0, .inl 1, .inr 3) List.mem_cons_self
    have F2 : ∃ q' ci fs', ρ 3 = (.inr (.inr (.inl q'))) ∧ w[q']? = some (.inl (ci, fs')) ∧ fs'[9]? = some (ρ 4) := r3 (0, .inr 3, .inl 9, .inr 4) (List.mem_cons_of_mem _ List.mem_cons_self)
    have F3 : tj_sm4 (ρ 0) w := r3 (107, .inr 0, .inr 0, .inr 0) (List.mem_cons_of_mem _ (List.mem_cons_of_mem _ List.mem_cons_self))
    have F4 := tl_lin_fd (n := 9932525098444199596950290432) (by decide +kernel) (r3 (9932525098444199596950291535, .inr 1, .inr 4, .inl 0) (List.mem_cons_of_mem _ (List.mem_cons_of_mem _ (List.mem_cons_of_mem _ List.mem_cons_self))))
    obtain ⟨x', L', z', f1, f2, f3, f4⟩ := F4
    have f1 : ρ 1 = (.inl x') := f1
    have f2 : ρ 4 = (.inl L') := f2
    rw [e1] at f1
    cases f1
    rw [eL] at f2
    cases f2
    obtain ⟨n1, n2, n3, n4⟩ := tl_k0
    rw [n1, n2, n3, n4] at f4
    have bx := zx_b_int x
    have bL := zx_b_int L
    have hxL : x.toInt ≤ L.toInt := by omega
    clear f4 n1 n2 n3 n4
    obtain ⟨q1, c1, fs1, a1, a2, a3⟩ := F1
    rw [e0] at a1
    cases a1
    rw [hf] at a2
    cases a2
    rw [eg] at a3
    obtain ⟨q2, c2, fs2, b1, b2, b3⟩ := F2
    rw [eg] at b1
    cases b1
    rw [eL] at b3
    have F3s := F3
    obtain ⟨q3, p3, fs3, L3, s, c3, d1, d2, d3, d4, d5, d6, ⟨d7, d8⟩, d9, d10⟩ := F3
    rw [e0] at d1
    cases d1
    rw [hf] at d2
    cases d2
    rw [a3] at d3
    cases d3
    obtain ⟨fs4, g1, g2⟩ := d4
    rw [b2] at g1
    cases g1
    rw [b3] at g2
    cases g2
    have d6s := d6
    obtain ⟨fs5, p5, k1, k2, k3⟩ := d6
    rw [hf] at k1
    cases k1
    rw [h6] at k2
    cases k2
    rw [hc] at k3
    cases k3
    have hlw : q < w.length := (List.getElem?_eq_some_iff.mp hf).1
    have hpw : p < w.length := (List.getElem?_eq_some_iff.mp hc).1
    obtain ⟨v, hK, m1, m2⟩ := tg_cellK (w := w) (l := y) x1 x2
    have mc := tj_cl_le y.toInt
    have bv := zx_b_int v
    have iv : v.toNatClampNeg = 100 * x.toInt.toNat + tj_cl y.toInt := by
      show v.toInt.toNat = _
      omega
    obtain ⟨hin, -⟩ := tj_in (x := v) (n := 2100) (by omega) (by omega)
    have hj : 100 * x.toInt.toNat + tj_cl y.toInt < 2100 := by omega
    have hcj := hcb _ hj 2147483647 2147516416 (by
      show tj_sel [(2100, 2147483647, 2147516416)] _ = _
      unfold tj_sel
      rw [show Nat.blt (100 * x.toInt.toNat + tj_cl y.toInt) 2100 = true from Nat.ble_eq_true_of_le hj])
    have bc := zx_b_int (c (100 * x.toInt.toNat + tj_cl y.toInt))
    show zx_wp _ none _ _ _ (0, [(0, (.inr (.inr (.inl q)))), (1, (.inl x)), (2, (.inl y))], [], w, 0, 0)
    refine zy_la (k := 0) rfl rfl (Or.inl ⟨q, rfl⟩) ?_
    refine zy_get rfl hf h6 ?_
    refine zy_li (k := 1) rfl rfl ?_
    refine zy_li (k := 2) rfl rfl ?_
    have hls : zx_limP w.length [(0, (.inr (.inr (.inl q)))), (1, (.inl x)), (2, (.inl y))] = true := by
      show (Nat.blt q w.length && true) = true
      rw [show Nat.blt q w.length = true from Nat.ble_eq_true_of_le hlw]
      rfl
    have hst : zx_limL w.length [(.inr (.inr (.inl p)))] = true := by
      show (Nat.blt p w.length && true) = true
      rw [show Nat.blt p w.length = true from Nat.ble_eq_true_of_le hpw]
      rfl
    refine zx_wp_call (a := 0) (n := 2) (y := 217) (g := zx_no) (av := [(.inl x), (.inl y)]) (st' := [(.inr (.inr (.inl p)))]) (cy := (0, 0)) (r := (some (.inl v), w)) rfl rfl (Nat.le_of_ble_eq_true rfl) hls hst (Nat.zero_le _) (Nat.zero_le _) hK ?_
    refine zy_ld rfl hc hin ?_
    rw [iv]
    refine zy_ci (n := 1) (c := 4294967295) rfl ?_
    have hty3 : tj_typed Ψ [(.inr (.inr (.inl q))), (.inl x), (.inl y)] [(1, 83, 0), (0, 2147483648, 2147483668), (0, 0, 4294967295)] := ⟨⟨q, rfl, hq⟩, ⟨x, rfl, x1, x2⟩, ⟨y, rfl, y1, y2⟩, trivial⟩
    refine zy_jt rfl (fun heq => ?_) (fun hne => ?_)
    · have heq : zx_b (c (100 * x.toInt.toNat + tj_cl y.toInt)) = zx_b (Int32.ofNat 4294967295) := heq
      rw [tg_m1] at heq
      have hlt : x.toInt < L.toInt := by
        by_cases e : x.toInt = L.toInt
        · exfalso
          have h9 := d9 (tj_cl y.toInt) (by omega)
          rw [← e] at h9
          omega
        · omega
      refine zy_ci (n := 1) (c := 0) rfl ?_
      have hr : tj_retT Ψ (some (0, 2147483648, 2147483648)) (some (.inl (Int32.ofNat 0))) := ⟨_, rfl, ⟨_, rfl, by decide, by decide⟩⟩
      refine zx_wp_done ⟨(some (.inl (Int32.ofNat 0)), w), Ψ, _, ⟨Nat.le_refl _, Nat.le_refl _, rfl, ⟨_, rfl, Or.inl rfl, rfl⟩⟩, Nat.le_of_eq (Nat.zero_add _), Nat.le_of_eq (Nat.zero_add _), tj_le_rf, hw, tj_fr_rf, List.mem_cons_self, hty3, hr, ?_⟩
      refine ⟨fun k => (([(.inr (.inr (.inl q))), (.inl x), (.inl y), (.inl (Int32.ofNat 0)), (.inr (.inr (.inl g0))), (.inl L)] : List zx_V)[k]?).getD (.inr (.inr (.inr 0))), fun i u hi => ?_, fun j t hj => ?_, fun f hf' => ?_⟩
      · have hi : ([(.inr (.inr (.inl q))), (.inl x), (.inl y), (.inl (Int32.ofNat 0))] : List zx_V)[i]? = some u := hi
        match i, hi with
        | 0, hi => cases hi; rfl
        | 1, hi => cases hi; rfl
        | 2, hi => cases hi; rfl
        | 3, hi => cases hi; rfl
        | i + 4, hi => cases hi
      · match j, hj with
        | 0, hj => cases hj; exact ⟨_, rfl, by decide, by decide⟩
        | 1, hj => cases hj; exact ⟨g0, rfl, hg⟩
        | 2, hj => cases hj; exact ⟨L, rfl, L1, L2⟩
        | j + 3, hj => cases hj
      · rcases List.mem_cons.mp hf' with e | hf'
        · subst e
          exact ⟨q, _, fs, rfl, hf, a3⟩
        · rcases List.mem_cons.mp hf' with e | hf'
          · subst e
            exact ⟨g0, _, _, rfl, b2, b3⟩
          · have e := List.mem_singleton.mp hf'
            subst e
            refine tl_fd_lin (n := 9932525098444199596950290431) (by decide +kernel) ⟨x, L, Int32.ofNat 0, rfl, rfl, rfl, ?_⟩
            rw [tl_k1.1, tl_k1.2.1, tl_k1.2.2.1, tl_k1.2.2.2]
            omega
    · have hne : zx_b (c (100 * x.toInt.toNat + tj_cl y.toInt)) ≠ zx_b (Int32.ofNat 4294967295) := hne
      rw [tg_m1] at hne
      have hpos : 0 ≤ (c (100 * x.toInt.toNat + tj_cl y.toInt)).toInt := by omega
      have hs1 := d10 (100 * x.toInt.toNat + tj_cl y.toInt) hj (by omega) hpos
      refine zy_ci (n := 1) (c := 1) rfl ?_
      refine zy_goto rfl ?_
      have hr : tj_retT Ψ (some (0, 2147483649, 2147483649)) (some (.inl (Int32.ofNat 1))) := ⟨_, rfl, ⟨_, rfl, by decide, by decide⟩⟩
      refine zx_wp_done ⟨(some (.inl (Int32.ofNat 1)), w), Ψ, _, ⟨Nat.le_refl _, Nat.le_refl _, rfl, ⟨_, rfl, Or.inr rfl, rfl⟩⟩, Nat.le_of_eq (Nat.zero_add _), Nat.le_of_eq (Nat.zero_add _), tj_le_rf, hw, tj_fr_rf, List.mem_cons_of_mem _ List.mem_cons_self, hty3, hr, ?_⟩
      refine ⟨fun k => (([(.inr (.inr (.inl q))), (.inl x), (.inl y), (.inl (Int32.ofNat 1))] : List zx_V)[k]?).getD (.inr (.inr (.inr 0))), fun i u hi => ?_, fun j t hj => ?_, fun f hf' => ?_⟩
      · have hi : ([(.inr (.inr (.inl q))), (.inl x), (.inl y), (.inl (Int32.ofNat 1))] : List zx_V)[i]? = some u := hi
        show (([(.inr (.inr (.inl q))), (.inl x), (.inl y), (.inl (Int32.ofNat 1))] : List zx_V)[i]?).getD (.inr (.inr (.inr 0))) = u
        rw [hi]
        rfl
      · match j, hj with
        | 0, hj => cases hj; exact ⟨_, rfl, by decide, by decide⟩
        | j + 1, hj => cases hj
      · have e := List.mem_singleton.mp hf'
        subst e
        exact ⟨q, s, c, x, y, rfl, d5, d6s, rfl, rfl, by omega, by omega, hpos, hs1⟩
