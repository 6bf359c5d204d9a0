/-! by hand: History.keepAct, out of keepAt -/
theorem zy_rem {K : zx_K} {X : zx_X} {cap : Nat × Nat} {tab : Nat → Option zx_Q} {Q : zx_S → Prop} {pc mc ms : Nat} {ls : List (Nat × zx_V)} {st : List zx_V} {w : List zx_E} {x y : Int32} (ht : tab pc = some zx_o_irem) (hy : y ≠ 0) (kk : zx_wp K X cap tab Q (pc + 1, ls, (.inl (x - x / y * y)) :: st, w, mc, ms)) : zx_wp K X cap tab Q (pc, ls, (.inl y) :: (.inl x) :: st, w, mc, ms) := by
  refine zx_wp_pure (μ := (pc + 1, ls, (.inl (x - x / y * y)) :: st, w, mc, ms)) ht ?_ kk
  show zx_bd (fun x y => x - x / y * y) _ = _
  simp only [zx_bd, decide_eq_false hy]
theorem zy_goto {K : zx_K} {X : zx_X} {cap : Nat × Nat} {tab : Nat → Option zx_Q} {Q : zx_S → Prop} {pc mc ms t : Nat} {ls : List (Nat × zx_V)} {st : List zx_V} {w : List zx_E} (ht : tab pc = some (zx_gg t)) (kk : zx_wp K X cap tab Q (t, ls, st, w, mc, ms)) : zx_wp K X cap tab Q (pc, ls, st, w, mc, ms) := zx_wp_pure (μ := (t, ls, st, w, mc, ms)) ht rfl kk
/-- what a remainder by 41 is -/
theorem te_r41 {x : Int32} (h : 2147483648 ≤ zx_b x) : 2147483648 ≤ zx_b (x - x / Int32.ofNat 41 * Int32.ofNat 41) ∧ zx_b (x - x / Int32.ofNat 41 * Int32.ofNat 41) ≤ 2147483688 := by
  have h1 : zx_b (Int32.ofNat 41) = 2147483689 := by decide
  have q := tj_b_rem (x := x) (y := Int32.ofNat 41) (by omega)
  have q2 := q.2 h
  have q1 := q.1.1
  omega
/-- a history with its counters, anew -/
theorem te_histWW {cap : Nat × Nat} {E : tj_Ef} {Ψ0 Ψ : List Nat} {w0 w : List zx_E} {mc ms : Nat} (h : tj_W tj_Lam cap E Ψ0 w0 Ψ w mc ms) {q : Nat} {fs fs2 : List zx_V} {c a b : Int32} (hq : Ψ[q]? = some 53) (hf : w[q]? = some (.inl (2, fs))) (hl : fs2.length = fs.length) (g3 : fs2[3]? = some (.inl c)) (g4 : fs2[4]? = some (.inl a)) (g5 : fs2[5]? = some (.inl b)) (go : ∀ k, k ≠ 3 → k ≠ 4 → k ≠ 5 → fs2[k]? = fs[k]?) (hc : 2147483648 ≤ zx_b c) (hc2 : zx_b c ≤ 2147483688) (ha : 2147483648 ≤ zx_b a) (hb : 2147483648 ≤ zx_b b) (hab : zx_b a + zx_b b ≤ 4294967336) (h3 : tj_h2 53 3 E.1 = true) (h4 : tj_h2 53 4 E.1 = true) (h5 : tj_h2 53 5 E.1 = true) : tj_W tj_Lam cap E Ψ0 w0 Ψ (w.set q (.inl (2, fs2))) mc ms := by
  have hd : ∃ fts, tj_Lam[53]? = some (.inl (2, 1, fts)) ∧ fts.length = 6 ∧ fts[3]? = some (0, 2147483648, 2147483688) ∧ fts[4]? = some (0, 2147483648, 2147483688) ∧ fts[5]? = some (0, 2147483648, 2147483688) := ⟨_, rfl, rfl, rfl, rfl, rfl⟩
  obtain ⟨fts, hd, hl6, t3, t4, t5⟩ := hd
  obtain ⟨fs', hf', hlen, -, hty⟩ := tj_obj h.1 hq hd
  rw [hf] at hf'
  cases hf'
  refine tj_W_obj h hq hd hf (hl.trans hlen) (fun k t v hk hv => ?_) ⟨a, b, g4, g5, hab⟩ (by decide) (fun k hk => ?_)
  · by_cases e3 : k = 3
    · subst e3
      rw [t3] at hk
      rw [g3] at hv
      cases hk
      cases hv
      exact ⟨c, rfl, hc, hc2⟩
    · by_cases e4 : k = 4
      · subst e4
        rw [t4] at hk
        rw [g4] at hv
        cases hk
        cases hv
        exact ⟨a, rfl, ha, by omega⟩
      · by_cases e5 : k = 5
        · subst e5
          rw [t5] at hk
          rw [g5] at hv
          cases hk
          cases hv
          exact ⟨b, rfl, hb, by omega⟩
        · rw [go k e3 e4 e5] at hv
          obtain ⟨v', h1, h2⟩ := hty k t hk
          rw [h1] at hv
          cases hv
          exact h2
  · exact go k (fun e => by rw [e, h3] at hk; cases hk) (fun e => by rw [e, h4] at hk; cases hk) (fun e => by rw [e, h5] at hk; cases hk)
theorem te_hist3 {Ψ : List Nat} {w : List zx_E} (hw : tj_wt tj_Lam Ψ w) {q : Nat} (hq : Ψ[q]? = some 53) {fs : List zx_V} (hf : w[q]? = some (.inl (2, fs))) : ∃ c, fs[3]? = some (.inl c) ∧ 2147483648 ≤ zx_b c ∧ zx_b c ≤ 2147483688 := by
  have hd : ∃ fts, tj_Lam[53]? = some (.inl (2, 1, fts)) ∧ fts[3]? = some (0, 2147483648, 2147483688) := ⟨_, rfl, rfl⟩
  obtain ⟨fts, hd, t3⟩ := hd
  obtain ⟨fs', hf', -, -, hty⟩ := tj_obj hw hq hd
  rw [hf] at hf'
  cases hf'
  obtain ⟨v, e, ⟨c, ec, b1, b2⟩⟩ := hty 3 _ t3
  subst ec
  exact ⟨c, e, b1, b2⟩
set_option maxRecDepth 20000 in
theorem te_b1 {d : Nat} (hk : tj_KS1 (zx_Cl zx_mt zx_rc zx_mx' d) tj_Lam te_k) : tj_KS1 (zx_Cl zx_mt zx_rc zx_mx' (d + 1)) tj_Lam te_h1 := by
  refine zy_method (dt := zx_d_X2_keepAct) (by rw [← zx_q_X2_keepAct]; rfl) (by decide +kernel) (by decide +kernel) ?_
  intro Ψ av w hw hty _
  match av, hty with
  | [v0, v1], ⟨⟨q, hv0, hq⟩, ⟨p, hv1, hp⟩, _⟩ =>
    subst hv0
    subst hv1
    obtain ⟨fs, x, y, hf, hlen, h4, h5, bx, b_y, hs⟩ := te_hist hw hq
    obtain ⟨c, h3, c1, c2⟩ := te_hist3 hw hq hf
    have hW : tj_W tj_Lam (tj_P tj_c1 w, tj_P tj_c2 w) te_h1.2.2.1 Ψ w Ψ w 0 0 := ⟨hw, ⟨by show 0 + _ ≤ _; omega, by show 0 + _ ≤ _; omega⟩, tj_le_rf, tj_fr_rf⟩
    have hlw : q < w.length := (List.getElem?_eq_some_iff.mp hf).1
    have hpw : p < w.length := by rw [← hw.1]; exact (List.getElem?_eq_some_iff.mp hp).1
    have z40 : zx_b (Int32.ofNat 40) = 2147483688 := by decide
    have z0 : zx_b (Int32.ofNat 0) = 2147483648 := by decide
    have z1 : zx_b (Int32.ofNat 1) = 2147483649 := by decide
    have cont : ∀ (fs1 : List zx_V) (c' a' : Int32), fs1.length = 6 → fs1[3]? = some (.inl c') → fs1[4]? = some (.inl a') → (∀ k, k ≠ 3 → k ≠ 4 → fs1[k]? = fs[k]?) → 2147483648 ≤ zx_b c' → zx_b c' ≤ 2147483688 → 2147483648 ≤ zx_b a' → zx_b a' ≤ 2147483688 → zx_wp (zx_Cl zx_mt zx_rc zx_mx' d) none (tj_P tj_c1 w, tj_P tj_c2 w) (zx_find (zx_cT zx_d_X2_keepAct)) (tj_Post tj_Lam te_h1.2.2.1 Ψ w zx_d_X2_keepAct te_h1.2.2.2.1 [(.inr (.inr (.inl q))), (.inr (.inr (.inl p)))]) (35, [(0, (.inr (.inr (.inl q)))), (1, (.inr (.inr (.inl p))))], [], w.set q (.inl (2, fs1)), 0, 0) := by
      intro fs1 c' a' l1 f3 f4 fo k1 k2 k3 k4
      refine zy_la (k := 0) rfl rfl (Or.inl ⟨q, rfl⟩) ?_
      refine zy_ci rfl ?_
      refine zy_put (fs := fs1) rfl (List.getElem?_set_self hlw) (by omega) rfl ?_
      rw [List.set_set]
      have g3 : (fs1.set 5 (.inl (Int32.ofNat 0)))[3]? = some (.inl c') := by rw [List.getElem?_set_ne (by decide)]; exact f3
      have g4 : (fs1.set 5 (.inl (Int32.ofNat 0)))[4]? = some (.inl a') := by rw [List.getElem?_set_ne (by decide)]; exact f4
      have g5 : (fs1.set 5 (.inl (Int32.ofNat 0)))[5]? = some (.inl (Int32.ofNat 0)) := List.getElem?_set_self (by omega)
      have hW2 := te_histWW (fs2 := fs1.set 5 (.inl (Int32.ofNat 0))) hW hq hf (by rw [List.length_set, l1, hlen]) g3 g4 g5 (fun k e3 e4 e5 => by rw [List.getElem?_set_ne (Ne.symm e5)]; exact fo k e3 e4) k1 k2 k3 (by omega) (by omega) (by decide +kernel) (by decide +kernel) (by decide +kernel)
      refine zy_la (k := 0) rfl rfl (Or.inl ⟨q, rfl⟩) ?_
      refine zy_la (k := 0) rfl rfl (Or.inl ⟨q, rfl⟩) ?_
      refine zy_get rfl (List.getElem?_set_self hlw) g3 ?_
      refine zy_la (k := 0) rfl rfl (Or.inl ⟨q, rfl⟩) ?_
      refine zy_get rfl (List.getElem?_set_self hlw) g4 ?_
      refine zy_add rfl ?_
      refine zy_ci rfl ?_
      refine zy_rem rfl (by decide) ?_
      have hadd : 2147483648 ≤ zx_b (c' + a') := by
        have := tj_b_add c' a'
        omega
      obtain ⟨r1, r2⟩ := te_r41 hadd
      refine zy_la (k := 1) rfl rfl (Or.inl ⟨p, rfl⟩) ?_
      have hls : zx_limP (w.set q (.inl (2, (fs1.set 5 (.inl (Int32.ofNat 0)))))).length [(0, (.inr (.inr (.inl q)))), (1, (.inr (.inr (.inl p))))] = true := by
        rw [List.length_set]
        show (Nat.blt q w.length && (Nat.blt p w.length && true)) = true
        rw [show Nat.blt q w.length = true from Nat.ble_eq_true_of_le hlw, show Nat.blt p w.length = true from Nat.ble_eq_true_of_le hpw]
        rfl
      have htyk : tj_typed Ψ [(.inr (.inr (.inl q))), (.inl (c' + a' - (c' + a') / Int32.ofNat 41 * Int32.ofNat 41)), (.inr (.inr (.inl p)))] [(1, 53, 0), (0, 2147483648, 2147483688), (1, 33, 0)] := ⟨⟨q, rfl, hq⟩, ⟨_, rfl, r1, r2⟩, ⟨p, rfl, hp⟩, trivial⟩
      refine zy_call (C := te_k) hk (n := 3) (av := [(.inr (.inr (.inl q))), (.inl (c' + a' - (c' + a') / Int32.ofNat 41 * Int32.ofNat 41)), (.inr (.inr (.inl p)))]) (st := []) rfl rfl (by decide) hls rfl hW2 htyk (zy_nopre htyk) (by decide +kernel) (by decide +kernel) ?_
      intro r cy Ψ' o hW3 hle hfr hls3 ho hto hro hho
      have hty3 : tj_typed Ψ' [(.inr (.inr (.inl q))), (.inr (.inr (.inl p)))] [(1, 53, 0), (1, 33, 0)] := ⟨⟨q, rfl, hle _ _ hq⟩, ⟨p, rfl, hle _ _ hp⟩, trivial⟩
      have e := List.mem_singleton.mp ho
      subst e
      have hro : r.1 = none := hro
      rw [hro]
      exact te_end0 rfl hW3 hty3
    show zx_wp _ none _ _ _ (0, [(0, (.inr (.inr (.inl q)))), (1, (.inr (.inr (.inl p))))], [], w, 0, 0)
    refine zy_la (k := 0) rfl rfl (Or.inl ⟨q, rfl⟩) ?_
    refine zy_get rfl hf h4 ?_
    refine zy_ci rfl ?_
    refine zy_jt rfl (fun hlt => ?_) (fun hge => ?_)
    · have hlt : zx_b x < zx_b (Int32.ofNat 40) := hlt
      refine zy_la (k := 0) rfl rfl (Or.inl ⟨q, rfl⟩) ?_
      refine zy_dup rfl ?_
      refine zy_get rfl hf h4 ?_
      refine zy_ci rfl ?_
      refine zy_add rfl ?_
      refine zy_put rfl hf (by omega) rfl ?_
      have e1 : zx_b (x + Int32.ofNat 1) = zx_b x + 1 := by
        have := tj_b_add x (Int32.ofNat 1)
        omega
      exact cont (fs.set 4 (.inl (x + Int32.ofNat 1))) c (x + Int32.ofNat 1) (by rw [List.length_set]; exact hlen) (by rw [List.getElem?_set_ne (by decide)]; exact h3) (List.getElem?_set_self (by omega)) (fun k _ e4 => List.getElem?_set_ne (Ne.symm e4)) c1 c2 (by omega) (by omega)
    · have hge : zx_b (Int32.ofNat 40) ≤ zx_b x := hge
      refine zy_la (k := 0) rfl rfl (Or.inl ⟨q, rfl⟩) ?_
      refine zy_la (k := 0) rfl rfl (Or.inl ⟨q, rfl⟩) ?_
      refine zy_get rfl hf h3 ?_
      refine zy_ci rfl ?_
      refine zy_add rfl ?_
      refine zy_ci rfl ?_
      refine zy_rem rfl (by decide) ?_
      refine zy_put rfl hf (by omega) rfl ?_
      refine zy_goto (t := 35) rfl ?_
      have hadd : 2147483648 ≤ zx_b (c + Int32.ofNat 1) := by
        have := tj_b_add c (Int32.ofNat 1)
        omega
      obtain ⟨r1, r2⟩ := te_r41 hadd
      exact cont (fs.set 3 _) _ x (by rw [List.length_set]; exact hlen) (List.getElem?_set_self (by omega)) (by rw [List.getElem?_set_ne (by decide)]; exact h4) (fun k e3 _ => List.getElem?_set_ne (Ne.symm e3)) r1 r2 bx (by omega)
