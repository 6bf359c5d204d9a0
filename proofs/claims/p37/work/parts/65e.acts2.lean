/-! by hand: exchangeAct, undo, redo, image, back, next, hush -/
def tr_h_exch : tj_C := (115, [(1, 149, 0)], ([], [139, 140]), [([(1, 149, 0)], none, ([], [], []))], ([], [], []))
set_option maxRecDepth 20000 in
theorem tr_b_exch : tj_KS1 (zx_Cl zx_mt zx_rc zx_mx' 1) tj_Lam tr_h_exch := by
  refine zy_method (d := 0) (dt := zx_d_X12_exchangeAct) (by rw [← zx_q_X12_exchangeAct]; rfl) (by decide +kernel) (by decide +kernel) ?_
  intro Ψ av w hw hty _
  match av, hty with
  | [v0], ⟨⟨q, hv0, hq⟩, _⟩ =>
    subst hv0
    obtain ⟨fs, a, b, c, x, y, k0, kl, k49, k50, k78, ha, hb, hc, k51, k52, bx, hby, hxy⟩ := tr_rows hw hq
    have hqb := tm_ne hq hb (by decide)
    have hqa := tm_ne hq ha (by decide)
    have hab := tm_ne ha hb (by decide)
    have ix := zx_b_int x
    have iy := zx_b_int y
    let WP : zx_S → Prop := fun σ => zx_wp (zx_Cl zx_mt zx_rc zx_mx' 0) none (tj_P tj_c1 w, tj_P tj_c2 w) (zx_find (zx_cT zx_d_X12_exchangeAct)) (tj_Post tj_Lam tr_h_exch.2.2.1 Ψ w zx_d_X12_exchangeAct tr_h_exch.2.2.2.1 [(.inr (.inr (.inl q)))]) σ
    let J : List zx_E → Prop := fun w' => tj_W tj_Lam (tj_P tj_c1 w, tj_P tj_c2 w) tr_h_exch.2.2.1 Ψ w Ψ w' 0 0
    have hA : ∀ {w' : List zx_E}, J w' → ∃ g, w'[a]? = some (.inr (0, 119, .inl g)) ∧ ∀ j, j < 119 → tr_ok 139 j (g j) := fun h => tj_iarr h.1 ha tr_segA (Or.inl rfl)
    have hB : ∀ {w' : List zx_E}, J w' → ∃ g, w'[b]? = some (.inr (0, 4879, .inl g)) ∧ ∀ j, j < 4879 → tr_ok 140 j (g j) := fun h => tj_iarr h.1 hb tr_segW (Or.inl rfl)
    have loop : ∀ (n : Nat) (k : Int32) (w' : List zx_E) (ls : List (Nat × zx_V)), k.toInt + n = 119 → 0 ≤ k.toInt → J w' → w'[q]? = some (.inl (12, fs)) → zx_look 0 ls = some (.inr (.inr (.inl q))) → zx_look 1 ls = some (.inl k) → WP (2, ls, [], w', 0, 0) := by
      intro n
      induction n with
      | zero =>
        intro k w' ls hn hk0 hJ m0 l0 l1
        have bk := zx_b_int k
        refine zy_li rfl l1 ?_
        refine zy_ci (n := 2) (c := 119) rfl ?_
        refine zy_jt rfl (fun _ => ?_) (fun h => ?_)
        · exact tr_retN ⟨_, _, _, rfl⟩ hJ ⟨⟨q, rfl, hq⟩, trivial⟩
        · have h : zx_b k < zx_b (Int32.ofNat 119) := h
          rw [show zx_b (Int32.ofNat 119) = 2147483767 by decide] at h
          omega
      | succ n ih =>
        intro k w' ls hn hk0 hJ m0 l0 l1
        have bk := zx_b_int k
        refine zy_li rfl l1 ?_
        refine zy_ci (n := 2) (c := 119) rfl ?_
        refine zy_jt rfl (fun h => ?_) (fun _ => ?_)
        · have h : zx_b (Int32.ofNat 119) ≤ zx_b k := h
          rw [show zx_b (Int32.ofNat 119) = 2147483767 by decide] at h
          omega
        · obtain ⟨gA, hgA, tA⟩ := hA hJ
          obtain ⟨gB, hgB, tB⟩ := hB hJ
          have em : (Int32.ofNat 119 * x).toInt = 119 * x.toInt := tr_mul (c := 119) (by decide) rfl (by omega) (by omega)
          have ei : (Int32.ofNat 119 * x + k).toInt = 119 * x.toInt + k.toInt := by rw [tr_add (by omega) (by omega), em]
          have ein : (Int32.ofNat 119 * x + k).toNatClampNeg = 119 * x.toInt.toNat + k.toNatClampNeg := by
            show (Int32.ofNat 119 * x + k).toInt.toNat = 119 * x.toInt.toNat + k.toInt.toNat
            omega
          have ekn : k.toNatClampNeg = k.toInt.toNat := rfl
          refine zy_la rfl l0 (Or.inl ⟨_, rfl⟩) ?_
          refine zy_get rfl m0 k50 ?_
          refine zy_ci (n := 2) (c := 119) rfl ?_
          refine zy_la rfl l0 (Or.inl ⟨_, rfl⟩) ?_
          refine zy_get rfl m0 k51 ?_
          refine zy_mul rfl ?_
          refine zy_li rfl l1 ?_
          refine zy_add rfl ?_
          refine zy_ld rfl hgB (tr_in (by omega) (by omega)) ?_
          have hv := tr_okWA (tB (Int32.ofNat 119 * x + k).toNatClampNeg (by omega)) (by omega) (show (Int32.ofNat 119 * x + k).toNatClampNeg % 119 = k.toNatClampNeg by omega)
          generalize gB (Int32.ofNat 119 * x + k).toNatClampNeg = v at hv ⊢
          refine zy_si (k := 2) rfl ?_
          have l0' : zx_look 0 (zx_put 2 (.inl v) ls) = some (.inr (.inr (.inl q))) := zy_look_ne (by decide) rfl l0
          have l1' : zx_look 1 (zx_put 2 (.inl v) ls) = some (.inl k) := zy_look_ne (by decide) rfl l1
          have l2' : zx_look 2 (zx_put 2 (.inl v) ls) = some (.inl v) := zy_look_put
          generalize zx_put 2 (.inl v) ls = ls2 at l0' l1' l2' ⊢
          refine zy_la rfl l0' (Or.inl ⟨_, rfl⟩) ?_
          refine zy_get rfl m0 k50 ?_
          refine zy_ci (n := 2) (c := 119) rfl ?_
          refine zy_la rfl l0' (Or.inl ⟨_, rfl⟩) ?_
          refine zy_get rfl m0 k51 ?_
          refine zy_mul rfl ?_
          refine zy_li rfl l1' ?_
          refine zy_add rfl ?_
          refine zy_la rfl l0' (Or.inl ⟨_, rfl⟩) ?_
          refine zy_get rfl m0 k49 ?_
          refine zy_li rfl l1' ?_
          refine zy_ld rfl hgA (tr_in hk0 (by omega)) ?_
          refine zy_ai rfl hgB (tr_in (by omega) (by omega)) ?_
          have hJ2 : J (w'.set b (.inr (0, 4879, .inl (upd gB (Int32.ofNat 119 * x + k).toNatClampNeg (gA k.toNatClampNeg))))) := tr_setA (i := (Int32.ofNat 119 * x + k).toNatClampNeg) hJ hb tr_segW hgB (tr_okAW (tA k.toNatClampNeg (by omega)) (by omega) (by omega)) (by decide +kernel)
          have m2 : (w'.set b (.inr (0, 4879, .inl (upd gB (Int32.ofNat 119 * x + k).toNatClampNeg (gA k.toNatClampNeg)))))[q]? = some (.inl (12, fs)) := by rw [List.getElem?_set_ne (Ne.symm hqb)]; exact m0
          have hgA2 : (w'.set b (.inr (0, 4879, .inl (upd gB (Int32.ofNat 119 * x + k).toNatClampNeg (gA k.toNatClampNeg)))))[a]? = some (.inr (0, 119, .inl gA)) := by rw [List.getElem?_set_ne (Ne.symm hab)]; exact hgA
          generalize w'.set b (.inr (0, 4879, .inl (upd gB (Int32.ofNat 119 * x + k).toNatClampNeg (gA k.toNatClampNeg)))) = w2 at hJ2 m2 hgA2 ⊢
          refine zy_la rfl l0' (Or.inl ⟨_, rfl⟩) ?_
          refine zy_get rfl m2 k49 ?_
          refine zy_li rfl l1' ?_
          refine zy_li rfl l2' ?_
          refine zy_ai rfl hgA2 (tr_in hk0 (by omega)) ?_
          have hJ3 := tr_setA (i := k.toNatClampNeg) hJ2 ha tr_segA hgA2 hv (by decide +kernel)
          refine zy_ik (k := 1) (n := 1) rfl l1' ?_
          refine zy_goto rfl ?_
          have ek : (k + Int32.ofNat 1).toInt = k.toInt + 1 := tm_inc tm_k1 (by omega)
          exact ih _ _ _ (by omega) (by omega) hJ3 (by rw [List.getElem?_set_ne (Ne.symm hqa)]; exact m2) (zy_look_ne (by decide) rfl l0') zy_look_put
    show WP (0, [(0, (.inr (.inr (.inl q))))], [], w, 0, 0)
    refine zy_ci (n := 1) (c := 0) rfl ?_
    refine zy_si (k := 1) rfl ?_
    have e0 : (Int32.ofNat 0).toInt = 0 := by decide
    exact loop 119 _ w _ (by omega) (by omega) (tm_W0 hw) k0 rfl rfl
/-- a boolean given back -/
theorem tr_retB {K : zx_K} {cap : Nat × Nat} {dt : List (List (Nat × zx_I))} {E : tj_Ef} {Ψ Ψ' : List Nat} {w w' : List zx_E} {pc mc ms : Nat} {ls : List (Nat × zx_V)} {av : List zx_V} {ts : List tj_y} {x : Int32} (ht : zx_find (zx_cT dt) pc = some zx_r5) (hW : tj_W tj_Lam (tj_P tj_c1 w, tj_P tj_c2 w) E Ψ w Ψ' w' mc ms) (hx : x = Int32.ofNat 0 ∨ x = Int32.ofNat 1) (hty : tj_typed Ψ' av ts) : zx_wp K none cap (zx_find (zx_cT dt)) (tj_Post tj_Lam E Ψ w dt [(ts, some (0, 2147483648, 2147483649), ([], [], []))] av) (pc, ls, [(.inl x)], w', mc, ms) := by
  refine te_end ht hW ?_ ?_ hty
  · rcases hx with e | e <;> rw [e] <;> decide
  · rcases hx with e | e <;> rw [e] <;> decide
set_option maxRecDepth 20000 in
theorem tr_b_undo0 : tj_KS1 (zx_Cl zx_mt zx_rc zx_mx' 3) tj_Lam tr_h_undo0 := by
  refine zy_method (d := 2) (dt := zx_d_X12_undo) (by rw [← zx_q_X12_undo]; rfl) (by decide +kernel) (by decide +kernel) ?_
  intro Ψ av w hw hty _
  match av, hty with
  | [v0], ⟨⟨q, hv0, hq⟩, _⟩ =>
    subst hv0
    obtain ⟨fs, a, b, c, x, y, k0, kl, k49, k50, k78, ha, hb, hc, k51, k52, bx, hby, hxy⟩ := tr_rows hw hq
    have ix := zx_b_int x
    have iy := zx_b_int y
    have hlq : q < w.length := (List.getElem?_eq_some_iff.mp k0).1
    have l51 : 51 < fs.length := (List.getElem?_eq_some_iff.mp k51).1
    have l52 : 52 < fs.length := (List.getElem?_eq_some_iff.mp k52).1
    have hW0 := tm_W0 (E := tr_h_undo0.2.2.1) hw
    show zx_wp _ none _ _ _ (0, [(0, (.inr (.inr (.inl q))))], [], w, 0, 0)
    refine zy_la (k := 0) rfl rfl (Or.inl ⟨_, rfl⟩) ?_
    refine zy_get rfl k0 k51 ?_
    refine zy_j0 rfl (fun hne => ?_) (fun _ => ?_)
    · have hne : zx_b x ≠ 2147483648 := hne
      refine zy_la (k := 0) rfl rfl (Or.inl ⟨_, rfl⟩) ?_
      refine zy_dup rfl ?_
      refine zy_get rfl k0 k51 ?_
      refine zy_ci (n := 1) (c := 1) rfl ?_
      refine zy_sub rfl ?_
      refine zy_put rfl k0 l51 rfl ?_
      have ez : (x - Int32.ofNat 1).toInt = x.toInt - 1 := tm_sub1 tm_k1 (by omega)
      have bz1 := zx_b_int (x - Int32.ofNat 1)
      have ey : (y + Int32.ofNat 1).toInt = y.toInt + 1 := tm_inc tm_k1 (by omega)
      have by1 := zx_b_int (y + Int32.ofNat 1)
      refine zy_la (k := 0) rfl rfl (Or.inl ⟨_, rfl⟩) ?_
      refine zy_dup rfl ?_
      refine zy_get rfl (List.getElem?_set_self hlq) (v := (.inl y)) (by rw [List.getElem?_set_ne (by decide)]; exact k52) ?_
      refine zy_ci (n := 1) (c := 1) rfl ?_
      refine zy_add rfl ?_
      refine zy_put rfl (List.getElem?_set_self hlq) (by rw [List.length_set]; exact l52) rfl ?_
      rw [List.set_set]
      have hJ2 := tr_objW (a := x - Int32.ofNat 1) (b := y + Int32.ofNat 1) (fs2 := (fs.set 51 (.inl (x - Int32.ofNat 1))).set 52 (.inl (y + Int32.ofNat 1))) hW0 hq k0 (by rw [List.length_set, List.length_set]) (by rw [List.getElem?_set_ne (by decide), List.getElem?_set_self l51]) (List.getElem?_set_self (by rw [List.length_set]; exact l52)) (fun j j1 j2 => by rw [List.getElem?_set_ne (Ne.symm j2), List.getElem?_set_ne (Ne.symm j1)]) (by omega) (by omega) (by omega) (by decide +kernel) (by decide +kernel)
      have hls : zx_limP (w.set q (.inl (12, ((fs.set 51 (.inl (x - Int32.ofNat 1))).set 52 (.inl (y + Int32.ofNat 1)))))).length [(0, (.inr (.inr (.inl q))))] = true := by
        rw [List.length_set]
        exact tm_lim hlq rfl
      have ty : tj_typed Ψ [(.inr (.inr (.inl q)))] [(1, 149, 0)] := ⟨⟨q, rfl, hq⟩, trivial⟩
      refine zy_la (k := 0) rfl rfl (Or.inl ⟨_, rfl⟩) ?_
      refine zy_call (tj_KS1_le (by decide) tr_b_exch) (n := 1) (av := [(.inr (.inr (.inl q)))]) (st := []) rfl rfl (by decide) hls rfl hJ2 ty (zy_nopre ty) (by decide +kernel) (by decide +kernel) ?_
      intro r cy Ψ1 o hW1 hle1 hfr1 hls1 ho hto hro hho
      rw [zy_retN (by decide +kernel) ho hro]
      refine zy_ci (n := 1) (c := 1) rfl ?_
      exact tr_retB rfl hW1 (Or.inr rfl) ⟨⟨q, rfl, hle1 _ _ hq⟩, trivial⟩
    · refine zy_ci (n := 1) (c := 0) rfl ?_
      exact tr_retB rfl hW0 (Or.inl rfl) ⟨⟨q, rfl, hq⟩, trivial⟩
set_option maxRecDepth 20000 in
theorem tr_b_redo0 : tj_KS1 (zx_Cl zx_mt zx_rc zx_mx' 3) tj_Lam tr_h_redo0 := by
  refine zy_method (d := 2) (dt := zx_d_X12_redo) (by rw [← zx_q_X12_redo]; rfl) (by decide +kernel) (by decide +kernel) ?_
  intro Ψ av w hw hty _
  match av, hty with
  | [v0], ⟨⟨q, hv0, hq⟩, _⟩ =>
    subst hv0
    obtain ⟨fs, a, b, c, x, y, k0, kl, k49, k50, k78, ha, hb, hc, k51, k52, bx, hby, hxy⟩ := tr_rows hw hq
    have hlq : q < w.length := (List.getElem?_eq_some_iff.mp k0).1
    have hW0 := tm_W0 (E := tr_h_redo0.2.2.1) hw
    show zx_wp _ none _ _ _ (0, [(0, (.inr (.inr (.inl q))))], [], w, 0, 0)
    refine zy_la (k := 0) rfl rfl (Or.inl ⟨_, rfl⟩) ?_
    refine zy_get rfl k0 k52 ?_
    refine zy_j0 rfl (fun hne => ?_) (fun _ => ?_)
    · have hne : zx_b y ≠ 2147483648 := hne
      have ty : tj_typed Ψ [(.inr (.inr (.inl q)))] [(1, 149, 0)] := ⟨⟨q, rfl, hq⟩, trivial⟩
      refine zy_la (k := 0) rfl rfl (Or.inl ⟨_, rfl⟩) ?_
      refine zy_call (tj_KS1_le (by decide) tr_b_exch) (n := 1) (av := [(.inr (.inr (.inl q)))]) (st := []) rfl rfl (by decide) (tm_lim hlq rfl) rfl hW0 ty (zy_nopre ty) (by decide +kernel) (by decide +kernel) ?_
      intro r cy Ψ1 o hW1 hle1 hfr1 hls1 ho hto hro hho
      rw [zy_retN (by decide +kernel) ho hro]
      obtain ⟨fs1, m0, mm⟩ := (hfr1 q 149 hq).1 12 fs k0
      have m51 := (mm 51 (by decide +kernel)).trans k51
      have m52 := (mm 52 (by decide +kernel)).trans k52
      have hq1 := hle1 _ _ hq
      have ix := zx_b_int x
      have iy := zx_b_int y
      generalize r.2 = w1 at hW1 m0 ⊢
      generalize 0 + cy.1 = mc at hW1 ⊢
      generalize 0 + cy.2 = ms at hW1 ⊢
      have hlq1 : q < w1.length := (List.getElem?_eq_some_iff.mp m0).1
      have l51 : 51 < fs1.length := (List.getElem?_eq_some_iff.mp m51).1
      have l52 : 52 < fs1.length := (List.getElem?_eq_some_iff.mp m52).1
      show zx_wp _ none _ _ _ (13, [(0, (.inr (.inr (.inl q))))], [], w1, mc, ms)
      refine zy_la (k := 0) rfl rfl (Or.inl ⟨_, rfl⟩) ?_
      refine zy_dup rfl ?_
      refine zy_get rfl m0 m51 ?_
      refine zy_ci (n := 1) (c := 1) rfl ?_
      refine zy_add rfl ?_
      refine zy_put rfl m0 l51 rfl ?_
      have ez : (x + Int32.ofNat 1).toInt = x.toInt + 1 := tm_inc tm_k1 (by omega)
      have bz1 := zx_b_int (x + Int32.ofNat 1)
      have ey : (y - Int32.ofNat 1).toInt = y.toInt - 1 := tm_sub1 tm_k1 (by omega)
      have by1 := zx_b_int (y - Int32.ofNat 1)
      refine zy_la (k := 0) rfl rfl (Or.inl ⟨_, rfl⟩) ?_
      refine zy_dup rfl ?_
      refine zy_get rfl (List.getElem?_set_self hlq1) (v := (.inl y)) (by rw [List.getElem?_set_ne (by decide)]; exact m52) ?_
      refine zy_ci (n := 1) (c := 1) rfl ?_
      refine zy_sub rfl ?_
      refine zy_put rfl (List.getElem?_set_self hlq1) (by rw [List.length_set]; exact l52) rfl ?_
      rw [List.set_set]
      have hJ2 := tr_objW (a := x + Int32.ofNat 1) (b := y - Int32.ofNat 1) (fs2 := (fs1.set 51 (.inl (x + Int32.ofNat 1))).set 52 (.inl (y - Int32.ofNat 1))) hW1 hq1 m0 (by rw [List.length_set, List.length_set]) (by rw [List.getElem?_set_ne (by decide), List.getElem?_set_self l51]) (List.getElem?_set_self (by rw [List.length_set]; exact l52)) (fun j j1 j2 => by rw [List.getElem?_set_ne (Ne.symm j2), List.getElem?_set_ne (Ne.symm j1)]) (by omega) (by omega) (by omega) (by decide +kernel) (by decide +kernel)
      refine zy_ci (n := 1) (c := 1) rfl ?_
      exact tr_retB rfl hJ2 (Or.inr rfl) ⟨⟨q, rfl, hq1⟩, trivial⟩
    · refine zy_ci (n := 1) (c := 0) rfl ?_
      exact tr_retB rfl hW0 (Or.inl rfl) ⟨⟨q, rfl, hq⟩, trivial⟩
/-- an int given back -/
theorem tr_retI {K : zx_K} {cap : Nat × Nat} {dt : List (List (Nat × zx_I))} {E : tj_Ef} {Ψ Ψ' : List Nat} {w w' : List zx_E} {pc mc ms lo hi : Nat} {ls : List (Nat × zx_V)} {av : List zx_V} {ts : List tj_y} {x : Int32} {F : List tj_f} (ht : ∃ a b g, zx_find (zx_cT dt) pc = some (1, a, b, g)) (hW : tj_W tj_Lam (tj_P tj_c1 w, tj_P tj_c2 w) E Ψ w Ψ' w' mc ms) (h1 : lo ≤ zx_b x) (h2 : zx_b x ≤ hi) (hty : tj_typed Ψ' av ts) (hF : ∀ f ∈ F, tj_fd (fun k => ((av ++ [(.inl x)])[k]?).getD (.inr (.inr (.inr 0)))) w' f) : zx_wp K none cap (zx_find (zx_cT dt)) (tj_Post tj_Lam E Ψ w dt [(ts, some (0, lo, hi), ([], [], F))] av) (pc, ls, [(.inl x)], w', mc, ms) := by
  obtain ⟨a, b, g, ht⟩ := ht
  have hvt : tj_vt Ψ' (0, lo, hi) (.inl x) := ⟨x, rfl, h1, h2⟩
  refine zx_wp_done ⟨(some (.inl x), w'), Ψ', _, ⟨Nat.le_refl _, Nat.le_refl _, rfl, ?_⟩, hW.2.1.1, hW.2.1.2, hW.2.2.1, hW.1, hW.2.2.2, List.mem_cons_self, hty, ⟨_, rfl, hvt⟩, zy_outF hvt hF⟩
  show (match zx_find (zx_cT dt) pc with
    | some (1, _, _, _) => _
    | some (5, _, _, _) => _
    | some (4, _, _, _) => _
    | some (2, _, _, _) => _
    | _ => False)
  rw [ht]
  exact ⟨x, rfl, rfl⟩
theorem tr_all0 : tj_sel (tr_seg 139) 0 = some (2147483648, 2147484548) := by decide +kernel
set_option maxRecDepth 20000 in
theorem tr_b_image0 : tj_KS1 (zx_Cl zx_mt zx_rc zx_mx' 3) tj_Lam tr_h_image0 := by
  refine zy_method (d := 2) (dt := zx_d_X12_image) (by rw [← zx_q_X12_image]; rfl) (by decide +kernel) (by decide +kernel) ?_
  intro Ψ av w hw hty _
  match av, hty with
  | [v0, v1], ⟨⟨q, hv0, hq⟩, ⟨x, hv1, _⟩, _⟩ =>
    subst hv0
    subst hv1
    obtain ⟨fs, a, b, c, ac, un, k0, kl, k49, k50, k78, ha, hb, hc, k51, k52, -⟩ := tr_rows hw hq
    have hqc := tm_ne hq hc (by decide)
    have hac := tm_ne ha hc (by decide)
    have hlq : q < w.length := (List.getElem?_eq_some_iff.mp k0).1
    obtain ⟨fsT, f1, -, -, f3⟩ := tj_obj hw hq tr_hd
    rw [k0] at f1
    cases f1
    obtain ⟨v79, k79, z, y79, hz⟩ := f3 79 (1, 145, 0) rfl
    subst y79
    have hqz := tm_ne hq hz (by decide)
    have haz := tm_ne ha hz (by decide)
    have hty2 : tj_typed Ψ [(.inr (.inr (.inl q))), (.inl x)] [(1, 149, 0), (0, 0, 4294967295)] := ⟨⟨q, rfl, hq⟩, tr_full x, trivial⟩
    let WP : zx_S → Prop := fun σ => zx_wp (zx_Cl zx_mt zx_rc zx_mx' 2) none (tj_P tj_c1 w, tj_P tj_c2 w) (zx_find (zx_cT zx_d_X12_image)) (tj_Post tj_Lam tr_h_image0.2.2.1 Ψ w zx_d_X12_image tr_h_image0.2.2.2.1 [(.inr (.inr (.inl q))), (.inl x)]) σ
    let J : List zx_E → Prop := fun w' => tj_W tj_Lam (tj_P tj_c1 w, tj_P tj_c2 w) tr_h_image0.2.2.1 Ψ w Ψ w' 0 0
    have hA : ∀ {w' : List zx_E}, J w' → ∃ g, w'[a]? = some (.inr (0, 119, .inl g)) ∧ ∀ j, j < 119 → tr_ok 139 j (g j) := fun h => tj_iarr h.1 ha tr_segA (Or.inl rfl)
    have hB : ∀ {w' : List zx_E}, J w' → ∃ g, w'[c]? = some (.inr (0, 357, .inl g)) ∧ ∀ j, j < 357 → tr_ok 141 j (g j) := fun h => tj_iarr h.1 hc tr_segB (Or.inl rfl)
    have loop : 0 ≤ x.toInt → x.toInt ≤ 2 → ∀ (n : Nat) (k : Int32) (w' : List zx_E) (ls : List (Nat × zx_V)), k.toInt + n = 119 → 0 ≤ k.toInt → J w' → w'[q]? = some (.inl (12, fs)) → zx_look 0 ls = some (.inr (.inr (.inl q))) → zx_look 1 ls = some (.inl x) → zx_look 2 ls = some (.inl k) → WP (13, ls, [], w', 0, 0) := by
      intro hx0 hx2 n
      induction n with
      | zero =>
        intro k w' ls hn hk0 hJ m0 l0 l1 l2
        have bk := zx_b_int k
        refine zy_li rfl l2 ?_
        refine zy_ci (n := 2) (c := 119) rfl ?_
        refine zy_jt rfl (fun _ => ?_) (fun h => ?_)
        · obtain ⟨gA, hgA, tA⟩ := hA hJ
          obtain ⟨gz, hgz, tz⟩ := tj_iarr (kd := 2) (n := 3) (s := [(3, 2147483648, 2147483649)]) hJ.1 hz rfl (Or.inr (Or.inl rfl))
          refine zy_la rfl l0 (Or.inl ⟨_, rfl⟩) ?_
          refine zy_get rfl m0 k79 ?_
          refine zy_li rfl l1 ?_
          refine zy_ci (n := 1) (c := 1) rfl ?_
          refine zy_az rfl hgz (tr_in hx0 (by omega)) ?_
          have en : vp_nar .boolean (Int32.ofNat 1) = Int32.ofNat 1 := by decide
          rw [en]
          have hJ2 : J (w'.set z (.inr (2, 3, .inl (upd gz x.toNatClampNeg (Int32.ofNat 1))))) := tj_W_arr hJ hz hgz (tj_seti hJ.1 hz rfl hgz (fun a b hs => by
            obtain ⟨e1, e2⟩ := tm_sel1 hs
            rw [e1, e2]
            decide)) (by decide) (by decide +kernel)
          have m2 : (w'.set z (.inr (2, 3, .inl (upd gz x.toNatClampNeg (Int32.ofNat 1)))))[q]? = some (.inl (12, fs)) := by rw [List.getElem?_set_ne (Ne.symm hqz)]; exact m0
          have hgA2 : (w'.set z (.inr (2, 3, .inl (upd gz x.toNatClampNeg (Int32.ofNat 1)))))[a]? = some (.inr (0, 119, .inl gA)) := by rw [List.getElem?_set_ne (Ne.symm haz)]; exact hgA
          generalize w'.set z (.inr (2, 3, .inl (upd gz x.toNatClampNeg (Int32.ofNat 1)))) = w2 at hJ2 m2 hgA2 ⊢
          refine zy_la rfl l0 (Or.inl ⟨_, rfl⟩) ?_
          refine zy_get rfl m2 k49 ?_
          refine zy_ci (n := 1) (c := 0) rfl ?_
          refine zy_ld rfl hgA2 (by decide) ?_
          have h0 := tA 0 (by decide) _ _ tr_all0
          exact tr_retI ⟨_, _, _, rfl⟩ hJ2 (by show _ ≤ zx_b (gA 0); omega) (by show zx_b (gA 0) ≤ _; omega) hty2 (fun f hf => absurd hf List.not_mem_nil)
        · have h : zx_b k < zx_b (Int32.ofNat 119) := h
          rw [show zx_b (Int32.ofNat 119) = 2147483767 by decide] at h
          omega
      | succ n ih =>
        intro k w' ls hn hk0 hJ m0 l0 l1 l2
        have bk := zx_b_int k
        refine zy_li rfl l2 ?_
        refine zy_ci (n := 2) (c := 119) rfl ?_
        refine zy_jt rfl (fun h => ?_) (fun _ => ?_)
        · have h : zx_b (Int32.ofNat 119) ≤ zx_b k := h
          rw [show zx_b (Int32.ofNat 119) = 2147483767 by decide] at h
          omega
        · obtain ⟨gA, hgA, tA⟩ := hA hJ
          obtain ⟨gB, hgB, tB⟩ := hB hJ
          have em : (Int32.ofNat 119 * x).toInt = 119 * x.toInt := tr_mul (c := 119) (by decide) rfl (by omega) (by omega)
          have ei : (Int32.ofNat 119 * x + k).toInt = 119 * x.toInt + k.toInt := by rw [tr_add (by omega) (by omega), em]
          have ein : (Int32.ofNat 119 * x + k).toNatClampNeg = 119 * x.toInt.toNat + k.toNatClampNeg := by
            show (Int32.ofNat 119 * x + k).toInt.toNat = 119 * x.toInt.toNat + k.toInt.toNat
            omega
          have ekn : k.toNatClampNeg = k.toInt.toNat := rfl
          refine zy_la rfl l0 (Or.inl ⟨_, rfl⟩) ?_
          refine zy_get rfl m0 k78 ?_
          refine zy_ci (n := 2) (c := 119) rfl ?_
          refine zy_li rfl l1 ?_
          refine zy_mul rfl ?_
          refine zy_li rfl l2 ?_
          refine zy_add rfl ?_
          refine zy_la rfl l0 (Or.inl ⟨_, rfl⟩) ?_
          refine zy_get rfl m0 k49 ?_
          refine zy_li rfl l2 ?_
          refine zy_ld rfl hgA (tr_in hk0 (by omega)) ?_
          refine zy_ai rfl hgB (tr_in (by omega) (by omega)) ?_
          have hJ2 := tr_setA (i := (Int32.ofNat 119 * x + k).toNatClampNeg) hJ hc tr_segB hgB (tr_okAB (tA k.toNatClampNeg (by omega)) (by omega) (by omega)) (by decide +kernel)
          refine zy_ik (k := 2) (n := 1) rfl l2 ?_
          refine zy_goto rfl ?_
          have ek : (k + Int32.ofNat 1).toInt = k.toInt + 1 := tm_inc tm_k1 (by omega)
          exact ih _ _ _ (by omega) (by omega) hJ2 (by rw [List.getElem?_set_ne (Ne.symm hqc)]; exact m0) (zy_look_ne (by decide) rfl l0) (zy_look_ne (by decide) rfl l1) zy_look_put
    have e0 : (Int32.ofNat 0).toInt = 0 := by decide
    have e2 : (Int32.ofNat 2).toInt = 2 := by decide
    obtain ⟨v, hK, hv⟩ := tr_isInK (w := w) (x := x) (a := Int32.ofNat 0) (b := Int32.ofNat 2)
    rw [e0, e2] at hv
    show WP (0, [(0, (.inr (.inr (.inl q)))), (1, (.inl x))], [], w, 0, 0)
    refine zy_li (k := 1) rfl rfl ?_
    refine zy_ci (n := 1) (c := 0) rfl ?_
    refine zy_ci (n := 1) (c := 2) rfl ?_
    refine zx_wp_call (a := 0) (n := 3) (y := 146) (g := zx_no) (av := [(.inl x), (.inl (Int32.ofNat 0)), (.inl (Int32.ofNat 2))]) (st' := []) (cy := (0, 0)) (r := (some (.inl v), w)) rfl rfl (Nat.le_of_ble_eq_true rfl) (tm_lim hlq rfl) rfl (Nat.zero_le _) (Nat.zero_le _) (zx_Cl_le (by decide) hK) ?_
    rcases hv with ⟨ev, h1, h2⟩ | ⟨ev, -⟩
    · subst ev
      refine zy_j0 rfl (fun _ => ?_) (fun e => absurd e (by decide : ¬ zx_b (Int32.ofNat 1) = 2147483648))
      refine zy_ci (n := 1) (c := 0) rfl ?_
      refine zy_si (k := 2) rfl ?_
      exact loop h1 h2 119 _ w _ (by omega) (by omega) (tm_W0 hw) k0 rfl rfl rfl
    · subst ev
      refine zy_j0 rfl (fun e => absurd (by decide : zx_b (Int32.ofNat 0) = 2147483648) e) (fun _ => ?_)
      refine zy_ci (n := 1) (c := 4294967295) rfl ?_
      exact tr_retI ⟨_, _, _, rfl⟩ (tm_W0 hw) (by decide) (by decide) hty2 (fun f hf => absurd hf List.not_mem_nil)
set_option maxRecDepth 20000 in
theorem tr_b_back0 : tj_KS1 (zx_Cl zx_mt zx_rc zx_mx' 3) tj_Lam tr_h_back0 := by
  refine zy_method (d := 2) (dt := zx_d_X12_back) (by rw [← zx_q_X12_back]; rfl) (by decide +kernel) (by decide +kernel) ?_
  intro Ψ av w hw hty _
  match av, hty with
  | [v0, v1], ⟨⟨q, hv0, hq⟩, ⟨x, hv1, _⟩, _⟩ =>
    subst hv0
    subst hv1
    obtain ⟨fs, a, b, c, ac, un, k0, kl, k49, k50, k78, ha, hb, hc, k51, k52, -⟩ := tr_rows hw hq
    have hqa := tm_ne hq ha (by decide)
    have hlq : q < w.length := (List.getElem?_eq_some_iff.mp k0).1
    obtain ⟨fsT, f1, -, -, f3⟩ := tj_obj hw hq tr_hd
    rw [k0] at f1
    cases f1
    obtain ⟨v79, k79, z, y79, hz⟩ := f3 79 (1, 145, 0) rfl
    subst y79
    obtain ⟨gz, hgz, tz⟩ := tj_iarr (kd := 2) (n := 3) (s := [(3, 2147483648, 2147483649)]) hw hz rfl (Or.inr (Or.inl rfl))
    have hty2 : tj_typed Ψ [(.inr (.inr (.inl q))), (.inl x)] [(1, 149, 0), (0, 0, 4294967295)] := ⟨⟨q, rfl, hq⟩, tr_full x, trivial⟩
    let WP : zx_S → Prop := fun σ => zx_wp (zx_Cl zx_mt zx_rc zx_mx' 2) none (tj_P tj_c1 w, tj_P tj_c2 w) (zx_find (zx_cT zx_d_X12_back)) (tj_Post tj_Lam tr_h_back0.2.2.1 Ψ w zx_d_X12_back tr_h_back0.2.2.2.1 [(.inr (.inr (.inl q))), (.inl x)]) σ
    let J : List zx_E → Prop := fun w' => tj_W tj_Lam (tj_P tj_c1 w, tj_P tj_c2 w) tr_h_back0.2.2.1 Ψ w Ψ w' 0 0
    have hA : ∀ {w' : List zx_E}, J w' → ∃ g, w'[a]? = some (.inr (0, 119, .inl g)) ∧ ∀ j, j < 119 → tr_ok 139 j (g j) := fun h => tj_iarr h.1 ha tr_segA (Or.inl rfl)
    have hB : ∀ {w' : List zx_E}, J w' → ∃ g, w'[c]? = some (.inr (0, 357, .inl g)) ∧ ∀ j, j < 357 → tr_ok 141 j (g j) := fun h => tj_iarr h.1 hc tr_segB (Or.inl rfl)
    have loop : 0 ≤ x.toInt → x.toInt ≤ 2 → ∀ (n : Nat) (k : Int32) (w' : List zx_E) (ls : List (Nat × zx_V)), k.toInt + n = 119 → 0 ≤ k.toInt → J w' → w'[q]? = some (.inl (12, fs)) → zx_look 0 ls = some (.inr (.inr (.inl q))) → zx_look 1 ls = some (.inl x) → zx_look 2 ls = some (.inl k) → WP (22, ls, [], w', 0, 0) := by
      intro hx0 hx2 n
      induction n with
      | zero =>
        intro k w' ls hn hk0 hJ m0 l0 l1 l2
        have bk := zx_b_int k
        refine zy_li rfl l2 ?_
        refine zy_ci (n := 2) (c := 119) rfl ?_
        refine zy_jt rfl (fun _ => ?_) (fun h => ?_)
        · have l51 : 51 < fs.length := (List.getElem?_eq_some_iff.mp k51).1
          have l52 : 52 < fs.length := (List.getElem?_eq_some_iff.mp k52).1
          have hlq' : q < w'.length := (List.getElem?_eq_some_iff.mp m0).1
          refine zy_la rfl l0 (Or.inl ⟨_, rfl⟩) ?_
          refine zy_ci (n := 1) (c := 0) rfl ?_
          refine zy_put rfl m0 l51 rfl ?_
          refine zy_la rfl l0 (Or.inl ⟨_, rfl⟩) ?_
          refine zy_ci (n := 1) (c := 0) rfl ?_
          refine zy_put rfl (List.getElem?_set_self hlq') (by rw [List.length_set]; exact l52) rfl ?_
          rw [List.set_set]
          have hJ2 : J (w'.set q (.inl (12, ((fs.set 51 (.inl (Int32.ofNat 0))).set 52 (.inl (Int32.ofNat 0)))))) := tr_objW (a := Int32.ofNat 0) (b := Int32.ofNat 0) (fs2 := (fs.set 51 (.inl (Int32.ofNat 0))).set 52 (.inl (Int32.ofNat 0))) hJ hq m0 (by rw [List.length_set, List.length_set]) (by rw [List.getElem?_set_ne (by decide), List.getElem?_set_self l51]) (List.getElem?_set_self (by rw [List.length_set]; exact l52)) (fun j j1 j2 => by rw [List.getElem?_set_ne (Ne.symm j2), List.getElem?_set_ne (Ne.symm j1)]) (by decide) (by decide) (by decide) (by decide +kernel) (by decide +kernel)
          obtain ⟨gA, hgA, tA⟩ := hA hJ2
          refine zy_la rfl l0 (Or.inl ⟨_, rfl⟩) ?_
          refine zy_get rfl (List.getElem?_set_self hlq') (v := (.inr (.inr (.inl a)))) (by rw [List.getElem?_set_ne (by decide), List.getElem?_set_ne (by decide)]; exact k49) ?_
          refine zy_ci (n := 1) (c := 0) rfl ?_
          refine zy_ld rfl hgA (by decide) ?_
          have h0 := tA 0 (by decide) _ _ tr_all0
          exact tr_retI ⟨_, _, _, rfl⟩ hJ2 (by show _ ≤ zx_b (gA 0); omega) (by show zx_b (gA 0) ≤ _; omega) hty2 (fun f hf => absurd hf List.not_mem_nil)
        · have h : zx_b k < zx_b (Int32.ofNat 119) := h
          rw [show zx_b (Int32.ofNat 119) = 2147483767 by decide] at h
          omega
      | succ n ih =>
        intro k w' ls hn hk0 hJ m0 l0 l1 l2
        have bk := zx_b_int k
        refine zy_li rfl l2 ?_
        refine zy_ci (n := 2) (c := 119) rfl ?_
        refine zy_jt rfl (fun h => ?_) (fun _ => ?_)
        · have h : zx_b (Int32.ofNat 119) ≤ zx_b k := h
          rw [show zx_b (Int32.ofNat 119) = 2147483767 by decide] at h
          omega
        · obtain ⟨gA, hgA, tA⟩ := hA hJ
          obtain ⟨gB, hgB, tB⟩ := hB hJ
          have em : (Int32.ofNat 119 * x).toInt = 119 * x.toInt := tr_mul (c := 119) (by decide) rfl (by omega) (by omega)
          have ei : (Int32.ofNat 119 * x + k).toInt = 119 * x.toInt + k.toInt := by rw [tr_add (by omega) (by omega), em]
          have ein : (Int32.ofNat 119 * x + k).toNatClampNeg = 119 * x.toInt.toNat + k.toNatClampNeg := by
            show (Int32.ofNat 119 * x + k).toInt.toNat = 119 * x.toInt.toNat + k.toInt.toNat
            omega
          have ekn : k.toNatClampNeg = k.toInt.toNat := rfl
          refine zy_la rfl l0 (Or.inl ⟨_, rfl⟩) ?_
          refine zy_get rfl m0 k49 ?_
          refine zy_li rfl l2 ?_
          refine zy_la rfl l0 (Or.inl ⟨_, rfl⟩) ?_
          refine zy_get rfl m0 k78 ?_
          refine zy_ci (n := 2) (c := 119) rfl ?_
          refine zy_li rfl l1 ?_
          refine zy_mul rfl ?_
          refine zy_li rfl l2 ?_
          refine zy_add rfl ?_
          refine zy_ld rfl hgB (tr_in (by omega) (by omega)) ?_
          refine zy_ai rfl hgA (tr_in hk0 (by omega)) ?_
          have hJ2 := tr_setA (i := k.toNatClampNeg) hJ ha tr_segA hgA (tr_okBA (tB (Int32.ofNat 119 * x + k).toNatClampNeg (by omega)) (by omega) (by omega)) (by decide +kernel)
          refine zy_ik (k := 2) (n := 1) rfl l2 ?_
          refine zy_goto rfl ?_
          have ek : (k + Int32.ofNat 1).toInt = k.toInt + 1 := tm_inc tm_k1 (by omega)
          exact ih _ _ _ (by omega) (by omega) hJ2 (by rw [List.getElem?_set_ne (Ne.symm hqa)]; exact m0) (zy_look_ne (by decide) rfl l0) (zy_look_ne (by decide) rfl l1) zy_look_put
    have e0 : (Int32.ofNat 0).toInt = 0 := by decide
    have e2 : (Int32.ofNat 2).toInt = 2 := by decide
    obtain ⟨v, hK, hv⟩ := tr_isInK (w := w) (x := x) (a := Int32.ofNat 0) (b := Int32.ofNat 2)
    rw [e0, e2] at hv
    have no : ∀ pc', pc' = 18 → WP (pc', [(0, (.inr (.inr (.inl q)))), (1, (.inl x))], [], w, 0, 0) := by
      intro pc' e
      subst e
      refine zy_ci (n := 1) (c := 4294967295) rfl ?_
      exact tr_retI ⟨_, _, _, rfl⟩ (tm_W0 hw) (by decide) (by decide) hty2 (fun f hf => absurd hf List.not_mem_nil)
    show WP (0, [(0, (.inr (.inr (.inl q)))), (1, (.inl x))], [], w, 0, 0)
    refine zy_li (k := 1) rfl rfl ?_
    refine zy_ci (n := 1) (c := 0) rfl ?_
    refine zy_ci (n := 1) (c := 2) rfl ?_
    refine zx_wp_call (a := 0) (n := 3) (y := 146) (g := zx_no) (av := [(.inl x), (.inl (Int32.ofNat 0)), (.inl (Int32.ofNat 2))]) (st' := []) (cy := (0, 0)) (r := (some (.inl v), w)) rfl rfl (Nat.le_of_ble_eq_true rfl) (tm_lim hlq rfl) rfl (Nat.zero_le _) (Nat.zero_le _) (zx_Cl_le (by decide) hK) ?_
    rcases hv with ⟨ev, h1, h2⟩ | ⟨ev, -⟩
    · subst ev
      refine zy_j0 rfl (fun e => absurd e (by decide : ¬ zx_b (Int32.ofNat 1) = 2147483648)) (fun _ => ?_)
      refine zy_la (k := 0) rfl rfl (Or.inl ⟨_, rfl⟩) ?_
      refine zy_get rfl k0 k79 ?_
      refine zy_li (k := 1) rfl rfl ?_
      refine zy_ldz rfl hgz (tr_in h1 (by omega)) ?_
      refine zy_j0 rfl (fun _ => ?_) (fun _ => no _ rfl)
      refine zy_ci (n := 1) (c := 0) rfl ?_
      refine zy_si (k := 2) rfl ?_
      exact loop h1 h2 119 _ w _ (by omega) (by omega) (tm_W0 hw) k0 rfl rfl rfl
    · subst ev
      refine zy_j0 rfl (fun _ => no _ rfl) (fun e => absurd (by decide : zx_b (Int32.ofNat 0) = 2147483648) e)
set_option maxRecDepth 20000 in
theorem tr_b_hush0 : tj_KS1 (zx_Cl zx_mt zx_rc zx_mx' 1) tj_Lam tr_h_hush0 := by
  refine zy_method (d := 0) (dt := zx_d_X12_hush) (by rw [← zx_q_X12_hush]; rfl) (by decide +kernel) (by decide +kernel) ?_
  intro Ψ av w hw hty hp
  match av, hty with
  | [v0], ⟨⟨q, hv0, hq⟩, _⟩ =>
    subst hv0
    obtain ⟨ρ, r1, r2, r3⟩ := hp
    have e0 : ρ 0 = (.inr (.inr (.inl q))) := r1 0 _ rfl
    have F : tj_sm8 (ρ 0) w := r3 (111, .inr 0, .inr 0, .inr 0) List.mem_cons_self
    rw [e0] at F
    obtain ⟨q', bk, m, dv, g, x1, h39, h58, h14, h57, hg⟩ := F
    cases x1
    obtain ⟨fs, k0, k58⟩ := id h58
    obtain ⟨fs', k0', k39⟩ := id h39
    rw [k0] at k0'
    cases k0'
    obtain ⟨fs', p14, k0', k14, kd⟩ := id h14
    rw [k0] at k0'
    cases k0'
    obtain ⟨fs', p57, k0', k57, kb⟩ := id h57
    rw [k0] at k0'
    cases k0'
    obtain ⟨fsT, f1, -, -, f3⟩ := tj_obj hw hq tr_hd
    rw [k0] at f1
    cases f1
    obtain ⟨v58, g58, x58, y58, b1, b2⟩ := f3 58 (0, 2147483648, 2147483662) rfl
    rw [k58] at g58
    cases g58
    cases y58
    have hlq : q < w.length := (List.getElem?_eq_some_iff.mp k0).1
    have l58 : 58 < fs.length := (List.getElem?_eq_some_iff.mp k58).1
    obtain ⟨v14, g14, p14', y14, hp14⟩ := f3 14 (1, 106, 0) rfl
    rw [k14] at g14
    cases g14
    cases y14
    obtain ⟨v57, g57, p57', y57, hp57⟩ := f3 57 (1, 126, 0) rfl
    rw [k57] at g57
    cases g57
    cases y57
    have hq14 := tm_ne hq hp14 (by decide)
    have hq57 := tm_ne hq hp57 (by decide)
    have hW2 := tj_W_field (v := (.inl (Int32.ofNat 0))) (tm_W0 (E := tr_h_hush0.2.2.1) hw) hq tr_hd k0 (k := 58) rfl ⟨_, rfl, by decide, by decide⟩ (by
      obtain ⟨fs', e1, -, e3, -⟩ := tj_obj hw hq tr_hd
      rw [k0] at e1
      cases e1
      exact tj_invk_ok (r := 3) (k := 58) rfl e3) rfl (by decide +kernel)
    show zx_wp _ none _ _ _ (0, [(0, (.inr (.inr (.inl q))))], [], w, 0, 0)
    refine zy_la (k := 0) rfl rfl (Or.inl ⟨_, rfl⟩) ?_
    refine zy_get rfl k0 k58 ?_
    refine zy_si (k := 1) rfl ?_
    show zx_wp _ none _ _ _ (5, [(1, (.inl m)), (0, (.inr (.inr (.inl q))))], [], w, 0, 0)
    refine zy_la (k := 0) rfl rfl (Or.inl ⟨_, rfl⟩) ?_
    refine zy_ci (n := 1) (c := 0) rfl ?_
    refine zy_put rfl k0 l58 rfl ?_
    refine zy_li (k := 1) rfl rfl ?_
    refine tr_retI ⟨_, _, _, rfl⟩ hW2 b1 b2 ⟨⟨q, rfl, hq⟩, trivial⟩ (fun f hf => ?_)
    have e := List.mem_singleton.mp hf
    subst e
    have z0 : (Int32.ofNat 0).toInt = 0 := by decide
    exact ⟨q, bk, Int32.ofNat 0, dv, g, rfl, ⟨_, List.getElem?_set_self hlq, by rw [List.getElem?_set_ne (by decide)]; exact k39⟩, ⟨_, List.getElem?_set_self hlq, List.getElem?_set_self l58⟩, ⟨_, _, List.getElem?_set_self hlq, by rw [List.getElem?_set_ne (by decide)]; exact k14, by rw [List.getElem?_set_ne hq14]; exact kd⟩, ⟨_, _, List.getElem?_set_self hlq, by rw [List.getElem?_set_ne (by decide)]; exact k57, by rw [List.getElem?_set_ne hq57]; exact kb⟩, fun i hi => by omega⟩
set_option maxRecDepth 20000 in
theorem tr_b_next0 : tj_KS1 (zx_Cl zx_mt zx_rc zx_mx' 4) tj_Lam tr_h_next0 := by
  refine zy_method (d := 3) (dt := zx_d_X12_next) (by rw [← zx_q_X12_next]; rfl) (by decide +kernel) (by decide +kernel) ?_
  intro Ψ av w hw hty hp
  match av, hty with
  | [v0, v1], ⟨⟨q, hv0, hq⟩, ⟨d, hv1, _⟩, _⟩ =>
    subst hv0
    subst hv1
    obtain ⟨ρ, r1, r2, r3⟩ := hp
    have e0 : ρ 0 = (.inr (.inr (.inl q))) := r1 0 _ rfl
    have F : tj_sm8 (ρ 0) w := r3 (111, .inr 0, .inr 0, .inr 0) List.mem_cons_self
    rw [e0] at F
    have Fs := F
    obtain ⟨q', bk, m, dv, g, x1, h39, h58, h14, h57, hg⟩ := F
    cases x1
    obtain ⟨fs, k0, k58⟩ := id h58
    obtain ⟨fs', k0', k39⟩ := id h39
    rw [k0] at k0'
    cases k0'
    obtain ⟨fs', p14, k0', k14, kd⟩ := id h14
    rw [k0] at k0'
    cases k0'
    obtain ⟨fs', p57, k0', k57, kb⟩ := id h57
    rw [k0] at k0'
    cases k0'
    obtain ⟨fsT, f1, -, -, f3⟩ := tj_obj hw hq tr_hd
    rw [k0] at f1
    cases f1
    obtain ⟨v58, g58, x58, y58, b1, b2⟩ := f3 58 (0, 2147483648, 2147483662) rfl
    rw [k58] at g58
    cases g58
    cases y58
    obtain ⟨v39, g39, x39, y39, c1, c2⟩ := f3 39 (0, 2147483648, 2147483649) rfl
    rw [k39] at g39
    cases g39
    cases y39
    have ib := zx_b_int bk
    have im := zx_b_int m
    have hb : bk.toInt = 0 ∨ bk.toInt = 1 := by omega
    have hlq : q < w.length := (List.getElem?_eq_some_iff.mp k0).1
    have l58 : 58 < fs.length := (List.getElem?_eq_some_iff.mp k58).1
    obtain ⟨v14, g14, p14', y14, hp14⟩ := f3 14 (1, 106, 0) rfl
    rw [k14] at g14
    cases g14
    cases y14
    obtain ⟨v57, g57, p57', y57, hp57⟩ := f3 57 (1, 126, 0) rfl
    rw [k57] at g57
    cases g57
    cases y57
    have hq14 := tm_ne hq hp14 (by decide)
    have hq57 := tm_ne hq hp57 (by decide)
    have h1457 := tm_ne hp14 hp57 (by decide)
    have h6 := tr_b6 hw hq h14 (j := bk.toInt.toNat) (by omega)
    obtain ⟨v, hK, hv⟩ := tr_isDeedK (Ψ := Ψ) (h := d) h39 h14 hb h6
    have hty2 : tj_typed Ψ [(.inr (.inr (.inl q))), (.inl d)] [(1, 149, 0), (0, 0, 4294967295)] := ⟨⟨q, rfl, hq⟩, tr_full d, trivial⟩
    have hW0 := tm_W0 (E := tr_h_next0.2.2.1) hw
    have no : ∀ pc', pc' = 17 → zx_wp (zx_Cl zx_mt zx_rc zx_mx' 3) none (tj_P tj_c1 w, tj_P tj_c2 w) (zx_find (zx_cT zx_d_X12_next)) (tj_Post tj_Lam tr_h_next0.2.2.1 Ψ w zx_d_X12_next tr_h_next0.2.2.2.1 [(.inr (.inr (.inl q))), (.inl d)]) (pc', [(0, (.inr (.inr (.inl q)))), (1, (.inl d))], [], w, 0, 0) := by
      intro pc' e
      subst e
      refine zy_ci (n := 1) (c := 4294967295) rfl ?_
      refine tr_retI ⟨_, _, _, rfl⟩ hW0 (by decide) (by decide) hty2 (fun f hf => ?_)
      have e := List.mem_singleton.mp hf
      subst e
      exact Fs
    show zx_wp _ none _ _ _ (0, [(0, (.inr (.inr (.inl q)))), (1, (.inl d))], [], w, 0, 0)
    refine zy_la (k := 0) rfl rfl (Or.inl ⟨_, rfl⟩) ?_
    refine zy_li (k := 1) rfl rfl ?_
    refine zx_wp_call (a := 0) (n := 2) (y := 140) (g := zx_no) (av := [(.inr (.inr (.inl q))), (.inl d)]) (st' := []) (cy := (0, 0)) (r := (some (.inl v), w)) rfl rfl (Nat.le_of_ble_eq_true rfl) (tm_lim hlq rfl) rfl (Nat.zero_le _) (Nat.zero_le _) (zx_Cl_le (by decide) hK) ?_
    rcases hv with ⟨ev, hd1, hd2⟩ | ⟨ev, -⟩
    · subst ev
      refine zy_j0 rfl (fun e => absurd e (by decide : ¬ zx_b (Int32.ofNat 1) = 2147483648)) (fun _ => ?_)
      refine zy_la (k := 0) rfl rfl (Or.inl ⟨_, rfl⟩) ?_
      refine zy_get rfl k0 k58 ?_
      refine zy_ci (n := 2) (c := 14) rfl ?_
      refine zy_jt rfl (fun hne => ?_) (fun _ => no _ rfl)
      have hne : zx_b m ≠ zx_b (Int32.ofNat 14) := hne
      rw [show zx_b (Int32.ofNat 14) = 2147483662 by decide] at hne
      have emn : m.toNatClampNeg = m.toInt.toNat := rfl
      have bd := zx_b_int d
      refine zy_la (k := 0) rfl rfl (Or.inl ⟨_, rfl⟩) ?_
      refine zy_get rfl k0 k57 ?_
      refine zy_la (k := 0) rfl rfl (Or.inl ⟨_, rfl⟩) ?_
      refine zy_get rfl k0 k58 ?_
      refine zy_li (k := 1) rfl rfl ?_
      refine zy_ai rfl kb (tr_in (by omega) (by omega)) ?_
      have hW2 := tg_setA hW0 hp57 (i := m.toNatClampNeg) (x := d) (s := [(14, 2147483648, 2147483653)]) rfl kb (fun a b hs => by
        obtain ⟨e1, e2⟩ := tm_sel1 hs
        omega) (by decide +kernel)
      have m0 : (w.set p57 (.inr (0, 14, .inl (upd g m.toNatClampNeg d))))[q]? = some (.inl (12, fs)) := by rw [List.getElem?_set_ne (Ne.symm hq57)]; exact k0
      have md : (w.set p57 (.inr (0, 14, .inl (upd g m.toNatClampNeg d))))[p14]? = some (.inr (0, 2, .inl dv)) := by rw [List.getElem?_set_ne (Ne.symm h1457)]; exact kd
      have mb : (w.set p57 (.inr (0, 14, .inl (upd g m.toNatClampNeg d))))[p57]? = some (.inr (0, 14, .inl (upd g m.toNatClampNeg d))) := List.getElem?_set_self (List.getElem?_eq_some_iff.mp kb).1
      generalize w.set p57 (.inr (0, 14, .inl (upd g m.toNatClampNeg d))) = w2 at hW2 m0 md mb ⊢
      have hlq2 : q < w2.length := (List.getElem?_eq_some_iff.mp m0).1
      have em : (m + Int32.ofNat 1).toInt = m.toInt + 1 := tm_inc tm_k1 (by omega)
      have bm1 := zx_b_int (m + Int32.ofNat 1)
      have hW3 := tj_W_field (v := (.inl (m + Int32.ofNat 1))) hW2 hq tr_hd m0 (k := 58) rfl ⟨_, rfl, by omega, by omega⟩ (by
        obtain ⟨fs', e1, -, e3, -⟩ := tj_obj hW2.1 hq tr_hd
        rw [m0] at e1
        cases e1
        exact tj_invk_ok (r := 3) (k := 58) rfl e3) rfl (by decide +kernel)
      refine zy_la (k := 0) rfl rfl (Or.inl ⟨_, rfl⟩) ?_
      refine zy_dup rfl ?_
      refine zy_get rfl m0 k58 ?_
      refine zy_ci (n := 1) (c := 1) rfl ?_
      refine zy_add rfl ?_
      refine zy_put rfl m0 l58 rfl ?_
      refine zy_la (k := 0) rfl rfl (Or.inl ⟨_, rfl⟩) ?_
      refine zy_get rfl (List.getElem?_set_self hlq2) (List.getElem?_set_self l58) ?_
      refine tr_retI ⟨_, _, _, rfl⟩ hW3 (by omega) (by omega) hty2 (fun f hf => ?_)
      have e := List.mem_singleton.mp hf
      subst e
      refine ⟨q, bk, m + Int32.ofNat 1, dv, upd g m.toNatClampNeg d, rfl, ⟨_, List.getElem?_set_self hlq2, by rw [List.getElem?_set_ne (by decide)]; exact k39⟩, ⟨_, List.getElem?_set_self hlq2, List.getElem?_set_self l58⟩, ⟨_, _, List.getElem?_set_self hlq2, by rw [List.getElem?_set_ne (by decide)]; exact k14, by rw [List.getElem?_set_ne hq14]; exact md⟩, ⟨_, _, List.getElem?_set_self hlq2, by rw [List.getElem?_set_ne (by decide)]; exact k57, by rw [List.getElem?_set_ne hq57]; exact mb⟩, fun i hi => ?_⟩
      by_cases e : i = m.toNatClampNeg
      · rw [e, tg_upd_eq]
        exact hd2
      · rw [tg_upd_ne e]
        exact hg i (by omega)
    · subst ev
      refine zy_j0 rfl (fun _ => no _ rfl) (fun e => absurd (by decide : zx_b (Int32.ofNat 0) = 2147483648) e)
