/-! by hand: History's steps -/
theorem tj_W_obj {Λ : List tj_D} {cap : Nat × Nat} {E : tj_Ef} {Ψ0 Ψ : List Nat} {w0 w : List zx_E} {mc ms : Nat} (h : tj_W Λ cap E Ψ0 w0 Ψ w mc ms) {q l ci r : Nat} {fts : List tj_y} {fs fs2 : List zx_V} (hq : Ψ[q]? = some l) (hd : Λ[l]? = some (.inl (ci, r, fts))) (hf : w[q]? = some (.inl (ci, fs))) (hl : fs2.length = fts.length) (hv : ∀ (k : Nat) (t : tj_y) (v : zx_V), fts[k]? = some t → fs2[k]? = some v → tj_vt Ψ t v) (hr : tj_inv r fs2) (hc : ci ≠ 11) (hE : ∀ k, tj_h2 l k E.1 = false → fs2[k]? = fs[k]?) : tj_W Λ cap E Ψ0 w0 Ψ (w.set q (.inl (ci, fs2))) mc ms := by
  obtain ⟨hw, hp, hle, hfr⟩ := h
  have ep : ∀ (c : Nat × Nat × Nat) (g : List zx_V), tj_p c (.inl (ci, g)) = 0 := fun c g => by
    unfold tj_p
    split
    next heq => cases heq; exact absurd rfl hc
    next heq => cases heq
    next => rfl
  refine ⟨tj_set hw hq hd ⟨rfl, hl, hv, hr⟩, ?_, hle, fun q' l' hq' => ?_⟩
  · rw [tj_P_set (by rw [ep, ep]) hf, tj_P_set (by rw [ep, ep]) hf]
    exact hp
  · obtain ⟨a1, a2⟩ := hfr q' l' hq'
    have hlt : q < w.length := (List.getElem?_eq_some_iff.mp hf).1
    by_cases e : q = q'
    · subst e
      have el : l' = l := by
        have := hle q l' hq'
        rw [hq] at this
        cases this
        rfl
      subst el
      refine ⟨fun c fs0 e0 => ?_, fun kd n f e0 => ?_⟩
      · obtain ⟨fs1, e1, g1⟩ := a1 c fs0 e0
        rw [hf] at e1
        cases e1
        exact ⟨fs2, List.getElem?_set_self hlt, fun k hk => (hE k hk).trans (g1 k hk)⟩
      · obtain ⟨f1, e1, -⟩ := a2 kd n f e0
        rw [hf] at e1
        cases e1
    · refine ⟨fun c fs0 e0 => ?_, fun kd n f e0 => ?_⟩
      · rw [List.getElem?_set_ne e]
        exact a1 c fs0 e0
      · rw [List.getElem?_set_ne e]
        exact a2 kd n f e0
section zyMore
variable {K : zx_K} {X : zx_X} {cap : Nat × Nat} {tab : Nat → Option zx_Q} {Q : zx_S → Prop} {pc mc ms : Nat} {ls : List (Nat × zx_V)} {st : List zx_V} {w : List zx_E}
theorem zy_ci {n c : Nat} (ht : tab pc = some (zx_ci n c)) (kk : zx_wp K X cap tab Q (pc + n, ls, (.inl (Int32.ofNat c)) :: st, w, mc, ms)) : zx_wp K X cap tab Q (pc, ls, st, w, mc, ms) := zx_wp_pure (μ := (pc + n, ls, (.inl (Int32.ofNat c)) :: st, w, mc, ms)) ht rfl kk
theorem zy_dup {q : Nat} (ht : tab pc = some zx_o_dup) (kk : zx_wp K X cap tab Q (pc + 1, ls, (.inr (.inr (.inl q))) :: (.inr (.inr (.inl q))) :: st, w, mc, ms)) : zx_wp K X cap tab Q (pc, ls, (.inr (.inr (.inl q))) :: st, w, mc, ms) := zx_wp_pure (μ := (pc + 1, ls, (.inr (.inr (.inl q))) :: (.inr (.inr (.inl q))) :: st, w, mc, ms)) ht rfl kk
theorem zy_add {x y : Int32} (ht : tab pc = some zx_o_iadd) (kk : zx_wp K X cap tab Q (pc + 1, ls, (.inl (x + y)) :: st, w, mc, ms)) : zx_wp K X cap tab Q (pc, ls, (.inl y) :: (.inl x) :: st, w, mc, ms) := zx_wp_pure (μ := (pc + 1, ls, (.inl (x + y)) :: st, w, mc, ms)) ht rfl kk
theorem zy_sub {x y : Int32} (ht : tab pc = some zx_o_isub) (kk : zx_wp K X cap tab Q (pc + 1, ls, (.inl (x - y)) :: st, w, mc, ms)) : zx_wp K X cap tab Q (pc, ls, (.inl y) :: (.inl x) :: st, w, mc, ms) := zx_wp_pure (μ := (pc + 1, ls, (.inl (x - y)) :: st, w, mc, ms)) ht rfl kk
end zyMore
/-- the two counters of the history replaced -/
theorem te_histW {cap : Nat × Nat} {E : tj_Ef} {Ψ0 Ψ : List Nat} {w0 w : List zx_E} {mc ms : Nat} (h : tj_W tj_Lam cap E Ψ0 w0 Ψ w mc ms) {q : Nat} {fs : List zx_V} {a b : Int32} (hq : Ψ[q]? = some 53) (hf : w[q]? = some (.inl (2, fs))) (ha : 2147483648 ≤ zx_b a) (hb : 2147483648 ≤ zx_b b) (hab : zx_b a + zx_b b ≤ 4294967336) (h4 : tj_h2 53 4 E.1 = true) (h5 : tj_h2 53 5 E.1 = true) : tj_W tj_Lam cap E Ψ0 w0 Ψ (w.set q (.inl (2, ((fs.set 4 (.inl a)).set 5 (.inl b))))) mc ms := by
  have hd : ∃ fts, tj_Lam[53]? = some (.inl (2, 1, fts)) ∧ fts.length = 6 ∧ fts[4]? = some (0, 2147483648, 2147483688) ∧ fts[5]? = some (0, 2147483648, 2147483688) := ⟨_, rfl, rfl, rfl, rfl⟩
  obtain ⟨fts, hd, hl, t4, t5⟩ := hd
  obtain ⟨fs', hf', hlen, -, hty⟩ := tj_obj h.1 hq hd
  rw [hf] at hf'
  cases hf'
  have hne : (4 : Nat) ≠ 5 := by decide
  have hlen6 : fs.length = 6 := by rw [hlen, hl]
  have g4 : ((fs.set 4 (.inl a)).set 5 (.inl b))[4]? = some (.inl a) := by
    rw [List.getElem?_set_ne (Ne.symm hne), List.getElem?_set_self (by omega)]
  have g5 : ((fs.set 4 (.inl a)).set 5 (.inl b))[5]? = some (.inl b) := by
    rw [List.getElem?_set_self (by rw [List.length_set]; omega)]
  refine tj_W_obj h hq hd hf (by rw [List.length_set, List.length_set]; exact hlen) (fun k t v hk hv => ?_) ⟨a, b, g4, g5, hab⟩ (by decide) (fun k hk => ?_)
  · by_cases e5 : k = 5
    · subst e5
      rw [t5] at hk
      rw [g5] at hv
      cases hk
      cases hv
      exact ⟨b, rfl, hb, by omega⟩
    · by_cases e4 : k = 4
      · subst e4
        rw [t4] at hk
        rw [g4] at hv
        cases hk
        cases hv
        exact ⟨a, rfl, ha, by omega⟩
      · rw [List.getElem?_set_ne (Ne.symm e5), List.getElem?_set_ne (Ne.symm e4)] at hv
        obtain ⟨v', h1, h2⟩ := hty k t hk
        rw [h1] at hv
        cases hv
        exact h2
  · have e5 : k ≠ 5 := fun e => by rw [e, h5] at hk; cases hk
    have e4 : k ≠ 4 := fun e => by rw [e, h4] at hk; cases hk
    rw [List.getElem?_set_ne (Ne.symm e5), List.getElem?_set_ne (Ne.symm e4)]
theorem te_hist {Ψ : List Nat} {w : List zx_E} (hw : tj_wt tj_Lam Ψ w) {q : Nat} (hq : Ψ[q]? = some 53) : ∃ fs x y, w[q]? = some (.inl (2, fs)) ∧ fs.length = 6 ∧ fs[4]? = some (.inl x) ∧ fs[5]? = some (.inl y) ∧ 2147483648 ≤ zx_b x ∧ 2147483648 ≤ zx_b y ∧ zx_b x + zx_b y ≤ 4294967336 := by
  have hd : ∃ fts, tj_Lam[53]? = some (.inl (2, 1, fts)) ∧ fts.length = 6 ∧ fts[4]? = some (0, 2147483648, 2147483688) ∧ fts[5]? = some (0, 2147483648, 2147483688) := ⟨_, rfl, rfl, rfl, rfl⟩
  obtain ⟨fts, hd, hl, t4, t5⟩ := hd
  obtain ⟨fs, hf, hlen, hi, hty⟩ := tj_obj hw hq hd
  obtain ⟨x, y, h1, h2, h3⟩ := hi
  obtain ⟨v4, e4, p4⟩ := hty 4 _ t4
  obtain ⟨v5, e5, p5⟩ := hty 5 _ t5
  rw [h1] at e4
  cases e4
  rw [h2] at e5
  cases e5
  obtain ⟨x', ex, b1, -⟩ := p4
  cases ex
  obtain ⟨y', ey, b2, -⟩ := p5
  cases ey
  exact ⟨fs, x, y, hf, by rw [hlen, hl], h1, h2, b1, b2, h3⟩
/-- an answer 0 or 1 given back -/
theorem te_end {cap : Nat × Nat} {E : tj_Ef} {Ψ0 Ψ : List Nat} {w0 w : List zx_E} {pc mc ms : Nat} {ls : List (Nat × zx_V)} {K : zx_K} {dt : List (List (Nat × zx_I))} {av : List zx_V} {ts : List tj_y} {x : Int32} (ht : zx_find (zx_cT dt) pc = some zx_r5) (hW : tj_W tj_Lam (tj_P tj_c1 w0, tj_P tj_c2 w0) E Ψ0 w0 Ψ w mc ms) (hx1 : 2147483648 ≤ zx_b x) (hx2 : zx_b x ≤ 2147483649) (hty : tj_typed Ψ av ts) : zx_wp K none cap (zx_find (zx_cT dt)) (tj_Post tj_Lam E Ψ0 w0 dt [(ts, some (0, 2147483648, 2147483649), ([], [], []))] av) (pc, ls, [(.inl x)], w, mc, ms) := by
  have hr : tj_retT Ψ (some (0, 2147483648, 2147483649)) (some (.inl x)) := ⟨_, rfl, ⟨x, rfl, hx1, hx2⟩⟩
  refine zx_wp_done ⟨(some (.inl x), w), Ψ, _, ⟨Nat.le_refl _, Nat.le_refl _, rfl, ?_⟩, hW.2.1.1, hW.2.1.2, hW.2.2.1, hW.1, hW.2.2.2, List.mem_cons_self, hty, hr, zy_noout hr⟩
  show (match zx_find (zx_cT dt) pc with
    | some (1, _, _, _) => _
    | some (5, _, _, _) => _
    | some (4, _, _, _) => _
    | some (2, _, _, _) => _
    | _ => False)
  rw [ht]
  exact ⟨x, rfl, tj_bit hx1 hx2, rfl⟩
set_option maxRecDepth 20000 in
theorem te_b8 : tj_KS1 (zx_Cl zx_mt zx_rc zx_mx' 3) tj_Lam te_h8 := by
  refine zy_method (d := 2) (dt := zx_d_X2_stepBack) (by rw [← zx_q_X2_stepBack]; rfl) (by decide +kernel) (by decide +kernel) ?_
  intro Ψ av w hw hty _
  match av, hty with
  | [v0, v1], ⟨⟨q, hv0, hq⟩, ⟨p, hv1, hp⟩, _⟩ =>
    subst hv0
    subst hv1
    obtain ⟨fs, x, y, hf, hlen, h4, h5, bx, b_y, hs⟩ := te_hist hw hq
    have hW : tj_W tj_Lam (tj_P tj_c1 w, tj_P tj_c2 w) te_h8.2.2.1 Ψ w Ψ w 0 0 := ⟨hw, ⟨by show 0 + _ ≤ _; omega, by show 0 + _ ≤ _; omega⟩, tj_le_rf, tj_fr_rf⟩
    have hty : tj_typed Ψ [(.inr (.inr (.inl q))), (.inr (.inr (.inl p)))] [(1, 53, 0), (1, 33, 0)] := ⟨⟨q, rfl, hq⟩, ⟨p, rfl, hp⟩, trivial⟩
    have hlw : q < w.length := (List.getElem?_eq_some_iff.mp hf).1
    have hpw : p < w.length := by rw [← hw.1]; exact (List.getElem?_eq_some_iff.mp hp).1
    show zx_wp _ none _ _ _ (0, [(0, (.inr (.inr (.inl q)))), (1, (.inr (.inr (.inl p))))], [], w, 0, 0)
    refine zy_la (k := 0) rfl rfl (Or.inl ⟨q, rfl⟩) ?_
    refine zy_get rfl hf h4 ?_
    refine zy_j0 rfl (fun hgt => ?_) (fun _ => ?_)
    · have hgt : 2147483648 < zx_b x := hgt
      refine zy_la (k := 0) rfl rfl (Or.inl ⟨q, rfl⟩) ?_
      refine zy_dup rfl ?_
      refine zy_get rfl hf h4 ?_
      refine zy_ci rfl ?_
      refine zy_sub rfl ?_
      refine zy_put rfl hf (by omega) rfl ?_
      refine zy_la (k := 0) rfl rfl (Or.inl ⟨q, rfl⟩) ?_
      refine zy_dup rfl ?_
      refine zy_get (fs := fs.set 4 (.inl (x - 1))) rfl (List.getElem?_set_self hlw) (by rw [List.getElem?_set_ne (by decide)]; exact h5) ?_
      refine zy_ci rfl ?_
      refine zy_add rfl ?_
      refine zy_put (fs := fs.set 4 (.inl (x - 1))) rfl (List.getElem?_set_self hlw) (by rw [List.length_set]; omega) rfl ?_
      rw [List.set_set]
      have e1 : zx_b (x - 1) = zx_b x - 1 := by
        have h1 : zx_b 1 = 2147483649 := by decide
        have := tj_b_sub x 1
        have := tj_b_lt x
        omega
      have e2 : zx_b (y + 1) = zx_b y + 1 := by
        have h1 : zx_b 1 = 2147483649 := by decide
        have := tj_b_add y 1
        omega
      have hW2 := te_histW (a := x - 1) (b := y + 1) hW hq hf (by omega) (by omega) (by omega) (by decide +kernel) (by decide +kernel)
      refine zy_la (k := 0) rfl rfl (Or.inl ⟨q, rfl⟩) ?_
      refine zy_la (k := 1) rfl rfl (Or.inl ⟨p, rfl⟩) ?_
      have hls : zx_limP (w.set q (.inl (2, ((fs.set 4 (.inl (x - 1))).set 5 (.inl (y + 1)))))).length [(0, (.inr (.inr (.inl q)))), (1, (.inr (.inr (.inl p))))] = true := by
        rw [List.length_set]
        show (Nat.blt q w.length && (Nat.blt p w.length && true)) = true
        rw [show Nat.blt q w.length = true from Nat.ble_eq_true_of_le hlw, show Nat.blt p w.length = true from Nat.ble_eq_true_of_le hpw]
        rfl
      refine zy_call (C := te_s559) te_p559 (n := 2) (av := [(.inr (.inr (.inl q))), (.inr (.inr (.inl p)))]) (st := []) rfl rfl (by decide) hls rfl hW2 hty (zy_nopre hty) (by decide +kernel) (by decide +kernel) ?_
      intro r cy Ψ' o hW3 hle hfr hls3 ho hto hro hho
      have hty3 : tj_typed Ψ' [(.inr (.inr (.inl q))), (.inr (.inr (.inl p)))] [(1, 53, 0), (1, 33, 0)] := ⟨⟨q, rfl, hle _ _ hq⟩, ⟨p, rfl, hle _ _ hp⟩, trivial⟩
      rcases List.mem_cons.mp ho with e | e
      · subst e
        obtain ⟨v, hv, ⟨z, hz, z1, z2⟩⟩ := hro
        subst hz
        rw [hv]
        exact te_end rfl hW3 (by omega) (by omega) hty3
      · have e := List.mem_singleton.mp e
        subst e
        obtain ⟨v, hv, ⟨z, hz, z1, z2⟩⟩ := hro
        subst hz
        rw [hv]
        exact te_end rfl hW3 (by omega) (by omega) hty3
    · refine zy_ci rfl ?_
      exact te_end rfl hW (by decide) (by decide) hty
set_option maxRecDepth 20000 in
theorem te_b3 : tj_KS1 (zx_Cl zx_mt zx_rc zx_mx' 3) tj_Lam te_h3 := by
  refine zy_method (d := 2) (dt := zx_d_X2_stepForth) (by rw [← zx_q_X2_stepForth]; rfl) (by decide +kernel) (by decide +kernel) ?_
  intro Ψ av w hw hty _
  match av, hty with
  | [v0, v1], ⟨⟨q, hv0, hq⟩, ⟨p, hv1, hp⟩, _⟩ =>
    subst hv0
    subst hv1
    obtain ⟨fs, x, y, hf, hlen, h4, h5, bx, b_y, hs⟩ := te_hist hw hq
    have hW : tj_W tj_Lam (tj_P tj_c1 w, tj_P tj_c2 w) te_h3.2.2.1 Ψ w Ψ w 0 0 := ⟨hw, ⟨by show 0 + _ ≤ _; omega, by show 0 + _ ≤ _; omega⟩, tj_le_rf, tj_fr_rf⟩
    have hty : tj_typed Ψ [(.inr (.inr (.inl q))), (.inr (.inr (.inl p)))] [(1, 53, 0), (1, 33, 0)] := ⟨⟨q, rfl, hq⟩, ⟨p, rfl, hp⟩, trivial⟩
    have hlw : q < w.length := (List.getElem?_eq_some_iff.mp hf).1
    have hpw : p < w.length := by rw [← hw.1]; exact (List.getElem?_eq_some_iff.mp hp).1
    show zx_wp _ none _ _ _ (0, [(0, (.inr (.inr (.inl q)))), (1, (.inr (.inr (.inl p))))], [], w, 0, 0)
    refine zy_la (k := 0) rfl rfl (Or.inl ⟨q, rfl⟩) ?_
    refine zy_get rfl hf h5 ?_
    refine zy_j0 rfl (fun hgt => ?_) (fun _ => ?_)
    · have hgt : 2147483648 < zx_b y := hgt
      refine zy_la (k := 0) rfl rfl (Or.inl ⟨q, rfl⟩) ?_
      refine zy_dup rfl ?_
      refine zy_get rfl hf h4 ?_
      refine zy_ci rfl ?_
      refine zy_add rfl ?_
      refine zy_put rfl hf (by omega) rfl ?_
      refine zy_la (k := 0) rfl rfl (Or.inl ⟨q, rfl⟩) ?_
      refine zy_dup rfl ?_
      refine zy_get (fs := fs.set 4 (.inl (x + 1))) rfl (List.getElem?_set_self hlw) (by rw [List.getElem?_set_ne (by decide)]; exact h5) ?_
      refine zy_ci rfl ?_
      refine zy_sub rfl ?_
      refine zy_put (fs := fs.set 4 (.inl (x + 1))) rfl (List.getElem?_set_self hlw) (by rw [List.length_set]; omega) rfl ?_
      rw [List.set_set]
      have e1 : zx_b (x + 1) = zx_b x + 1 := by
        have h1 : zx_b 1 = 2147483649 := by decide
        have := tj_b_add x 1
        omega
      have e2 : zx_b (y - 1) = zx_b y - 1 := by
        have h1 : zx_b 1 = 2147483649 := by decide
        have := tj_b_sub y 1
        have := tj_b_lt y
        omega
      have hW2 := te_histW (a := x + 1) (b := y - 1) hW hq hf (by omega) (by omega) (by omega) (by decide +kernel) (by decide +kernel)
      refine zy_la (k := 0) rfl rfl (Or.inl ⟨q, rfl⟩) ?_
      refine zy_la (k := 1) rfl rfl (Or.inl ⟨p, rfl⟩) ?_
      have hls : zx_limP (w.set q (.inl (2, ((fs.set 4 (.inl (x + 1))).set 5 (.inl (y - 1)))))).length [(0, (.inr (.inr (.inl q)))), (1, (.inr (.inr (.inl p))))] = true := by
        rw [List.length_set]
        show (Nat.blt q w.length && (Nat.blt p w.length && true)) = true
        rw [show Nat.blt q w.length = true from Nat.ble_eq_true_of_le hlw, show Nat.blt p w.length = true from Nat.ble_eq_true_of_le hpw]
        rfl
      refine zy_call (C := te_s559) te_p559 (n := 2) (av := [(.inr (.inr (.inl q))), (.inr (.inr (.inl p)))]) (st := []) rfl rfl (by decide) hls rfl hW2 hty (zy_nopre hty) (by decide +kernel) (by decide +kernel) ?_
      intro r cy Ψ' o hW3 hle hfr hls3 ho hto hro hho
      have hty3 : tj_typed Ψ' [(.inr (.inr (.inl q))), (.inr (.inr (.inl p)))] [(1, 53, 0), (1, 33, 0)] := ⟨⟨q, rfl, hle _ _ hq⟩, ⟨p, rfl, hle _ _ hp⟩, trivial⟩
      rcases List.mem_cons.mp ho with e | e
      · subst e
        obtain ⟨v, hv, ⟨z, hz, z1, z2⟩⟩ := hro
        subst hz
        rw [hv]
        exact te_end rfl hW3 (by omega) (by omega) hty3
      · have e := List.mem_singleton.mp e
        subst e
        obtain ⟨v, hv, ⟨z, hz, z1, z2⟩⟩ := hro
        subst hz
        rw [hv]
        exact te_end rfl hW3 (by omega) (by omega) hty3
    · refine zy_ci rfl ?_
      exact te_end rfl hW (by decide) (by decide) hty
