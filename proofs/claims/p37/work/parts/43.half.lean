/-! by hand: Reader.indexOf exactly, Reader.halfNamed -/
section zyHalf
variable {K : zx_K} {X : zx_X} {cap : Nat × Nat} {tab : Nat → Option zx_Q} {Q : zx_S → Prop} {pc mc ms : Nat} {ls : List (Nat × zx_V)} {st : List zx_V} {w : List zx_E}
theorem zy_si {n k : Nat} {x : Int32} (ht : tab pc = some (zx_si n k)) (kk : zx_wp K X cap tab Q (pc + n, zx_put k (.inl x) ls, st, w, mc, ms)) : zx_wp K X cap tab Q (pc, ls, (.inl x) :: st, w, mc, ms) := zx_wp_pure (μ := (pc + n, zx_put k (.inl x) ls, st, w, mc, ms)) ht rfl kk
theorem zy_ik {k n : Nat} {x : Int32} (ht : tab pc = some (zx_ik k n)) (hv : zx_look k ls = some (.inl x)) (kk : zx_wp K X cap tab Q (pc + 3, zx_put k (.inl (x + Int32.ofNat n)) ls, st, w, mc, ms)) : zx_wp K X cap tab Q (pc, ls, st, w, mc, ms) := by
  refine zy_f (μ := (pc + 3, zx_put k (.inl (x + Int32.ofNat n)) ls, st, w, mc, ms)) ht ?_ kk
  simp only [zx_inc, hv]
theorem zy_al {q kd n : Nat} {f : (Nat → Int32) ⊕ (Nat → Int64) ⊕ List (Option Nat)} (ht : tab pc = some zx_al) (hq : w[q]? = some (.inr (kd, n, f))) (hk : Nat.blt kd 5 = true) (kk : zx_wp K X cap tab Q (pc + 1, ls, (.inl (Int32.ofNat n)) :: st, w, mc, ms)) : zx_wp K X cap tab Q (pc, ls, (.inr (.inr (.inl q))) :: st, w, mc, ms) := by
  refine zx_wp_pure (μ := (pc + 1, ls, (.inl (Int32.ofNat n)) :: st, w, mc, ms)) ht ?_ kk
  show zx_alen X _ = _
  simp only [zx_alen, hq, hk]
theorem zy_ldj {q n : Nat} {i : Int32} {g : Nat → Int64} (ht : tab pc = some zx_ldj) (hq : w[q]? = some (.inr (1, n, .inr (.inl g)))) (hin : zx_in i n = true) (kk : zx_wp K X cap tab Q (pc + 1, ls, (.inr (.inl (g i.toNatClampNeg))) :: st, w, mc, ms)) : zx_wp K X cap tab Q (pc, ls, (.inl i) :: (.inr (.inr (.inl q))) :: st, w, mc, ms) := by
  refine zx_wp_pure (μ := (pc + 1, ls, (.inr (.inl (g i.toNatClampNeg))) :: st, w, mc, ms)) ht ?_ kk
  show zx_lald _ = _
  simp only [zx_lald, hq, zx_beqT (rfl : (1 : Nat) = 1), hin, Bool.and_self]
theorem zy_lcmp {x y : Int64} (ht : tab pc = some zx_o_lcmp) (kk : zx_wp K X cap tab Q (pc + 1, ls, (.inl (lg_cmp x y)) :: st, w, mc, ms)) : zx_wp K X cap tab Q (pc, ls, (.inr (.inl y)) :: (.inr (.inl x)) :: st, w, mc, ms) := zx_wp_pure (μ := (pc + 1, ls, (.inl (lg_cmp x y)) :: st, w, mc, ms)) ht rfl kk
end zyHalf
/-- what indexOf answers -/
def te_ixP (g : Nat → Int64) (nm : Int64) (n m : Nat) (x : Int32) : Prop := (zx_b x = 2147483647 ∧ ∀ i, i < n → i < m → g i ≠ nm) ∨ ∃ i, i < n ∧ i < m ∧ zx_b x = 2147483648 + i ∧ g i = nm
set_option maxRecDepth 20000 in
theorem te_index {w : List zx_E} {q qn n : Nat} {fs : List zx_V} {nm : Int64} {g : Nat → Int64} {hv : Int32} (hq : w[q]? = some (.inl (4, fs))) (h11 : fs[11]? = some (.inr (.inl nm))) (hn : w[qn]? = some (.inr (1, n, .inr (.inl g)))) (hn1 : n ≤ 1000) (hh : 2147483648 ≤ zx_b hv) : ∃ x, zx_Cl zx_mt zx_rc zx_mx' 1 259 [(.inr (.inr (.inl q))), (.inr (.inr (.inl qn))), (.inl hv)] w (0, 0) (some (.inl x), w) ∧ te_ixP g nm n (zx_b hv - 2147483648) x := by
  have hrun : zx_wp (zx_Cl zx_mt zx_rc zx_mx' 0) none (0, 0) (zx_find (zx_cT zx_d_X4_indexOf)) (fun σ => ∃ x, zx_ret (zx_find (zx_cT zx_d_X4_indexOf)) (0, 0) σ (some (.inl x), w) ∧ te_ixP g nm n (zx_b hv - 2147483648) x) (0, [(0, (.inr (.inr (.inl q)))), (1, (.inr (.inr (.inl qn)))), (2, (.inl hv))], [], w, 0, 0) := by
    refine zy_ci rfl ?_
    refine zy_si rfl ?_
    have hbn : zx_b (Int32.ofNat n) = 2147483648 + n := by
      rw [tj_b_of]
      omega
    have hloop := zx_wp_loop (K := zx_Cl zx_mt zx_rc zx_mx' 0) (X := none) (cap := (0, 0)) (tab := zx_find (zx_cT zx_d_X4_indexOf)) (Q := fun σ => ∃ x, zx_ret (zx_find (zx_cT zx_d_X4_indexOf)) (0, 0) σ (some (.inl x), w) ∧ te_ixP g nm n (zx_b hv - 2147483648) x) (fun a : Int32 => (2, [(3, (.inl a)), (0, (.inr (.inr (.inl q)))), (1, (.inr (.inr (.inl qn)))), (2, (.inl hv))], [], w, 0, 0)) (fun a => 2147483648 + n - zx_b a) (fun a => 2147483648 ≤ zx_b a ∧ zx_b a ≤ 2147483648 + n ∧ zx_b a ≤ zx_b hv ∧ ∀ i, 2147483648 + i < zx_b a → g i ≠ nm) ?_
    · exact hloop 0 ⟨by decide, by show zx_b 0 ≤ _; rw [show zx_b 0 = 2147483648 by decide]; omega, by rw [show zx_b 0 = 2147483648 by decide]; exact hh, fun i hi => by rw [show zx_b 0 = 2147483648 by decide] at hi; omega⟩
    · intro a ⟨a1, a2, a3, a4⟩
      have hnone : (2147483648 + n ≤ zx_b a ∨ zx_b hv ≤ zx_b a) → zx_wp (zx_Cl zx_mt zx_rc zx_mx' 0) none (0, 0) (zx_find (zx_cT zx_d_X4_indexOf)) (fun τ => (∃ x, zx_ret (zx_find (zx_cT zx_d_X4_indexOf)) (0, 0) τ (some (.inl x), w) ∧ te_ixP g nm n (zx_b hv - 2147483648) x) ∨ ∃ a', τ = (2, [(3, (.inl a')), (0, (.inr (.inr (.inl q)))), (1, (.inr (.inr (.inl qn)))), (2, (.inl hv))], [], w, 0, 0) ∧ (2147483648 ≤ zx_b a' ∧ zx_b a' ≤ 2147483648 + n ∧ zx_b a' ≤ zx_b hv ∧ ∀ i, 2147483648 + i < zx_b a' → g i ≠ nm) ∧ 2147483648 + n - zx_b a' < 2147483648 + n - zx_b a) (32, [(3, (.inl a)), (0, (.inr (.inr (.inl q)))), (1, (.inr (.inr (.inl qn)))), (2, (.inl hv))], [], w, 0, 0) := by
        intro hor
        refine zy_ci rfl ?_
        refine zx_wp_done (Or.inl ⟨_, ⟨Nat.le_refl _, Nat.le_refl _, rfl, ⟨_, rfl, rfl⟩⟩, Or.inl ⟨by decide, fun i i1 i2 => a4 i (by omega)⟩⟩)
      refine zy_li (k := 3) rfl rfl ?_
      refine zy_li (k := 2) rfl rfl ?_
      refine zy_jt rfl (fun hge => hnone (Or.inr hge)) (fun hlt => ?_)
      have hlt : zx_b a < zx_b hv := hlt
      refine zy_li (k := 3) rfl rfl ?_
      refine zy_la (k := 1) rfl rfl (Or.inl ⟨_, rfl⟩) ?_
      refine zy_al rfl hn rfl ?_
      refine zy_jt rfl (fun hge => hnone (Or.inl (by have hge : zx_b (Int32.ofNat n) ≤ zx_b a := hge; omega))) (fun hlt2 => ?_)
      have hlt2 : zx_b a < zx_b (Int32.ofNat n) := hlt2
      obtain ⟨hin, hi⟩ := tj_in (x := a) (n := n) a1 (by omega)
      refine zy_la (k := 1) rfl rfl (Or.inl ⟨_, rfl⟩) ?_
      refine zy_li (k := 3) rfl rfl ?_
      refine zy_ldj rfl hn hin ?_
      refine zy_la (k := 0) rfl rfl (Or.inl ⟨_, rfl⟩) ?_
      refine zy_get rfl hq h11 ?_
      refine zy_lcmp rfl ?_
      refine zy_j0 rfl (fun hne => ?_) (fun heq => ?_)
      · have hne : zx_b (lg_cmp (g a.toNatClampNeg) nm) ≠ 2147483648 := hne
        have hg : g a.toNatClampNeg ≠ nm := fun e => hne (by rw [(lg_cmp_eq _ _).mpr e]; decide)
        refine zy_ik (k := 3) rfl rfl ?_
        refine zy_goto rfl ?_
        have e1 : zx_b (a + Int32.ofNat 1) = zx_b a + 1 := by
          have h1 : zx_b (Int32.ofNat 1) = 2147483649 := by decide
          have := tj_b_add a (Int32.ofNat 1)
          omega
        refine zx_wp_done (Or.inr ⟨a + Int32.ofNat 1, rfl, ⟨by omega, by omega, by omega, fun i hi2 => ?_⟩, by omega⟩)
        by_cases e : 2147483648 + i < zx_b a
        · exact a4 i e
        · have : i = a.toNatClampNeg := by omega
          rw [this]
          exact hg
      · have heq : zx_b (lg_cmp (g a.toNatClampNeg) nm) = 2147483648 := heq
        have hg : g a.toNatClampNeg = nm := (lg_cmp_eq _ _).mp (tj_b_inj (by rw [heq]; decide))
        refine zy_li (k := 3) rfl rfl ?_
        exact zx_wp_done (Or.inl ⟨_, ⟨Nat.le_refl _, Nat.le_refl _, rfl, ⟨_, rfl, rfl⟩⟩, Or.inr ⟨a.toNatClampNeg, by omega, by omega, by omega, hg⟩⟩)
  obtain ⟨k, σ, h1, x, h2, h3⟩ := hrun
  exact ⟨x, ⟨_, (by rw [← zx_q_X4_indexOf]; rfl : zx_mt 259 = some (zx_find (zx_cT zx_d_X4_indexOf))), ⟨q, _, fs, rfl, hq⟩, (by decide +kernel : 3 ≤ zx_mx' 259), k, σ, h1, h2⟩, h3⟩
set_option maxRecDepth 20000 in
/-- halfNamed exactly -/
theorem te_half {Ψ : List Nat} {w : List zx_E} (hw : tj_wt tj_Lam Ψ w) {q : Nat} (hq : Ψ[q]? = some 49) : ∃ x, zx_Cl zx_mt zx_rc zx_mx' 2 258 [(.inr (.inr (.inl q)))] w (0, 0) (some (.inl x), w) ∧ ((zx_b x = 2147483647 ∧ tj_sm0 (.inr (.inr (.inl q))) w) ∨ (2147483648 ≤ zx_b x ∧ zx_b x ≤ 2147483655 ∧ ¬ tj_sm0 (.inr (.inr (.inl q))) w)) := by
  have hd : ∃ fts, tj_Lam[49]? = some (.inl (4, 2, fts)) ∧ fts[10]? = some (0, 0, 4294967295) ∧ fts[11]? = some (3, 0, 0) ∧ fts[0]? = some (1, 27, 0) ∧ fts[1]? = some (1, 44, 0) := ⟨_, rfl, rfl, rfl, rfl, rfl⟩
  obtain ⟨fts, hd, t10, t11, t0, t1⟩ := hd
  obtain ⟨fs, hf, -, -, hty⟩ := tj_obj hw hq hd
  obtain ⟨v10, h10, ⟨tk, e10, -, -⟩⟩ := hty 10 _ t10
  obtain ⟨v11, h11, ⟨nm, e11⟩⟩ := hty 11 _ t11
  obtain ⟨v0, h0, ⟨qd, e0, hqd⟩⟩ := hty 0 _ t0
  obtain ⟨v1, h1, ⟨qn, e1, hqn⟩⟩ := hty 1 _ t1
  subst e10
  subst e11
  subst e0
  subst e1
  have hd2 : ∃ fts, tj_Lam[27]? = some (.inl (10, 0, fts)) ∧ fts[0]? = some (0, 2147483648, 2147483656) := ⟨_, rfl, rfl⟩
  obtain ⟨ftd, hd2, td0⟩ := hd2
  obtain ⟨fd, hfd, -, -, htyd⟩ := tj_obj hw hqd hd2
  obtain ⟨vd0, hd0, ⟨hv, ed0, b1, b2⟩⟩ := htyd 0 _ td0
  subst ed0
  obtain ⟨g, hg⟩ := tj_larr (n := 8) (s := []) hw hqn rfl
  have hlw : q < w.length := (List.getElem?_eq_some_iff.mp hf).1
  have hls : zx_limP w.length [(0, (.inr (.inr (.inl q))))] = true := by
    show (Nat.blt q w.length && true) = true
    rw [show Nat.blt q w.length = true from Nat.ble_eq_true_of_le hlw]
    rfl
  have hsm : (tk = 2 → ∀ i : Nat, i < 8 → (i : Int) < hv.toInt → g i ≠ nm) → tj_sm0 (.inr (.inr (.inl q))) w := fun h => ⟨q, fs, tk, nm, qd, fd, hv, qn, 8, g, rfl, hf, h10, h11, h0, hfd, hd0, h1, hg, h⟩
  have hns : tk = 2 → (∃ i : Nat, i < 8 ∧ (i : Int) < hv.toInt ∧ g i = nm) → ¬ tj_sm0 (.inr (.inr (.inl q))) w := by
    intro etk ⟨i, i1, i2, i3⟩ ⟨q', fs', tk', nm', qd', fd', hv', qn', n', g', c1, c2, c3, c4, c5, c6, c7, c8, c9, c10⟩
    cases c1
    rw [hf] at c2
    cases c2
    rw [h10] at c3
    cases c3
    rw [h11] at c4
    cases c4
    rw [h0] at c5
    cases c5
    rw [hfd] at c6
    cases c6
    rw [hd0] at c7
    cases c7
    rw [h1] at c8
    cases c8
    rw [hg] at c9
    cases c9
    exact c10 etk i i1 i2 i3
  have hrun : zx_wp (zx_Cl zx_mt zx_rc zx_mx' 1) none (0, 0) (zx_find (zx_cT zx_d_X4_halfNamed)) (fun σ => ∃ x, zx_ret (zx_find (zx_cT zx_d_X4_halfNamed)) (0, 0) σ (some (.inl x), w) ∧ ((zx_b x = 2147483647 ∧ tj_sm0 (.inr (.inr (.inl q))) w) ∨ (2147483648 ≤ zx_b x ∧ zx_b x ≤ 2147483655 ∧ ¬ tj_sm0 (.inr (.inr (.inl q))) w))) (0, [(0, (.inr (.inr (.inl q))))], [], w, 0, 0) := by
    refine zy_la (k := 0) rfl rfl (Or.inl ⟨_, rfl⟩) ?_
    refine zy_get rfl hf h10 ?_
    refine zy_ci rfl ?_
    refine zy_jt rfl (fun hne => ?_) (fun heq => ?_)
    · have hne : zx_b tk ≠ zx_b (Int32.ofNat 2) := hne
      refine zy_ci rfl ?_
      exact zx_wp_done ⟨_, ⟨Nat.le_refl _, Nat.le_refl _, rfl, ⟨_, rfl, rfl⟩⟩, Or.inl ⟨by decide, hsm (fun e => absurd (by rw [e]; rfl) hne)⟩⟩
    · have heq : zx_b tk = zx_b (Int32.ofNat 2) := heq
      have etk : tk = 2 := tj_b_inj heq
      refine zy_la (k := 0) rfl rfl (Or.inl ⟨_, rfl⟩) ?_
      refine zy_la (k := 0) rfl rfl (Or.inl ⟨_, rfl⟩) ?_
      refine zy_get rfl hf h1 ?_
      refine zy_la (k := 0) rfl rfl (Or.inl ⟨_, rfl⟩) ?_
      refine zy_get rfl hf h0 ?_
      refine zy_get rfl hfd hd0 ?_
      obtain ⟨x, hK, hx⟩ := te_index hf h11 hg (by omega) b1
      refine zx_wp_call (a := 0) (n := 3) (y := 259) (g := zx_no) (av := [(.inr (.inr (.inl q))), (.inr (.inr (.inl qn))), (.inl hv)]) (st' := []) (cy := (0, 0)) (r := (some (.inl x), w)) rfl rfl (by decide) hls rfl (Nat.le_refl _) (Nat.le_refl _) hK ?_
      refine zy_goto rfl ?_
      refine zx_wp_done ⟨x, ⟨Nat.le_refl _, Nat.le_refl _, rfl, ⟨_, rfl, rfl⟩⟩, ?_⟩
      have hvi := zx_b_int hv
      rcases hx with ⟨x1, x2⟩ | ⟨i, i1, i2, i3, i4⟩
      · exact Or.inl ⟨x1, hsm (fun _ i i1 i2 => x2 i i1 (by omega))⟩
      · exact Or.inr ⟨by omega, by omega, hns etk ⟨i, i1, by omega, i4⟩⟩
  obtain ⟨k, σ, k1, x, k2, k3⟩ := hrun
  exact ⟨x, ⟨_, (by rw [← zx_q_X4_halfNamed]; rfl : zx_mt 258 = some (zx_find (zx_cT zx_d_X4_halfNamed))), ⟨q, _, fs, rfl, hf⟩, (by decide +kernel : 1 ≤ zx_mx' 258), k, σ, k1, k2⟩, k3⟩
theorem te_halfo {Ψ : List Nat} {w : List zx_E} {q : Nat} {x : Int32} (h1 : zx_b x = 2147483647) (h : tj_sm0 (.inr (.inr (.inl q))) w) : tj_Ho Ψ w [(.inr (.inr (.inl q)))] (some (.inl x)) ([(1, 49, 0)], some (0, 2147483647, 2147483647), ([], [], [(103, .inr 0, .inr 0, .inr 0)])) := by
  refine ⟨fun k => (([(.inr (.inr (.inl q))), (.inl x)] : List zx_V)[k]?).getD (.inr (.inr (.inr 0))), fun i v hi => ?_, fun j t hj => ?_, fun f hf => ?_⟩
  · have hi : ([(.inr (.inr (.inl q))), (.inl x)] : List zx_V)[i]? = some v := hi
    show (([(.inr (.inr (.inl q))), (.inl x)] : List zx_V)[i]?).getD _ = v
    rw [hi]
    rfl
  · cases j with
    | zero =>
      cases hj
      exact ⟨x, rfl, by omega, by omega⟩
    | succ j => cases hj
  · have e := List.mem_singleton.mp hf
    subst e
    exact h
theorem te_b6 : tj_KS1 (zx_Cl zx_mt zx_rc zx_mx' 2) tj_Lam te_h6 := by
  intro Ψ av w hw hty _
  match av, hty with
  | [v0], ⟨⟨q, hv0, hq⟩, _⟩ =>
    subst hv0
    obtain ⟨x, hK, hx⟩ := te_half hw hq
    have hty : tj_typed Ψ [(.inr (.inr (.inl q)))] [(1, 49, 0)] := ⟨⟨q, rfl, hq⟩, trivial⟩
    rcases hx with ⟨x1, x2⟩ | ⟨x1, x2, -⟩
    · exact ⟨(some (.inl x), w), (0, 0), Ψ, _, hK, by show 0 + tj_P tj_c1 w ≤ _; omega, by show 0 + tj_P tj_c2 w ≤ _; omega, tj_le_rf, hw, tj_fr_rf, List.mem_cons_self, hty, ⟨_, rfl, x, rfl, by omega, by omega⟩, te_halfo x1 x2⟩
    · have hr : tj_retT Ψ (some (0, 2147483648, 2147483655)) (some (.inl x)) := ⟨_, rfl, x, rfl, x1, x2⟩
      exact ⟨(some (.inl x), w), (0, 0), Ψ, _, hK, by show 0 + tj_P tj_c1 w ≤ _; omega, by show 0 + tj_P tj_c2 w ≤ _; omega, tj_le_rf, hw, tj_fr_rf, List.mem_cons_of_mem _ List.mem_cons_self, hty, hr, zy_noout hr⟩
theorem te_b7 : tj_KS1 (zx_Cl zx_mt zx_rc zx_mx' 2) tj_Lam te_h7 := by
  intro Ψ av w hw hty hp
  match av, hty with
  | [v0], ⟨⟨q, hv0, hq⟩, _⟩ =>
    subst hv0
    obtain ⟨ρ, r1, -, r3⟩ := hp
    have hs : tj_sm0 (ρ 0) w := r3 (103, .inr 0, .inr 0, .inr 0) List.mem_cons_self
    rw [r1 0 (.inr (.inr (.inl q))) rfl] at hs
    obtain ⟨x, hK, hx⟩ := te_half hw hq
    have hty : tj_typed Ψ [(.inr (.inr (.inl q)))] [(1, 49, 0)] := ⟨⟨q, rfl, hq⟩, trivial⟩
    rcases hx with ⟨x1, x2⟩ | ⟨-, -, x3⟩
    · exact ⟨(some (.inl x), w), (0, 0), Ψ, _, hK, by show 0 + tj_P tj_c1 w ≤ _; omega, by show 0 + tj_P tj_c2 w ≤ _; omega, tj_le_rf, hw, tj_fr_rf, List.mem_cons_self, hty, ⟨_, rfl, x, rfl, by omega, by omega⟩, te_halfo x1 x2⟩
    · exact absurd hs x3
