/-! by hand: small methods of the reference, exactly -/
theorem zy_fun {d y : Nat} {dt : List (List (Nat × zx_I))} {av : List zx_V} {w : List zx_E} {r : zx_R} (hmt : zx_mt y = some (zx_find (zx_cT dt))) (hrc : zx_rok w (zx_rc y) av) (hml : zx_words av ≤ zx_mx' y) (hrun : zx_wp (zx_Cl zx_mt zx_rc zx_mx' d) none (0, 0) (zx_find (zx_cT dt)) (fun σ => zx_ret (zx_find (zx_cT dt)) (0, 0) σ r) (0, zx_args 0 av, [], w, 0, 0)) : zx_Cl zx_mt zx_rc zx_mx' (d + 1) y av w (0, 0) r := by
  obtain ⟨n, σ, h1, h2⟩ := hrun
  exact ⟨_, hmt, hrc, hml, n, σ, h1, h2⟩
theorem tr_bm {x : Int} (h1 : -2147483648 ≤ x) (h2 : x < 2147483648) : x.bmod (2 ^ 32) = x := Int.bmod_eq_of_le (by omega) (by omega)
theorem tr_c {c : Nat} (h : c < 2147483648) : (Int32.ofNat c).toInt = (c : Int) := (tl_const h).2
theorem tr_add {x y : Int32} (h1 : -2147483648 ≤ x.toInt + y.toInt) (h2 : x.toInt + y.toInt < 2147483648) : (x + y).toInt = x.toInt + y.toInt := by
  rw [Int32.toInt_add]
  exact tr_bm h1 h2
theorem tr_sub {x y : Int32} (h1 : -2147483648 ≤ x.toInt - y.toInt) (h2 : x.toInt - y.toInt < 2147483648) : (x - y).toInt = x.toInt - y.toInt := by
  rw [Int32.toInt_sub]
  exact tr_bm h1 h2
/-- c * x, small -/
theorem tr_mul {c : Nat} {x : Int32} {m : Int} (hc : c < 2147483648) (h : (c : Int) * x.toInt = m) (h1 : -2147483648 ≤ m) (h2 : m < 2147483648) : (Int32.ofNat c * x).toInt = m := by
  rw [Int32.toInt_mul, tr_c hc, h]
  exact tr_bm h1 h2
theorem tr_in {x : Int32} {n : Nat} (h1 : 0 ≤ x.toInt) (h2 : x.toInt < n) : zx_in x n = true := by
  have b := zx_b_int x
  exact (tj_in (x := x) (n := n) (by omega) (by omega)).1
def tr_fo (d : Option tj_D) : List tj_y := match d with
  | some (.inl (_, _, f)) => f
  | _ => []
def tr_go (d : Option tj_D) : List tj_y := match d with
  | some (.inr (_, _, f)) => f
  | _ => []
def tr_fts : List tj_y := tr_fo (tj_Lam[149]?)
theorem tr_hd : tj_Lam[149]? = some (.inl (12, 3, tr_fts)) := rfl
/-- 4 * bank + p -/
theorem tr_p4 {bk p : Int32} (hb : bk.toInt = 0 ∨ bk.toInt = 1) (hp : 0 ≤ p.toInt ∧ p.toInt ≤ 3) : (Int32.ofNat 4 * bk + p).toInt = 4 * bk.toInt + p.toInt := by
  have h := tr_mul (c := 4) (x := bk) (m := 4 * bk.toInt) (by decide) rfl (by omega) (by omega)
  rw [tr_add (by omega) (by omega), h]
theorem tr_p3 {bk p k : Int32} (hb : bk.toInt = 0 ∨ bk.toInt = 1) (hp : 0 ≤ p.toInt ∧ p.toInt ≤ 3) (hk : 0 ≤ k.toInt ∧ k.toInt ≤ 2) : (Int32.ofNat 3 * (Int32.ofNat 4 * bk + p) + k).toInt = 3 * (4 * bk.toInt + p.toInt) + k.toInt := by
  have h4 := tr_p4 hb hp
  have h := tr_mul (c := 3) (x := Int32.ofNat 4 * bk + p) (m := 3 * (4 * bk.toInt + p.toInt)) (by decide) (by rw [h4]; rfl) (by omega) (by omega)
  rw [tr_add (by omega) (by omega), h]
section trSmall
variable {w : List zx_E} {q : Nat} {bk p k h d : Int32} {tm ho al hv : Nat → Int32}
theorem tr_this (h39 : tj_fi w q 12 39 bk) : ∃ fs, w[q]? = some (.inl (12, fs)) ∧ fs[39]? = some (.inl bk) ∧ q < w.length := by
  obtain ⟨fs, h1, h2⟩ := h39
  exact ⟨fs, h1, h2, (List.getElem?_eq_some_iff.mp h1).1⟩
set_option maxRecDepth 20000 in
theorem tr_turnK (h39 : tj_fi w q 12 39 bk) (h24 : tj_fa w q 12 24 8 tm) (hb : bk.toInt = 0 ∨ bk.toInt = 1) (hp : 0 ≤ p.toInt ∧ p.toInt ≤ 3) : zx_Cl zx_mt zx_rc zx_mx' 1 206 [(.inr (.inr (.inl q))), (.inl p)] w (0, 0) (some (.inl (tm (Int32.ofNat 4 * bk + p).toNatClampNeg)), w) := by
  obtain ⟨fs, k0, k39⟩ := h39
  obtain ⟨fs', a, k0', k24, ka⟩ := h24
  rw [k0] at k0'
  cases k0'
  have h4 := tr_p4 hb hp
  refine zy_fun (d := 0) (dt := zx_d_X12_turnOf) (by rw [← zx_q_X12_turnOf]; rfl) (by rw [(by decide +kernel : zx_rc 206 = 13)]; exact ⟨q, _, fs, rfl, k0⟩) (by decide +kernel : 2 ≤ zx_mx' 206) ?_
  show zx_wp _ none _ _ _ (0, [(0, (.inr (.inr (.inl q)))), (1, (.inl p))], [], w, 0, 0)
  refine zy_la (k := 0) rfl rfl (Or.inl ⟨_, rfl⟩) ?_
  refine zy_get rfl k0 k24 ?_
  refine zy_ci (n := 1) (c := 4) rfl ?_
  refine zy_la (k := 0) rfl rfl (Or.inl ⟨_, rfl⟩) ?_
  refine zy_get rfl k0 k39 ?_
  refine zy_mul rfl ?_
  refine zy_li (k := 1) rfl rfl ?_
  refine zy_add rfl ?_
  refine zy_ld rfl ka (tr_in (by omega) (by omega)) ?_
  exact zx_wp_done ⟨Nat.le_refl _, Nat.le_refl _, rfl, ⟨_, rfl, rfl⟩⟩
set_option maxRecDepth 20000 in
theorem tr_halfAtK (h39 : tj_fi w q 12 39 bk) (h23 : tj_fa w q 12 23 24 ho) (hb : bk.toInt = 0 ∨ bk.toInt = 1) (hp : 0 ≤ p.toInt ∧ p.toInt ≤ 3) (hk : 0 ≤ k.toInt ∧ k.toInt ≤ 2) : zx_Cl zx_mt zx_rc zx_mx' 1 129 [(.inr (.inr (.inl q))), (.inl p), (.inl k)] w (0, 0) (some (.inl (ho (Int32.ofNat 3 * (Int32.ofNat 4 * bk + p) + k).toNatClampNeg)), w) := by
  obtain ⟨fs, k0, k39⟩ := h39
  obtain ⟨fs', a, k0', k23, ka⟩ := h23
  rw [k0] at k0'
  cases k0'
  have h4 := tr_p3 hb hp hk
  refine zy_fun (d := 0) (dt := zx_d_X12_halfAt) (by rw [← zx_q_X12_halfAt]; rfl) (by rw [(by decide +kernel : zx_rc 129 = 13)]; exact ⟨q, _, fs, rfl, k0⟩) (by decide +kernel : 3 ≤ zx_mx' 129) ?_
  show zx_wp _ none _ _ _ (0, [(0, (.inr (.inr (.inl q)))), (1, (.inl p)), (2, (.inl k))], [], w, 0, 0)
  refine zy_la (k := 0) rfl rfl (Or.inl ⟨_, rfl⟩) ?_
  refine zy_get rfl k0 k23 ?_
  refine zy_ci (n := 1) (c := 3) rfl ?_
  refine zy_ci (n := 1) (c := 4) rfl ?_
  refine zy_la (k := 0) rfl rfl (Or.inl ⟨_, rfl⟩) ?_
  refine zy_get rfl k0 k39 ?_
  refine zy_mul rfl ?_
  refine zy_li (k := 1) rfl rfl ?_
  refine zy_add rfl ?_
  refine zy_mul rfl ?_
  refine zy_li (k := 2) rfl rfl ?_
  refine zy_add rfl ?_
  refine zy_ld rfl ka (tr_in (by omega) (by omega)) ?_
  exact zx_wp_done ⟨Nat.le_refl _, Nat.le_refl _, rfl, ⟨_, rfl, rfl⟩⟩
theorem zy_shr {K : zx_K} {X : zx_X} {cap : Nat × Nat} {tab : Nat → Option zx_Q} {Q : zx_S → Prop} {pc mc ms : Nat} {ls : List (Nat × zx_V)} {st : List zx_V} {w : List zx_E} {x y : Int32} (ht : tab pc = some zx_o_ishr) (kk : zx_wp K X cap tab Q (pc + 1, ls, (.inl (x >>> (y &&& 31))) :: st, w, mc, ms)) : zx_wp K X cap tab Q (pc, ls, (.inl y) :: (.inl x) :: st, w, mc, ms) := zx_wp_pure (μ := (pc + 1, ls, (.inl (x >>> (y &&& 31))) :: st, w, mc, ms)) ht rfl kk
theorem zy_and {K : zx_K} {X : zx_X} {cap : Nat × Nat} {tab : Nat → Option zx_Q} {Q : zx_S → Prop} {pc mc ms : Nat} {ls : List (Nat × zx_V)} {st : List zx_V} {w : List zx_E} {x y : Int32} (ht : tab pc = some zx_o_iand) (kk : zx_wp K X cap tab Q (pc + 1, ls, (.inl (x &&& y)) :: st, w, mc, ms)) : zx_wp K X cap tab Q (pc, ls, (.inl y) :: (.inl x) :: st, w, mc, ms) := zx_wp_pure (μ := (pc + 1, ls, (.inl (x &&& y)) :: st, w, mc, ms)) ht rfl kk
theorem tr_beq {x y : Int32} (h : zx_b x = zx_b y) : x = y := tj_b_inj h
set_option maxRecDepth 20000 in
theorem tr_aliveK {fs : List zx_V} {a : Nat} (k0 : w[q]? = some (.inl (12, fs))) (k49 : fs[49]? = some (.inr (.inr (.inl a)))) (ka : w[a]? = some (.inr (0, 119, .inl al))) : ∃ v, zx_Cl zx_mt zx_rc zx_mx' 1 137 [(.inr (.inr (.inl q))), (.inl h)] w (0, 0) (some (.inl v), w) ∧ ((v = Int32.ofNat 1 ∧ tj_alv al h) ∨ (v = Int32.ofNat 0 ∧ ¬ tj_alv al h)) := by
  have key : ∀ v, zx_wp (zx_Cl zx_mt zx_rc zx_mx' 0) none (0, 0) (zx_find (zx_cT zx_d_X12_isAlive)) (fun σ => zx_ret (zx_find (zx_cT zx_d_X12_isAlive)) (0, 0) σ (some (.inl v), w)) (0, [(0, (.inr (.inr (.inl q)))), (1, (.inl h))], [], w, 0, 0) → zx_Cl zx_mt zx_rc zx_mx' 1 137 [(.inr (.inr (.inl q))), (.inl h)] w (0, 0) (some (.inl v), w) := fun v hv => zy_fun (d := 0) (dt := zx_d_X12_isAlive) (by rw [← zx_q_X12_isAlive]; rfl) (by rw [(by decide +kernel : zx_rc 137 = 13)]; exact ⟨q, _, fs, rfl, k0⟩) (by decide +kernel : 2 ≤ zx_mx' 137) hv
  have e2 : (Int32.ofNat 2).toNatClampNeg = 2 := by decide
  by_cases hA : tj_alv al h
  · refine ⟨Int32.ofNat 1, key _ ?_, Or.inl ⟨rfl, hA⟩⟩
    refine zy_la (k := 0) rfl rfl (Or.inl ⟨_, rfl⟩) ?_
    refine zy_get rfl k0 k49 ?_
    refine zy_ci (n := 1) (c := 2) rfl ?_
    refine zy_ld rfl ka (by decide) ?_
    rw [e2]
    refine zy_li (k := 1) rfl rfl ?_
    refine zy_shr rfl ?_
    refine zy_ci (n := 1) (c := 1) rfl ?_
    refine zy_and rfl ?_
    refine zy_ci (n := 1) (c := 1) rfl ?_
    refine zy_jt rfl (fun hn => ?_) (fun _ => ?_)
    · have hn : zx_b ((al 2 >>> (h &&& 31)) &&& Int32.ofNat 1) ≠ zx_b (Int32.ofNat 1) := hn
      exact absurd (congrArg zx_b hA) hn
    · refine zy_ci (n := 1) (c := 1) rfl ?_
      refine zy_goto rfl ?_
      exact zx_wp_done ⟨Nat.le_refl _, Nat.le_refl _, rfl, ⟨_, rfl, Or.inr rfl, rfl⟩⟩
  · refine ⟨Int32.ofNat 0, key _ ?_, Or.inr ⟨rfl, hA⟩⟩
    refine zy_la (k := 0) rfl rfl (Or.inl ⟨_, rfl⟩) ?_
    refine zy_get rfl k0 k49 ?_
    refine zy_ci (n := 1) (c := 2) rfl ?_
    refine zy_ld rfl ka (by decide) ?_
    rw [e2]
    refine zy_li (k := 1) rfl rfl ?_
    refine zy_shr rfl ?_
    refine zy_ci (n := 1) (c := 1) rfl ?_
    refine zy_and rfl ?_
    refine zy_ci (n := 1) (c := 1) rfl ?_
    refine zy_jt rfl (fun _ => ?_) (fun he => ?_)
    · refine zy_ci (n := 1) (c := 0) rfl ?_
      exact zx_wp_done ⟨Nat.le_refl _, Nat.le_refl _, rfl, ⟨_, rfl, Or.inl rfl, rfl⟩⟩
    · have he : zx_b ((al 2 >>> (h &&& 31)) &&& Int32.ofNat 1) = zx_b (Int32.ofNat 1) := he
      exact absurd (tr_beq he) hA
set_option maxRecDepth 20000 in
theorem tr_isInK {x a b : Int32} : ∃ v, zx_Cl zx_mt zx_rc zx_mx' 1 146 [(.inl x), (.inl a), (.inl b)] w (0, 0) (some (.inl v), w) ∧ ((v = Int32.ofNat 1 ∧ a.toInt ≤ x.toInt ∧ x.toInt ≤ b.toInt) ∨ (v = Int32.ofNat 0 ∧ ¬ (a.toInt ≤ x.toInt ∧ x.toInt ≤ b.toInt))) := by
  have key : ∀ v, zx_wp (zx_Cl zx_mt zx_rc zx_mx' 0) none (0, 0) (zx_find (zx_cT zx_d_X12_isIn)) (fun σ => zx_ret (zx_find (zx_cT zx_d_X12_isIn)) (0, 0) σ (some (.inl v), w)) (0, [(0, (.inl x)), (1, (.inl a)), (2, (.inl b))], [], w, 0, 0) → zx_Cl zx_mt zx_rc zx_mx' 1 146 [(.inl x), (.inl a), (.inl b)] w (0, 0) (some (.inl v), w) := fun v hv => zy_fun (d := 0) (dt := zx_d_X12_isIn) (by rw [← zx_q_X12_isIn]; rfl) (by rw [(by decide +kernel : zx_rc 146 = 0)]; trivial) (by decide +kernel : 3 ≤ zx_mx' 146) hv
  have bx := zx_b_int x
  have ba := zx_b_int a
  have bb := zx_b_int b
  by_cases hA : a.toInt ≤ x.toInt ∧ x.toInt ≤ b.toInt
  · refine ⟨Int32.ofNat 1, key _ ?_, Or.inl ⟨rfl, hA⟩⟩
    refine zy_li (k := 0) rfl rfl ?_
    refine zy_li (k := 1) rfl rfl ?_
    refine zy_jt rfl (fun h1 => ?_) (fun _ => ?_)
    · have h1 : zx_b x < zx_b a := h1
      omega
    refine zy_li (k := 0) rfl rfl ?_
    refine zy_li (k := 2) rfl rfl ?_
    refine zy_jt rfl (fun h1 => ?_) (fun _ => ?_)
    · have h1 : zx_b b < zx_b x := h1
      omega
    refine zy_ci (n := 1) (c := 1) rfl ?_
    refine zy_goto rfl ?_
    exact zx_wp_done ⟨Nat.le_refl _, Nat.le_refl _, rfl, ⟨_, rfl, Or.inr rfl, rfl⟩⟩
  · refine ⟨Int32.ofNat 0, key _ ?_, Or.inr ⟨rfl, hA⟩⟩
    refine zy_li (k := 0) rfl rfl ?_
    refine zy_li (k := 1) rfl rfl ?_
    refine zy_jt rfl (fun _ => ?_) (fun h1 => ?_)
    · refine zy_ci (n := 1) (c := 0) rfl ?_
      exact zx_wp_done ⟨Nat.le_refl _, Nat.le_refl _, rfl, ⟨_, rfl, Or.inl rfl, rfl⟩⟩
    have h1 : zx_b a ≤ zx_b x := h1
    refine zy_li (k := 0) rfl rfl ?_
    refine zy_li (k := 2) rfl rfl ?_
    refine zy_jt rfl (fun _ => ?_) (fun h2 => ?_)
    · refine zy_ci (n := 1) (c := 0) rfl ?_
      exact zx_wp_done ⟨Nat.le_refl _, Nat.le_refl _, rfl, ⟨_, rfl, Or.inl rfl, rfl⟩⟩
    · have h2 : zx_b x ≤ zx_b b := h2
      exact absurd ⟨by omega, by omega⟩ hA
end trSmall
