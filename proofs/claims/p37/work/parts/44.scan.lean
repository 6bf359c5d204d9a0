/-! by hand: Reader.isDigit, isLetter exactly; scanNumber -/
section zyScan
variable {K : zx_K} {X : zx_X} {cap : Nat × Nat} {tab : Nat → Option zx_Q} {Q : zx_S → Prop} {pc mc ms : Nat} {ls : List (Nat × zx_V)} {st : List zx_V} {w : List zx_E}
theorem zy_ld {q n : Nat} {i : Int32} {g : Nat → Int32} (ht : tab pc = some (zx_ld 0)) (hq : w[q]? = some (.inr (0, n, .inl g))) (hin : zx_in i n = true) (kk : zx_wp K X cap tab Q (pc + 1, ls, (.inl (g i.toNatClampNeg)) :: st, w, mc, ms)) : zx_wp K X cap tab Q (pc, ls, (.inl i) :: (.inr (.inr (.inl q))) :: st, w, mc, ms) := by
  refine zx_wp_pure (μ := (pc + 1, ls, (.inl (g i.toNatClampNeg)) :: st, w, mc, ms)) ht ?_ kk
  show zx_ald 0 X _ = _
  simp only [zx_ald, hq, zx_beqT (rfl : (0 : Nat) = 0), hin, Bool.and_self]
theorem zy_mul {x y : Int32} (ht : tab pc = some zx_o_imul) (kk : zx_wp K X cap tab Q (pc + 1, ls, (.inl (x * y)) :: st, w, mc, ms)) : zx_wp K X cap tab Q (pc, ls, (.inl y) :: (.inl x) :: st, w, mc, ms) := zx_wp_pure (μ := (pc + 1, ls, (.inl (x * y)) :: st, w, mc, ms)) ht rfl kk
end zyScan
set_option maxRecDepth 20000 in
theorem te_isDigit {w : List zx_E} {q qt n : Nat} {fs : List zx_V} {len i : Int32} {g : Nat → Int32} (hq : w[q]? = some (.inl (4, fs))) (h5 : fs[5]? = some (.inr (.inr (.inl qt)))) (h6 : fs[6]? = some (.inl len)) (hg : w[qt]? = some (.inr (0, n, .inl g))) (hn : zx_b len ≤ 2147483648 + n) : ∃ x, zx_Cl zx_mt zx_rc zx_mx' 1 261 [(.inr (.inr (.inl q))), (.inl i)] w (0, 0) (some (.inl x), w) ∧ (zx_b x = 2147483648 ∨ (zx_b x = 2147483649 ∧ 2147483648 ≤ zx_b i ∧ zx_b i < zx_b len ∧ 2147483648 + 48 ≤ zx_b (g (zx_b i - 2147483648)) ∧ zx_b (g (zx_b i - 2147483648)) ≤ 2147483648 + 57)) := by
  have hrun : zx_wp (zx_Cl zx_mt zx_rc zx_mx' 0) none (0, 0) (zx_find (zx_cT zx_d_X4_isDigit)) (fun σ => ∃ x, zx_ret (zx_find (zx_cT zx_d_X4_isDigit)) (0, 0) σ (some (.inl x), w) ∧ (zx_b x = 2147483648 ∨ (zx_b x = 2147483649 ∧ 2147483648 ≤ zx_b i ∧ zx_b i < zx_b len ∧ 2147483648 + 48 ≤ zx_b (g (zx_b i - 2147483648)) ∧ zx_b (g (zx_b i - 2147483648)) ≤ 2147483648 + 57))) (0, [(0, (.inr (.inr (.inl q)))), (1, (.inl i))], [], w, 0, 0) := by
    have hno : zx_wp (zx_Cl zx_mt zx_rc zx_mx' 0) none (0, 0) (zx_find (zx_cT zx_d_X4_isDigit)) (fun σ => ∃ x, zx_ret (zx_find (zx_cT zx_d_X4_isDigit)) (0, 0) σ (some (.inl x), w) ∧ (zx_b x = 2147483648 ∨ (zx_b x = 2147483649 ∧ 2147483648 ≤ zx_b i ∧ zx_b i < zx_b len ∧ 2147483648 + 48 ≤ zx_b (g (zx_b i - 2147483648)) ∧ zx_b (g (zx_b i - 2147483648)) ≤ 2147483648 + 57))) (38, [(0, (.inr (.inr (.inl q)))), (1, (.inl i))], [], w, 0, 0) := by
      refine zy_ci rfl ?_
      exact zx_wp_done ⟨_, ⟨Nat.le_refl _, Nat.le_refl _, rfl, ⟨_, rfl, Or.inl rfl, rfl⟩⟩, Or.inl (by decide)⟩
    refine zy_li (k := 1) rfl rfl ?_
    refine zy_j0 rfl (fun _ => hno) (fun i1 => ?_)
    have i1 : 2147483648 ≤ zx_b i := i1
    refine zy_li (k := 1) rfl rfl ?_
    refine zy_la (k := 0) rfl rfl (Or.inl ⟨_, rfl⟩) ?_
    refine zy_get rfl hq h6 ?_
    refine zy_jt rfl (fun _ => hno) (fun i2 => ?_)
    have i2 : zx_b i < zx_b len := i2
    obtain ⟨hin, hi⟩ := tj_in (x := i) (n := n) i1 (by omega)
    refine zy_la (k := 0) rfl rfl (Or.inl ⟨_, rfl⟩) ?_
    refine zy_get rfl hq h5 ?_
    refine zy_li (k := 1) rfl rfl ?_
    refine zy_ld rfl hg hin ?_
    refine zy_ci rfl ?_
    refine zy_jt rfl (fun _ => hno) (fun i3 => ?_)
    have i3 : zx_b (Int32.ofNat 48) ≤ zx_b (g i.toNatClampNeg) := i3
    refine zy_la (k := 0) rfl rfl (Or.inl ⟨_, rfl⟩) ?_
    refine zy_get rfl hq h5 ?_
    refine zy_li (k := 1) rfl rfl ?_
    refine zy_ld rfl hg hin ?_
    refine zy_ci rfl ?_
    refine zy_jt rfl (fun _ => hno) (fun i4 => ?_)
    have i4 : zx_b (g i.toNatClampNeg) ≤ zx_b (Int32.ofNat 57) := i4
    rw [hi] at i3 i4
    rw [show zx_b (Int32.ofNat 48) = 2147483648 + 48 by decide] at i3
    rw [show zx_b (Int32.ofNat 57) = 2147483648 + 57 by decide] at i4
    refine zy_ci rfl ?_
    refine zy_goto rfl ?_
    exact zx_wp_done ⟨_, ⟨Nat.le_refl _, Nat.le_refl _, rfl, ⟨_, rfl, Or.inr rfl, rfl⟩⟩, Or.inr ⟨by decide, i1, i2, i3, i4⟩⟩
  obtain ⟨k, σ, h1, x, h2, h3⟩ := hrun
  exact ⟨x, ⟨_, (by rw [← zx_q_X4_isDigit]; rfl : zx_mt 261 = some (zx_find (zx_cT zx_d_X4_isDigit))), ⟨q, _, fs, rfl, hq⟩, (by decide +kernel : 2 ≤ zx_mx' 261), k, σ, h1, h2⟩, h3⟩
set_option maxRecDepth 20000 in
theorem te_isLetter {w : List zx_E} {q qt n : Nat} {fs : List zx_V} {len i : Int32} {g : Nat → Int32} (hq : w[q]? = some (.inl (4, fs))) (h5 : fs[5]? = some (.inr (.inr (.inl qt)))) (h6 : fs[6]? = some (.inl len)) (hg : w[qt]? = some (.inr (0, n, .inl g))) (hn : zx_b len ≤ 2147483648 + n) : ∃ x, zx_Cl zx_mt zx_rc zx_mx' 1 262 [(.inr (.inr (.inl q))), (.inl i)] w (0, 0) (some (.inl x), w) ∧ (zx_b x = 2147483648 ∨ (zx_b x = 2147483649 ∧ 2147483648 ≤ zx_b i ∧ zx_b i < zx_b len ∧ 2147483648 + 97 ≤ zx_b (g (zx_b i - 2147483648)) ∧ zx_b (g (zx_b i - 2147483648)) ≤ 2147483648 + 122)) := by
  have hrun : zx_wp (zx_Cl zx_mt zx_rc zx_mx' 0) none (0, 0) (zx_find (zx_cT zx_d_X4_isLetter)) (fun σ => ∃ x, zx_ret (zx_find (zx_cT zx_d_X4_isLetter)) (0, 0) σ (some (.inl x), w) ∧ (zx_b x = 2147483648 ∨ (zx_b x = 2147483649 ∧ 2147483648 ≤ zx_b i ∧ zx_b i < zx_b len ∧ 2147483648 + 97 ≤ zx_b (g (zx_b i - 2147483648)) ∧ zx_b (g (zx_b i - 2147483648)) ≤ 2147483648 + 122))) (0, [(0, (.inr (.inr (.inl q)))), (1, (.inl i))], [], w, 0, 0) := by
    have hno : zx_wp (zx_Cl zx_mt zx_rc zx_mx' 0) none (0, 0) (zx_find (zx_cT zx_d_X4_isLetter)) (fun σ => ∃ x, zx_ret (zx_find (zx_cT zx_d_X4_isLetter)) (0, 0) σ (some (.inl x), w) ∧ (zx_b x = 2147483648 ∨ (zx_b x = 2147483649 ∧ 2147483648 ≤ zx_b i ∧ zx_b i < zx_b len ∧ 2147483648 + 97 ≤ zx_b (g (zx_b i - 2147483648)) ∧ zx_b (g (zx_b i - 2147483648)) ≤ 2147483648 + 122))) (38, [(0, (.inr (.inr (.inl q)))), (1, (.inl i))], [], w, 0, 0) := by
      refine zy_ci rfl ?_
      exact zx_wp_done ⟨_, ⟨Nat.le_refl _, Nat.le_refl _, rfl, ⟨_, rfl, Or.inl rfl, rfl⟩⟩, Or.inl (by decide)⟩
    refine zy_li (k := 1) rfl rfl ?_
    refine zy_j0 rfl (fun _ => hno) (fun i1 => ?_)
    have i1 : 2147483648 ≤ zx_b i := i1
    refine zy_li (k := 1) rfl rfl ?_
    refine zy_la (k := 0) rfl rfl (Or.inl ⟨_, rfl⟩) ?_
    refine zy_get rfl hq h6 ?_
    refine zy_jt rfl (fun _ => hno) (fun i2 => ?_)
    have i2 : zx_b i < zx_b len := i2
    obtain ⟨hin, hi⟩ := tj_in (x := i) (n := n) i1 (by omega)
    refine zy_la (k := 0) rfl rfl (Or.inl ⟨_, rfl⟩) ?_
    refine zy_get rfl hq h5 ?_
    refine zy_li (k := 1) rfl rfl ?_
    refine zy_ld rfl hg hin ?_
    refine zy_ci rfl ?_
    refine zy_jt rfl (fun _ => hno) (fun i3 => ?_)
    have i3 : zx_b (Int32.ofNat 97) ≤ zx_b (g i.toNatClampNeg) := i3
    refine zy_la (k := 0) rfl rfl (Or.inl ⟨_, rfl⟩) ?_
    refine zy_get rfl hq h5 ?_
    refine zy_li (k := 1) rfl rfl ?_
    refine zy_ld rfl hg hin ?_
    refine zy_ci rfl ?_
    refine zy_jt rfl (fun _ => hno) (fun i4 => ?_)
    have i4 : zx_b (g i.toNatClampNeg) ≤ zx_b (Int32.ofNat 122) := i4
    rw [hi] at i3 i4
    rw [show zx_b (Int32.ofNat 97) = 2147483648 + 97 by decide] at i3
    rw [show zx_b (Int32.ofNat 122) = 2147483648 + 122 by decide] at i4
    refine zy_ci rfl ?_
    refine zy_goto rfl ?_
    exact zx_wp_done ⟨_, ⟨Nat.le_refl _, Nat.le_refl _, rfl, ⟨_, rfl, Or.inr rfl, rfl⟩⟩, Or.inr ⟨by decide, i1, i2, i3, i4⟩⟩
  obtain ⟨k, σ, h1, x, h2, h3⟩ := hrun
  exact ⟨x, ⟨_, (by rw [← zx_q_X4_isLetter]; rfl : zx_mt 262 = some (zx_find (zx_cT zx_d_X4_isLetter))), ⟨q, _, fs, rfl, hq⟩, (by decide +kernel : 2 ≤ zx_mx' 262), k, σ, h1, h2⟩, h3⟩
