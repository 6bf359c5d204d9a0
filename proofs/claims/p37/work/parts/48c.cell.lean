/-! by hand: Game.cell, Sums.isKnown -/
section zyMM
variable {K : zx_K} {X : zx_X} {cap : Nat × Nat} {tab : Nat → Option zx_Q} {Q : zx_S → Prop} {pc mc ms : Nat} {ls : List (Nat × zx_V)} {st : List zx_V} {w : List zx_E}
theorem zy_mx {x y : Int32} (ht : tab pc = some zx_mx) (hs : st.length ≤ 4) (hc : mc ≤ cap.1) (hm : ms ≤ cap.2) (kk : zx_wp K X cap tab Q (pc + 3, ls, (.inl (if x < y then y else x)) :: st, w, mc, ms)) : zx_wp K X cap tab Q (pc, ls, (.inl y) :: (.inl x) :: st, w, mc, ms) := by
  refine zx_wp_pure (μ := (pc + 3, ls, (.inl (if x < y then y else x)) :: st, w, mc, ms)) ht ?_ kk
  show zx_mm _ cap _ = _
  simp only [zx_mm, Nat.ble_eq_true_of_le hs, Nat.ble_eq_true_of_le hc, Nat.ble_eq_true_of_le hm, Bool.and_self]
theorem zy_mn {x y : Int32} (ht : tab pc = some zx_mn) (hs : st.length ≤ 4) (hc : mc ≤ cap.1) (hm : ms ≤ cap.2) (kk : zx_wp K X cap tab Q (pc + 3, ls, (.inl (if y < x then y else x)) :: st, w, mc, ms)) : zx_wp K X cap tab Q (pc, ls, (.inl y) :: (.inl x) :: st, w, mc, ms) := by
  refine zx_wp_pure (μ := (pc + 3, ls, (.inl (if y < x then y else x)) :: st, w, mc, ms)) ht ?_ kk
  show zx_mm _ cap _ = _
  simp only [zx_mm, Nat.ble_eq_true_of_le hs, Nat.ble_eq_true_of_le hc, Nat.ble_eq_true_of_le hm, Bool.and_self]
end zyMM
theorem tg_min (l : Int32) : (if l < Int32.ofNat 99 then l else Int32.ofNat 99).toInt = if l.toInt < 99 then l.toInt else 99 := by
  have h : (Int32.ofNat 99).toInt = 99 := by decide
  split
  next h1 =>
    have h2 := Int32.lt_iff_toInt_lt.mp h1
    rw [h] at h2
    rw [if_pos h2]
  next h1 =>
    have h2 : ¬ l.toInt < 99 := fun h2 => h1 (Int32.lt_iff_toInt_lt.mpr (by rw [h]; exact h2))
    rw [if_neg h2, h]
theorem tg_max (m : Int32) : (if Int32.ofNat 0 < m then m else Int32.ofNat 0).toInt = if 0 < m.toInt then m.toInt else 0 := by
  have h : (Int32.ofNat 0).toInt = 0 := by decide
  split
  next h1 =>
    have h2 := Int32.lt_iff_toInt_lt.mp h1
    rw [h] at h2
    rw [if_pos h2]
  next h1 =>
    have h2 : ¬ 0 < m.toInt := fun h2 => h1 (Int32.lt_iff_toInt_lt.mpr (by rw [h]; exact h2))
    rw [if_neg h2, h]
theorem tj_cl_le (y : Int) : tj_cl y ≤ 99 := by
  unfold tj_cl
  split
  · omega
  · split
    · omega
    · omega
theorem tg_clamp {l m z : Int32} (hm : m = if l < Int32.ofNat 99 then l else Int32.ofNat 99) (hz : z = if Int32.ofNat 0 < m then m else Int32.ofNat 0) : z.toInt = tj_cl l.toInt := by
  have h1 := tg_min l
  rw [← hm] at h1
  have h2 := tg_max m
  rw [← hz, h1] at h2
  unfold tj_cl
  by_cases a : l.toInt < 99
  · rw [if_pos a] at h2
    by_cases c : l.toInt < 0
    · rw [if_neg (by omega)] at h2
      rw [if_pos c, h2]
      rfl
    · rw [if_neg c, if_neg (by omega)]
      by_cases d : 0 < l.toInt
      · rw [if_pos d] at h2
        omega
      · rw [if_neg d] at h2
        omega
  · rw [if_neg a, if_pos (by decide)] at h2
    rw [if_neg (by omega)]
    by_cases b : 99 < l.toInt
    · rw [if_pos b, h2]
      rfl
    · rw [if_neg b]
      omega
theorem tg_cellv {x z : Int32} {c : Nat} (x1 : 2147483648 ≤ zx_b x) (x2 : zx_b x ≤ 2147483668) (hz : z.toInt = c) (hc : c ≤ 99) : (x * Int32.ofNat 100 + z).toInt = 100 * x.toInt + c ∧ zx_b (x * Int32.ofNat 100 + z) = 2147483648 + (zx_b x - 2147483648) * 100 + c := by
  have h100 : zx_b (Int32.ofNat 100) = 2147483748 := by decide
  obtain ⟨X, hX⟩ : ∃ X, zx_b x = 2147483648 + X := ⟨zx_b x - 2147483648, by omega⟩
  obtain ⟨m1, m2⟩ := tj_b_mul (x := x) (y := Int32.ofNat 100) (a := X) (b := X) (c := 100) (d := 100) (by omega) (by omega) (by omega) (by omega) (by omega)
  have eM : zx_b (x * Int32.ofNat 100) = 2147483648 + X * 100 := by omega
  have bz := zx_b_int z
  have eZ : zx_b z = 2147483648 + c := by omega
  have s2 := tj_b_add (x * Int32.ofNat 100) z
  have e3 : 2147483648 + X * 100 + (2147483648 + c) + 2147483648 = 4294967296 + (2147483648 + X * 100 + c) := by omega
  rw [eM, eZ, e3, Nat.add_mod_left, Nat.mod_eq_of_lt (by omega)] at s2
  have b1 := zx_b_int x
  have b2 := zx_b_int (x * Int32.ofNat 100 + z)
  clear m1 m2 eM e3 h100
  refine ⟨by omega, by rw [hX]; omega⟩
set_option maxRecDepth 20000 in
theorem tg_cellK {w : List zx_E} {x l : Int32} (x1 : 2147483648 ≤ zx_b x) (x2 : zx_b x ≤ 2147483668) : ∃ v, zx_Cl zx_mt zx_rc zx_mx' 1 217 [(.inl x), (.inl l)] w (0, 0) (some (.inl v), w) ∧ v.toInt = 100 * x.toInt + tj_cl l.toInt ∧ zx_b v = 2147483648 + (zx_b x - 2147483648) * 100 + tj_cl l.toInt := by
  have hrun : zx_wp (zx_Cl zx_mt zx_rc zx_mx' 0) none (0, 0) (zx_find (zx_cT zx_d_X1_cell)) (fun σ => ∃ v, zx_ret (zx_find (zx_cT zx_d_X1_cell)) (0, 0) σ (some (.inl v), w) ∧ v.toInt = 100 * x.toInt + tj_cl l.toInt ∧ zx_b v = 2147483648 + (zx_b x - 2147483648) * 100 + tj_cl l.toInt) (0, [(0, (.inl x)), (1, (.inl l))], [], w, 0, 0) := by
    refine zy_li (k := 0) rfl rfl ?_
    refine zy_ci (n := 2) (c := 100) rfl ?_
    refine zy_mul rfl ?_
    refine zy_ci (n := 1) (c := 0) rfl ?_
    refine zy_ci (n := 2) (c := 99) rfl ?_
    refine zy_li (k := 1) rfl rfl ?_
    refine zy_mn rfl (Nat.le_of_ble_eq_true rfl) (Nat.zero_le _) (Nat.zero_le _) ?_
    generalize hm : (if l < Int32.ofNat 99 then l else Int32.ofNat 99) = m
    refine zy_mx rfl (Nat.le_of_ble_eq_true rfl) (Nat.zero_le _) (Nat.zero_le _) ?_
    generalize hz : (if Int32.ofNat 0 < m then m else Int32.ofNat 0) = z
    refine zy_add rfl ?_
    obtain ⟨k1, k2⟩ := tg_cellv x1 x2 (tg_clamp hm.symm hz.symm) (tj_cl_le _)
    exact zx_wp_done ⟨_, ⟨Nat.le_refl _, Nat.le_refl _, rfl, ⟨_, rfl, rfl⟩⟩, k1, k2⟩
  obtain ⟨k, σ, h1, v, h2, h3⟩ := hrun
  exact ⟨v, ⟨_, (by rw [← zx_q_X1_cell]; rfl : zx_mt 217 = some (zx_find (zx_cT zx_d_X1_cell))), (by rw [(by decide +kernel : zx_rc 217 = 0)]; trivial), (by decide +kernel : 2 ≤ zx_mx' 217), k, σ, h1, h2⟩, h3⟩
theorem tg_cell {hi hr : Nat} (h1 : hi ≤ 2147483668) (h2 : 2147483747 + (hi - 2147483648) * 100 ≤ hr) : tj_KS1 (zx_Cl zx_mt zx_rc zx_mx' 1) tj_Lam (217, [(0, 2147483648, hi), (0, 0, 4294967295)], ([], []), [([(0, 2147483648, hi), (0, 0, 4294967295)], some (0, 2147483648, hr), ([], [], [(105, .inr 2, .inr 0, .inr 1)]))], ([], [], [])) := by
  intro Ψ av w hw hty _
  match av, hty with
  | [v0, v1], ⟨⟨x, hv0, x1, x2⟩, ⟨l, hv1, l1, l2⟩, _⟩ =>
    subst hv0
    subst hv1
    obtain ⟨v, hK, k1, k2⟩ := tg_cellK (w := w) (l := l) x1 (Nat.le_trans x2 h1)
    have kc := tj_cl_le l.toInt
    have hr' : tj_retT Ψ (some (0, 2147483648, hr)) (some (.inl v)) := ⟨_, rfl, ⟨v, rfl, by omega, by omega⟩⟩
    refine ⟨(some (.inl v), w), (0, 0), Ψ, _, hK, Nat.le_of_eq (Nat.zero_add _), Nat.le_of_eq (Nat.zero_add _), tj_le_rf, hw, tj_fr_rf, List.mem_cons_self, ⟨⟨x, rfl, x1, x2⟩, ⟨l, rfl, l1, l2⟩, trivial⟩, hr', ?_⟩
    refine ⟨fun k => (([(.inl x), (.inl l), (.inl v)] : List zx_V)[k]?).getD (.inr (.inr (.inr 0))), fun i u hi => ?_, fun j t hj => ?_, fun f hf => ?_⟩
    · have hi : ([(.inl x), (.inl l), (.inl v)] : List zx_V)[i]? = some u := hi
      show (([(.inl x), (.inl l), (.inl v)] : List zx_V)[i]?).getD (.inr (.inr (.inr 0))) = u
      rw [hi]
      rfl
    · cases j with
      | zero =>
        cases hj
        exact ⟨v, rfl, by omega, by omega⟩
      | succ j => cases hj
    · have e := List.mem_singleton.mp hf
      subst e
      exact ⟨v, x, l, rfl, rfl, rfl, k1⟩
