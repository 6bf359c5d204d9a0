/-! by hand: longs -/
section zyLong
variable {K : zx_K} {X : zx_X} {cap : Nat × Nat} {tab : Nat → Option zx_Q} {Q : zx_S → Prop} {pc mc ms : Nat} {ls : List (Nat × zx_V)} {st : List zx_V} {w : List zx_E}
theorem zy_cj {n c : Nat} (ht : tab pc = some (zx_cj n c)) (kk : zx_wp K X cap tab Q (pc + n, ls, (.inr (.inl (Int64.ofNat c))) :: st, w, mc, ms)) : zx_wp K X cap tab Q (pc, ls, st, w, mc, ms) := zx_wp_pure (μ := (pc + n, ls, (.inr (.inl (Int64.ofNat c))) :: st, w, mc, ms)) ht rfl kk
theorem zy_lj {n k : Nat} {x : Int64} (ht : tab pc = some (zx_lj n k)) (hv : zx_look k ls = some (.inr (.inl x))) (kk : zx_wp K X cap tab Q (pc + n, ls, (.inr (.inl x)) :: st, w, mc, ms)) : zx_wp K X cap tab Q (pc, ls, st, w, mc, ms) := by
  refine zy_f (μ := (pc + n, ls, (.inr (.inl x)) :: st, w, mc, ms)) ht ?_ kk
  simp only [zx_ldJ, hv, zx_push]
theorem zy_sj {n k : Nat} {x : Int64} (ht : tab pc = some (zx_sjj n k)) (kk : zx_wp K X cap tab Q (pc + n, zx_putL k (.inr (.inl x)) ls, st, w, mc, ms)) : zx_wp K X cap tab Q (pc, ls, (.inr (.inl x)) :: st, w, mc, ms) := zx_wp_pure (μ := (pc + n, zx_putL k (.inr (.inl x)) ls, st, w, mc, ms)) ht rfl kk
theorem zy_bj {f : Int64 → Int64 → Int64} {x y : Int64} (ht : tab pc = some (zx_q (zx_bj f))) (kk : zx_wp K X cap tab Q (pc + 1, ls, (.inr (.inl (f x y))) :: st, w, mc, ms)) : zx_wp K X cap tab Q (pc, ls, (.inr (.inl y)) :: (.inr (.inl x)) :: st, w, mc, ms) := zx_wp_pure (μ := (pc + 1, ls, (.inr (.inl (f x y))) :: st, w, mc, ms)) ht rfl kk
theorem zy_hj {f : Int64 → Int32 → Int64} {x : Int64} {y : Int32} (ht : tab pc = some (zx_q (zx_sj f))) (kk : zx_wp K X cap tab Q (pc + 1, ls, (.inr (.inl (f x y))) :: st, w, mc, ms)) : zx_wp K X cap tab Q (pc, ls, (.inl y) :: (.inr (.inl x)) :: st, w, mc, ms) := zx_wp_pure (μ := (pc + 1, ls, (.inr (.inl (f x y))) :: st, w, mc, ms)) ht rfl kk
theorem zy_i2l {x : Int32} (ht : tab pc = some zx_o_i2l) (kk : zx_wp K X cap tab Q (pc + 1, ls, (.inr (.inl x.toInt64)) :: st, w, mc, ms)) : zx_wp K X cap tab Q (pc, ls, (.inl x) :: st, w, mc, ms) := zx_wp_pure (μ := (pc + 1, ls, (.inr (.inl x.toInt64)) :: st, w, mc, ms)) ht rfl kk
theorem zy_l2i {x : Int64} (ht : tab pc = some zx_o_l2i) (kk : zx_wp K X cap tab Q (pc + 1, ls, (.inl x.toInt32) :: st, w, mc, ms)) : zx_wp K X cap tab Q (pc, ls, (.inr (.inl x)) :: st, w, mc, ms) := zx_wp_pure (μ := (pc + 1, ls, (.inl x.toInt32) :: st, w, mc, ms)) ht rfl kk
theorem zy_mxl {x y : Int64} (ht : tab pc = some zx_mxl) (hs : st.length ≤ 4) (hc : mc ≤ cap.1) (hm : ms ≤ cap.2) (kk : zx_wp K X cap tab Q (pc + 3, ls, (.inr (.inl (if y < x then x else y))) :: st, w, mc, ms)) : zx_wp K X cap tab Q (pc, ls, (.inr (.inl y)) :: (.inr (.inl x)) :: st, w, mc, ms) := by
  refine zx_wp_pure (μ := (pc + 3, ls, (.inr (.inl (if y < x then x else y))) :: st, w, mc, ms)) ht ?_ kk
  show zx_ml _ cap _ = _
  simp only [zx_ml, Nat.ble_eq_true_of_le hs, Nat.ble_eq_true_of_le hc, Nat.ble_eq_true_of_le hm, Bool.and_self]
theorem zy_mnl {x y : Int64} (ht : tab pc = some zx_mnl) (hs : st.length ≤ 4) (hc : mc ≤ cap.1) (hm : ms ≤ cap.2) (kk : zx_wp K X cap tab Q (pc + 3, ls, (.inr (.inl (if y < x then y else x))) :: st, w, mc, ms)) : zx_wp K X cap tab Q (pc, ls, (.inr (.inl y)) :: (.inr (.inl x)) :: st, w, mc, ms) := by
  refine zx_wp_pure (μ := (pc + 3, ls, (.inr (.inl (if y < x then y else x))) :: st, w, mc, ms)) ht ?_ kk
  show zx_ml _ cap _ = _
  simp only [zx_ml, Nat.ble_eq_true_of_le hs, Nat.ble_eq_true_of_le hc, Nat.ble_eq_true_of_le hm, Bool.and_self]
end zyLong
theorem tg_cut {u m M : Int64} (hm : m = if u < (Int32.ofNat 131072).toInt64 then u else (Int32.ofNat 131072).toInt64) (hM : M = if m < Int64.ofNat 0 then Int64.ofNat 0 else m) : 2147483648 ≤ zx_b M.toInt32 ∧ zx_b M.toInt32 ≤ 2147614720 := by
  have h0 : (Int64.ofNat 0).toInt = 0 := by decide
  have hn : ((Int32.ofNat 131072).toInt64).toInt = 131072 := by decide
  have h1 : m.toInt ≤ 131072 := by
    rw [hm]
    split
    next h =>
      have := Int64.lt_iff_toInt_lt.mp h
      omega
    next => omega
  have h2 : 0 ≤ M.toInt ∧ M.toInt ≤ 131072 := by
    rw [hM]
    split
    next => omega
    next h =>
      have h3 : ¬ m.toInt < (Int64.ofNat 0).toInt := fun e => h (Int64.lt_iff_toInt_lt.mpr e)
      omega
  have h4 : M.toInt32.toInt = M.toInt := by
    rw [Int64.toInt_toInt32]
    exact Int.bmod_eq_of_le (by omega) (by omega)
  have hb := zx_b_int M.toInt32
  omega
