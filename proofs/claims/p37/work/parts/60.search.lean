/-! by hand: the hand-made summaries of the second phase; new Search -/
theorem tg_hands : tg_HH := by
  intro C hC
  simp only [List.mem_cons, List.not_mem_nil, or_false] at hC
  rcases hC with rfl | rfl
  · exact tm_beginM
  · exact tm_sweep
def tm_w6 (n to ga : Nat) : List zx_E := [(.inl (6, [(.inr (.inr (.inl ga))), (.inr (.inr (.inl (n + 8)))), (.inr (.inr (.inl (n + 1)))), (.inr (.inr (.inl (n + 2)))), .inl 0, .inl 0, .inl 0, (.inr (.inr (.inl (n + 3)))), (.inr (.inr (.inl (n + 4)))), (.inr (.inr (.inl (n + 5)))), (.inr (.inr (.inl (n + 6)))), .inl 0, (.inr (.inr (.inl (n + 7)))), .inr (.inl 0), .inl 0, .inl 0, .inl 0, .inl 0, .inl 0])), .inr (1, 131072, .inr (.inl (fun _ => 0))), .inr (1, 131072, .inr (.inl (fun _ => 0))), .inr (0, 101, .inl (fun _ => 0)), .inr (1, 2100, .inr (.inl (fun _ => 0))), .inr (1, 100, .inr (.inl (fun _ => 0))), .inr (1, 100, .inr (.inl (fun _ => 0))), .inr (2, 2100, .inl (fun _ => 0))] ++ tm_w9M (n + 8) to ga
set_option maxRecDepth 20000 in
theorem tm_init6 {w : List zx_E} {to ga : Nat} (hw : w.all (zx_limE w.length) = true) (hto : to < w.length) (hga : ga < w.length) : zx_Cl zx_mt zx_rc zx_mx' 2 291 [(.inr (.inr (.inl w.length))), (.inr (.inr (.inl to))), (.inr (.inr (.inl ga)))] (w ++ [(.inl (6, (zx_cls 6)))]) (17, 819170) (none, w ++ tm_w6 w.length to ga) := by
  have hls : zx_limP (w.length + 1) [(0, (.inr (.inr (.inl w.length)))), (1, (.inr (.inr (.inl to)))), (2, (.inr (.inr (.inl ga))))] = true := by
    show (Nat.blt w.length (w.length + 1) && (Nat.blt to (w.length + 1) && (Nat.blt ga (w.length + 1) && true))) = true
    rw [show Nat.blt w.length (w.length + 1) = true from te_blt0 (by decide), show Nat.blt to (w.length + 1) = true from Nat.ble_eq_true_of_le (by omega), show Nat.blt ga (w.length + 1) = true from Nat.ble_eq_true_of_le (by omega)]
    rfl
  have he0 : tm_eL w.length ((.inl (6, (zx_cls 6))) :: []) := rfl
  have hfit : ∀ q, zx_fit 1 (.inr (.inr (.inl q))) = true := fun _ => rfl
  have hrun : zx_wp (zx_Cl zx_mt zx_rc zx_mx' 1) none (17, 819170) (zx_find (zx_cT zx_d_X6_init)) (fun σ => zx_ret (zx_find (zx_cT zx_d_X6_init)) (17, 819170) σ (none, w ++ tm_w6 w.length to ga)) (0, [(0, (.inr (.inr (.inl w.length)))), (1, (.inr (.inr (.inl to)))), (2, (.inr (.inr (.inl ga))))], [], w ++ ((.inl (6, (zx_cls 6))) :: []), 0, 0) := by
    refine zy_la (k := 0) rfl rfl (Or.inl ⟨_, rfl⟩) ?_
    refine zy_ob rfl (by decide) ?_
    refine zy_alloc (c := 131072) (n1 := 2) (kd := 1) (k := 2) rfl rfl rfl rfl rfl hw he0 hls (by decide) (by decide) (by decide) (Nat.le_of_ble_eq_true rfl) hfit (by decide) (by decide) (fun he => ?_)
    refine zy_alloc (c := 131072) (n1 := 2) (kd := 1) (k := 3) rfl rfl rfl rfl rfl hw he hls (by decide) (by decide) (by decide) (Nat.le_of_ble_eq_true rfl) hfit (by decide) (by decide) (fun he => ?_)
    refine zy_alloc (c := 101) (n1 := 2) (kd := 0) (k := 7) rfl rfl rfl rfl rfl hw he hls (by decide) (by decide) (by decide) (Nat.le_of_ble_eq_true rfl) hfit (by decide) (by decide) (fun he => ?_)
    refine zy_alloc (c := 2100) (n1 := 3) (kd := 1) (k := 8) rfl rfl rfl rfl rfl hw he hls (by decide) (by decide) (by decide) (Nat.le_of_ble_eq_true rfl) hfit (by decide) (by decide) (fun he => ?_)
    refine zy_alloc (c := 100) (n1 := 2) (kd := 1) (k := 9) rfl rfl rfl rfl rfl hw he hls (by decide) (by decide) (by decide) (Nat.le_of_ble_eq_true rfl) hfit (by decide) (by decide) (fun he => ?_)
    refine zy_alloc (c := 100) (n1 := 2) (kd := 1) (k := 10) rfl rfl rfl rfl rfl hw he hls (by decide) (by decide) (by decide) (Nat.le_of_ble_eq_true rfl) hfit (by decide) (by decide) (fun he => ?_)
    refine zy_alloc (c := 2100) (n1 := 3) (kd := 2) (k := 12) rfl rfl rfl rfl rfl hw he hls (by decide) (by decide) (by decide) (Nat.le_of_ble_eq_true rfl) hfit (by decide) (by decide) (fun he => ?_)
    refine zy_pl (k := 0) (j := 2) (n2 := 1) rfl rfl rfl rfl rfl hga he (Nat.le_of_ble_eq_true rfl) hfit (fun he => ?_)
    have he8 : tm_eL w.length [(.inl (6, [(.inr (.inr (.inl ga))), .inr (.inr (.inr 0)), (.inr (.inr (.inl (w.length + 1)))), (.inr (.inr (.inl (w.length + 2)))), .inl 0, .inl 0, .inl 0, (.inr (.inr (.inl (w.length + 3)))), (.inr (.inr (.inl (w.length + 4)))), (.inr (.inr (.inl (w.length + 5)))), (.inr (.inr (.inl (w.length + 6)))), .inl 0, (.inr (.inr (.inl (w.length + 7)))), .inr (.inl 0), .inl 0, .inl 0, .inl 0, .inl 0, .inl 0])), .inr (1, 131072, .inr (.inl (fun _ => 0))), .inr (1, 131072, .inr (.inl (fun _ => 0))), .inr (0, 101, .inl (fun _ => 0)), .inr (1, 2100, .inr (.inl (fun _ => 0))), .inr (1, 100, .inr (.inl (fun _ => 0))), .inr (1, 100, .inr (.inl (fun _ => 0))), .inr (2, 2100, .inl (fun _ => 0))] := he
    show zx_wp _ none _ _ _ (67, [(0, (.inr (.inr (.inl w.length)))), (1, (.inr (.inr (.inl to)))), (2, (.inr (.inr (.inl ga))))], [], w ++ [(.inl (6, [(.inr (.inr (.inl ga))), .inr (.inr (.inr 0)), (.inr (.inr (.inl (w.length + 1)))), (.inr (.inr (.inl (w.length + 2)))), .inl 0, .inl 0, .inl 0, (.inr (.inr (.inl (w.length + 3)))), (.inr (.inr (.inl (w.length + 4)))), (.inr (.inr (.inl (w.length + 5)))), (.inr (.inr (.inl (w.length + 6)))), .inl 0, (.inr (.inr (.inl (w.length + 7)))), .inr (.inl 0), .inl 0, .inl 0, .inl 0, .inl 0, .inl 0])), .inr (1, 131072, .inr (.inl (fun _ => 0))), .inr (1, 131072, .inr (.inl (fun _ => 0))), .inr (0, 101, .inl (fun _ => 0)), .inr (1, 2100, .inr (.inl (fun _ => 0))), .inr (1, 100, .inr (.inl (fun _ => 0))), .inr (1, 100, .inr (.inl (fun _ => 0))), .inr (2, 2100, .inl (fun _ => 0))], 7, 266645)
    clear he
    generalize hev : [(.inl (6, [(.inr (.inr (.inl ga))), .inr (.inr (.inr 0)), (.inr (.inr (.inl (w.length + 1)))), (.inr (.inr (.inl (w.length + 2)))), .inl 0, .inl 0, .inl 0, (.inr (.inr (.inl (w.length + 3)))), (.inr (.inr (.inl (w.length + 4)))), (.inr (.inr (.inl (w.length + 5)))), (.inr (.inr (.inl (w.length + 6)))), .inl 0, (.inr (.inr (.inl (w.length + 7)))), .inr (.inl 0), .inl 0, .inl 0, .inl 0, .inl 0, .inl 0])), .inr (1, 131072, .inr (.inl (fun _ => 0))), .inr (1, 131072, .inr (.inl (fun _ => 0))), .inr (0, 101, .inl (fun _ => 0)), .inr (1, 2100, .inr (.inl (fun _ => 0))), .inr (1, 100, .inr (.inl (fun _ => 0))), .inr (1, 100, .inr (.inl (fun _ => 0))), (.inr (2, 2100, .inl (fun _ => 0)) : zx_E)] = e at he8 ⊢
    have hel : e.length = 8 := by rw [← hev]; rfl
    have hlen : (w ++ e).length = w.length + 8 := by rw [List.length_append, hel]
    have hwe : (w ++ e).all (zx_limE (w ++ e).length) = true := by
      have h := (Bool.and_eq_true _ _).mp ((Bool.and_eq_true _ _).mp (show (zx_limP (w.length + e.length) [] && (zx_limL (w.length + e.length) [] && (w ++ e).all (zx_limE (w.length + e.length)))) = true from tm_limS hw he8 rfl rfl)).2
      rw [List.length_append]
      exact h.2
    have hls8 : ∀ m, w.length + 8 ≤ m → zx_limP m [(0, (.inr (.inr (.inl w.length)))), (1, (.inr (.inr (.inl to)))), (2, (.inr (.inr (.inl ga))))] = true := fun m hm => tj_limP_le (by omega) hls
    refine zy_la (k := 0) rfl rfl (Or.inl ⟨_, rfl⟩) ?_
    refine zy_newO (ci := 9) (fs := zx_cls 9) rfl (by decide) (by decide) ?_ ?_
    · unfold zx_limS
      rw [hls8 _ (by rw [hlen]; exact Nat.le_refl _), hwe, Bool.true_and, Bool.and_true]
      show (Nat.blt w.length (w ++ e).length && true) = true
      rw [hlen, show Nat.blt w.length (w.length + 8) = true from te_blt0 (by decide)]
      rfl
    · refine zy_dup rfl ?_
      refine zy_la (k := 1) rfl rfl (Or.inl ⟨_, rfl⟩) ?_
      refine zy_la (k := 2) rfl rfl (Or.inl ⟨_, rfl⟩) ?_
      refine zy_ci (n := 2) (c := 262144) rfl ?_
      refine zy_ci (n := 2) (c := 131072) rfl ?_
      have hl9 : ((w ++ e) ++ ([(.inl (9, (zx_cls 9)))] : List zx_E)).length = w.length + 9 := by
        rw [List.length_append, hlen]
        rfl
      refine zx_wp_call (a := 0) (n := 5) (y := 336) (g := zx_no) (av := [(.inr (.inr (.inl (w ++ e).length))), (.inr (.inr (.inl to))), (.inr (.inr (.inl ga))), (.inl (Int32.ofNat 262144)), (.inl (Int32.ofNat 131072))]) (st' := [(.inr (.inr (.inl (w ++ e).length))), (.inr (.inr (.inl w.length)))]) (cy := (9, 552508)) (r := (none, (w ++ e) ++ tm_w9M (w ++ e).length to ga)) rfl rfl (Nat.le_of_ble_eq_true rfl) (hls8 _ (by rw [hl9]; omega)) ?_ (by decide) (by decide) (tm_init9M hwe (by rw [hlen]; omega) (by rw [hlen]; omega)) ?_
      · show (Nat.blt (w ++ e).length ((w ++ e) ++ ([(.inl (9, (zx_cls 9)))] : List zx_E)).length && (Nat.blt w.length ((w ++ e) ++ ([(.inl (9, (zx_cls 9)))] : List zx_E)).length && true)) = true
        rw [hl9, hlen, te_blt (by decide), te_blt0 (by decide)]
        rfl
      · rw [hlen, ← hev, List.append_assoc]
        refine zy_putN (k := 1) rfl (Nat.le_of_ble_eq_true rfl) rfl ?_
        refine zx_wp_done ⟨by decide, by decide, rfl, ?_⟩
        exact ⟨rfl, rfl⟩
  obtain ⟨n, σ, h1, h2⟩ := hrun
  exact ⟨_, (by rw [← zx_q_X6_init]; rfl : zx_mt 291 = some (zx_find (zx_cT zx_d_X6_init))), ⟨w.length, [(.inr (.inr (.inl to))), (.inr (.inr (.inl ga)))], zx_cls 6, rfl, by rw [List.getElem?_append_right (Nat.le_refl _), Nat.sub_self]; rfl⟩, (by decide +kernel : 3 ≤ zx_mx' 291), n, σ, h1, h2⟩
def tm_d6 : List Nat := [99, 94, 94, 96, 97, 95, 95, 98] ++ tm_d9M
theorem tm_arr1 {Ψ : List Nat} {n : Nat} : tj_ct Ψ (.inr (1, n, [])) (.inr (1, n, .inr (.inl (fun _ => 0)))) := ⟨rfl, rfl, rfl⟩
theorem tm_wt6 {Ψ : List Nat} {w : List zx_E} {to ga : Nat} (hw : tj_wt tj_Lam Ψ w) (hto : Ψ[to]? = some 13) (hga : Ψ[ga]? = some 61) : tj_wt tj_Lam (Ψ ++ tm_d6) (w ++ tm_w6 w.length to ga) := by
  have hin : ∀ j l, tm_d6[j]? = some l → (Ψ ++ tm_d6)[w.length + j]? = some l := fun j l h => by
    rw [List.getElem?_append_right (by rw [hw.1]; omega), hw.1, Nat.add_sub_cancel_left]
    exact h
  have hz : zx_b 0 = 2147483648 := by decide
  have hd : ∃ fts, tj_Lam[93]? = some (.inl (9, 0, fts)) ∧ fts = [(1, 13, 0), (1, 61, 0), (1, 84, 0), (1, 85, 0), (1, 86, 0), (1, 87, 0), (1, 88, 0), (0, 2147483648, 2147745792), (1, 89, 0), (1, 90, 0), (0, 0, 4294967295), (0, 2147483647, 2147549184), (0, 0, 4294967295), (1, 91, 0), (0, 2147483648, 2147483649), (0, 2147483648, 2147483680), (1, 92, 0)] := ⟨_, rfl, rfl⟩
  obtain ⟨fts, hd, ef⟩ := hd
  have hd6 : ∃ gts, tj_Lam[99]? = some (.inl (6, 0, gts)) ∧ gts = [(1, 61, 0), (1, 93, 0), (1, 94, 0), (1, 94, 0), (0, 2147483648, 2147614720), (0, 2147483648, 2147483668), (0, 2147483648, 2147483668), (1, 96, 0), (1, 97, 0), (1, 95, 0), (1, 95, 0), (0, 2147483648, 2147483668), (1, 98, 0), (3, 0, 0), (0, 2147483648, 2147483649), (0, 0, 4294967295), (0, 0, 4294967295), (0, 2147483647, 2147483668), (0, 0, 4294967295)] := ⟨_, rfl, rfl⟩
  obtain ⟨gts, hd6, eg⟩ := hd6
  refine tj_wt_app hw rfl (fun j x hx => ?_)
  match j, hx with
  | 0, hx =>
    cases hx
    refine ⟨99, _, rfl, hd6, rfl, by rw [eg]; rfl, fun k t v hk hv => ?_, trivial⟩
    rw [eg] at hk
    match k, hk, hv with
    | 0, hk, hv => cases hk; cases hv; exact ⟨_, rfl, tj_le_app _ _ hga⟩
    | 1, hk, hv => cases hk; cases hv; exact ⟨_, rfl, hin 8 93 rfl⟩
    | 2, hk, hv => cases hk; cases hv; exact ⟨_, rfl, hin 1 94 rfl⟩
    | 3, hk, hv => cases hk; cases hv; exact ⟨_, rfl, hin 2 94 rfl⟩
    | 4, hk, hv => cases hk; cases hv; exact ⟨0, rfl, by omega, by omega⟩
    | 5, hk, hv => cases hk; cases hv; exact ⟨0, rfl, by omega, by omega⟩
    | 6, hk, hv => cases hk; cases hv; exact ⟨0, rfl, by omega, by omega⟩
    | 7, hk, hv => cases hk; cases hv; exact ⟨_, rfl, hin 3 96 rfl⟩
    | 8, hk, hv => cases hk; cases hv; exact ⟨_, rfl, hin 4 97 rfl⟩
    | 9, hk, hv => cases hk; cases hv; exact ⟨_, rfl, hin 5 95 rfl⟩
    | 10, hk, hv => cases hk; cases hv; exact ⟨_, rfl, hin 6 95 rfl⟩
    | 11, hk, hv => cases hk; cases hv; exact ⟨0, rfl, by omega, by omega⟩
    | 12, hk, hv => cases hk; cases hv; exact ⟨_, rfl, hin 7 98 rfl⟩
    | 13, hk, hv => cases hk; cases hv; exact ⟨_, rfl⟩
    | 14, hk, hv => cases hk; cases hv; exact ⟨0, rfl, by omega, by omega⟩
    | 15, hk, hv => cases hk; cases hv; exact ⟨0, rfl, by omega, by omega⟩
    | 16, hk, hv => cases hk; cases hv; exact ⟨0, rfl, by omega, by omega⟩
    | 17, hk, hv => cases hk; cases hv; exact ⟨0, rfl, by omega, by omega⟩
    | 18, hk, hv => cases hk; cases hv; exact ⟨0, rfl, by omega, by omega⟩
    | k + 19, hk, hv => cases hk
  | 1, hx => cases hx; exact ⟨94, _, rfl, rfl, tm_arr1⟩
  | 2, hx => cases hx; exact ⟨94, _, rfl, rfl, tm_arr1⟩
  | 3, hx => cases hx; exact ⟨96, _, rfl, rfl, tm_arr0 (by decide) (by decide)⟩
  | 4, hx => cases hx; exact ⟨97, _, rfl, rfl, tm_arr1⟩
  | 5, hx => cases hx; exact ⟨95, _, rfl, rfl, tm_arr1⟩
  | 6, hx => cases hx; exact ⟨95, _, rfl, rfl, tm_arr1⟩
  | 7, hx =>
    cases hx
    refine ⟨98, _, rfl, rfl, rfl, rfl, Or.inr (Or.inl rfl), fun j hj a b hs => ?_⟩
    obtain ⟨e1, e2⟩ := tm_sel1 hs
    rw [hz, e1, e2]
    decide
  | 8, hx =>
    cases hx
    refine ⟨93, _, rfl, hd, rfl, by rw [ef]; rfl, fun k t v hk hv => ?_, trivial⟩
    rw [ef] at hk
    match k, hk, hv with
    | 0, hk, hv => cases hk; cases hv; exact ⟨_, rfl, tj_le_app _ _ hto⟩
    | 1, hk, hv => cases hk; cases hv; exact ⟨_, rfl, tj_le_app _ _ hga⟩
    | 2, hk, hv => cases hk; cases hv; exact ⟨_, rfl, hin 9 84 rfl⟩
    | 3, hk, hv => cases hk; cases hv; exact ⟨_, rfl, hin 10 85 rfl⟩
    | 4, hk, hv => cases hk; cases hv; exact ⟨_, rfl, hin 14 86 rfl⟩
    | 5, hk, hv => cases hk; cases hv; exact ⟨_, rfl, hin 11 87 rfl⟩
    | 6, hk, hv => cases hk; cases hv; exact ⟨_, rfl, hin 12 88 rfl⟩
    | 7, hk, hv => cases hk; cases hv; exact ⟨0, rfl, by omega, by omega⟩
    | 8, hk, hv => cases hk; cases hv; exact ⟨_, rfl, hin 15 89 rfl⟩
    | 9, hk, hv => cases hk; cases hv; exact ⟨_, rfl, hin 16 90 rfl⟩
    | 10, hk, hv => cases hk; cases hv; exact ⟨0, rfl, by omega, by omega⟩
    | 11, hk, hv => cases hk; cases hv; exact ⟨0, rfl, by omega, by omega⟩
    | 12, hk, hv => cases hk; cases hv; exact ⟨0, rfl, by omega, by omega⟩
    | 13, hk, hv => cases hk; cases hv; exact ⟨_, rfl, hin 17 91 rfl⟩
    | 14, hk, hv => cases hk; cases hv; exact ⟨0, rfl, by omega, by omega⟩
    | 15, hk, hv => cases hk; cases hv; exact ⟨0, rfl, by omega, by omega⟩
    | 16, hk, hv => cases hk; cases hv; exact ⟨_, rfl, hin 13 92 rfl⟩
    | k + 17, hk, hv => cases hk
  | 9, hx => cases hx; exact ⟨84, _, rfl, rfl, tm_arr0 (by decide) (by decide)⟩
  | 10, hx => cases hx; exact ⟨85, _, rfl, rfl, tm_arr0 (by decide) (by decide)⟩
  | 11, hx => cases hx; exact ⟨87, _, rfl, rfl, tm_arr0 (by decide) (by decide)⟩
  | 12, hx => cases hx; exact ⟨88, _, rfl, rfl, tm_arr0 (by decide) (by decide)⟩
  | 13, hx => cases hx; exact ⟨92, _, rfl, rfl, tm_arr0 (by decide) (by decide)⟩
  | 14, hx => cases hx; exact ⟨86, _, rfl, rfl, tm_arr0 (by decide) (by decide)⟩
  | 15, hx => cases hx; exact ⟨89, _, rfl, rfl, tm_arr0 (by decide) (by decide)⟩
  | 16, hx => cases hx; exact ⟨90, _, rfl, rfl, tm_arr0 (by decide) (by decide)⟩
  | 17, hx => cases hx; exact ⟨91, _, rfl, rfl, tm_arr0 (by decide) (by decide)⟩
  | j + 18, hx => cases hx
