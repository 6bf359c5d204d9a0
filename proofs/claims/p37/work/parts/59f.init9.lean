/-! by hand: new Sums (SumsF) -/
def tm_w9F (n to ga : Nat) : List zx_E := [(.inl (9, [(.inr (.inr (.inl to))), (.inr (.inr (.inl ga))), (.inr (.inr (.inl (n + 1)))), (.inr (.inr (.inl (n + 2)))), (.inr (.inr (.inl (n + 6)))), (.inr (.inr (.inl (n + 3)))), (.inr (.inr (.inl (n + 4)))), .inl 0, (.inr (.inr (.inl (n + 7)))), (.inr (.inr (.inl (n + 8)))), .inl 0, .inl 0, .inl 0, (.inr (.inr (.inl (n + 9)))), .inl 0, .inl 0, (.inr (.inr (.inl (n + 5))))])), .inr (0, 12000, .inl (fun _ => 0)), .inr (0, 12000, .inl (fun _ => 0)), .inr (0, 2100, .inl (fun _ => 0)), .inr (0, 2100, .inl (fun _ => 0)), .inr (0, 20, .inl (fun _ => 0)), .inr (0, 32768, .inl (fun _ => 0)), .inr (0, 8192, .inl (fun _ => 0)), .inr (0, 8192, .inl (fun _ => 0)), .inr (0, 1, .inl (fun _ => 0))]
set_option maxRecDepth 20000 in
theorem tm_init9F {w : List zx_E} {to ga : Nat} (hw : w.all (zx_limE w.length) = true) (hto : to < w.length) (hga : ga < w.length) : zx_Cl zx_mt zx_rc zx_mx' 1 336 [(.inr (.inr (.inl w.length))), (.inr (.inr (.inl to))), (.inr (.inr (.inl ga))), (.inl (Int32.ofNat 32768)), (.inl (Int32.ofNat 0))] (w ++ [(.inl (9, (zx_cls 9)))]) (9, 77373) (none, w ++ tm_w9F w.length to ga) := by
  have hls : zx_limP (w.length + 1) [(0, (.inr (.inr (.inl w.length)))), (1, (.inr (.inr (.inl to)))), (2, (.inr (.inr (.inl ga)))), (3, (.inl (Int32.ofNat 32768))), (4, (.inl (Int32.ofNat 0)))] = true := by
    show (Nat.blt w.length (w.length + 1) && (Nat.blt to (w.length + 1) && (Nat.blt ga (w.length + 1) && true))) = true
    rw [show Nat.blt w.length (w.length + 1) = true from te_blt0 (by decide), show Nat.blt to (w.length + 1) = true from Nat.ble_eq_true_of_le (by omega), show Nat.blt ga (w.length + 1) = true from Nat.ble_eq_true_of_le (by omega)]
    rfl
  have he0 : tm_eL w.length ((.inl (9, (zx_cls 9))) :: []) := rfl
  have hfit : ∀ q, zx_fit 1 (.inr (.inr (.inl q))) = true := fun _ => rfl
  have mr : (if Int32.ofNat 1 < Int32.ofNat 32768 then Int32.ofNat 32768 else Int32.ofNat 1) = Int32.ofNat 32768 := by decide
  have mp : (if Int32.ofNat 1 < Int32.ofNat 32768 / Int32.ofNat 4 then Int32.ofNat 32768 / Int32.ofNat 4 else Int32.ofNat 1) = Int32.ofNat 8192 := by decide
  have mv : (if Int32.ofNat 1 < Int32.ofNat 0 then Int32.ofNat 0 else Int32.ofNat 1) = Int32.ofNat 1 := by decide
  have hrun : zx_wp (zx_Cl zx_mt zx_rc zx_mx' 0) none (9, 77373) (zx_find (zx_cT zx_d_X9_init)) (fun σ => zx_ret (zx_find (zx_cT zx_d_X9_init)) (9, 77373) σ (none, w ++ tm_w9F w.length to ga)) (0, [(0, (.inr (.inr (.inl w.length)))), (1, (.inr (.inr (.inl to)))), (2, (.inr (.inr (.inl ga)))), (3, (.inl (Int32.ofNat 32768))), (4, (.inl (Int32.ofNat 0)))], [], w ++ ((.inl (9, (zx_cls 9))) :: []), 0, 0) := by
    refine zy_la (k := 0) rfl rfl (Or.inl ⟨_, rfl⟩) ?_
    refine zy_ob rfl (by decide) ?_
    refine zy_alloc (c := 12000) (n1 := 3) (kd := 0) (k := 2) rfl rfl rfl rfl rfl hw he0 hls (by decide) (by decide) (by decide) (Nat.le_of_ble_eq_true rfl) hfit (by decide) (by decide) (fun he => ?_)
    refine zy_alloc (c := 12000) (n1 := 3) (kd := 0) (k := 3) rfl rfl rfl rfl rfl hw he hls (by decide) (by decide) (by decide) (Nat.le_of_ble_eq_true rfl) hfit (by decide) (by decide) (fun he => ?_)
    refine zy_alloc (c := 2100) (n1 := 3) (kd := 0) (k := 5) rfl rfl rfl rfl rfl hw he hls (by decide) (by decide) (by decide) (Nat.le_of_ble_eq_true rfl) hfit (by decide) (by decide) (fun he => ?_)
    refine zy_alloc (c := 2100) (n1 := 3) (kd := 0) (k := 6) rfl rfl rfl rfl rfl hw he hls (by decide) (by decide) (by decide) (Nat.le_of_ble_eq_true rfl) hfit (by decide) (by decide) (fun he => ?_)
    refine zy_i0 (k := 7) rfl rfl rfl rfl he (Nat.le_of_ble_eq_true rfl) rfl (fun he => ?_)
    refine zy_i0 (k := 10) rfl rfl rfl rfl he (Nat.le_of_ble_eq_true rfl) rfl (fun he => ?_)
    refine zy_i0 (k := 11) rfl rfl rfl rfl he (Nat.le_of_ble_eq_true rfl) rfl (fun he => ?_)
    refine zy_i0 (k := 12) rfl rfl rfl rfl he (Nat.le_of_ble_eq_true rfl) rfl (fun he => ?_)
    refine zy_i0 (k := 14) rfl rfl rfl rfl he (Nat.le_of_ble_eq_true rfl) rfl (fun he => ?_)
    refine zy_i0 (k := 15) rfl rfl rfl rfl he (Nat.le_of_ble_eq_true rfl) rfl (fun he => ?_)
    refine zy_alloc (c := 20) (n1 := 2) (kd := 0) (k := 16) rfl rfl rfl rfl rfl hw he hls (by decide) (by decide) (by decide) (Nat.le_of_ble_eq_true rfl) hfit (by decide) (by decide) (fun he => ?_)
    refine zy_pl (k := 0) (j := 1) (n2 := 1) rfl rfl rfl rfl rfl hto he (Nat.le_of_ble_eq_true rfl) hfit (fun he => ?_)
    refine zy_pl (k := 1) (j := 2) (n2 := 1) rfl rfl rfl rfl rfl hga he (Nat.le_of_ble_eq_true rfl) hfit (fun he => ?_)
    refine zy_la (k := 0) rfl rfl (Or.inl ⟨_, rfl⟩) ?_
    refine zy_ci (n := 1) (c := 1) rfl ?_
    refine zy_li (k := 3) rfl rfl ?_
    refine zy_mx rfl (Nat.le_of_ble_eq_true rfl) (by decide) (by decide) ?_
    rw [mr]
    refine zy_np (c := 32768) (kd := 0) (k := 4) rfl rfl hw he hls (by decide) (by decide) (by decide) (Nat.le_of_ble_eq_true rfl) hfit (by decide) (by decide) (fun he => ?_)
    refine zy_la (k := 0) rfl rfl (Or.inl ⟨_, rfl⟩) ?_
    refine zy_ci (n := 1) (c := 1) rfl ?_
    refine zy_li (k := 3) rfl rfl ?_
    refine zy_ci (n := 1) (c := 4) rfl ?_
    refine zy_div (by decide) rfl ?_
    refine zy_mx rfl (Nat.le_of_ble_eq_true rfl) (by decide) (by decide) ?_
    rw [mp]
    refine zy_np (c := 8192) (kd := 0) (k := 8) rfl rfl hw he hls (by decide) (by decide) (by decide) (Nat.le_of_ble_eq_true rfl) hfit (by decide) (by decide) (fun he => ?_)
    refine zy_la (k := 0) rfl rfl (Or.inl ⟨_, rfl⟩) ?_
    refine zy_ci (n := 1) (c := 1) rfl ?_
    refine zy_li (k := 3) rfl rfl ?_
    refine zy_ci (n := 1) (c := 4) rfl ?_
    refine zy_div (by decide) rfl ?_
    refine zy_mx rfl (Nat.le_of_ble_eq_true rfl) (by decide) (by decide) ?_
    rw [mp]
    refine zy_np (c := 8192) (kd := 0) (k := 9) rfl rfl hw he hls (by decide) (by decide) (by decide) (Nat.le_of_ble_eq_true rfl) hfit (by decide) (by decide) (fun he => ?_)
    refine zy_la (k := 0) rfl rfl (Or.inl ⟨_, rfl⟩) ?_
    refine zy_ci (n := 1) (c := 1) rfl ?_
    refine zy_li (k := 4) rfl rfl ?_
    refine zy_mx rfl (Nat.le_of_ble_eq_true rfl) (by decide) (by decide) ?_
    rw [mv]
    refine zy_np (c := 1) (kd := 0) (k := 13) rfl rfl hw he hls (by decide) (by decide) (by decide) (Nat.le_of_ble_eq_true rfl) hfit (by decide) (by decide) (fun he => ?_)
    refine zx_wp_done ⟨by decide, by decide, rfl, ?_⟩
    exact ⟨rfl, rfl⟩
  obtain ⟨n, σ, h1, h2⟩ := hrun
  exact ⟨_, (by rw [← zx_q_X9_init]; rfl : zx_mt 336 = some (zx_find (zx_cT zx_d_X9_init))), ⟨w.length, [(.inr (.inr (.inl to))), (.inr (.inr (.inl ga))), (.inl (Int32.ofNat 32768)), (.inl (Int32.ofNat 0))], zx_cls 9, rfl, by rw [List.getElem?_append_right (Nat.le_refl _), Nat.sub_self]; rfl⟩, (by decide +kernel : 5 ≤ zx_mx' 336), n, σ, h1, h2⟩
def tm_d9F : List Nat := [83, 74, 75, 77, 78, 82, 76, 79, 80, 81]
theorem tm_wt9F {Ψ : List Nat} {w : List zx_E} {to ga : Nat} (hw : tj_wt tj_Lam Ψ w) (hto : Ψ[to]? = some 13) (hga : Ψ[ga]? = some 61) : tj_wt tj_Lam (Ψ ++ tm_d9F) (w ++ tm_w9F w.length to ga) := by
  have hin : ∀ j l, tm_d9F[j]? = some l → (Ψ ++ tm_d9F)[w.length + j]? = some l := fun j l h => by
    rw [List.getElem?_append_right (by rw [hw.1]; omega), hw.1, Nat.add_sub_cancel_left]
    exact h
  have hz : zx_b 0 = 2147483648 := by decide
  have hd : ∃ fts, tj_Lam[83]? = some (.inl (9, 0, fts)) ∧ fts = [(1, 13, 0), (1, 61, 0), (1, 74, 0), (1, 75, 0), (1, 76, 0), (1, 77, 0), (1, 78, 0), (0, 2147483648, 2147483648 + 32768), (1, 79, 0), (1, 80, 0), (0, 0, 4294967295), (0, 2147483647, 2147483648 + 8192), (0, 0, 4294967295), (1, 81, 0), (0, 2147483648, 2147483649), (0, 2147483648, 2147483680), (1, 82, 0)] := ⟨_, rfl, rfl⟩
  obtain ⟨fts, hd, ef⟩ := hd
  refine tj_wt_app hw rfl (fun j x hx => ?_)
  match j, hx with
  | 0, hx =>
    cases hx
    refine ⟨83, _, rfl, hd, rfl, by rw [ef]; rfl, fun k t v hk hv => ?_, trivial⟩
    rw [ef] at hk
    match k, hk, hv with
    | 0, hk, hv => cases hk; cases hv; exact ⟨_, rfl, tj_le_app _ _ hto⟩
    | 1, hk, hv => cases hk; cases hv; exact ⟨_, rfl, tj_le_app _ _ hga⟩
    | 2, hk, hv => cases hk; cases hv; exact ⟨_, rfl, hin 1 74 rfl⟩
    | 3, hk, hv => cases hk; cases hv; exact ⟨_, rfl, hin 2 75 rfl⟩
    | 4, hk, hv => cases hk; cases hv; exact ⟨_, rfl, hin 6 76 rfl⟩
    | 5, hk, hv => cases hk; cases hv; exact ⟨_, rfl, hin 3 77 rfl⟩
    | 6, hk, hv => cases hk; cases hv; exact ⟨_, rfl, hin 4 78 rfl⟩
    | 7, hk, hv => cases hk; cases hv; exact ⟨0, rfl, by omega, by omega⟩
    | 8, hk, hv => cases hk; cases hv; exact ⟨_, rfl, hin 7 79 rfl⟩
    | 9, hk, hv => cases hk; cases hv; exact ⟨_, rfl, hin 8 80 rfl⟩
    | 10, hk, hv => cases hk; cases hv; exact ⟨0, rfl, by omega, by omega⟩
    | 11, hk, hv => cases hk; cases hv; exact ⟨0, rfl, by omega, by omega⟩
    | 12, hk, hv => cases hk; cases hv; exact ⟨0, rfl, by omega, by omega⟩
    | 13, hk, hv => cases hk; cases hv; exact ⟨_, rfl, hin 9 81 rfl⟩
    | 14, hk, hv => cases hk; cases hv; exact ⟨0, rfl, by omega, by omega⟩
    | 15, hk, hv => cases hk; cases hv; exact ⟨0, rfl, by omega, by omega⟩
    | 16, hk, hv => cases hk; cases hv; exact ⟨_, rfl, hin 5 82 rfl⟩
    | k + 17, hk, hv => cases hk
  | 1, hx => cases hx; exact ⟨74, _, rfl, rfl, tm_arr0 (by decide) (by decide)⟩
  | 2, hx => cases hx; exact ⟨75, _, rfl, rfl, tm_arr0 (by decide) (by decide)⟩
  | 3, hx => cases hx; exact ⟨77, _, rfl, rfl, tm_arr0 (by decide) (by decide)⟩
  | 4, hx => cases hx; exact ⟨78, _, rfl, rfl, tm_arr0 (by decide) (by decide)⟩
  | 5, hx => cases hx; exact ⟨82, _, rfl, rfl, tm_arr0 (by decide) (by decide)⟩
  | 6, hx => cases hx; exact ⟨76, _, rfl, rfl, tm_arr0 (by decide) (by decide)⟩
  | 7, hx => cases hx; exact ⟨79, _, rfl, rfl, tm_arr0 (by decide) (by decide)⟩
  | 8, hx => cases hx; exact ⟨80, _, rfl, rfl, tm_arr0 (by decide) (by decide)⟩
  | 9, hx => cases hx; exact ⟨81, _, rfl, rfl, tm_arr0 (by decide) (by decide)⟩
  | j + 10, hx => cases hx
