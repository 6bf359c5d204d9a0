/-! every way from the switch: the end is 1 -/
noncomputable def sx_gd (σ : sx_S) : Bool := match σ with
  | (pc, _, [v], _, iv, mc, ms) => match sx_find sx_t_law pc, sx_nm iv v with
    | some (1, _, _, _), .inl n => Nat.beq n 1 && (Nat.ble mc 600000 && Nat.ble ms 7302250)
    | _, _ => false
  | _ => false
noncomputable def sx_fn (r : sx_N) : Bool := match r with
  | some ss => ss.all sx_gd
  | none => false
noncomputable def sx_oS (k j : Nat) : sx_S := (33, [(3, .inl 0), (2, .inr (.inr (.inl 75))), (1, .inr (.inr (.inl 0))), (0, .inr (.inr (.inr 2)))], [.inr (.inl 7)], sx_W0, sx_iv0 2147483654 2147483654 ++ [(2147483648 + k, 2147483648 + j)], 124, 36542)
set_option maxRecDepth 1000000 in
theorem sx_at33 : sx_law 33 (18, [(3, .inl 0), (2, .inr (.inr (.inl 75))), (1, .inr (.inr (.inl 0))), (0, .inr (.inr (.inr 2)))], [], sx_W0, sx_iv0 2147483654 2147483654, 124, 36542) = some [sx_oS 0 63] := sx_eqO_ok _ _ (by decide +kernel)
set_option maxRecDepth 1000000 in
theorem sx_short : sx_fn (sx_law sx_far (0, [(0, .inr (.inr (.inr 2)))], [], [], sx_iv0 2147483648 2147483653, 0, 0)) = true := by decide +kernel
