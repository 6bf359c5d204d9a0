noncomputable def sx_good (σ : sx_S) : Bool := match σ with
  | (pc, _, [v], _, iv, _, _) => match sx_find sx_t_law pc, sx_nm iv v with
    | some (1, _, _, _), (.inl n) => Nat.beq n 1
    | _, _ => false
  | _ => false
noncomputable def sx_fin (r : sx_N) : Bool := match r with
  | some ss => ss.all sx_good
  | none => false
noncomputable def sx_opS (k j : Nat) : sx_S := (33, [(3, (.inl 0)), (2, (.inr (.inr (.inl 75)))), (1, (.inr (.inr (.inl 0)))), (0, (.inr (.inr (.inr 2))))], [(.inr (.inl 7))], sx_W0, sx_iv0 2147483654 2147483654 ++ [(2147483648 + k, 2147483648 + j)], 124, 36542)
set_option maxRecDepth 1000000 in
theorem sx_op0 : sx_fin (sx_law sx_far (sx_opS 0 0)) = true := by decide +kernel
set_option maxRecDepth 1000000 in
theorem sx_op1 : sx_fin (sx_law sx_far (sx_opS 1 1)) = true := by decide +kernel
set_option maxRecDepth 1000000 in
theorem sx_op2 : sx_fin (sx_law sx_far (sx_opS 2 2)) = true := by decide +kernel
set_option maxRecDepth 1000000 in
theorem sx_op3 : sx_fin (sx_law sx_far (sx_opS 3 3)) = true := by decide +kernel
set_option maxRecDepth 1000000 in
theorem sx_op4 : sx_fin (sx_law sx_far (sx_opS 4 4)) = true := by decide +kernel
set_option maxRecDepth 1000000 in
theorem sx_op5 : sx_fin (sx_law sx_far (sx_opS 5 5)) = true := by decide +kernel
set_option maxRecDepth 1000000 in
theorem sx_op6 : sx_fin (sx_law sx_far (sx_opS 6 6)) = true := by decide +kernel
set_option maxRecDepth 1000000 in
theorem sx_op7 : sx_fin (sx_law sx_far (sx_opS 7 7)) = true := by decide +kernel
set_option maxRecDepth 1000000 in
theorem sx_op8 : sx_fin (sx_law sx_far (sx_opS 8 8)) = true := by decide +kernel
set_option maxRecDepth 1000000 in
theorem sx_op9 : sx_fin (sx_law sx_far (sx_opS 9 9)) = true := by decide +kernel
set_option maxRecDepth 1000000 in
theorem sx_op10 : sx_fin (sx_law sx_far (sx_opS 10 10)) = true := by decide +kernel
set_option maxRecDepth 1000000 in
theorem sx_op11 : sx_fin (sx_law sx_far (sx_opS 11 11)) = true := by decide +kernel
set_option maxRecDepth 1000000 in
theorem sx_op13 : sx_fin (sx_law sx_far (sx_opS 13 13)) = true := by decide +kernel
set_option maxRecDepth 1000000 in
theorem sx_op14 : sx_fin (sx_law sx_far (sx_opS 14 14)) = true := by decide +kernel
set_option maxRecDepth 1000000 in
theorem sx_op15 : sx_fin (sx_law sx_far (sx_opS 15 15)) = true := by decide +kernel
set_option maxRecDepth 1000000 in
theorem sx_op16 : sx_fin (sx_law sx_far (sx_opS 16 16)) = true := by decide +kernel
set_option maxRecDepth 1000000 in
theorem sx_op17 : sx_fin (sx_law sx_far (sx_opS 17 17)) = true := by decide +kernel
set_option maxRecDepth 1000000 in
theorem sx_op18 : sx_fin (sx_law sx_far (sx_opS 18 18)) = true := by decide +kernel
set_option maxRecDepth 1000000 in
theorem sx_op19 : sx_fin (sx_law sx_far (sx_opS 19 19)) = true := by decide +kernel
set_option maxRecDepth 1000000 in
theorem sx_op20 : sx_fin (sx_law sx_far (sx_opS 20 20)) = true := by decide +kernel
set_option maxRecDepth 1000000 in
theorem sx_op21 : sx_fin (sx_law sx_far (sx_opS 21 21)) = true := by decide +kernel
set_option maxRecDepth 1000000 in
theorem sx_op22 : sx_fin (sx_law sx_far (sx_opS 22 22)) = true := by decide +kernel
set_option maxRecDepth 1000000 in
theorem sx_op23 : sx_fin (sx_law sx_far (sx_opS 23 23)) = true := by decide +kernel
set_option maxRecDepth 1000000 in
theorem sx_op24 : sx_fin (sx_law sx_far (sx_opS 24 24)) = true := by decide +kernel
set_option maxRecDepth 1000000 in
theorem sx_op25 : sx_fin (sx_law sx_far (sx_opS 25 25)) = true := by decide +kernel
set_option maxRecDepth 1000000 in
theorem sx_op26 : sx_fin (sx_law sx_far (sx_opS 26 26)) = true := by decide +kernel
set_option maxRecDepth 1000000 in
theorem sx_op27 : sx_fin (sx_law sx_far (sx_opS 27 27)) = true := by decide +kernel
set_option maxRecDepth 1000000 in
theorem sx_op28 : sx_fin (sx_law sx_far (sx_opS 28 28)) = true := by decide +kernel
set_option maxRecDepth 1000000 in
theorem sx_op29 : sx_fin (sx_law sx_far (sx_opS 29 29)) = true := by decide +kernel
set_option maxRecDepth 1000000 in
theorem sx_op31 : sx_fin (sx_law sx_far (sx_opS 31 31)) = true := by decide +kernel
set_option maxRecDepth 1000000 in
theorem sx_op32 : sx_fin (sx_law sx_far (sx_opS 32 32)) = true := by decide +kernel
set_option maxRecDepth 1000000 in
theorem sx_op33 : sx_fin (sx_law sx_far (sx_opS 33 33)) = true := by decide +kernel
set_option maxRecDepth 1000000 in
theorem sx_op34 : sx_fin (sx_law sx_far (sx_opS 34 34)) = true := by decide +kernel
set_option maxRecDepth 1000000 in
theorem sx_op35 : sx_fin (sx_law sx_far (sx_opS 35 35)) = true := by decide +kernel
set_option maxRecDepth 1000000 in
theorem sx_op36 : sx_fin (sx_law sx_far (sx_opS 36 36)) = true := by decide +kernel
set_option maxRecDepth 1000000 in
theorem sx_op37 : sx_fin (sx_law sx_far (sx_opS 37 37)) = true := by decide +kernel
set_option maxRecDepth 1000000 in
theorem sx_op38 : sx_fin (sx_law sx_far (sx_opS 38 38)) = true := by decide +kernel
set_option maxRecDepth 1000000 in
theorem sx_op39 : sx_fin (sx_law sx_far (sx_opS 39 39)) = true := by decide +kernel
set_option maxRecDepth 1000000 in
theorem sx_op40 : sx_fin (sx_law sx_far (sx_opS 40 40)) = true := by decide +kernel
set_option maxRecDepth 1000000 in
theorem sx_op41 : sx_fin (sx_law sx_far (sx_opS 41 41)) = true := by decide +kernel
set_option maxRecDepth 1000000 in
theorem sx_op42 : sx_fin (sx_law sx_far (sx_opS 42 63)) = true := by decide +kernel
