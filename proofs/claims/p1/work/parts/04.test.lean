set_option maxRecDepth 1000000 in
theorem sx_test1 : (match sx_exec sx_cls sx_mt 100000 6 34 [.inr (.inr (.inl 0)), .inr (.inl 0), .inr (.inl 1)] [.inl (11, [.inr (.inr (.inr 0)), .inl 0, .inr (.inr (.inl 1))]), .inl (10, sx_cls 10)] [(0, 4294967295), (0, 4294967295)] with
  | some _ => true
  | none => false) = true := by decide +kernel
set_option maxRecDepth 1000000 in
theorem sx_test2 : (match sx_exec sx_cls sx_mt 100000 6 38 [.inr (.inr (.inl 0))] [.inl (11, sx_cls 11)] [] with
  | some (_, _, [L]) => Nat.beq L.2.1.length 75
  | _ => false) = true := by decide +kernel
