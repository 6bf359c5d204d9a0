/-! the ways but days and stolen -/
set_option maxRecDepth 1000000 in
theorem sx_o0 : sx_fn (sx_law sx_far (sx_oS 0 0)) = true := by decide +kernel
set_option maxRecDepth 1000000 in
theorem sx_o1 : sx_fn (sx_law sx_far (sx_oS 1 1)) = true := by decide +kernel
set_option maxRecDepth 1000000 in
theorem sx_o2 : sx_fn (sx_law sx_far (sx_oS 2 2)) = true := by decide +kernel
set_option maxRecDepth 1000000 in
theorem sx_o3 : sx_fn (sx_law sx_far (sx_oS 3 3)) = true := by decide +kernel
set_option maxRecDepth 1000000 in
theorem sx_o4 : sx_fn (sx_law sx_far (sx_oS 4 4)) = true := by decide +kernel
set_option maxRecDepth 1000000 in
theorem sx_o5 : sx_fn (sx_law sx_far (sx_oS 5 5)) = true := by decide +kernel
set_option maxRecDepth 1000000 in
theorem sx_o6 : sx_fn (sx_law sx_far (sx_oS 6 6)) = true := by decide +kernel
set_option maxRecDepth 1000000 in
theorem sx_o7 : sx_fn (sx_law sx_far (sx_oS 7 7)) = true := by decide +kernel
set_option maxRecDepth 1000000 in
theorem sx_o8 : sx_fn (sx_law sx_far (sx_oS 8 8)) = true := by decide +kernel
set_option maxRecDepth 1000000 in
theorem sx_o9 : sx_fn (sx_law sx_far (sx_oS 9 9)) = true := by decide +kernel
set_option maxRecDepth 1000000 in
theorem sx_o10 : sx_fn (sx_law sx_far (sx_oS 10 10)) = true := by decide +kernel
set_option maxRecDepth 1000000 in
theorem sx_o11 : sx_fn (sx_law sx_far (sx_oS 11 11)) = true := by decide +kernel
set_option maxRecDepth 1000000 in
theorem sx_o13 : sx_fn (sx_law sx_far (sx_oS 13 13)) = true := by decide +kernel
set_option maxRecDepth 1000000 in
theorem sx_o14 : sx_fn (sx_law sx_far (sx_oS 14 14)) = true := by decide +kernel
set_option maxRecDepth 1000000 in
theorem sx_o15 : sx_fn (sx_law sx_far (sx_oS 15 15)) = true := by decide +kernel
set_option maxRecDepth 1000000 in
theorem sx_o16 : sx_fn (sx_law sx_far (sx_oS 16 16)) = true := by decide +kernel
set_option maxRecDepth 1000000 in
theorem sx_o17 : sx_fn (sx_law sx_far (sx_oS 17 17)) = true := by decide +kernel
set_option maxRecDepth 1000000 in
theorem sx_o18 : sx_fn (sx_law sx_far (sx_oS 18 18)) = true := by decide +kernel
set_option maxRecDepth 1000000 in
theorem sx_o19 : sx_fn (sx_law sx_far (sx_oS 19 19)) = true := by decide +kernel
set_option maxRecDepth 1000000 in
theorem sx_o20 : sx_fn (sx_law sx_far (sx_oS 20 20)) = true := by decide +kernel
set_option maxRecDepth 1000000 in
theorem sx_o21 : sx_fn (sx_law sx_far (sx_oS 21 21)) = true := by decide +kernel
set_option maxRecDepth 1000000 in
theorem sx_o22 : sx_fn (sx_law sx_far (sx_oS 22 22)) = true := by decide +kernel
set_option maxRecDepth 1000000 in
theorem sx_o23 : sx_fn (sx_law sx_far (sx_oS 23 23)) = true := by decide +kernel
set_option maxRecDepth 1000000 in
theorem sx_o24 : sx_fn (sx_law sx_far (sx_oS 24 24)) = true := by decide +kernel
set_option maxRecDepth 1000000 in
theorem sx_o25 : sx_fn (sx_law sx_far (sx_oS 25 25)) = true := by decide +kernel
set_option maxRecDepth 1000000 in
theorem sx_o26 : sx_fn (sx_law sx_far (sx_oS 26 26)) = true := by decide +kernel
set_option maxRecDepth 1000000 in
theorem sx_o27 : sx_fn (sx_law sx_far (sx_oS 27 27)) = true := by decide +kernel
set_option maxRecDepth 1000000 in
theorem sx_o28 : sx_fn (sx_law sx_far (sx_oS 28 28)) = true := by decide +kernel
set_option maxRecDepth 1000000 in
theorem sx_o29 : sx_fn (sx_law sx_far (sx_oS 29 29)) = true := by decide +kernel
set_option maxRecDepth 1000000 in
theorem sx_o31 : sx_fn (sx_law sx_far (sx_oS 31 31)) = true := by decide +kernel
set_option maxRecDepth 1000000 in
theorem sx_o32 : sx_fn (sx_law sx_far (sx_oS 32 32)) = true := by decide +kernel
set_option maxRecDepth 1000000 in
theorem sx_o33 : sx_fn (sx_law sx_far (sx_oS 33 33)) = true := by decide +kernel
set_option maxRecDepth 1000000 in
theorem sx_o34 : sx_fn (sx_law sx_far (sx_oS 34 34)) = true := by decide +kernel
set_option maxRecDepth 1000000 in
theorem sx_o35 : sx_fn (sx_law sx_far (sx_oS 35 35)) = true := by decide +kernel
set_option maxRecDepth 1000000 in
theorem sx_o36 : sx_fn (sx_law sx_far (sx_oS 36 36)) = true := by decide +kernel
set_option maxRecDepth 1000000 in
theorem sx_o37 : sx_fn (sx_law sx_far (sx_oS 37 37)) = true := by decide +kernel
set_option maxRecDepth 1000000 in
theorem sx_o38 : sx_fn (sx_law sx_far (sx_oS 38 38)) = true := by decide +kernel
set_option maxRecDepth 1000000 in
theorem sx_o39 : sx_fn (sx_law sx_far (sx_oS 39 39)) = true := by decide +kernel
set_option maxRecDepth 1000000 in
theorem sx_o40 : sx_fn (sx_law sx_far (sx_oS 40 40)) = true := by decide +kernel
set_option maxRecDepth 1000000 in
theorem sx_o41 : sx_fn (sx_law sx_far (sx_oS 41 41)) = true := by decide +kernel
set_option maxRecDepth 1000000 in
theorem sx_o42 : sx_fn (sx_law sx_far (sx_oS 42 63)) = true := by decide +kernel
