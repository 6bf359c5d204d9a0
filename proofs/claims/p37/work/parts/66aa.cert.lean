/-! TwoInOneModel.isLetter -/
def tr0_s0 : tj_C := (148, [(0, 0, 4294967295)], ([], []), [([(0, 0, 4294967295)], some (0, 2147483648, 2147483648), ([], [], [])), ([(0, 2147483745, 2147483770)], some (0, 2147483649, 2147483649), ([], [], []))], ([], [], []))
set_option maxRecDepth 100000 in
theorem tr0_c0 : tl_chk tj_Lam tr0_s0.2.2.1 [] zx_d_X12_isLetter [] tr0_s0.2.1 tr0_s0.2.2.2.1 tr0_s0.2.2.2.2 [] [] 3000 = true := by decide +kernel
theorem tr0_p0 : tj_KS1 (zx_Cl zx_mt zx_rc zx_mx' 1) tj_Lam tr0_s0 := tl_method te_so (d := 0) (by rw [← zx_q_X12_isLetter]; rfl) (fun _ h => absurd h List.not_mem_nil) (by decide +kernel) (by decide +kernel) tr0_c0
/-! TwoInOneModel.isDigit -/
def tr0_s1 : tj_C := (141, [(0, 0, 4294967295)], ([], []), [([(0, 0, 4294967295)], some (0, 2147483648, 2147483648), ([], [], [])), ([(0, 2147483696, 2147483705)], some (0, 2147483649, 2147483649), ([], [], []))], ([], [], []))
set_option maxRecDepth 100000 in
theorem tr0_c1 : tl_chk tj_Lam tr0_s1.2.2.1 [] zx_d_X12_isDigit [] tr0_s1.2.1 tr0_s1.2.2.2.1 tr0_s1.2.2.2.2 [] [] 3000 = true := by decide +kernel
theorem tr0_p1 : tj_KS1 (zx_Cl zx_mt zx_rc zx_mx' 1) tj_Lam tr0_s1 := tl_method te_so (d := 0) (by rw [← zx_q_X12_isDigit]; rfl) (fun _ h => absurd h List.not_mem_nil) (by decide +kernel) (by decide +kernel) tr0_c1
/-! TwoInOneModel.asked -/
def tr0_s2 : tj_C := (87, [(1, 149, 0), (0, 0, 4294967295), (0, 0, 4294967295)], ([], []), [([(1, 149, 0), (0, 0, 4294967295), (0, 0, 4294967295)], some (0, 0, 4294967295), ([], [], []))], ([], [], []))
set_option maxRecDepth 100000 in
theorem tr0_c2 : tl_chk tj_Lam tr0_s2.2.2.1 [] zx_d_X12_asked [] tr0_s2.2.1 tr0_s2.2.2.2.1 tr0_s2.2.2.2.2 [] [] 3000 = true := by decide +kernel
theorem tr0_p2 : tj_KS1 (zx_Cl zx_mt zx_rc zx_mx' 1) tj_Lam tr0_s2 := tl_method te_so (d := 0) (by rw [← zx_q_X12_asked]; rfl) (fun _ h => absurd h List.not_mem_nil) (by decide +kernel) (by decide +kernel) tr0_c2
/-! TwoInOneModel.two -/
def tr0_s3 : tj_C := (207, [(0, 0, 4294967295), (0, 0, 4294967295), (0, 0, 4294967295)], ([], []), [([(0, 0, 4294967295), (0, 0, 4294967295), (0, 0, 4294967295)], some (0, 0, 4294967295), ([], [], []))], ([], [], []))
set_option maxRecDepth 100000 in
theorem tr0_c3 : tl_chk tj_Lam tr0_s3.2.2.1 [] zx_d_X12_two [] tr0_s3.2.1 tr0_s3.2.2.2.1 tr0_s3.2.2.2.2 [] [] 3000 = true := by decide +kernel
theorem tr0_p3 : tj_KS1 (zx_Cl zx_mt zx_rc zx_mx' 1) tj_Lam tr0_s3 := tl_method te_so (d := 0) (by rw [← zx_q_X12_two]; rfl) (fun _ h => absurd h List.not_mem_nil) (by decide +kernel) (by decide +kernel) tr0_c3
/-! TwoInOneModel.isAlive -/
def tr0_s4 : tj_C := (137, [(1, 149, 0), (0, 2147483648, 2147483655)], ([], []), [([(1, 149, 0), (0, 2147483648, 2147483655)], some (0, 2147483648, 2147483648), ([], [], [])), ([(1, 149, 0), (0, 2147483648, 2147483655)], some (0, 2147483649, 2147483649), ([], [], []))], ([], [], []))
set_option maxRecDepth 100000 in
theorem tr0_c4 : tl_chk tj_Lam tr0_s4.2.2.1 [] zx_d_X12_isAlive [] tr0_s4.2.1 tr0_s4.2.2.2.1 tr0_s4.2.2.2.2 [] [] 3000 = true := by decide +kernel
theorem tr0_p4 : tj_KS1 (zx_Cl zx_mt zx_rc zx_mx' 1) tj_Lam tr0_s4 := tl_method te_so (d := 0) (by rw [← zx_q_X12_isAlive]; rfl) (fun _ h => absurd h List.not_mem_nil) (by decide +kernel) (by decide +kernel) tr0_c4
/-! TwoInOneModel.deedMany -/
def tr0_s5 : tj_C := (105, [(1, 149, 0)], ([], []), [([(1, 149, 0)], some (0, 2147483648, 2147483654), ([.inr (0, 14), .inr (0, 39), .inr (2, 3003)], [(1, 106, 0), (0, 2147483648, 2147483649), (0, 2147483648, 2147483654)], [(0, .inr 0, .inl 14, .inr 2), (0, .inr 0, .inl 39, .inr 3), (1, .inr 2, .inr 3, .inr 4), (9932525098444199596950291535, .inr 1, .inr 4, .inl 0), (9932525098444199596950291535, .inr 4, .inr 1, .inl 0)]))], ([], [], []))
set_option maxRecDepth 100000 in
theorem tr0_c5 : tl_chk tj_Lam tr0_s5.2.2.1 [] zx_d_X12_deedMany [(100009, [([], 1, [(1, (1000, [])), (-1, (1000, []))], 0)])] tr0_s5.2.1 tr0_s5.2.2.2.1 tr0_s5.2.2.2.2 [] [] 3000 = true := by decide +kernel
theorem tr0_p5 : tj_KS1 (zx_Cl zx_mt zx_rc zx_mx' 1) tj_Lam tr0_s5 := tl_method te_so (d := 0) (by rw [← zx_q_X12_deedMany]; rfl) (fun _ h => absurd h List.not_mem_nil) (by decide +kernel) (by decide +kernel) tr0_c5
