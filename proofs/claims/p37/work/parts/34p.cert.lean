/-! Game.solveAll -/
def te_s267 : tj_C := (229, [(1, 61, 0), (0, 2147483648, 2147483648), (0, 2147483648, 2147483747)], ([(56, 4), (56, 5), (56, 6)], [54, 57, 60, 59]), [([(1, 61, 0), (0, 2147483648, 2147483648), (0, 2147483648, 2147483747)], none, [])])
set_option maxRecDepth 100000 in
theorem te_c267 : tj_chk tj_Lam te_s267.2.2.1 [te_s21, te_s22, te_s30, te_s38, te_s171, te_s246, te_s247, te_s266] zx_d_X1_solveAll te_s267.2.1 te_s267.2.2.2 [((57, [(0, .inr 0), (1, .inr 1), (2, .inr 2), (3, .inr 3), (4, .inr 4), (5, .inr 5), (7, .inr 6), (9, .inr 7)], [], [(1, 61, 0), (0, 2147483648, 2147483648), (0, 2147483648, 2147483747), (0, 2147483647, 2147483655), (0, 2147483647, 2147483653), (3, 0, 0), (3, 0, 0), (0, 2147483648, 2147483654), (1, 33, 0), (1, 56, 0), (1, 57, 0), (0, 2147483648, 2147483651), (0, 2147483649, 2147483668), (0, 0, 4294967295)], [(0, .inr 0, .inl 1, .inr 8), (0, .inr 0, .inl 2, .inr 9), (0, .inr 0, .inl 3, .inr 10), (0, .inr 0, .inl 8, .inr 11), (0, .inr 0, .inl 9, .inr 12), (0, .inr 8, .inl 0, .inr 13)]), [.inl 3, .inl 4, .inl 5, .inl 7, .inl 9, .inr (0, 1), .inr (0, 2), .inr (0, 3), .inr (0, 8), .inr (0, 9), .inr (8, 0)], [(0, 0), (1, 7), (0, 0)])] [57] 3000 = true := by decide +kernel
theorem te_p267 : tj_KS1 (zx_Cl zx_mt zx_rc zx_mx' 23) tj_Lam te_s267 := tj_method (d := 22) (by rw [← zx_q_X1_solveAll]; rfl) (List.forall_mem_cons.mpr ⟨tj_KS1_le (by decide) te_p21, List.forall_mem_cons.mpr ⟨tj_KS1_le (by decide) te_p22, List.forall_mem_cons.mpr ⟨tj_KS1_le (by decide) te_p30, List.forall_mem_cons.mpr ⟨tj_KS1_le (by decide) te_p38, List.forall_mem_cons.mpr ⟨tj_KS1_le (by decide) te_p171, List.forall_mem_cons.mpr ⟨tj_KS1_le (by decide) te_p246, List.forall_mem_cons.mpr ⟨tj_KS1_le (by decide) te_p247, List.forall_mem_cons.mpr ⟨tj_KS1_le (by decide) te_p266, fun _ h => absurd h List.not_mem_nil⟩⟩⟩⟩⟩⟩⟩⟩) (by decide +kernel) (by decide +kernel) te_c267
/-! Game.playAll -/
def te_s268 : tj_C := (226, [(1, 61, 0), (0, 2147483648, 2147483651), (0, 2147483649, 2147483668)], ([(56, 4), (56, 5), (56, 6), (61, 8), (61, 9)], [54, 57, 60, 59]), [([(1, 61, 0), (0, 2147483648, 2147483651), (0, 2147483649, 2147483668)], none, [(0, 9, (0, 2147483649, 2147483668))])])
set_option maxRecDepth 100000 in
theorem te_c268 : tj_chk tj_Lam te_s268.2.2.1 [te_s170, te_s267] zx_d_X1_playAll te_s268.2.1 te_s268.2.2.2 [] [] 3000 = true := by decide +kernel
theorem te_p268 : tj_KS1 (zx_Cl zx_mt zx_rc zx_mx' 24) tj_Lam te_s268 := tj_method (d := 23) (by rw [← zx_q_X1_playAll]; rfl) (List.forall_mem_cons.mpr ⟨tj_KS1_le (by decide) te_p170, List.forall_mem_cons.mpr ⟨tj_KS1_le (by decide) te_p267, fun _ h => absurd h List.not_mem_nil⟩⟩) (by decide +kernel) (by decide +kernel) te_c268
/-! Game.canWrap -/
def te_s269 : tj_C := (216, [(1, 61, 0), (0, 2147483648, 2147483648), (0, 2147483648, 2147483747), (0, 2147483648, 2147483648)], ([], []), [([(1, 61, 0), (0, 2147483648, 2147483648), (0, 2147483648, 2147483747), (0, 2147483648, 2147483648)], some (0, 2147483648, 2147483648), []), ([(1, 61, 0), (0, 2147483648, 2147483648), (0, 2147483648, 2147483747), (0, 2147483648, 2147483648)], some (0, 2147483649, 2147483649), [(0, 9, (0, 2147483649, 2147483668))])])
set_option maxRecDepth 100000 in
theorem te_c269 : tj_chk tj_Lam te_s269.2.2.1 [te_s171] zx_d_X1_canWrap te_s269.2.1 te_s269.2.2.2 [] [] 3000 = true := by decide +kernel
theorem te_p269 : tj_KS1 (zx_Cl zx_mt zx_rc zx_mx' 2) tj_Lam te_s269 := tj_method (d := 1) (by rw [← zx_q_X1_canWrap]; rfl) (List.forall_mem_cons.mpr ⟨tj_KS1_le (by decide) te_p171, fun _ h => absurd h List.not_mem_nil⟩) (by decide +kernel) (by decide +kernel) te_c269
/-! Sights.takeBack -/
def te_s270 : tj_C := (320, [(1, 73, 0), (0, 0, 4294967295)], ([], [69]), [([(1, 73, 0), (0, 0, 4294967295)], some (0, 2147483648, 2147483648), []), ([(1, 73, 0), (0, 2147483648, 2147483677)], some (0, 2147483649, 2147483649), [(0, 6, (0, 2147483649, 2147483678))])])
set_option maxRecDepth 100000 in
theorem te_c270 : tj_chk tj_Lam te_s270.2.2.1 [] zx_d_X7_takeBack te_s270.2.1 te_s270.2.2.2 [] [] 3000 = true := by decide +kernel
theorem te_p270 : tj_KS1 (zx_Cl zx_mt zx_rc zx_mx' 1) tj_Lam te_s270 := tj_method (d := 0) (by rw [← zx_q_X7_takeBack]; rfl) (fun _ h => absurd h List.not_mem_nil) (by decide +kernel) (by decide +kernel) te_c270
/-! TwoInOne.untell -/
def te_s271 : tj_C := (79, [(1, 100, 0), (0, 0, 4294967295)], ([], [69]), [([(1, 100, 0), (0, 0, 4294967295)], some (0, 2147483648, 2147483648), []), ([(1, 100, 0), (0, 2147483648, 2147483677)], some (0, 2147483649, 2147483649), [])])
set_option maxRecDepth 100000 in
theorem te_c271 : tj_chk tj_Lam te_s271.2.2.1 [te_s270] zx_d_X11_untell te_s271.2.1 te_s271.2.2.2 [] [] 3000 = true := by decide +kernel
theorem te_p271 : tj_KS1 (zx_Cl zx_mt zx_rc zx_mx' 2) tj_Lam te_s271 := tj_method (d := 1) (by rw [← zx_q_X11_untell]; rfl) (List.forall_mem_cons.mpr ⟨tj_KS1_le (by decide) te_p270, fun _ h => absurd h List.not_mem_nil⟩) (by decide +kernel) (by decide +kernel) te_c271
