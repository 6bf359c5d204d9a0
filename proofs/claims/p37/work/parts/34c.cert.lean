/-! Game.keptJoy -/
def te_s53 : tj_C := (223, [(1, 61, 0), (0, 2147483648, 2147483651), (0, 2147483648, 2147483655), (0, 2147483648, 2147483653), (0, 2147483648, 2147483747), (0, 2147483649, 2147483668)], ([(56, 4), (56, 5), (56, 6)], [54]), [([(1, 61, 0), (0, 2147483648, 2147483651), (0, 2147483648, 2147483655), (0, 2147483648, 2147483653), (0, 2147483648, 2147483747), (0, 2147483649, 2147483668)], some (0, 0, 4294967295), [])])
set_option maxRecDepth 100000 in
theorem te_c53 : tj_chk tj_Lam te_s53.2.2.1 [te_s22, te_s30, te_s34, te_s38] zx_d_X1_keptJoy te_s53.2.1 te_s53.2.2.2 [((10, [(0, .inr 0), (1, .inr 1), (2, .inr 2), (3, .inr 3), (4, .inr 4), (5, .inr 5), (6, .inr 6), (7, .inr 7), (8, .inr 8)], [], [(1, 61, 0), (0, 2147483648, 2147483651), (0, 2147483648, 2147483655), (0, 2147483648, 2147483653), (0, 2147483648, 2147483747), (0, 2147483649, 2147483668), (0, 0, 4294967295), (0, 2147483648, 2147483747), (0, 2147483648, 2147483668)], []), [.inl 6, .inl 7, .inl 8], [(0, 0), (1, 8), (0, 0)])] [10] 3000 = true := by decide +kernel
theorem te_p53 : tj_KS1 (zx_Cl zx_mt zx_rc zx_mx' 4) tj_Lam te_s53 := tj_method (d := 3) (by rw [← zx_q_X1_keptJoy]; rfl) (List.forall_mem_cons.mpr ⟨tj_KS1_le (by decide) te_p22, List.forall_mem_cons.mpr ⟨tj_KS1_le (by decide) te_p30, List.forall_mem_cons.mpr ⟨tj_KS1_le (by decide) te_p34, List.forall_mem_cons.mpr ⟨tj_KS1_le (by decide) te_p38, fun _ h => absurd h List.not_mem_nil⟩⟩⟩⟩) (by decide +kernel) (by decide +kernel) te_c53
/-! Game.isBetterBroken -/
def te_s54 : tj_C := (222, [(1, 61, 0), (0, 2147483648, 2147483651), (0, 2147483648, 2147483653), (0, 2147483648, 2147483747), (0, 2147483649, 2147483668)], ([(56, 4), (56, 5), (56, 6), (56, 7)], [54]), [([(1, 61, 0), (0, 2147483648, 2147483651), (0, 2147483648, 2147483653), (0, 2147483648, 2147483747), (0, 2147483649, 2147483668)], some (0, 2147483648, 2147483648), []), ([(1, 61, 0), (0, 2147483648, 2147483651), (0, 2147483648, 2147483653), (0, 2147483648, 2147483747), (0, 2147483649, 2147483668)], some (0, 2147483649, 2147483649), [])])
set_option maxRecDepth 100000 in
theorem te_c54 : tj_chk tj_Lam te_s54.2.2.1 [te_s21, te_s22, te_s30, te_s34, te_s38, te_s41, te_s52, te_s53] zx_d_X1_isBetterBroken te_s54.2.1 te_s54.2.2.2 [((35, [(0, .inr 0), (1, .inr 1), (2, .inr 2), (3, .inr 3), (4, .inr 4), (5, .inr 5), (6, .inr 6), (7, .inr 7)], [], [(1, 61, 0), (0, 2147483648, 2147483651), (0, 2147483648, 2147483653), (0, 2147483648, 2147483747), (0, 2147483649, 2147483668), (0, 2147483647, 2147483655), (0, 0, 4294967295), (0, 2147483648, 2147483654), (1, 33, 0), (1, 56, 0), (0, 0, 4294967295)], [(0, .inr 0, .inl 1, .inr 8), (0, .inr 0, .inl 2, .inr 9), (0, .inr 8, .inl 0, .inr 10)]), [.inl 5, .inl 6, .inl 7, .inr (0, 1), .inr (0, 2), .inr (8, 0)], [(0, 0), (1, 7), (0, 0)])] [35] 3000 = true := by decide +kernel
theorem te_p54 : tj_KS1 (zx_Cl zx_mt zx_rc zx_mx' 6) tj_Lam te_s54 := tj_method (d := 5) (by rw [← zx_q_X1_isBetterBroken]; rfl) (List.forall_mem_cons.mpr ⟨tj_KS1_le (by decide) te_p21, List.forall_mem_cons.mpr ⟨tj_KS1_le (by decide) te_p22, List.forall_mem_cons.mpr ⟨tj_KS1_le (by decide) te_p30, List.forall_mem_cons.mpr ⟨tj_KS1_le (by decide) te_p34, List.forall_mem_cons.mpr ⟨tj_KS1_le (by decide) te_p38, List.forall_mem_cons.mpr ⟨tj_KS1_le (by decide) te_p41, List.forall_mem_cons.mpr ⟨tj_KS1_le (by decide) te_p52, List.forall_mem_cons.mpr ⟨tj_KS1_le (by decide) te_p53, fun _ h => absurd h List.not_mem_nil⟩⟩⟩⟩⟩⟩⟩⟩) (by decide +kernel) (by decide +kernel) te_c54
/-! Game.keptJoy -/
def te_s55 : tj_C := (223, [(1, 61, 0), (0, 2147483648, 2147483651), (0, 2147483647, 2147483647), (0, 2147483648, 2147483667), (0, 2147483648, 2147483747), (0, 2147483649, 2147483668)], ([(56, 4), (56, 5), (56, 6)], [54]), [([(1, 61, 0), (0, 2147483648, 2147483651), (0, 2147483647, 2147483647), (0, 2147483648, 2147483667), (0, 2147483648, 2147483747), (0, 2147483649, 2147483668)], some (0, 2147483648, 2147483648), [])])
set_option maxRecDepth 100000 in
theorem te_c55 : tj_chk tj_Lam te_s55.2.2.1 [te_s22, te_s30, te_s34] zx_d_X1_keptJoy te_s55.2.1 te_s55.2.2.2 [((10, [(0, .inr 0), (1, .inr 1), (2, .inr 2), (3, .inr 3), (4, .inr 4), (5, .inr 5), (6, .inr 6), (7, .inr 7), (8, .inr 8)], [], [(1, 61, 0), (0, 2147483648, 2147483651), (0, 2147483647, 2147483647), (0, 2147483648, 2147483667), (0, 2147483648, 2147483747), (0, 2147483649, 2147483668), (0, 2147483648, 2147483648), (0, 2147483648, 2147483747), (0, 2147483648, 2147483668)], []), [.inl 6, .inl 7, .inl 8], [(0, 0), (1, 8), (0, 0)])] [10] 3000 = true := by decide +kernel
theorem te_p55 : tj_KS1 (zx_Cl zx_mt zx_rc zx_mx' 4) tj_Lam te_s55 := tj_method (d := 3) (by rw [← zx_q_X1_keptJoy]; rfl) (List.forall_mem_cons.mpr ⟨tj_KS1_le (by decide) te_p22, List.forall_mem_cons.mpr ⟨tj_KS1_le (by decide) te_p30, List.forall_mem_cons.mpr ⟨tj_KS1_le (by decide) te_p34, fun _ h => absurd h List.not_mem_nil⟩⟩⟩) (by decide +kernel) (by decide +kernel) te_c55
/-! Game.keptJoy -/
def te_s56 : tj_C := (223, [(1, 61, 0), (0, 2147483648, 2147483651), (0, 2147483648, 2147483655), (0, 2147483648, 2147483667), (0, 2147483648, 2147483747), (0, 2147483649, 2147483668)], ([(56, 4), (56, 5), (56, 6)], [54]), [([(1, 61, 0), (0, 2147483648, 2147483651), (0, 2147483648, 2147483655), (0, 2147483648, 2147483667), (0, 2147483648, 2147483747), (0, 2147483649, 2147483668)], some (0, 0, 4294967295), [])])
set_option maxRecDepth 100000 in
theorem te_c56 : tj_chk tj_Lam te_s56.2.2.1 [te_s22, te_s30, te_s34, te_s38] zx_d_X1_keptJoy te_s56.2.1 te_s56.2.2.2 [((10, [(0, .inr 0), (1, .inr 1), (2, .inr 2), (3, .inr 3), (4, .inr 4), (5, .inr 5), (6, .inr 6), (7, .inr 7), (8, .inr 8)], [], [(1, 61, 0), (0, 2147483648, 2147483651), (0, 2147483648, 2147483655), (0, 2147483648, 2147483667), (0, 2147483648, 2147483747), (0, 2147483649, 2147483668), (0, 0, 4294967295), (0, 2147483648, 2147483747), (0, 2147483648, 2147483668)], []), [.inl 6, .inl 7, .inl 8], [(0, 0), (1, 8), (0, 0)])] [10] 3000 = true := by decide +kernel
theorem te_p56 : tj_KS1 (zx_Cl zx_mt zx_rc zx_mx' 4) tj_Lam te_s56 := tj_method (d := 3) (by rw [← zx_q_X1_keptJoy]; rfl) (List.forall_mem_cons.mpr ⟨tj_KS1_le (by decide) te_p22, List.forall_mem_cons.mpr ⟨tj_KS1_le (by decide) te_p30, List.forall_mem_cons.mpr ⟨tj_KS1_le (by decide) te_p34, List.forall_mem_cons.mpr ⟨tj_KS1_le (by decide) te_p38, fun _ h => absurd h List.not_mem_nil⟩⟩⟩⟩) (by decide +kernel) (by decide +kernel) te_c56
/-! Game.isBetterBroken -/
def te_s57 : tj_C := (222, [(1, 61, 0), (0, 2147483648, 2147483651), (0, 2147483648, 2147483667), (0, 2147483648, 2147483747), (0, 2147483649, 2147483668)], ([(56, 4), (56, 5), (56, 6), (56, 7)], [54]), [([(1, 61, 0), (0, 2147483648, 2147483651), (0, 2147483648, 2147483667), (0, 2147483648, 2147483747), (0, 2147483649, 2147483668)], some (0, 2147483648, 2147483648), []), ([(1, 61, 0), (0, 2147483648, 2147483651), (0, 2147483648, 2147483667), (0, 2147483648, 2147483747), (0, 2147483649, 2147483668)], some (0, 2147483649, 2147483649), [])])
set_option maxRecDepth 100000 in
theorem te_c57 : tj_chk tj_Lam te_s57.2.2.1 [te_s21, te_s22, te_s30, te_s34, te_s38, te_s41, te_s55, te_s56] zx_d_X1_isBetterBroken te_s57.2.1 te_s57.2.2.2 [((35, [(0, .inr 0), (1, .inr 1), (2, .inr 2), (3, .inr 3), (4, .inr 4), (5, .inr 5), (6, .inr 6), (7, .inr 7)], [], [(1, 61, 0), (0, 2147483648, 2147483651), (0, 2147483648, 2147483667), (0, 2147483648, 2147483747), (0, 2147483649, 2147483668), (0, 2147483647, 2147483655), (0, 0, 4294967295), (0, 2147483648, 2147483654), (1, 33, 0), (1, 56, 0), (0, 0, 4294967295)], [(0, .inr 0, .inl 1, .inr 8), (0, .inr 0, .inl 2, .inr 9), (0, .inr 8, .inl 0, .inr 10)]), [.inl 5, .inl 6, .inl 7, .inr (0, 1), .inr (0, 2), .inr (8, 0)], [(0, 0), (1, 7), (0, 0)])] [35] 3000 = true := by decide +kernel
theorem te_p57 : tj_KS1 (zx_Cl zx_mt zx_rc zx_mx' 6) tj_Lam te_s57 := tj_method (d := 5) (by rw [← zx_q_X1_isBetterBroken]; rfl) (List.forall_mem_cons.mpr ⟨tj_KS1_le (by decide) te_p21, List.forall_mem_cons.mpr ⟨tj_KS1_le (by decide) te_p22, List.forall_mem_cons.mpr ⟨tj_KS1_le (by decide) te_p30, List.forall_mem_cons.mpr ⟨tj_KS1_le (by decide) te_p34, List.forall_mem_cons.mpr ⟨tj_KS1_le (by decide) te_p38, List.forall_mem_cons.mpr ⟨tj_KS1_le (by decide) te_p41, List.forall_mem_cons.mpr ⟨tj_KS1_le (by decide) te_p55, List.forall_mem_cons.mpr ⟨tj_KS1_le (by decide) te_p56, fun _ h => absurd h List.not_mem_nil⟩⟩⟩⟩⟩⟩⟩⟩) (by decide +kernel) (by decide +kernel) te_c57
/-! Game.firstBreak -/
def te_s58 : tj_C := (220, [(1, 61, 0), (0, 2147483648, 2147483651), (0, 2147483649, 2147483668)], ([(56, 4), (56, 5), (56, 6), (56, 7)], [54]), [([(1, 61, 0), (0, 2147483648, 2147483651), (0, 2147483649, 2147483668)], some (0, 2147483647, 2147483647), []), ([(1, 61, 0), (0, 2147483648, 2147483651), (0, 2147483649, 2147483668)], some (0, 2147483648, 2147483667), [])])
set_option maxRecDepth 100000 in
theorem te_c58 : tj_chk tj_Lam te_s58.2.2.1 [te_s21, te_s22, te_s24, te_s30, te_s32, te_s34, te_s42, te_s45, te_s48, te_s51, te_s54, te_s57] zx_d_X1_firstBreak te_s58.2.1 te_s58.2.2.2 [((13, [(0, .inr 0), (1, .inr 1), (2, .inr 2), (3, .inr 3), (4, .inr 4)], [], [(1, 61, 0), (0, 2147483648, 2147483651), (0, 2147483649, 2147483668), (0, 2147483648, 2147483747), (0, 2147483648, 2147483668), (1, 33, 0), (1, 28, 0)], [(0, .inr 0, .inl 1, .inr 5), (0, .inr 5, .inl 2, .inr 6)]), [.inl 3, .inl 4, .inr (0, 1), .inr (5, 2)], [(0, 0), (1, 4), (0, 0)])] [13] 3000 = true := by decide +kernel
theorem te_p58 : tj_KS1 (zx_Cl zx_mt zx_rc zx_mx' 7) tj_Lam te_s58 := tj_method (d := 6) (by rw [← zx_q_X1_firstBreak]; rfl) (List.forall_mem_cons.mpr ⟨tj_KS1_le (by decide) te_p21, List.forall_mem_cons.mpr ⟨tj_KS1_le (by decide) te_p22, List.forall_mem_cons.mpr ⟨tj_KS1_le (by decide) te_p24, List.forall_mem_cons.mpr ⟨tj_KS1_le (by decide) te_p30, List.forall_mem_cons.mpr ⟨tj_KS1_le (by decide) te_p32, List.forall_mem_cons.mpr ⟨tj_KS1_le (by decide) te_p34, List.forall_mem_cons.mpr ⟨tj_KS1_le (by decide) te_p42, List.forall_mem_cons.mpr ⟨tj_KS1_le (by decide) te_p45, List.forall_mem_cons.mpr ⟨tj_KS1_le (by decide) te_p48, List.forall_mem_cons.mpr ⟨tj_KS1_le (by decide) te_p51, List.forall_mem_cons.mpr ⟨tj_KS1_le (by decide) te_p54, List.forall_mem_cons.mpr ⟨tj_KS1_le (by decide) te_p57, fun _ h => absurd h List.not_mem_nil⟩⟩⟩⟩⟩⟩⟩⟩⟩⟩⟩⟩) (by decide +kernel) (by decide +kernel) te_c58
/-! TwoInOne.breaks -/
def te_s59 : tj_C := (37, [(1, 100, 0), (0, 0, 4294967295), (0, 0, 4294967295)], ([(56, 4), (56, 5), (56, 6), (56, 7)], [54]), [([(1, 100, 0), (0, 2147483648, 2147483651), (0, 2147483649, 2147483668)], some (0, 2147483647, 2147483647), []), ([(1, 100, 0), (0, 0, 4294967295), (0, 0, 4294967295)], some (0, 2147483646, 2147483667), [])])
set_option maxRecDepth 100000 in
theorem te_c59 : tj_chk tj_Lam te_s59.2.2.1 [te_s2, te_s20, te_s58] zx_d_X11_breaks te_s59.2.1 te_s59.2.2.2 [] [] 3000 = true := by decide +kernel
theorem te_p59 : tj_KS1 (zx_Cl zx_mt zx_rc zx_mx' 8) tj_Lam te_s59 := tj_method (d := 7) (by rw [← zx_q_X11_breaks]; rfl) (List.forall_mem_cons.mpr ⟨tj_KS1_le (by decide) te_p2, List.forall_mem_cons.mpr ⟨tj_KS1_le (by decide) te_p20, List.forall_mem_cons.mpr ⟨tj_KS1_le (by decide) te_p58, fun _ h => absurd h List.not_mem_nil⟩⟩⟩) (by decide +kernel) (by decide +kernel) te_c59
/-! Course.chosen -/
def te_s60 : tj_C := (7, [(1, 56, 0), (0, 0, 4294967295), (0, 0, 4294967295), (0, 2147483648, 2147483747), (0, 0, 4294967295)], ([(56, 4), (56, 5), (56, 6), (56, 7)], [54]), [([(1, 56, 0), (0, 0, 4294967295), (0, 0, 4294967295), (0, 2147483648, 2147483747), (0, 0, 4294967295)], some (0, 2147483647, 2147483653), [])])
set_option maxRecDepth 100000 in
theorem te_c60 : tj_chk tj_Lam te_s60.2.2.1 [te_s21, te_s22, te_s30, te_s38, te_s41] zx_d_X0_chosen te_s60.2.1 te_s60.2.2.2 [((17, [(0, .inr 0), (1, .inr 1), (2, .inr 2), (3, .inr 3), (4, .inr 4), (5, .inr 5), (6, .inr 6), (7, .inr 7), (8, .inr 8)], [], [(1, 56, 0), (0, 0, 4294967295), (0, 0, 4294967295), (0, 2147483648, 2147483747), (0, 0, 4294967295), (0, 2147483647, 2147483655), (0, 2147483647, 2147483653), (0, 0, 4294967295), (0, 2147483648, 2147483654)], []), [.inl 5, .inl 6, .inl 7, .inl 8], [(0, 0), (1, 8), (0, 0)])] [17] 3000 = true := by decide +kernel
theorem te_p60 : tj_KS1 (zx_Cl zx_mt zx_rc zx_mx' 6) tj_Lam te_s60 := tj_method (d := 5) (by rw [← zx_q_X0_chosen]; rfl) (List.forall_mem_cons.mpr ⟨tj_KS1_le (by decide) te_p21, List.forall_mem_cons.mpr ⟨tj_KS1_le (by decide) te_p22, List.forall_mem_cons.mpr ⟨tj_KS1_le (by decide) te_p30, List.forall_mem_cons.mpr ⟨tj_KS1_le (by decide) te_p38, List.forall_mem_cons.mpr ⟨tj_KS1_le (by decide) te_p41, fun _ h => absurd h List.not_mem_nil⟩⟩⟩⟩⟩) (by decide +kernel) (by decide +kernel) te_c60
/-! Game.deedOn -/
def te_s61 : tj_C := (218, [(1, 61, 0), (0, 2147483648, 2147484670)], ([], []), [([(1, 61, 0), (0, 2147483648, 2147484670)], some (0, 2147483647, 2147483647), []), ([(1, 61, 0), (0, 2147483648, 2147484670)], some (0, 0, 4294967295), [])])
set_option maxRecDepth 100000 in
theorem te_c61 : tj_chk tj_Lam te_s61.2.2.1 [te_s33] zx_d_X1_deedOn te_s61.2.1 te_s61.2.2.2 [] [] 3000 = true := by decide +kernel
theorem te_p61 : tj_KS1 (zx_Cl zx_mt zx_rc zx_mx' 2) tj_Lam te_s61 := tj_method (d := 1) (by rw [← zx_q_X1_deedOn]; rfl) (List.forall_mem_cons.mpr ⟨tj_KS1_le (by decide) te_p33, fun _ h => absurd h List.not_mem_nil⟩) (by decide +kernel) (by decide +kernel) te_c61
/-! Game.fewestCares -/
def te_s62 : tj_C := (219, [(1, 61, 0), (0, 2147483648, 2147483651), (0, 2147483649, 2147483668)], ([(56, 4), (56, 5), (56, 6), (56, 7)], [54]), [([(1, 61, 0), (0, 2147483648, 2147483651), (0, 2147483649, 2147483668)], some (0, 2147483647, 2147483647), []), ([(1, 61, 0), (0, 2147483648, 2147483651), (0, 2147483649, 2147483668)], some (0, 2147483648, 2147483657), [])])
set_option maxRecDepth 100000 in
theorem te_c62 : tj_chk tj_Lam te_s62.2.2.1 [te_s21, te_s22, te_s30, te_s32, te_s34, te_s60, te_s61] zx_d_X1_fewestCares te_s62.2.1 te_s62.2.2.2 [((145, [(0, .inr 0), (1, .inr 1), (2, .inr 2), (3, .inr 3), (4, .inr 4), (5, .inr 5)], [], [(1, 61, 0), (0, 2147483648, 2147483651), (0, 2147483649, 2147483668), (0, 2147483648, 2147484671), (0, 2147483648, 2147483747), (0, 2147483648, 2147483658), (1, 33, 0), (1, 28, 0)], [(0, .inr 0, .inl 1, .inr 6), (0, .inr 6, .inl 2, .inr 7)]), [.inl 3, .inl 4, .inl 5, .inr (0, 1), .inr (6, 2)], [(0, 0), (1, 5), (0, 0), (0, 0), (0, 0)]), ((18, [(0, .inr 0), (1, .inr 1), (2, .inr 2), (3, .inr 3), (4, .inr 4), (5, .inr 5)], [], [(1, 61, 0), (0, 2147483648, 2147483651), (0, 2147483649, 2147483668), (0, 2147483648, 2147484671), (0, 2147483648, 2147483747), (0, 2147483648, 2147484671), (1, 33, 0), (1, 28, 0)], [(0, .inr 0, .inl 1, .inr 6), (0, .inr 6, .inl 2, .inr 7)]), [.inl 3, .inl 4, .inl 5, .inr (0, 1), .inr (6, 2)], [(0, 1), (1, 5), (0, 1), (0, 0), (0, 0)]), ((53, [(0, .inr 0), (1, .inr 1), (2, .inr 2), (3, .inr 3), (4, .inr 4), (5, .inr 5), (6, .inr 6), (7, .inr 7)], [], [(1, 61, 0), (0, 2147483648, 2147483651), (0, 2147483649, 2147483668), (0, 2147483648, 2147484671), (0, 2147483648, 2147483747), (0, 2147483648, 2147484670), (0, 2147483648, 4294967295), (0, 2147483648, 2147483658), (1, 33, 0), (1, 56, 0), (0, 0, 4294967295), (1, 28, 0)], [(0, .inr 0, .inl 1, .inr 8), (0, .inr 0, .inl 2, .inr 9), (0, .inr 8, .inl 0, .inr 10), (0, .inr 8, .inl 2, .inr 11)]), [.inl 3, .inl 4, .inl 5, .inl 6, .inl 7, .inr (0, 1), .inr (0, 2), .inr (8, 0), .inr (8, 2)], [(0, 1), (1, 5), (0, 0), (1, 7), (0, 0)])] [18, 53, 145] 3000 = true := by decide +kernel
theorem te_p62 : tj_KS1 (zx_Cl zx_mt zx_rc zx_mx' 7) tj_Lam te_s62 := tj_method (d := 6) (by rw [← zx_q_X1_fewestCares]; rfl) (List.forall_mem_cons.mpr ⟨tj_KS1_le (by decide) te_p21, List.forall_mem_cons.mpr ⟨tj_KS1_le (by decide) te_p22, List.forall_mem_cons.mpr ⟨tj_KS1_le (by decide) te_p30, List.forall_mem_cons.mpr ⟨tj_KS1_le (by decide) te_p32, List.forall_mem_cons.mpr ⟨tj_KS1_le (by decide) te_p34, List.forall_mem_cons.mpr ⟨tj_KS1_le (by decide) te_p60, List.forall_mem_cons.mpr ⟨tj_KS1_le (by decide) te_p61, fun _ h => absurd h List.not_mem_nil⟩⟩⟩⟩⟩⟩⟩) (by decide +kernel) (by decide +kernel) te_c62
/-! TwoInOne.cares -/
def te_s63 : tj_C := (39, [(1, 100, 0), (0, 0, 4294967295), (0, 0, 4294967295)], ([(56, 4), (56, 5), (56, 6), (56, 7)], [54]), [([(1, 100, 0), (0, 2147483648, 2147483651), (0, 2147483649, 2147483668)], some (0, 2147483647, 2147483647), []), ([(1, 100, 0), (0, 0, 4294967295), (0, 0, 4294967295)], some (0, 2147483646, 2147483657), [])])
set_option maxRecDepth 100000 in
theorem te_c63 : tj_chk tj_Lam te_s63.2.2.1 [te_s2, te_s20, te_s62] zx_d_X11_cares te_s63.2.1 te_s63.2.2.2 [] [] 3000 = true := by decide +kernel
theorem te_p63 : tj_KS1 (zx_Cl zx_mt zx_rc zx_mx' 8) tj_Lam te_s63 := tj_method (d := 7) (by rw [← zx_q_X11_cares]; rfl) (List.forall_mem_cons.mpr ⟨tj_KS1_le (by decide) te_p2, List.forall_mem_cons.mpr ⟨tj_KS1_le (by decide) te_p20, List.forall_mem_cons.mpr ⟨tj_KS1_le (by decide) te_p62, fun _ h => absurd h List.not_mem_nil⟩⟩⟩) (by decide +kernel) (by decide +kernel) te_c63
/-! TwoInOne.chooses -/
def te_s64 : tj_C := (40, [(1, 100, 0), (0, 0, 4294967295), (0, 0, 4294967295)], ([(56, 4), (56, 5), (56, 6), (56, 7)], [54]), [([(1, 100, 0), (0, 2147483648, 2147483651), (0, 2147483647, 2147483657)], some (0, 2147483647, 2147483647), []), ([(1, 100, 0), (0, 0, 4294967295), (0, 0, 4294967295)], some (0, 2147483646, 2147483653), [])])
set_option maxRecDepth 100000 in
theorem te_c64 : tj_chk tj_Lam te_s64.2.2.1 [te_s2, te_s21, te_s60] zx_d_X11_chooses te_s64.2.1 te_s64.2.2.2 [] [] 3000 = true := by decide +kernel
theorem te_p64 : tj_KS1 (zx_Cl zx_mt zx_rc zx_mx' 7) tj_Lam te_s64 := tj_method (d := 6) (by rw [← zx_q_X11_chooses]; rfl) (List.forall_mem_cons.mpr ⟨tj_KS1_le (by decide) te_p2, List.forall_mem_cons.mpr ⟨tj_KS1_le (by decide) te_p21, List.forall_mem_cons.mpr ⟨tj_KS1_le (by decide) te_p60, fun _ h => absurd h List.not_mem_nil⟩⟩⟩) (by decide +kernel) (by decide +kernel) te_c64
/-! Course.carryOut -/
def te_s65 : tj_C := (6, [(1, 56, 0), (0, 2147483648, 2147483648), (0, 2147483647, 2147483653)], ([(56, 4), (56, 5), (56, 6)], [54, 31, 32, 28]), [([(1, 56, 0), (0, 2147483648, 2147483648), (0, 2147483647, 2147483653)], none, [(0, 6, (0, 2147483648, 2147483649))])])
set_option maxRecDepth 100000 in
theorem te_c65 : tj_chk tj_Lam te_s65.2.2.1 [te_s22, te_s25, te_s30, te_s38] zx_d_X0_carryOut te_s65.2.1 te_s65.2.2.2 [] [] 3000 = true := by decide +kernel
theorem te_p65 : tj_KS1 (zx_Cl zx_mt zx_rc zx_mx' 4) tj_Lam te_s65 := tj_method (d := 3) (by rw [← zx_q_X0_carryOut]; rfl) (List.forall_mem_cons.mpr ⟨tj_KS1_le (by decide) te_p22, List.forall_mem_cons.mpr ⟨tj_KS1_le (by decide) te_p25, List.forall_mem_cons.mpr ⟨tj_KS1_le (by decide) te_p30, List.forall_mem_cons.mpr ⟨tj_KS1_le (by decide) te_p38, fun _ h => absurd h List.not_mem_nil⟩⟩⟩⟩) (by decide +kernel) (by decide +kernel) te_c65
/-! Course.carryOut -/
def te_s66 : tj_C := (6, [(1, 56, 0), (0, 2147483648, 2147483649), (0, 2147483647, 2147483653)], ([(56, 4), (56, 5), (56, 6)], [54, 31, 32, 28]), [([(1, 56, 0), (0, 2147483648, 2147483649), (0, 2147483647, 2147483653)], none, [(0, 6, (0, 2147483648, 2147483649))])])
set_option maxRecDepth 100000 in
theorem te_c66 : tj_chk tj_Lam te_s66.2.2.1 [te_s22, te_s25, te_s30, te_s38] zx_d_X0_carryOut te_s66.2.1 te_s66.2.2.2 [] [] 3000 = true := by decide +kernel
theorem te_p66 : tj_KS1 (zx_Cl zx_mt zx_rc zx_mx' 4) tj_Lam te_s66 := tj_method (d := 3) (by rw [← zx_q_X0_carryOut]; rfl) (List.forall_mem_cons.mpr ⟨tj_KS1_le (by decide) te_p22, List.forall_mem_cons.mpr ⟨tj_KS1_le (by decide) te_p25, List.forall_mem_cons.mpr ⟨tj_KS1_le (by decide) te_p30, List.forall_mem_cons.mpr ⟨tj_KS1_le (by decide) te_p38, fun _ h => absurd h List.not_mem_nil⟩⟩⟩⟩) (by decide +kernel) (by decide +kernel) te_c66
/-! Course.carryOut -/
def te_s67 : tj_C := (6, [(1, 56, 0), (0, 2147483648, 2147483650), (0, 2147483647, 2147483653)], ([(56, 4), (56, 5), (56, 6)], [54, 31, 32, 28]), [([(1, 56, 0), (0, 2147483648, 2147483650), (0, 2147483647, 2147483653)], none, [(0, 6, (0, 2147483648, 2147483649))])])
set_option maxRecDepth 100000 in
theorem te_c67 : tj_chk tj_Lam te_s67.2.2.1 [te_s22, te_s25, te_s30, te_s38] zx_d_X0_carryOut te_s67.2.1 te_s67.2.2.2 [] [] 3000 = true := by decide +kernel
theorem te_p67 : tj_KS1 (zx_Cl zx_mt zx_rc zx_mx' 4) tj_Lam te_s67 := tj_method (d := 3) (by rw [← zx_q_X0_carryOut]; rfl) (List.forall_mem_cons.mpr ⟨tj_KS1_le (by decide) te_p22, List.forall_mem_cons.mpr ⟨tj_KS1_le (by decide) te_p25, List.forall_mem_cons.mpr ⟨tj_KS1_le (by decide) te_p30, List.forall_mem_cons.mpr ⟨tj_KS1_le (by decide) te_p38, fun _ h => absurd h List.not_mem_nil⟩⟩⟩⟩) (by decide +kernel) (by decide +kernel) te_c67
/-! Course.carryOut -/
def te_s68 : tj_C := (6, [(1, 56, 0), (0, 2147483648, 2147483651), (0, 2147483647, 2147483653)], ([(56, 4), (56, 5), (56, 6)], [54, 31, 32, 28]), [([(1, 56, 0), (0, 2147483648, 2147483651), (0, 2147483647, 2147483653)], none, [(0, 6, (0, 2147483648, 2147483649))])])
set_option maxRecDepth 100000 in
theorem te_c68 : tj_chk tj_Lam te_s68.2.2.1 [te_s22, te_s25, te_s30, te_s38] zx_d_X0_carryOut te_s68.2.1 te_s68.2.2.2 [] [] 3000 = true := by decide +kernel
theorem te_p68 : tj_KS1 (zx_Cl zx_mt zx_rc zx_mx' 4) tj_Lam te_s68 := tj_method (d := 3) (by rw [← zx_q_X0_carryOut]; rfl) (List.forall_mem_cons.mpr ⟨tj_KS1_le (by decide) te_p22, List.forall_mem_cons.mpr ⟨tj_KS1_le (by decide) te_p25, List.forall_mem_cons.mpr ⟨tj_KS1_le (by decide) te_p30, List.forall_mem_cons.mpr ⟨tj_KS1_le (by decide) te_p38, fun _ h => absurd h List.not_mem_nil⟩⟩⟩⟩) (by decide +kernel) (by decide +kernel) te_c68
/-! Course.passDay -/
def te_s69 : tj_C := (18, [(1, 56, 0), (0, 2147483647, 2147483647), (0, 2147483647, 2147483647)], ([(56, 4), (56, 5), (56, 6), (56, 7), (33, 0)], [54, 31, 32, 28]), [([(1, 56, 0), (0, 2147483647, 2147483647), (0, 2147483647, 2147483647)], none, [])])
set_option maxRecDepth 100000 in
theorem te_c69 : tj_chk tj_Lam te_s69.2.2.1 [te_s21, te_s60, te_s65, te_s66, te_s67, te_s68] zx_d_X0_passDay te_s69.2.1 te_s69.2.2.2 [((2, [(0, .inr 0), (1, .inr 1), (2, .inr 2), (3, .inr 3)], [], [(1, 56, 0), (0, 2147483647, 2147483647), (0, 2147483647, 2147483647), (0, 2147483648, 2147483652)], []), [.inl 3], [(0, 0), (1, 3), (0, 0)])] [2] 3000 = true := by decide +kernel
theorem te_p69 : tj_KS1 (zx_Cl zx_mt zx_rc zx_mx' 7) tj_Lam te_s69 := tj_method (d := 6) (by rw [← zx_q_X0_passDay]; rfl) (List.forall_mem_cons.mpr ⟨tj_KS1_le (by decide) te_p21, List.forall_mem_cons.mpr ⟨tj_KS1_le (by decide) te_p60, List.forall_mem_cons.mpr ⟨tj_KS1_le (by decide) te_p65, List.forall_mem_cons.mpr ⟨tj_KS1_le (by decide) te_p66, List.forall_mem_cons.mpr ⟨tj_KS1_le (by decide) te_p67, List.forall_mem_cons.mpr ⟨tj_KS1_le (by decide) te_p68, fun _ h => absurd h List.not_mem_nil⟩⟩⟩⟩⟩⟩) (by decide +kernel) (by decide +kernel) te_c69
/-! TwoInOne.canDo -/
def te_s70 : tj_C := (38, [(1, 100, 0), (0, 0, 4294967295), (0, 0, 4294967295)], ([], []), [([(1, 100, 0), (0, 0, 4294967295), (0, 0, 4294967295)], some (0, 2147483648, 2147483648), []), ([(1, 100, 0), (0, 2147483648, 2147483651), (0, 2147483648, 2147483653)], some (0, 2147483649, 2147483649), [])])
set_option maxRecDepth 100000 in
theorem te_c70 : tj_chk tj_Lam te_s70.2.2.1 [te_s2, te_s21, te_s25] zx_d_X11_canDo te_s70.2.1 te_s70.2.2.2 [] [] 3000 = true := by decide +kernel
theorem te_p70 : tj_KS1 (zx_Cl zx_mt zx_rc zx_mx' 3) tj_Lam te_s70 := tj_method (d := 2) (by rw [← zx_q_X11_canDo]; rfl) (List.forall_mem_cons.mpr ⟨tj_KS1_le (by decide) te_p2, List.forall_mem_cons.mpr ⟨tj_KS1_le (by decide) te_p21, List.forall_mem_cons.mpr ⟨tj_KS1_le (by decide) te_p25, fun _ h => absurd h List.not_mem_nil⟩⟩⟩) (by decide +kernel) (by decide +kernel) te_c70
/-! Course.passDay -/
def te_s71 : tj_C := (18, [(1, 56, 0), (0, 2147483648, 2147483651), (0, 2147483648, 2147483653)], ([(56, 4), (56, 5), (56, 6), (56, 7), (33, 0)], [54, 31, 32, 28]), [([(1, 56, 0), (0, 2147483648, 2147483651), (0, 2147483648, 2147483653)], none, [])])
set_option maxRecDepth 100000 in
theorem te_c71 : tj_chk tj_Lam te_s71.2.2.1 [te_s21, te_s60, te_s65, te_s66, te_s67, te_s68] zx_d_X0_passDay te_s71.2.1 te_s71.2.2.2 [((2, [(0, .inr 0), (1, .inr 1), (2, .inr 2), (3, .inr 3)], [], [(1, 56, 0), (0, 2147483648, 2147483651), (0, 2147483648, 2147483653), (0, 2147483648, 2147483652)], []), [.inl 3], [(0, 0), (1, 3), (0, 0)])] [2] 3000 = true := by decide +kernel
theorem te_p71 : tj_KS1 (zx_Cl zx_mt zx_rc zx_mx' 7) tj_Lam te_s71 := tj_method (d := 6) (by rw [← zx_q_X0_passDay]; rfl) (List.forall_mem_cons.mpr ⟨tj_KS1_le (by decide) te_p21, List.forall_mem_cons.mpr ⟨tj_KS1_le (by decide) te_p60, List.forall_mem_cons.mpr ⟨tj_KS1_le (by decide) te_p65, List.forall_mem_cons.mpr ⟨tj_KS1_le (by decide) te_p66, List.forall_mem_cons.mpr ⟨tj_KS1_le (by decide) te_p67, List.forall_mem_cons.mpr ⟨tj_KS1_le (by decide) te_p68, fun _ h => absurd h List.not_mem_nil⟩⟩⟩⟩⟩⟩) (by decide +kernel) (by decide +kernel) te_c71
/-! java/util/Arrays.fill -/
def te_s72 : tj_C := (1, [(1, 55, 0), (0, 2147483648, 2147483648)], ([], [55]), [([(1, 55, 0), (0, 2147483648, 2147483648)], none, [])])
set_option maxRecDepth 100000 in
theorem te_c72 : tj_chk tj_Lam te_s72.2.2.1 [] zx_d_J7_fill_53178 te_s72.2.1 te_s72.2.2.2 [((5, [(0, .inr 0), (1, .inr 1), (2, .inr 2), (3, .inr 3)], [], [(1, 55, 0), (0, 2147483648, 2147483648), (0, 2147483648, 2147483651), (0, 2147483651, 2147483651)], []), [.inl 2, .inl 3], [(0, 0), (1, 2), (0, 0)])] [5] 3000 = true := by decide +kernel
theorem te_p72 : tj_KS1 (zx_Cl zx_mt zx_rc zx_mx' 1) tj_Lam te_s72 := tj_method (d := 0) (by rw [← zx_q_J7_fill_53178]; rfl) (fun _ h => absurd h List.not_mem_nil) (by decide +kernel) (by decide +kernel) te_c72
/-! Course.winner -/
def te_s73 : tj_C := (22, [(1, 56, 0)], ([], []), [([(1, 56, 0)], some (0, 2147483647, 2147483650), [])])
set_option maxRecDepth 100000 in
theorem te_c73 : tj_chk tj_Lam te_s73.2.2.1 [] zx_d_X0_winner te_s73.2.1 te_s73.2.2.2 [((6, [(0, .inr 0), (1, .inr 1), (2, .inr 2), (3, .inr 3)], [], [(1, 56, 0), (0, 2147483647, 2147483650), (0, 2147483648, 4294967295), (0, 2147483648, 2147483651)], []), [.inl 1, .inl 2, .inl 3], [(0, 0), (1, 3), (0, 0)])] [6] 3000 = true := by decide +kernel
theorem te_p73 : tj_KS1 (zx_Cl zx_mt zx_rc zx_mx' 1) tj_Lam te_s73 := tj_method (d := 0) (by rw [← zx_q_X0_winner]; rfl) (fun _ h => absurd h List.not_mem_nil) (by decide +kernel) (by decide +kernel) te_c73
/-! Course.addVote -/
def te_s74 : tj_C := (5, [(1, 56, 0), (0, 2147483647, 2147483647)], ([], []), [([(1, 56, 0), (0, 2147483647, 2147483647)], none, [])])
set_option maxRecDepth 100000 in
theorem te_c74 : tj_chk tj_Lam te_s74.2.2.1 [te_s4] zx_d_X0_addVote te_s74.2.1 te_s74.2.2.2 [] [] 3000 = true := by decide +kernel
theorem te_p74 : tj_KS1 (zx_Cl zx_mt zx_rc zx_mx' 2) tj_Lam te_s74 := tj_method (d := 1) (by rw [← zx_q_X0_addVote]; rfl) (List.forall_mem_cons.mpr ⟨tj_KS1_le (by decide) te_p4, fun _ h => absurd h List.not_mem_nil⟩) (by decide +kernel) (by decide +kernel) te_c74
/-! Told.favoured -/
def te_s75 : tj_C := (26, [(1, 13, 0), (0, 2147483648, 2147483655)], ([], []), [([(1, 13, 0), (0, 2147483648, 2147483655)], some (0, 2147483648, 4294967295), [])])
set_option maxRecDepth 100000 in
theorem te_c75 : tj_chk tj_Lam te_s75.2.2.1 [] zx_d_X10_favoured te_s75.2.1 te_s75.2.2.2 [] [] 3000 = true := by decide +kernel
theorem te_p75 : tj_KS1 (zx_Cl zx_mt zx_rc zx_mx' 1) tj_Lam te_s75 := tj_method (d := 0) (by rw [← zx_q_X10_favoured]; rfl) (fun _ h => absurd h List.not_mem_nil) (by decide +kernel) (by decide +kernel) te_c75
/-! Course.addVote -/
def te_s76 : tj_C := (5, [(1, 56, 0), (0, 2147483648, 2147483655)], ([], [55]), [([(1, 56, 0), (0, 2147483648, 2147483655)], none, [])])
set_option maxRecDepth 100000 in
theorem te_c76 : tj_chk tj_Lam te_s76.2.2.1 [te_s4, te_s75] zx_d_X0_addVote te_s76.2.1 te_s76.2.2.2 [] [] 3000 = true := by decide +kernel
theorem te_p76 : tj_KS1 (zx_Cl zx_mt zx_rc zx_mx' 2) tj_Lam te_s76 := tj_method (d := 1) (by rw [← zx_q_X0_addVote]; rfl) (List.forall_mem_cons.mpr ⟨tj_KS1_le (by decide) te_p4, List.forall_mem_cons.mpr ⟨tj_KS1_le (by decide) te_p75, fun _ h => absurd h List.not_mem_nil⟩⟩) (by decide +kernel) (by decide +kernel) te_c76
/-! Course.winnerOn -/
def te_s77 : tj_C := (23, [(1, 56, 0), (0, 2147483648, 2147484647)], ([], [55]), [([(1, 56, 0), (0, 2147483648, 2147484647)], some (0, 2147483647, 2147483650), [])])
set_option maxRecDepth 100000 in
theorem te_c77 : tj_chk tj_Lam te_s77.2.2.1 [te_s21, te_s72, te_s73, te_s74, te_s76] zx_d_X0_winnerOn te_s77.2.1 te_s77.2.2.2 [((10, [(0, .inr 0), (1, .inr 1), (2, .inr 2)], [], [(1, 56, 0), (0, 2147483648, 2147484647), (0, 2147483648, 2147483652), (1, 55, 0)], [(0, .inr 0, .inl 3, .inr 3)]), [.inl 2, .inr (0, 3)], [(0, 0), (1, 2), (0, 0)])] [10] 3000 = true := by decide +kernel
theorem te_p77 : tj_KS1 (zx_Cl zx_mt zx_rc zx_mx' 3) tj_Lam te_s77 := tj_method (d := 2) (by rw [← zx_q_X0_winnerOn]; rfl) (List.forall_mem_cons.mpr ⟨tj_KS1_le (by decide) te_p21, List.forall_mem_cons.mpr ⟨tj_KS1_le (by decide) te_p72, List.forall_mem_cons.mpr ⟨tj_KS1_le (by decide) te_p73, List.forall_mem_cons.mpr ⟨tj_KS1_le (by decide) te_p74, List.forall_mem_cons.mpr ⟨tj_KS1_le (by decide) te_p76, fun _ h => absurd h List.not_mem_nil⟩⟩⟩⟩⟩) (by decide +kernel) (by decide +kernel) te_c77
/-! TwoInOne.elected -/
def te_s78 : tj_C := (45, [(1, 100, 0), (0, 0, 4294967295)], ([], [55]), [([(1, 100, 0), (0, 0, 4294967295)], some (0, 2147483647, 2147483647), []), ([(1, 100, 0), (0, 2147483648, 2147484647)], some (0, 2147483647, 2147483650), [])])
set_option maxRecDepth 100000 in
theorem te_c78 : tj_chk tj_Lam te_s78.2.2.1 [te_s77] zx_d_X11_elected te_s78.2.1 te_s78.2.2.2 [] [] 3000 = true := by decide +kernel
theorem te_p78 : tj_KS1 (zx_Cl zx_mt zx_rc zx_mx' 4) tj_Lam te_s78 := tj_method (d := 3) (by rw [← zx_q_X11_elected]; rfl) (List.forall_mem_cons.mpr ⟨tj_KS1_le (by decide) te_p77, fun _ h => absurd h List.not_mem_nil⟩) (by decide +kernel) (by decide +kernel) te_c78
/-! TwoInOne.end -/
def te_s79 : tj_C := (46, [(1, 100, 0), (0, 0, 4294967295)], ([(100, 1)], []), [([(1, 100, 0), (0, 0, 4294967295)], some (0, 2147483647, 2147483647), []), ([(1, 100, 0), (0, 2147483648, 2147485248)], some (0, 2147483648, 2147485248), [])])
set_option maxRecDepth 100000 in
theorem te_c79 : tj_chk tj_Lam te_s79.2.2.1 [] zx_d_X11_end te_s79.2.1 te_s79.2.2.2 [] [] 3000 = true := by decide +kernel
theorem te_p79 : tj_KS1 (zx_Cl zx_mt zx_rc zx_mx' 1) tj_Lam te_s79 := tj_method (d := 0) (by rw [← zx_q_X11_end]; rfl) (fun _ h => absurd h List.not_mem_nil) (by decide +kernel) (by decide +kernel) te_c79
/-! Told.hasPlace -/
def te_s80 : tj_C := (30, [(1, 13, 0), (0, 2147483648, 2147483651), (0, 0, 4294967295)], ([], []), [([(1, 13, 0), (0, 2147483648, 2147483651), (0, 0, 4294967295)], some (0, 2147483648, 2147483648), []), ([(1, 13, 0), (0, 2147483648, 2147483651), (0, 2147483648, 2147483661)], some (0, 2147483649, 2147483649), [])])
set_option maxRecDepth 100000 in
theorem te_c80 : tj_chk tj_Lam te_s80.2.2.1 [] zx_d_X10_hasPlace te_s80.2.1 te_s80.2.2.2 [] [] 3000 = true := by decide +kernel
theorem te_p80 : tj_KS1 (zx_Cl zx_mt zx_rc zx_mx' 1) tj_Lam te_s80 := tj_method (d := 0) (by rw [← zx_q_X10_hasPlace]; rfl) (fun _ h => absurd h List.not_mem_nil) (by decide +kernel) (by decide +kernel) te_c80
/-! State.exchangePlaces -/
def te_s81 : tj_C := (326, [(1, 33, 0), (0, 2147483648, 2147483651), (0, 2147483648, 2147483661), (0, 2147483648, 2147483661)], ([], [29]), [([(1, 33, 0), (0, 2147483648, 2147483651), (0, 2147483648, 2147483661), (0, 2147483648, 2147483661)], none, [])])
set_option maxRecDepth 100000 in
theorem te_c81 : tj_chk tj_Lam te_s81.2.2.1 [] zx_d_X8_exchangePlaces te_s81.2.1 te_s81.2.2.2 [] [] 3000 = true := by decide +kernel
theorem te_p81 : tj_KS1 (zx_Cl zx_mt zx_rc zx_mx' 1) tj_Lam te_s81 := tj_method (d := 0) (by rw [← zx_q_X8_exchangePlaces]; rfl) (fun _ h => absurd h List.not_mem_nil) (by decide +kernel) (by decide +kernel) te_c81
/-! java/util/Arrays.fill -/
def te_s82 : tj_C := (1, [(1, 62, 0), (0, 2147483646, 2147483646)], ([], [62]), [([(1, 62, 0), (0, 2147483646, 2147483646)], none, [])])
set_option maxRecDepth 100000 in
theorem te_c82 : tj_chk tj_Lam te_s82.2.2.1 [] zx_d_J7_fill_53178 te_s82.2.1 te_s82.2.2.2 [((5, [(0, .inr 0), (1, .inr 1), (2, .inr 2), (3, .inr 3)], [], [(1, 62, 0), (0, 2147483646, 2147483646), (0, 2147483648, 2147483656), (0, 2147483656, 2147483656)], []), [.inl 2, .inl 3], [(0, 0), (1, 2), (0, 0)])] [5] 3000 = true := by decide +kernel
theorem te_p82 : tj_KS1 (zx_Cl zx_mt zx_rc zx_mx' 1) tj_Lam te_s82 := tj_method (d := 0) (by rw [← zx_q_J7_fill_53178]; rfl) (fun _ h => absurd h List.not_mem_nil) (by decide +kernel) (by decide +kernel) te_c82
/-! Told.liked -/
def te_s83 : tj_C := (33, [(1, 13, 0), (0, 2147483648, 2147483648), (0, 2147483649, 2147483649)], ([], []), [([(1, 13, 0), (0, 2147483648, 2147483648), (0, 2147483649, 2147483649)], some (0, 2147483648, 4294967295), [])])
set_option maxRecDepth 100000 in
theorem te_c83 : tj_chk tj_Lam te_s83.2.2.1 [] zx_d_X10_liked te_s83.2.1 te_s83.2.2.2 [] [] 3000 = true := by decide +kernel
theorem te_p83 : tj_KS1 (zx_Cl zx_mt zx_rc zx_mx' 1) tj_Lam te_s83 := tj_method (d := 0) (by rw [← zx_q_X10_liked]; rfl) (fun _ h => absurd h List.not_mem_nil) (by decide +kernel) (by decide +kernel) te_c83
/-! Told.liked -/
def te_s84 : tj_C := (33, [(1, 13, 0), (0, 2147483648, 2147483648), (0, 2147483648, 2147483655)], ([], []), [([(1, 13, 0), (0, 2147483648, 2147483648), (0, 2147483648, 2147483655)], some (0, 2147483648, 4294967295), [])])
set_option maxRecDepth 100000 in
theorem te_c84 : tj_chk tj_Lam te_s84.2.2.1 [] zx_d_X10_liked te_s84.2.1 te_s84.2.2.2 [] [] 3000 = true := by decide +kernel
theorem te_p84 : tj_KS1 (zx_Cl zx_mt zx_rc zx_mx' 1) tj_Lam te_s84 := tj_method (d := 0) (by rw [← zx_q_X10_liked]; rfl) (fun _ h => absurd h List.not_mem_nil) (by decide +kernel) (by decide +kernel) te_c84
/-! Pairings.likesHis -/
def te_s85 : tj_C := (248, [(1, 65, 0), (0, 2147483648, 2147483648)], ([], []), [([(1, 65, 0), (0, 2147483648, 2147483648)], some (0, 2147483647, 2147483647), []), ([(1, 65, 0), (0, 2147483648, 2147483648)], some (0, 2147483648, 4294967295), [])])
set_option maxRecDepth 100000 in
theorem te_c85 : tj_chk tj_Lam te_s85.2.2.1 [te_s4, te_s84] zx_d_X3_likesHis te_s85.2.1 te_s85.2.2.2 [] [] 3000 = true := by decide +kernel
theorem te_p85 : tj_KS1 (zx_Cl zx_mt zx_rc zx_mx' 2) tj_Lam te_s85 := tj_method (d := 1) (by rw [← zx_q_X3_likesHis]; rfl) (List.forall_mem_cons.mpr ⟨tj_KS1_le (by decide) te_p4, List.forall_mem_cons.mpr ⟨tj_KS1_le (by decide) te_p84, fun _ h => absurd h List.not_mem_nil⟩⟩) (by decide +kernel) (by decide +kernel) te_c85
/-! Told.liked -/
def te_s86 : tj_C := (33, [(1, 13, 0), (0, 2147483649, 2147483649), (0, 2147483648, 2147483648)], ([], []), [([(1, 13, 0), (0, 2147483649, 2147483649), (0, 2147483648, 2147483648)], some (0, 2147483648, 4294967295), [])])
set_option maxRecDepth 100000 in
theorem te_c86 : tj_chk tj_Lam te_s86.2.2.1 [] zx_d_X10_liked te_s86.2.1 te_s86.2.2.2 [] [] 3000 = true := by decide +kernel
theorem te_p86 : tj_KS1 (zx_Cl zx_mt zx_rc zx_mx' 1) tj_Lam te_s86 := tj_method (d := 0) (by rw [← zx_q_X10_liked]; rfl) (fun _ h => absurd h List.not_mem_nil) (by decide +kernel) (by decide +kernel) te_c86
/-! Told.liked -/
def te_s87 : tj_C := (33, [(1, 13, 0), (0, 2147483649, 2147483649), (0, 2147483648, 2147483655)], ([], []), [([(1, 13, 0), (0, 2147483649, 2147483649), (0, 2147483648, 2147483655)], some (0, 2147483648, 4294967295), [])])
set_option maxRecDepth 100000 in
theorem te_c87 : tj_chk tj_Lam te_s87.2.2.1 [] zx_d_X10_liked te_s87.2.1 te_s87.2.2.2 [] [] 3000 = true := by decide +kernel
theorem te_p87 : tj_KS1 (zx_Cl zx_mt zx_rc zx_mx' 1) tj_Lam te_s87 := tj_method (d := 0) (by rw [← zx_q_X10_liked]; rfl) (fun _ h => absurd h List.not_mem_nil) (by decide +kernel) (by decide +kernel) te_c87
/-! Pairings.likesHis -/
def te_s88 : tj_C := (248, [(1, 65, 0), (0, 2147483649, 2147483649)], ([], []), [([(1, 65, 0), (0, 2147483649, 2147483649)], some (0, 2147483647, 2147483647), []), ([(1, 65, 0), (0, 2147483649, 2147483649)], some (0, 2147483648, 4294967295), [])])
set_option maxRecDepth 100000 in
theorem te_c88 : tj_chk tj_Lam te_s88.2.2.1 [te_s4, te_s87] zx_d_X3_likesHis te_s88.2.1 te_s88.2.2.2 [] [] 3000 = true := by decide +kernel
theorem te_p88 : tj_KS1 (zx_Cl zx_mt zx_rc zx_mx' 2) tj_Lam te_s88 := tj_method (d := 1) (by rw [← zx_q_X3_likesHis]; rfl) (List.forall_mem_cons.mpr ⟨tj_KS1_le (by decide) te_p4, List.forall_mem_cons.mpr ⟨tj_KS1_le (by decide) te_p87, fun _ h => absurd h List.not_mem_nil⟩⟩) (by decide +kernel) (by decide +kernel) te_c88
/-! Told.liked -/
def te_s89 : tj_C := (33, [(1, 13, 0), (0, 2147483648, 2147483649), (0, 2147483649, 2147483650)], ([], []), [([(1, 13, 0), (0, 2147483648, 2147483649), (0, 2147483649, 2147483650)], some (0, 2147483648, 4294967295), [])])
set_option maxRecDepth 100000 in
theorem te_c89 : tj_chk tj_Lam te_s89.2.2.1 [] zx_d_X10_liked te_s89.2.1 te_s89.2.2.2 [] [] 3000 = true := by decide +kernel
theorem te_p89 : tj_KS1 (zx_Cl zx_mt zx_rc zx_mx' 1) tj_Lam te_s89 := tj_method (d := 0) (by rw [← zx_q_X10_liked]; rfl) (fun _ h => absurd h List.not_mem_nil) (by decide +kernel) (by decide +kernel) te_c89
/-! Told.liked -/
def te_s90 : tj_C := (33, [(1, 13, 0), (0, 2147483648, 2147483649), (0, 2147483648, 2147483655)], ([], []), [([(1, 13, 0), (0, 2147483648, 2147483649), (0, 2147483648, 2147483655)], some (0, 2147483648, 4294967295), [])])
set_option maxRecDepth 100000 in
theorem te_c90 : tj_chk tj_Lam te_s90.2.2.1 [] zx_d_X10_liked te_s90.2.1 te_s90.2.2.2 [] [] 3000 = true := by decide +kernel
theorem te_p90 : tj_KS1 (zx_Cl zx_mt zx_rc zx_mx' 1) tj_Lam te_s90 := tj_method (d := 0) (by rw [← zx_q_X10_liked]; rfl) (fun _ h => absurd h List.not_mem_nil) (by decide +kernel) (by decide +kernel) te_c90
/-! Pairings.likesHis -/
def te_s91 : tj_C := (248, [(1, 65, 0), (0, 2147483648, 2147483649)], ([], []), [([(1, 65, 0), (0, 2147483648, 2147483649)], some (0, 2147483647, 2147483647), []), ([(1, 65, 0), (0, 2147483648, 2147483649)], some (0, 2147483648, 4294967295), [])])
set_option maxRecDepth 100000 in
theorem te_c91 : tj_chk tj_Lam te_s91.2.2.1 [te_s4, te_s90] zx_d_X3_likesHis te_s91.2.1 te_s91.2.2.2 [] [] 3000 = true := by decide +kernel
theorem te_p91 : tj_KS1 (zx_Cl zx_mt zx_rc zx_mx' 2) tj_Lam te_s91 := tj_method (d := 1) (by rw [← zx_q_X3_likesHis]; rfl) (List.forall_mem_cons.mpr ⟨tj_KS1_le (by decide) te_p4, List.forall_mem_cons.mpr ⟨tj_KS1_le (by decide) te_p90, fun _ h => absurd h List.not_mem_nil⟩⟩) (by decide +kernel) (by decide +kernel) te_c91
/-! Told.liked -/
def te_s92 : tj_C := (33, [(1, 13, 0), (0, 2147483649, 2147483650), (0, 2147483648, 2147483649)], ([], []), [([(1, 13, 0), (0, 2147483649, 2147483650), (0, 2147483648, 2147483649)], some (0, 2147483648, 4294967295), [])])
set_option maxRecDepth 100000 in
theorem te_c92 : tj_chk tj_Lam te_s92.2.2.1 [] zx_d_X10_liked te_s92.2.1 te_s92.2.2.2 [] [] 3000 = true := by decide +kernel
theorem te_p92 : tj_KS1 (zx_Cl zx_mt zx_rc zx_mx' 1) tj_Lam te_s92 := tj_method (d := 0) (by rw [← zx_q_X10_liked]; rfl) (fun _ h => absurd h List.not_mem_nil) (by decide +kernel) (by decide +kernel) te_c92
