/-! Game.fewestCares -/
def te_s123 : tj_C := (219, [(1, 61, 0), (0, 2147483648, 2147483651), (0, 2147483649, 2147483668)], ([(56, 4), (56, 5), (56, 6), (56, 7)], [54]), [([(1, 61, 0), (0, 2147483648, 2147483651), (0, 2147483649, 2147483668)], some (0, 2147483647, 2147483647), ([], [], [])), ([(1, 61, 0), (0, 2147483648, 2147483651), (0, 2147483649, 2147483668)], some (0, 2147483648, 2147483657), ([], [], []))], ([], [], []))
set_option maxRecDepth 100000 in
theorem te_c123 : tj_chk tj_Lam te_s123.2.2.1 [te_s122, te_s44, te_s36, te_s35, te_s46, te_s48, te_s50, te_s52, te_s54, te_s56, te_s58, te_s60, te_s62, te_s64, te_s66, te_s68, te_s69] zx_d_X1_fewestCares te_s123.2.1 te_s123.2.2.2.1 te_s123.2.2.2.2 [((145, [(0, .inr 0), (1, .inr 1), (2, .inr 2), (3, .inr 3), (4, .inr 4), (5, .inr 5)], [], [(1, 61, 0), (0, 2147483648, 2147483651), (0, 2147483649, 2147483668), (0, 2147483648, 2147484671), (0, 2147483648, 2147483747), (0, 2147483648, 2147483658), (1, 33, 0), (1, 28, 0)], [(0, .inr 0, .inl 1, .inr 6), (0, .inr 6, .inl 2, .inr 7)]), [.inl 3, .inl 4, .inl 5, .inr (0, 1), .inr (6, 2)], [(0, 0), (1, 5), (0, 0), (0, 0), (0, 0)]), ((18, [(0, .inr 0), (1, .inr 1), (2, .inr 2), (3, .inr 3), (4, .inr 4), (5, .inr 5)], [], [(1, 61, 0), (0, 2147483648, 2147483651), (0, 2147483649, 2147483668), (0, 2147483648, 2147484671), (0, 2147483648, 2147483747), (0, 2147483648, 2147483668), (1, 33, 0), (1, 28, 0)], [(0, .inr 0, .inl 1, .inr 6), (0, .inr 6, .inl 2, .inr 7)]), [.inl 3, .inl 4, .inl 5, .inr (0, 1), .inr (6, 2)], [(0, 1), (1, 5), (0, 1), (0, 0), (0, 0)]), ((53, [(0, .inr 0), (1, .inr 1), (2, .inr 2), (3, .inr 3), (4, .inr 4), (5, .inr 5), (6, .inr 6), (7, .inr 7)], [], [(1, 61, 0), (0, 2147483648, 2147483651), (0, 2147483649, 2147483668), (0, 2147483648, 2147484671), (0, 2147483648, 2147483747), (0, 2147483648, 2147483667), (0, 2147483648, 4294967295), (0, 2147483648, 2147483658), (1, 33, 0), (1, 56, 0), (0, 0, 4294967295), (1, 28, 0)], [(0, .inr 0, .inl 1, .inr 8), (0, .inr 0, .inl 2, .inr 9), (0, .inr 8, .inl 0, .inr 10), (0, .inr 8, .inl 2, .inr 11)]), [.inl 3, .inl 4, .inl 5, .inl 6, .inl 7, .inr (0, 1), .inr (0, 2), .inr (8, 0), .inr (8, 2)], [(0, 1), (1, 5), (0, 0), (1, 7), (0, 0)])] [18, 53, 145] 3000 = true := by decide +kernel
theorem te_p123 (hh : te_HH) : tj_KS1 (zx_Cl zx_mt zx_rc zx_mx' 7) tj_Lam te_s123 := tj_method te_so (d := 6) (by rw [← zx_q_X1_fewestCares]; rfl) (List.forall_mem_cons.mpr ⟨tj_KS1_le (by decide) (te_p122 hh), List.forall_mem_cons.mpr ⟨tj_KS1_le (by decide) (te_p44 hh), List.forall_mem_cons.mpr ⟨tj_KS1_le (by decide) (te_p36 hh), List.forall_mem_cons.mpr ⟨tj_KS1_le (by decide) (te_p35 hh), List.forall_mem_cons.mpr ⟨tj_KS1_le (by decide) (te_p46 hh), List.forall_mem_cons.mpr ⟨tj_KS1_le (by decide) (te_p48 hh), List.forall_mem_cons.mpr ⟨tj_KS1_le (by decide) (te_p50 hh), List.forall_mem_cons.mpr ⟨tj_KS1_le (by decide) (te_p52 hh), List.forall_mem_cons.mpr ⟨tj_KS1_le (by decide) (te_p54 hh), List.forall_mem_cons.mpr ⟨tj_KS1_le (by decide) (te_p56 hh), List.forall_mem_cons.mpr ⟨tj_KS1_le (by decide) (te_p58 hh), List.forall_mem_cons.mpr ⟨tj_KS1_le (by decide) (te_p60 hh), List.forall_mem_cons.mpr ⟨tj_KS1_le (by decide) (te_p62 hh), List.forall_mem_cons.mpr ⟨tj_KS1_le (by decide) (te_p64 hh), List.forall_mem_cons.mpr ⟨tj_KS1_le (by decide) (te_p66 hh), List.forall_mem_cons.mpr ⟨tj_KS1_le (by decide) (te_p68 hh), List.forall_mem_cons.mpr ⟨tj_KS1_le (by decide) (te_p69 hh), fun _ h => absurd h List.not_mem_nil⟩⟩⟩⟩⟩⟩⟩⟩⟩⟩⟩⟩⟩⟩⟩⟩⟩) (by decide +kernel) (by decide +kernel) te_c123
/-! TwoInOne.cares -/
def te_s124 : tj_C := (39, [(1, 100, 0), (0, 0, 4294967295), (0, 0, 4294967295)], ([(56, 4), (56, 5), (56, 6), (56, 7)], [54]), [([(1, 100, 0), (0, 2147483648, 2147483651), (0, 2147483649, 2147483668)], some (0, 2147483647, 2147483647), ([], [], [])), ([(1, 100, 0), (0, 0, 4294967295), (0, 0, 4294967295)], some (0, 2147483646, 2147483657), ([], [], []))], ([], [], []))
set_option maxRecDepth 100000 in
theorem te_c124 : tj_chk tj_Lam te_s124.2.2.1 [te_s2, te_s34, te_s123] zx_d_X11_cares te_s124.2.1 te_s124.2.2.2.1 te_s124.2.2.2.2 [] [] 3000 = true := by decide +kernel
theorem te_p124 (hh : te_HH) : tj_KS1 (zx_Cl zx_mt zx_rc zx_mx' 8) tj_Lam te_s124 := tj_method te_so (d := 7) (by rw [← zx_q_X11_cares]; rfl) (List.forall_mem_cons.mpr ⟨tj_KS1_le (by decide) (te_p2 hh), List.forall_mem_cons.mpr ⟨tj_KS1_le (by decide) (te_p34 hh), List.forall_mem_cons.mpr ⟨tj_KS1_le (by decide) (te_p123 hh), fun _ h => absurd h List.not_mem_nil⟩⟩⟩) (by decide +kernel) (by decide +kernel) te_c124
/-! TwoInOne.chooses -/
def te_s125 : tj_C := (40, [(1, 100, 0), (0, 0, 4294967295), (0, 0, 4294967295)], ([(56, 4), (56, 5), (56, 6), (56, 7)], [54]), [([(1, 100, 0), (0, 2147483648, 2147483651), (0, 2147483647, 2147483657)], some (0, 2147483647, 2147483647), ([], [], [])), ([(1, 100, 0), (0, 0, 4294967295), (0, 0, 4294967295)], some (0, 2147483646, 2147483653), ([], [], []))], ([], [], []))
set_option maxRecDepth 100000 in
theorem te_c125 : tj_chk tj_Lam te_s125.2.2.1 [te_s122, te_s35, te_s2] zx_d_X11_chooses te_s125.2.1 te_s125.2.2.2.1 te_s125.2.2.2.2 [] [] 3000 = true := by decide +kernel
theorem te_p125 (hh : te_HH) : tj_KS1 (zx_Cl zx_mt zx_rc zx_mx' 7) tj_Lam te_s125 := tj_method te_so (d := 6) (by rw [← zx_q_X11_chooses]; rfl) (List.forall_mem_cons.mpr ⟨tj_KS1_le (by decide) (te_p122 hh), List.forall_mem_cons.mpr ⟨tj_KS1_le (by decide) (te_p35 hh), List.forall_mem_cons.mpr ⟨tj_KS1_le (by decide) (te_p2 hh), fun _ h => absurd h List.not_mem_nil⟩⟩⟩) (by decide +kernel) (by decide +kernel) te_c125
/-! Course.carryOut -/
def te_s126 : tj_C := (6, [(1, 56, 0), (0, 2147483648, 2147483648), (0, 2147483647, 2147483653)], ([(56, 4), (56, 5), (56, 6)], [54, 31, 32, 28]), [([(1, 56, 0), (0, 2147483648, 2147483648), (0, 2147483647, 2147483653)], none, ([.inr (0, 6)], [(0, 2147483648, 2147483649)], [(0, .inr 0, .inl 6, .inr 3)]))], ([], [], []))
set_option maxRecDepth 100000 in
theorem te_c126 : tj_chk tj_Lam te_s126.2.2.1 [te_s73, te_s44, te_s36, te_s39] zx_d_X0_carryOut te_s126.2.1 te_s126.2.2.2.1 te_s126.2.2.2.2 [] [] 3000 = true := by decide +kernel
theorem te_p126 (hh : te_HH) : tj_KS1 (zx_Cl zx_mt zx_rc zx_mx' 4) tj_Lam te_s126 := tj_method te_so (d := 3) (by rw [← zx_q_X0_carryOut]; rfl) (List.forall_mem_cons.mpr ⟨tj_KS1_le (by decide) (te_p73 hh), List.forall_mem_cons.mpr ⟨tj_KS1_le (by decide) (te_p44 hh), List.forall_mem_cons.mpr ⟨tj_KS1_le (by decide) (te_p36 hh), List.forall_mem_cons.mpr ⟨tj_KS1_le (by decide) (te_p39 hh), fun _ h => absurd h List.not_mem_nil⟩⟩⟩⟩) (by decide +kernel) (by decide +kernel) te_c126
/-! Course.carryOut -/
def te_s127 : tj_C := (6, [(1, 56, 0), (0, 2147483648, 2147483649), (0, 2147483647, 2147483653)], ([(56, 4), (56, 5), (56, 6)], [54, 31, 32, 28]), [([(1, 56, 0), (0, 2147483648, 2147483649), (0, 2147483647, 2147483653)], none, ([.inr (0, 6)], [(0, 2147483648, 2147483649)], [(0, .inr 0, .inl 6, .inr 3)]))], ([], [], []))
set_option maxRecDepth 100000 in
theorem te_c127 : tj_chk tj_Lam te_s127.2.2.1 [te_s73, te_s44, te_s36, te_s39] zx_d_X0_carryOut te_s127.2.1 te_s127.2.2.2.1 te_s127.2.2.2.2 [] [] 3000 = true := by decide +kernel
theorem te_p127 (hh : te_HH) : tj_KS1 (zx_Cl zx_mt zx_rc zx_mx' 4) tj_Lam te_s127 := tj_method te_so (d := 3) (by rw [← zx_q_X0_carryOut]; rfl) (List.forall_mem_cons.mpr ⟨tj_KS1_le (by decide) (te_p73 hh), List.forall_mem_cons.mpr ⟨tj_KS1_le (by decide) (te_p44 hh), List.forall_mem_cons.mpr ⟨tj_KS1_le (by decide) (te_p36 hh), List.forall_mem_cons.mpr ⟨tj_KS1_le (by decide) (te_p39 hh), fun _ h => absurd h List.not_mem_nil⟩⟩⟩⟩) (by decide +kernel) (by decide +kernel) te_c127
/-! Course.carryOut -/
def te_s128 : tj_C := (6, [(1, 56, 0), (0, 2147483648, 2147483650), (0, 2147483647, 2147483653)], ([(56, 4), (56, 5), (56, 6)], [54, 31, 32, 28]), [([(1, 56, 0), (0, 2147483648, 2147483650), (0, 2147483647, 2147483653)], none, ([.inr (0, 6)], [(0, 2147483648, 2147483649)], [(0, .inr 0, .inl 6, .inr 3)]))], ([], [], []))
set_option maxRecDepth 100000 in
theorem te_c128 : tj_chk tj_Lam te_s128.2.2.1 [te_s73, te_s44, te_s36, te_s39] zx_d_X0_carryOut te_s128.2.1 te_s128.2.2.2.1 te_s128.2.2.2.2 [] [] 3000 = true := by decide +kernel
theorem te_p128 (hh : te_HH) : tj_KS1 (zx_Cl zx_mt zx_rc zx_mx' 4) tj_Lam te_s128 := tj_method te_so (d := 3) (by rw [← zx_q_X0_carryOut]; rfl) (List.forall_mem_cons.mpr ⟨tj_KS1_le (by decide) (te_p73 hh), List.forall_mem_cons.mpr ⟨tj_KS1_le (by decide) (te_p44 hh), List.forall_mem_cons.mpr ⟨tj_KS1_le (by decide) (te_p36 hh), List.forall_mem_cons.mpr ⟨tj_KS1_le (by decide) (te_p39 hh), fun _ h => absurd h List.not_mem_nil⟩⟩⟩⟩) (by decide +kernel) (by decide +kernel) te_c128
/-! Course.carryOut -/
def te_s129 : tj_C := (6, [(1, 56, 0), (0, 2147483648, 2147483651), (0, 2147483647, 2147483653)], ([(56, 4), (56, 5), (56, 6)], [54, 31, 32, 28]), [([(1, 56, 0), (0, 2147483648, 2147483651), (0, 2147483647, 2147483653)], none, ([.inr (0, 6)], [(0, 2147483648, 2147483649)], [(0, .inr 0, .inl 6, .inr 3)]))], ([], [], []))
set_option maxRecDepth 100000 in
theorem te_c129 : tj_chk tj_Lam te_s129.2.2.1 [te_s73, te_s44, te_s36, te_s39] zx_d_X0_carryOut te_s129.2.1 te_s129.2.2.2.1 te_s129.2.2.2.2 [] [] 3000 = true := by decide +kernel
theorem te_p129 (hh : te_HH) : tj_KS1 (zx_Cl zx_mt zx_rc zx_mx' 4) tj_Lam te_s129 := tj_method te_so (d := 3) (by rw [← zx_q_X0_carryOut]; rfl) (List.forall_mem_cons.mpr ⟨tj_KS1_le (by decide) (te_p73 hh), List.forall_mem_cons.mpr ⟨tj_KS1_le (by decide) (te_p44 hh), List.forall_mem_cons.mpr ⟨tj_KS1_le (by decide) (te_p36 hh), List.forall_mem_cons.mpr ⟨tj_KS1_le (by decide) (te_p39 hh), fun _ h => absurd h List.not_mem_nil⟩⟩⟩⟩) (by decide +kernel) (by decide +kernel) te_c129
/-! Course.passDay -/
def te_s130 : tj_C := (18, [(1, 56, 0), (0, 2147483647, 2147483647), (0, 2147483647, 2147483647)], ([(56, 4), (56, 5), (56, 6), (56, 7), (33, 0)], [54, 31, 32, 28]), [([(1, 56, 0), (0, 2147483647, 2147483647), (0, 2147483647, 2147483647)], none, ([], [], []))], ([], [], []))
set_option maxRecDepth 100000 in
theorem te_c130 : tj_chk tj_Lam te_s130.2.2.1 [te_s126, te_s127, te_s128, te_s129, te_s122, te_s35] zx_d_X0_passDay te_s130.2.1 te_s130.2.2.2.1 te_s130.2.2.2.2 [((2, [(0, .inr 0), (1, .inr 1), (2, .inr 2), (3, .inr 3)], [], [(1, 56, 0), (0, 2147483647, 2147483647), (0, 2147483647, 2147483647), (0, 2147483648, 2147483652)], []), [.inl 3], [(0, 0), (1, 3), (0, 0)])] [2] 3000 = true := by decide +kernel
theorem te_p130 (hh : te_HH) : tj_KS1 (zx_Cl zx_mt zx_rc zx_mx' 7) tj_Lam te_s130 := tj_method te_so (d := 6) (by rw [← zx_q_X0_passDay]; rfl) (List.forall_mem_cons.mpr ⟨tj_KS1_le (by decide) (te_p126 hh), List.forall_mem_cons.mpr ⟨tj_KS1_le (by decide) (te_p127 hh), List.forall_mem_cons.mpr ⟨tj_KS1_le (by decide) (te_p128 hh), List.forall_mem_cons.mpr ⟨tj_KS1_le (by decide) (te_p129 hh), List.forall_mem_cons.mpr ⟨tj_KS1_le (by decide) (te_p122 hh), List.forall_mem_cons.mpr ⟨tj_KS1_le (by decide) (te_p35 hh), fun _ h => absurd h List.not_mem_nil⟩⟩⟩⟩⟩⟩) (by decide +kernel) (by decide +kernel) te_c130
/-! TwoInOne.days -/
def te_s131 : tj_C := (42, [(1, 100, 0), (0, 0, 4294967295)], ([(56, 4), (56, 5), (56, 6), (56, 7), (53, 3), (53, 4), (53, 5), (39, 0), (39, 1), (33, 0)], [54, 50, 36, 37, 38, 34, 35, 31, 32, 28]), [([(1, 100, 0), (0, 0, 4294967295)], some (0, 2147483647, 2147483647), ([], [], [])), ([(1, 100, 0), (0, 2147483648, 2147483708)], some (0, 0, 4294967295), ([], [], []))], ([], [], []))
set_option maxRecDepth 100000 in
theorem te_c131 : tj_chk tj_Lam te_s131.2.2.1 [te_s130, te_h1] zx_d_X11_days te_s131.2.1 te_s131.2.2.2.1 te_s131.2.2.2.2 [((29, [(0, .inr 0), (1, .inr 1), (2, .inr 2)], [], [(1, 100, 0), (0, 2147483648, 2147483708), (0, 2147483648, 2147483708), (1, 33, 0), (0, 0, 4294967295)], [(0, .inr 0, .inl 4, .inr 3), (0, .inr 3, .inl 0, .inr 4)]), [.inl 2, .inr (0, 4), .inr (3, 0)], [(0, 0), (1, 2), (0, 0)])] [29] 3000 = true := by decide +kernel
theorem te_p131 (hh : te_HH) : tj_KS1 (zx_Cl zx_mt zx_rc zx_mx' 101) tj_Lam te_s131 := tj_method te_so (d := 100) (by rw [← zx_q_X11_days]; rfl) (List.forall_mem_cons.mpr ⟨tj_KS1_le (by decide) (te_p130 hh), List.forall_mem_cons.mpr ⟨tj_KS1_le (by decide) (te_hh1 hh), fun _ h => absurd h List.not_mem_nil⟩⟩) (by decide +kernel) (by decide +kernel) te_c131
/-! TwoInOne.canDo -/
def te_s132 : tj_C := (38, [(1, 100, 0), (0, 0, 4294967295), (0, 0, 4294967295)], ([], []), [([(1, 100, 0), (0, 0, 4294967295), (0, 0, 4294967295)], some (0, 2147483648, 2147483648), ([], [], [])), ([(1, 100, 0), (0, 2147483648, 2147483651), (0, 2147483648, 2147483653)], some (0, 2147483649, 2147483649), ([], [], []))], ([], [], []))
set_option maxRecDepth 100000 in
theorem te_c132 : tj_chk tj_Lam te_s132.2.2.1 [te_s35, te_s39, te_s2] zx_d_X11_canDo te_s132.2.1 te_s132.2.2.2.1 te_s132.2.2.2.2 [] [] 3000 = true := by decide +kernel
theorem te_p132 (hh : te_HH) : tj_KS1 (zx_Cl zx_mt zx_rc zx_mx' 3) tj_Lam te_s132 := tj_method te_so (d := 2) (by rw [← zx_q_X11_canDo]; rfl) (List.forall_mem_cons.mpr ⟨tj_KS1_le (by decide) (te_p35 hh), List.forall_mem_cons.mpr ⟨tj_KS1_le (by decide) (te_p39 hh), List.forall_mem_cons.mpr ⟨tj_KS1_le (by decide) (te_p2 hh), fun _ h => absurd h List.not_mem_nil⟩⟩⟩) (by decide +kernel) (by decide +kernel) te_c132
/-! Course.passDay -/
def te_s133 : tj_C := (18, [(1, 56, 0), (0, 2147483648, 2147483651), (0, 2147483648, 2147483653)], ([(56, 4), (56, 5), (56, 6), (56, 7), (33, 0)], [54, 31, 32, 28]), [([(1, 56, 0), (0, 2147483648, 2147483651), (0, 2147483648, 2147483653)], none, ([], [], []))], ([], [], []))
set_option maxRecDepth 100000 in
theorem te_c133 : tj_chk tj_Lam te_s133.2.2.1 [te_s126, te_s127, te_s128, te_s129, te_s122, te_s35] zx_d_X0_passDay te_s133.2.1 te_s133.2.2.2.1 te_s133.2.2.2.2 [((2, [(0, .inr 0), (1, .inr 1), (2, .inr 2), (3, .inr 3)], [], [(1, 56, 0), (0, 2147483648, 2147483651), (0, 2147483648, 2147483653), (0, 2147483648, 2147483652)], []), [.inl 3], [(0, 0), (1, 3), (0, 0)])] [2] 3000 = true := by decide +kernel
theorem te_p133 (hh : te_HH) : tj_KS1 (zx_Cl zx_mt zx_rc zx_mx' 7) tj_Lam te_s133 := tj_method te_so (d := 6) (by rw [← zx_q_X0_passDay]; rfl) (List.forall_mem_cons.mpr ⟨tj_KS1_le (by decide) (te_p126 hh), List.forall_mem_cons.mpr ⟨tj_KS1_le (by decide) (te_p127 hh), List.forall_mem_cons.mpr ⟨tj_KS1_le (by decide) (te_p128 hh), List.forall_mem_cons.mpr ⟨tj_KS1_le (by decide) (te_p129 hh), List.forall_mem_cons.mpr ⟨tj_KS1_le (by decide) (te_p122 hh), List.forall_mem_cons.mpr ⟨tj_KS1_le (by decide) (te_p35 hh), fun _ h => absurd h List.not_mem_nil⟩⟩⟩⟩⟩⟩) (by decide +kernel) (by decide +kernel) te_c133
/-! TwoInOne.decree -/
def te_s134 : tj_C := (43, [(1, 100, 0), (0, 0, 4294967295), (0, 0, 4294967295)], ([(56, 4), (56, 5), (56, 6), (56, 7), (53, 3), (53, 4), (53, 5), (39, 0), (39, 1), (33, 0)], [54, 50, 36, 37, 38, 34, 35, 31, 32, 28]), [([(1, 100, 0), (0, 0, 4294967295), (0, 0, 4294967295)], some (0, 0, 4294967295), ([], [], []))], ([], [], []))
set_option maxRecDepth 100000 in
theorem te_c134 : tj_chk tj_Lam te_s134.2.2.1 [te_s73, te_s133, te_s36, te_s132, te_h1] zx_d_X11_decree te_s134.2.1 te_s134.2.2.2.1 te_s134.2.2.2.2 [] [] 3000 = true := by decide +kernel
theorem te_p134 (hh : te_HH) : tj_KS1 (zx_Cl zx_mt zx_rc zx_mx' 101) tj_Lam te_s134 := tj_method te_so (d := 100) (by rw [← zx_q_X11_decree]; rfl) (List.forall_mem_cons.mpr ⟨tj_KS1_le (by decide) (te_p73 hh), List.forall_mem_cons.mpr ⟨tj_KS1_le (by decide) (te_p133 hh), List.forall_mem_cons.mpr ⟨tj_KS1_le (by decide) (te_p36 hh), List.forall_mem_cons.mpr ⟨tj_KS1_le (by decide) (te_p132 hh), List.forall_mem_cons.mpr ⟨tj_KS1_le (by decide) (te_hh1 hh), fun _ h => absurd h List.not_mem_nil⟩⟩⟩⟩⟩) (by decide +kernel) (by decide +kernel) te_c134
/-! TwoInOne.die -/
def te_s135 : tj_C := (44, [(1, 100, 0), (0, 0, 4294967295)], ([(53, 3), (53, 4), (53, 5), (39, 0), (39, 1)], [50, 36, 37, 38, 34, 35, 30]), [([(1, 100, 0), (0, 0, 4294967295)], some (0, 2147483647, 2147483647), ([], [], [])), ([(1, 100, 0), (0, 2147483648, 2147483655)], some (0, 2147483648, 2147483649), ([], [], []))], ([], [], []))
set_option maxRecDepth 100000 in
theorem te_c135 : tj_chk tj_Lam te_s135.2.2.1 [te_s4, te_h1] zx_d_X11_die te_s135.2.1 te_s135.2.2.2.1 te_s135.2.2.2.2 [] [] 3000 = true := by decide +kernel
theorem te_p135 (hh : te_HH) : tj_KS1 (zx_Cl zx_mt zx_rc zx_mx' 101) tj_Lam te_s135 := tj_method te_so (d := 100) (by rw [← zx_q_X11_die]; rfl) (List.forall_mem_cons.mpr ⟨tj_KS1_le (by decide) (te_p4 hh), List.forall_mem_cons.mpr ⟨tj_KS1_le (by decide) (te_hh1 hh), fun _ h => absurd h List.not_mem_nil⟩⟩) (by decide +kernel) (by decide +kernel) te_c135
/-! java/util/Arrays.fill -/
def te_s136 : tj_C := (1, [(1, 55, 0), (0, 2147483648, 2147483648)], ([], [55]), [([(1, 55, 0), (0, 2147483648, 2147483648)], none, ([], [], []))], ([], [], []))
set_option maxRecDepth 100000 in
theorem te_c136 : tj_chk tj_Lam te_s136.2.2.1 [] zx_d_J7_fill_53178 te_s136.2.1 te_s136.2.2.2.1 te_s136.2.2.2.2 [((5, [(0, .inr 0), (1, .inr 1), (2, .inr 2), (3, .inr 3)], [], [(1, 55, 0), (0, 2147483648, 2147483648), (0, 2147483648, 2147483651), (0, 2147483651, 2147483651)], []), [.inl 2, .inl 3], [(0, 0), (1, 2), (0, 0)])] [5] 3000 = true := by decide +kernel
theorem te_p136 (hh : te_HH) : tj_KS1 (zx_Cl zx_mt zx_rc zx_mx' 1) tj_Lam te_s136 := tj_method te_so (d := 0) (by rw [← zx_q_J7_fill_53178]; rfl) (fun _ h => absurd h List.not_mem_nil) (by decide +kernel) (by decide +kernel) te_c136
/-! Course.winner -/
def te_s137 : tj_C := (22, [(1, 56, 0)], ([], []), [([(1, 56, 0)], some (0, 2147483647, 2147483650), ([], [], []))], ([], [], []))
set_option maxRecDepth 100000 in
theorem te_c137 : tj_chk tj_Lam te_s137.2.2.1 [] zx_d_X0_winner te_s137.2.1 te_s137.2.2.2.1 te_s137.2.2.2.2 [((6, [(0, .inr 0), (1, .inr 1), (2, .inr 2), (3, .inr 3)], [], [(1, 56, 0), (0, 2147483647, 2147483650), (0, 2147483648, 4294967295), (0, 2147483648, 2147483651)], []), [.inl 1, .inl 2, .inl 3], [(0, 0), (1, 3), (0, 0)])] [6] 3000 = true := by decide +kernel
theorem te_p137 (hh : te_HH) : tj_KS1 (zx_Cl zx_mt zx_rc zx_mx' 1) tj_Lam te_s137 := tj_method te_so (d := 0) (by rw [← zx_q_X0_winner]; rfl) (fun _ h => absurd h List.not_mem_nil) (by decide +kernel) (by decide +kernel) te_c137
/-! Course.addVote -/
def te_s138 : tj_C := (5, [(1, 56, 0), (0, 2147483647, 2147483647)], ([], []), [([(1, 56, 0), (0, 2147483647, 2147483647)], none, ([], [], []))], ([], [], []))
set_option maxRecDepth 100000 in
theorem te_c138 : tj_chk tj_Lam te_s138.2.2.1 [te_s4] zx_d_X0_addVote te_s138.2.1 te_s138.2.2.2.1 te_s138.2.2.2.2 [] [] 3000 = true := by decide +kernel
theorem te_p138 (hh : te_HH) : tj_KS1 (zx_Cl zx_mt zx_rc zx_mx' 2) tj_Lam te_s138 := tj_method te_so (d := 1) (by rw [← zx_q_X0_addVote]; rfl) (List.forall_mem_cons.mpr ⟨tj_KS1_le (by decide) (te_p4 hh), fun _ h => absurd h List.not_mem_nil⟩) (by decide +kernel) (by decide +kernel) te_c138
/-! Told.favoured -/
def te_s139 : tj_C := (26, [(1, 13, 0), (0, 2147483648, 2147483655)], ([], []), [([(1, 13, 0), (0, 2147483648, 2147483655)], some (0, 2147483648, 4294967295), ([], [], []))], ([], [], []))
set_option maxRecDepth 100000 in
theorem te_c139 : tj_chk tj_Lam te_s139.2.2.1 [] zx_d_X10_favoured te_s139.2.1 te_s139.2.2.2.1 te_s139.2.2.2.2 [] [] 3000 = true := by decide +kernel
theorem te_p139 (hh : te_HH) : tj_KS1 (zx_Cl zx_mt zx_rc zx_mx' 1) tj_Lam te_s139 := tj_method te_so (d := 0) (by rw [← zx_q_X10_favoured]; rfl) (fun _ h => absurd h List.not_mem_nil) (by decide +kernel) (by decide +kernel) te_c139
/-! Course.addVote -/
def te_s140 : tj_C := (5, [(1, 56, 0), (0, 2147483648, 2147483655)], ([], [55]), [([(1, 56, 0), (0, 2147483648, 2147483655)], none, ([], [], []))], ([], [], []))
set_option maxRecDepth 100000 in
theorem te_c140 : tj_chk tj_Lam te_s140.2.2.1 [te_s139, te_s4] zx_d_X0_addVote te_s140.2.1 te_s140.2.2.2.1 te_s140.2.2.2.2 [] [] 3000 = true := by decide +kernel
theorem te_p140 (hh : te_HH) : tj_KS1 (zx_Cl zx_mt zx_rc zx_mx' 2) tj_Lam te_s140 := tj_method te_so (d := 1) (by rw [← zx_q_X0_addVote]; rfl) (List.forall_mem_cons.mpr ⟨tj_KS1_le (by decide) (te_p139 hh), List.forall_mem_cons.mpr ⟨tj_KS1_le (by decide) (te_p4 hh), fun _ h => absurd h List.not_mem_nil⟩⟩) (by decide +kernel) (by decide +kernel) te_c140
/-! Course.winnerOn -/
def te_s141 : tj_C := (23, [(1, 56, 0), (0, 2147483648, 2147484647)], ([], [55]), [([(1, 56, 0), (0, 2147483648, 2147484647)], some (0, 2147483647, 2147483650), ([], [], []))], ([], [], []))
set_option maxRecDepth 100000 in
theorem te_c141 : tj_chk tj_Lam te_s141.2.2.1 [te_s136, te_s138, te_s140, te_s35, te_s137] zx_d_X0_winnerOn te_s141.2.1 te_s141.2.2.2.1 te_s141.2.2.2.2 [((10, [(0, .inr 0), (1, .inr 1), (2, .inr 2)], [], [(1, 56, 0), (0, 2147483648, 2147484647), (0, 2147483648, 2147483652), (1, 55, 0)], [(0, .inr 0, .inl 3, .inr 3)]), [.inl 2, .inr (0, 3)], [(0, 0), (1, 2), (0, 0)])] [10] 3000 = true := by decide +kernel
theorem te_p141 (hh : te_HH) : tj_KS1 (zx_Cl zx_mt zx_rc zx_mx' 3) tj_Lam te_s141 := tj_method te_so (d := 2) (by rw [← zx_q_X0_winnerOn]; rfl) (List.forall_mem_cons.mpr ⟨tj_KS1_le (by decide) (te_p136 hh), List.forall_mem_cons.mpr ⟨tj_KS1_le (by decide) (te_p138 hh), List.forall_mem_cons.mpr ⟨tj_KS1_le (by decide) (te_p140 hh), List.forall_mem_cons.mpr ⟨tj_KS1_le (by decide) (te_p35 hh), List.forall_mem_cons.mpr ⟨tj_KS1_le (by decide) (te_p137 hh), fun _ h => absurd h List.not_mem_nil⟩⟩⟩⟩⟩) (by decide +kernel) (by decide +kernel) te_c141
/-! TwoInOne.elected -/
def te_s142 : tj_C := (45, [(1, 100, 0), (0, 0, 4294967295)], ([], [55]), [([(1, 100, 0), (0, 0, 4294967295)], some (0, 2147483647, 2147483647), ([], [], [])), ([(1, 100, 0), (0, 2147483648, 2147484647)], some (0, 2147483647, 2147483650), ([], [], []))], ([], [], []))
set_option maxRecDepth 100000 in
theorem te_c142 : tj_chk tj_Lam te_s142.2.2.1 [te_s141] zx_d_X11_elected te_s142.2.1 te_s142.2.2.2.1 te_s142.2.2.2.2 [] [] 3000 = true := by decide +kernel
theorem te_p142 (hh : te_HH) : tj_KS1 (zx_Cl zx_mt zx_rc zx_mx' 4) tj_Lam te_s142 := tj_method te_so (d := 3) (by rw [← zx_q_X11_elected]; rfl) (List.forall_mem_cons.mpr ⟨tj_KS1_le (by decide) (te_p141 hh), fun _ h => absurd h List.not_mem_nil⟩) (by decide +kernel) (by decide +kernel) te_c142
/-! TwoInOne.end -/
def te_s143 : tj_C := (46, [(1, 100, 0), (0, 0, 4294967295)], ([(100, 1)], []), [([(1, 100, 0), (0, 0, 4294967295)], some (0, 2147483647, 2147483647), ([], [], [])), ([(1, 100, 0), (0, 2147483648, 2147485248)], some (0, 2147483648, 2147485248), ([], [], []))], ([], [], []))
set_option maxRecDepth 100000 in
theorem te_c143 : tj_chk tj_Lam te_s143.2.2.1 [] zx_d_X11_end te_s143.2.1 te_s143.2.2.2.1 te_s143.2.2.2.2 [] [] 3000 = true := by decide +kernel
theorem te_p143 (hh : te_HH) : tj_KS1 (zx_Cl zx_mt zx_rc zx_mx' 1) tj_Lam te_s143 := tj_method te_so (d := 0) (by rw [← zx_q_X11_end]; rfl) (fun _ h => absurd h List.not_mem_nil) (by decide +kernel) (by decide +kernel) te_c143
/-! Told.hasPlace -/
def te_s144 : tj_C := (30, [(1, 13, 0), (0, 2147483648, 2147483651), (0, 0, 4294967295)], ([], []), [([(1, 13, 0), (0, 2147483648, 2147483651), (0, 0, 4294967295)], some (0, 2147483648, 2147483648), ([], [], [])), ([(1, 13, 0), (0, 2147483648, 2147483651), (0, 2147483648, 2147483661)], some (0, 2147483649, 2147483649), ([], [], []))], ([], [], []))
set_option maxRecDepth 100000 in
theorem te_c144 : tj_chk tj_Lam te_s144.2.2.1 [] zx_d_X10_hasPlace te_s144.2.1 te_s144.2.2.2.1 te_s144.2.2.2.2 [] [] 3000 = true := by decide +kernel
theorem te_p144 (hh : te_HH) : tj_KS1 (zx_Cl zx_mt zx_rc zx_mx' 1) tj_Lam te_s144 := tj_method te_so (d := 0) (by rw [← zx_q_X10_hasPlace]; rfl) (fun _ h => absurd h List.not_mem_nil) (by decide +kernel) (by decide +kernel) te_c144
/-! State.exchangePlaces -/
def te_s145 : tj_C := (326, [(1, 33, 0), (0, 2147483648, 2147483651), (0, 2147483648, 2147483661), (0, 2147483648, 2147483661)], ([], [29]), [([(1, 33, 0), (0, 2147483648, 2147483651), (0, 2147483648, 2147483661), (0, 2147483648, 2147483661)], none, ([], [], []))], ([], [], []))
set_option maxRecDepth 100000 in
theorem te_c145 : tj_chk tj_Lam te_s145.2.2.1 [] zx_d_X8_exchangePlaces te_s145.2.1 te_s145.2.2.2.1 te_s145.2.2.2.2 [] [] 3000 = true := by decide +kernel
theorem te_p145 (hh : te_HH) : tj_KS1 (zx_Cl zx_mt zx_rc zx_mx' 1) tj_Lam te_s145 := tj_method te_so (d := 0) (by rw [← zx_q_X8_exchangePlaces]; rfl) (fun _ h => absurd h List.not_mem_nil) (by decide +kernel) (by decide +kernel) te_c145
/-! TwoInOne.exchange -/
def te_s146 : tj_C := (47, [(1, 100, 0), (0, 0, 4294967295), (0, 0, 4294967295), (0, 0, 4294967295)], ([(53, 3), (53, 4), (53, 5), (39, 0), (39, 1)], [50, 36, 37, 38, 34, 35, 29]), [([(1, 100, 0), (0, 0, 4294967295), (0, 0, 4294967295), (0, 0, 4294967295)], some (0, 2147483648, 2147483648), ([], [], [])), ([(1, 100, 0), (0, 2147483648, 2147483651), (0, 2147483648, 2147483661), (0, 2147483648, 2147483661)], some (0, 2147483649, 2147483649), ([], [], []))], ([], [], []))
set_option maxRecDepth 100000 in
theorem te_c146 : tj_chk tj_Lam te_s146.2.2.1 [te_s2, te_s144, te_h1, te_s145] zx_d_X11_exchange te_s146.2.1 te_s146.2.2.2.1 te_s146.2.2.2.2 [] [] 3000 = true := by decide +kernel
theorem te_p146 (hh : te_HH) : tj_KS1 (zx_Cl zx_mt zx_rc zx_mx' 101) tj_Lam te_s146 := tj_method te_so (d := 100) (by rw [← zx_q_X11_exchange]; rfl) (List.forall_mem_cons.mpr ⟨tj_KS1_le (by decide) (te_p2 hh), List.forall_mem_cons.mpr ⟨tj_KS1_le (by decide) (te_p144 hh), List.forall_mem_cons.mpr ⟨tj_KS1_le (by decide) (te_hh1 hh), List.forall_mem_cons.mpr ⟨tj_KS1_le (by decide) (te_p145 hh), fun _ h => absurd h List.not_mem_nil⟩⟩⟩⟩) (by decide +kernel) (by decide +kernel) te_c146
/-! java/util/Arrays.fill -/
def te_s147 : tj_C := (1, [(1, 62, 0), (0, 2147483646, 2147483646)], ([], [62]), [([(1, 62, 0), (0, 2147483646, 2147483646)], none, ([], [], []))], ([], [], []))
set_option maxRecDepth 100000 in
theorem te_c147 : tj_chk tj_Lam te_s147.2.2.1 [] zx_d_J7_fill_53178 te_s147.2.1 te_s147.2.2.2.1 te_s147.2.2.2.2 [((5, [(0, .inr 0), (1, .inr 1), (2, .inr 2), (3, .inr 3)], [], [(1, 62, 0), (0, 2147483646, 2147483646), (0, 2147483648, 2147483656), (0, 2147483656, 2147483656)], []), [.inl 2, .inl 3], [(0, 0), (1, 2), (0, 0)])] [5] 3000 = true := by decide +kernel
theorem te_p147 (hh : te_HH) : tj_KS1 (zx_Cl zx_mt zx_rc zx_mx' 1) tj_Lam te_s147 := tj_method te_so (d := 0) (by rw [← zx_q_J7_fill_53178]; rfl) (fun _ h => absurd h List.not_mem_nil) (by decide +kernel) (by decide +kernel) te_c147
/-! Told.liked -/
def te_s148 : tj_C := (33, [(1, 13, 0), (0, 2147483648, 2147483648), (0, 2147483649, 2147483649)], ([], []), [([(1, 13, 0), (0, 2147483648, 2147483648), (0, 2147483649, 2147483649)], some (0, 2147483648, 4294967295), ([], [], []))], ([], [], []))
set_option maxRecDepth 100000 in
theorem te_c148 : tj_chk tj_Lam te_s148.2.2.1 [] zx_d_X10_liked te_s148.2.1 te_s148.2.2.2.1 te_s148.2.2.2.2 [] [] 3000 = true := by decide +kernel
theorem te_p148 (hh : te_HH) : tj_KS1 (zx_Cl zx_mt zx_rc zx_mx' 1) tj_Lam te_s148 := tj_method te_so (d := 0) (by rw [← zx_q_X10_liked]; rfl) (fun _ h => absurd h List.not_mem_nil) (by decide +kernel) (by decide +kernel) te_c148
/-! Told.liked -/
def te_s149 : tj_C := (33, [(1, 13, 0), (0, 2147483648, 2147483648), (0, 2147483648, 2147483655)], ([], []), [([(1, 13, 0), (0, 2147483648, 2147483648), (0, 2147483648, 2147483655)], some (0, 2147483648, 4294967295), ([], [], []))], ([], [], []))
set_option maxRecDepth 100000 in
theorem te_c149 : tj_chk tj_Lam te_s149.2.2.1 [] zx_d_X10_liked te_s149.2.1 te_s149.2.2.2.1 te_s149.2.2.2.2 [] [] 3000 = true := by decide +kernel
theorem te_p149 (hh : te_HH) : tj_KS1 (zx_Cl zx_mt zx_rc zx_mx' 1) tj_Lam te_s149 := tj_method te_so (d := 0) (by rw [← zx_q_X10_liked]; rfl) (fun _ h => absurd h List.not_mem_nil) (by decide +kernel) (by decide +kernel) te_c149
/-! Pairings.likesHis -/
def te_s150 : tj_C := (248, [(1, 65, 0), (0, 2147483648, 2147483648)], ([], []), [([(1, 65, 0), (0, 2147483648, 2147483648)], some (0, 2147483647, 2147483647), ([], [], [])), ([(1, 65, 0), (0, 2147483648, 2147483648)], some (0, 2147483648, 4294967295), ([], [], []))], ([], [], []))
set_option maxRecDepth 100000 in
theorem te_c150 : tj_chk tj_Lam te_s150.2.2.1 [te_s4, te_s149] zx_d_X3_likesHis te_s150.2.1 te_s150.2.2.2.1 te_s150.2.2.2.2 [] [] 3000 = true := by decide +kernel
theorem te_p150 (hh : te_HH) : tj_KS1 (zx_Cl zx_mt zx_rc zx_mx' 2) tj_Lam te_s150 := tj_method te_so (d := 1) (by rw [← zx_q_X3_likesHis]; rfl) (List.forall_mem_cons.mpr ⟨tj_KS1_le (by decide) (te_p4 hh), List.forall_mem_cons.mpr ⟨tj_KS1_le (by decide) (te_p149 hh), fun _ h => absurd h List.not_mem_nil⟩⟩) (by decide +kernel) (by decide +kernel) te_c150
/-! Told.liked -/
def te_s151 : tj_C := (33, [(1, 13, 0), (0, 2147483649, 2147483649), (0, 2147483648, 2147483648)], ([], []), [([(1, 13, 0), (0, 2147483649, 2147483649), (0, 2147483648, 2147483648)], some (0, 2147483648, 4294967295), ([], [], []))], ([], [], []))
set_option maxRecDepth 100000 in
theorem te_c151 : tj_chk tj_Lam te_s151.2.2.1 [] zx_d_X10_liked te_s151.2.1 te_s151.2.2.2.1 te_s151.2.2.2.2 [] [] 3000 = true := by decide +kernel
theorem te_p151 (hh : te_HH) : tj_KS1 (zx_Cl zx_mt zx_rc zx_mx' 1) tj_Lam te_s151 := tj_method te_so (d := 0) (by rw [← zx_q_X10_liked]; rfl) (fun _ h => absurd h List.not_mem_nil) (by decide +kernel) (by decide +kernel) te_c151
/-! Told.liked -/
def te_s152 : tj_C := (33, [(1, 13, 0), (0, 2147483649, 2147483649), (0, 2147483648, 2147483655)], ([], []), [([(1, 13, 0), (0, 2147483649, 2147483649), (0, 2147483648, 2147483655)], some (0, 2147483648, 4294967295), ([], [], []))], ([], [], []))
set_option maxRecDepth 100000 in
theorem te_c152 : tj_chk tj_Lam te_s152.2.2.1 [] zx_d_X10_liked te_s152.2.1 te_s152.2.2.2.1 te_s152.2.2.2.2 [] [] 3000 = true := by decide +kernel
theorem te_p152 (hh : te_HH) : tj_KS1 (zx_Cl zx_mt zx_rc zx_mx' 1) tj_Lam te_s152 := tj_method te_so (d := 0) (by rw [← zx_q_X10_liked]; rfl) (fun _ h => absurd h List.not_mem_nil) (by decide +kernel) (by decide +kernel) te_c152
/-! Pairings.likesHis -/
def te_s153 : tj_C := (248, [(1, 65, 0), (0, 2147483649, 2147483649)], ([], []), [([(1, 65, 0), (0, 2147483649, 2147483649)], some (0, 2147483647, 2147483647), ([], [], [])), ([(1, 65, 0), (0, 2147483649, 2147483649)], some (0, 2147483648, 4294967295), ([], [], []))], ([], [], []))
set_option maxRecDepth 100000 in
theorem te_c153 : tj_chk tj_Lam te_s153.2.2.1 [te_s4, te_s152] zx_d_X3_likesHis te_s153.2.1 te_s153.2.2.2.1 te_s153.2.2.2.2 [] [] 3000 = true := by decide +kernel
theorem te_p153 (hh : te_HH) : tj_KS1 (zx_Cl zx_mt zx_rc zx_mx' 2) tj_Lam te_s153 := tj_method te_so (d := 1) (by rw [← zx_q_X3_likesHis]; rfl) (List.forall_mem_cons.mpr ⟨tj_KS1_le (by decide) (te_p4 hh), List.forall_mem_cons.mpr ⟨tj_KS1_le (by decide) (te_p152 hh), fun _ h => absurd h List.not_mem_nil⟩⟩) (by decide +kernel) (by decide +kernel) te_c153
/-! Told.liked -/
def te_s154 : tj_C := (33, [(1, 13, 0), (0, 2147483648, 2147483649), (0, 2147483649, 2147483650)], ([], []), [([(1, 13, 0), (0, 2147483648, 2147483649), (0, 2147483649, 2147483650)], some (0, 2147483648, 4294967295), ([], [], []))], ([], [], []))
set_option maxRecDepth 100000 in
theorem te_c154 : tj_chk tj_Lam te_s154.2.2.1 [] zx_d_X10_liked te_s154.2.1 te_s154.2.2.2.1 te_s154.2.2.2.2 [] [] 3000 = true := by decide +kernel
theorem te_p154 (hh : te_HH) : tj_KS1 (zx_Cl zx_mt zx_rc zx_mx' 1) tj_Lam te_s154 := tj_method te_so (d := 0) (by rw [← zx_q_X10_liked]; rfl) (fun _ h => absurd h List.not_mem_nil) (by decide +kernel) (by decide +kernel) te_c154
/-! Told.liked -/
def te_s155 : tj_C := (33, [(1, 13, 0), (0, 2147483648, 2147483649), (0, 2147483648, 2147483655)], ([], []), [([(1, 13, 0), (0, 2147483648, 2147483649), (0, 2147483648, 2147483655)], some (0, 2147483648, 4294967295), ([], [], []))], ([], [], []))
set_option maxRecDepth 100000 in
theorem te_c155 : tj_chk tj_Lam te_s155.2.2.1 [] zx_d_X10_liked te_s155.2.1 te_s155.2.2.2.1 te_s155.2.2.2.2 [] [] 3000 = true := by decide +kernel
theorem te_p155 (hh : te_HH) : tj_KS1 (zx_Cl zx_mt zx_rc zx_mx' 1) tj_Lam te_s155 := tj_method te_so (d := 0) (by rw [← zx_q_X10_liked]; rfl) (fun _ h => absurd h List.not_mem_nil) (by decide +kernel) (by decide +kernel) te_c155
/-! Pairings.likesHis -/
def te_s156 : tj_C := (248, [(1, 65, 0), (0, 2147483648, 2147483649)], ([], []), [([(1, 65, 0), (0, 2147483648, 2147483649)], some (0, 2147483647, 2147483647), ([], [], [])), ([(1, 65, 0), (0, 2147483648, 2147483649)], some (0, 2147483648, 4294967295), ([], [], []))], ([], [], []))
set_option maxRecDepth 100000 in
theorem te_c156 : tj_chk tj_Lam te_s156.2.2.1 [te_s4, te_s155] zx_d_X3_likesHis te_s156.2.1 te_s156.2.2.2.1 te_s156.2.2.2.2 [] [] 3000 = true := by decide +kernel
theorem te_p156 (hh : te_HH) : tj_KS1 (zx_Cl zx_mt zx_rc zx_mx' 2) tj_Lam te_s156 := tj_method te_so (d := 1) (by rw [← zx_q_X3_likesHis]; rfl) (List.forall_mem_cons.mpr ⟨tj_KS1_le (by decide) (te_p4 hh), List.forall_mem_cons.mpr ⟨tj_KS1_le (by decide) (te_p155 hh), fun _ h => absurd h List.not_mem_nil⟩⟩) (by decide +kernel) (by decide +kernel) te_c156
/-! Told.liked -/
def te_s157 : tj_C := (33, [(1, 13, 0), (0, 2147483649, 2147483650), (0, 2147483648, 2147483649)], ([], []), [([(1, 13, 0), (0, 2147483649, 2147483650), (0, 2147483648, 2147483649)], some (0, 2147483648, 4294967295), ([], [], []))], ([], [], []))
set_option maxRecDepth 100000 in
theorem te_c157 : tj_chk tj_Lam te_s157.2.2.1 [] zx_d_X10_liked te_s157.2.1 te_s157.2.2.2.1 te_s157.2.2.2.2 [] [] 3000 = true := by decide +kernel
theorem te_p157 (hh : te_HH) : tj_KS1 (zx_Cl zx_mt zx_rc zx_mx' 1) tj_Lam te_s157 := tj_method te_so (d := 0) (by rw [← zx_q_X10_liked]; rfl) (fun _ h => absurd h List.not_mem_nil) (by decide +kernel) (by decide +kernel) te_c157
/-! Told.liked -/
def te_s158 : tj_C := (33, [(1, 13, 0), (0, 2147483649, 2147483650), (0, 2147483648, 2147483655)], ([], []), [([(1, 13, 0), (0, 2147483649, 2147483650), (0, 2147483648, 2147483655)], some (0, 2147483648, 4294967295), ([], [], []))], ([], [], []))
set_option maxRecDepth 100000 in
theorem te_c158 : tj_chk tj_Lam te_s158.2.2.1 [] zx_d_X10_liked te_s158.2.1 te_s158.2.2.2.1 te_s158.2.2.2.2 [] [] 3000 = true := by decide +kernel
theorem te_p158 (hh : te_HH) : tj_KS1 (zx_Cl zx_mt zx_rc zx_mx' 1) tj_Lam te_s158 := tj_method te_so (d := 0) (by rw [← zx_q_X10_liked]; rfl) (fun _ h => absurd h List.not_mem_nil) (by decide +kernel) (by decide +kernel) te_c158
/-! Pairings.likesHis -/
def te_s159 : tj_C := (248, [(1, 65, 0), (0, 2147483649, 2147483650)], ([], []), [([(1, 65, 0), (0, 2147483649, 2147483650)], some (0, 2147483647, 2147483647), ([], [], [])), ([(1, 65, 0), (0, 2147483649, 2147483650)], some (0, 2147483648, 4294967295), ([], [], []))], ([], [], []))
set_option maxRecDepth 100000 in
theorem te_c159 : tj_chk tj_Lam te_s159.2.2.1 [te_s4, te_s158] zx_d_X3_likesHis te_s159.2.1 te_s159.2.2.2.1 te_s159.2.2.2.2 [] [] 3000 = true := by decide +kernel
theorem te_p159 (hh : te_HH) : tj_KS1 (zx_Cl zx_mt zx_rc zx_mx' 2) tj_Lam te_s159 := tj_method te_so (d := 1) (by rw [← zx_q_X3_likesHis]; rfl) (List.forall_mem_cons.mpr ⟨tj_KS1_le (by decide) (te_p4 hh), List.forall_mem_cons.mpr ⟨tj_KS1_le (by decide) (te_p158 hh), fun _ h => absurd h List.not_mem_nil⟩⟩) (by decide +kernel) (by decide +kernel) te_c159
/-! Told.liked -/
def te_s160 : tj_C := (33, [(1, 13, 0), (0, 2147483648, 2147483650), (0, 2147483649, 2147483651)], ([], []), [([(1, 13, 0), (0, 2147483648, 2147483650), (0, 2147483649, 2147483651)], some (0, 2147483648, 4294967295), ([], [], []))], ([], [], []))
set_option maxRecDepth 100000 in
theorem te_c160 : tj_chk tj_Lam te_s160.2.2.1 [] zx_d_X10_liked te_s160.2.1 te_s160.2.2.2.1 te_s160.2.2.2.2 [] [] 3000 = true := by decide +kernel
theorem te_p160 (hh : te_HH) : tj_KS1 (zx_Cl zx_mt zx_rc zx_mx' 1) tj_Lam te_s160 := tj_method te_so (d := 0) (by rw [← zx_q_X10_liked]; rfl) (fun _ h => absurd h List.not_mem_nil) (by decide +kernel) (by decide +kernel) te_c160
/-! Told.liked -/
def te_s161 : tj_C := (33, [(1, 13, 0), (0, 2147483648, 2147483650), (0, 2147483648, 2147483655)], ([], []), [([(1, 13, 0), (0, 2147483648, 2147483650), (0, 2147483648, 2147483655)], some (0, 2147483648, 4294967295), ([], [], []))], ([], [], []))
set_option maxRecDepth 100000 in
theorem te_c161 : tj_chk tj_Lam te_s161.2.2.1 [] zx_d_X10_liked te_s161.2.1 te_s161.2.2.2.1 te_s161.2.2.2.2 [] [] 3000 = true := by decide +kernel
theorem te_p161 (hh : te_HH) : tj_KS1 (zx_Cl zx_mt zx_rc zx_mx' 1) tj_Lam te_s161 := tj_method te_so (d := 0) (by rw [← zx_q_X10_liked]; rfl) (fun _ h => absurd h List.not_mem_nil) (by decide +kernel) (by decide +kernel) te_c161
/-! Pairings.likesHis -/
def te_s162 : tj_C := (248, [(1, 65, 0), (0, 2147483648, 2147483650)], ([], []), [([(1, 65, 0), (0, 2147483648, 2147483650)], some (0, 2147483647, 2147483647), ([], [], [])), ([(1, 65, 0), (0, 2147483648, 2147483650)], some (0, 2147483648, 4294967295), ([], [], []))], ([], [], []))
set_option maxRecDepth 100000 in
theorem te_c162 : tj_chk tj_Lam te_s162.2.2.1 [te_s4, te_s161] zx_d_X3_likesHis te_s162.2.1 te_s162.2.2.2.1 te_s162.2.2.2.2 [] [] 3000 = true := by decide +kernel
theorem te_p162 (hh : te_HH) : tj_KS1 (zx_Cl zx_mt zx_rc zx_mx' 2) tj_Lam te_s162 := tj_method te_so (d := 1) (by rw [← zx_q_X3_likesHis]; rfl) (List.forall_mem_cons.mpr ⟨tj_KS1_le (by decide) (te_p4 hh), List.forall_mem_cons.mpr ⟨tj_KS1_le (by decide) (te_p161 hh), fun _ h => absurd h List.not_mem_nil⟩⟩) (by decide +kernel) (by decide +kernel) te_c162
/-! Told.liked -/
def te_s163 : tj_C := (33, [(1, 13, 0), (0, 2147483649, 2147483651), (0, 2147483648, 2147483650)], ([], []), [([(1, 13, 0), (0, 2147483649, 2147483651), (0, 2147483648, 2147483650)], some (0, 2147483648, 4294967295), ([], [], []))], ([], [], []))
set_option maxRecDepth 100000 in
theorem te_c163 : tj_chk tj_Lam te_s163.2.2.1 [] zx_d_X10_liked te_s163.2.1 te_s163.2.2.2.1 te_s163.2.2.2.2 [] [] 3000 = true := by decide +kernel
theorem te_p163 (hh : te_HH) : tj_KS1 (zx_Cl zx_mt zx_rc zx_mx' 1) tj_Lam te_s163 := tj_method te_so (d := 0) (by rw [← zx_q_X10_liked]; rfl) (fun _ h => absurd h List.not_mem_nil) (by decide +kernel) (by decide +kernel) te_c163
/-! Told.liked -/
def te_s164 : tj_C := (33, [(1, 13, 0), (0, 2147483649, 2147483651), (0, 2147483648, 2147483655)], ([], []), [([(1, 13, 0), (0, 2147483649, 2147483651), (0, 2147483648, 2147483655)], some (0, 2147483648, 4294967295), ([], [], []))], ([], [], []))
set_option maxRecDepth 100000 in
theorem te_c164 : tj_chk tj_Lam te_s164.2.2.1 [] zx_d_X10_liked te_s164.2.1 te_s164.2.2.2.1 te_s164.2.2.2.2 [] [] 3000 = true := by decide +kernel
theorem te_p164 (hh : te_HH) : tj_KS1 (zx_Cl zx_mt zx_rc zx_mx' 1) tj_Lam te_s164 := tj_method te_so (d := 0) (by rw [← zx_q_X10_liked]; rfl) (fun _ h => absurd h List.not_mem_nil) (by decide +kernel) (by decide +kernel) te_c164
/-! Pairings.likesHis -/
def te_s165 : tj_C := (248, [(1, 65, 0), (0, 2147483649, 2147483651)], ([], []), [([(1, 65, 0), (0, 2147483649, 2147483651)], some (0, 2147483647, 2147483647), ([], [], [])), ([(1, 65, 0), (0, 2147483649, 2147483651)], some (0, 2147483648, 4294967295), ([], [], []))], ([], [], []))
set_option maxRecDepth 100000 in
theorem te_c165 : tj_chk tj_Lam te_s165.2.2.1 [te_s4, te_s164] zx_d_X3_likesHis te_s165.2.1 te_s165.2.2.2.1 te_s165.2.2.2.2 [] [] 3000 = true := by decide +kernel
theorem te_p165 (hh : te_HH) : tj_KS1 (zx_Cl zx_mt zx_rc zx_mx' 2) tj_Lam te_s165 := tj_method te_so (d := 1) (by rw [← zx_q_X3_likesHis]; rfl) (List.forall_mem_cons.mpr ⟨tj_KS1_le (by decide) (te_p4 hh), List.forall_mem_cons.mpr ⟨tj_KS1_le (by decide) (te_p164 hh), fun _ h => absurd h List.not_mem_nil⟩⟩) (by decide +kernel) (by decide +kernel) te_c165
/-! Told.liked -/
def te_s166 : tj_C := (33, [(1, 13, 0), (0, 2147483648, 2147483651), (0, 2147483649, 2147483652)], ([], []), [([(1, 13, 0), (0, 2147483648, 2147483651), (0, 2147483649, 2147483652)], some (0, 2147483648, 4294967295), ([], [], []))], ([], [], []))
set_option maxRecDepth 100000 in
theorem te_c166 : tj_chk tj_Lam te_s166.2.2.1 [] zx_d_X10_liked te_s166.2.1 te_s166.2.2.2.1 te_s166.2.2.2.2 [] [] 3000 = true := by decide +kernel
theorem te_p166 (hh : te_HH) : tj_KS1 (zx_Cl zx_mt zx_rc zx_mx' 1) tj_Lam te_s166 := tj_method te_so (d := 0) (by rw [← zx_q_X10_liked]; rfl) (fun _ h => absurd h List.not_mem_nil) (by decide +kernel) (by decide +kernel) te_c166
/-! Told.liked -/
def te_s167 : tj_C := (33, [(1, 13, 0), (0, 2147483648, 2147483651), (0, 2147483648, 2147483655)], ([], []), [([(1, 13, 0), (0, 2147483648, 2147483651), (0, 2147483648, 2147483655)], some (0, 2147483648, 4294967295), ([], [], []))], ([], [], []))
set_option maxRecDepth 100000 in
theorem te_c167 : tj_chk tj_Lam te_s167.2.2.1 [] zx_d_X10_liked te_s167.2.1 te_s167.2.2.2.1 te_s167.2.2.2.2 [] [] 3000 = true := by decide +kernel
theorem te_p167 (hh : te_HH) : tj_KS1 (zx_Cl zx_mt zx_rc zx_mx' 1) tj_Lam te_s167 := tj_method te_so (d := 0) (by rw [← zx_q_X10_liked]; rfl) (fun _ h => absurd h List.not_mem_nil) (by decide +kernel) (by decide +kernel) te_c167
/-! Pairings.likesHis -/
def te_s168 : tj_C := (248, [(1, 65, 0), (0, 2147483648, 2147483651)], ([], []), [([(1, 65, 0), (0, 2147483648, 2147483651)], some (0, 2147483647, 2147483647), ([], [], [])), ([(1, 65, 0), (0, 2147483648, 2147483651)], some (0, 2147483648, 4294967295), ([], [], []))], ([], [], []))
set_option maxRecDepth 100000 in
theorem te_c168 : tj_chk tj_Lam te_s168.2.2.1 [te_s4, te_s167] zx_d_X3_likesHis te_s168.2.1 te_s168.2.2.2.1 te_s168.2.2.2.2 [] [] 3000 = true := by decide +kernel
theorem te_p168 (hh : te_HH) : tj_KS1 (zx_Cl zx_mt zx_rc zx_mx' 2) tj_Lam te_s168 := tj_method te_so (d := 1) (by rw [← zx_q_X3_likesHis]; rfl) (List.forall_mem_cons.mpr ⟨tj_KS1_le (by decide) (te_p4 hh), List.forall_mem_cons.mpr ⟨tj_KS1_le (by decide) (te_p167 hh), fun _ h => absurd h List.not_mem_nil⟩⟩) (by decide +kernel) (by decide +kernel) te_c168
/-! Told.liked -/
def te_s169 : tj_C := (33, [(1, 13, 0), (0, 2147483649, 2147483652), (0, 2147483648, 2147483651)], ([], []), [([(1, 13, 0), (0, 2147483649, 2147483652), (0, 2147483648, 2147483651)], some (0, 2147483648, 4294967295), ([], [], []))], ([], [], []))
set_option maxRecDepth 100000 in
theorem te_c169 : tj_chk tj_Lam te_s169.2.2.1 [] zx_d_X10_liked te_s169.2.1 te_s169.2.2.2.1 te_s169.2.2.2.2 [] [] 3000 = true := by decide +kernel
theorem te_p169 (hh : te_HH) : tj_KS1 (zx_Cl zx_mt zx_rc zx_mx' 1) tj_Lam te_s169 := tj_method te_so (d := 0) (by rw [← zx_q_X10_liked]; rfl) (fun _ h => absurd h List.not_mem_nil) (by decide +kernel) (by decide +kernel) te_c169
/-! Told.liked -/
def te_s170 : tj_C := (33, [(1, 13, 0), (0, 2147483649, 2147483652), (0, 2147483648, 2147483655)], ([], []), [([(1, 13, 0), (0, 2147483649, 2147483652), (0, 2147483648, 2147483655)], some (0, 2147483648, 4294967295), ([], [], []))], ([], [], []))
set_option maxRecDepth 100000 in
theorem te_c170 : tj_chk tj_Lam te_s170.2.2.1 [] zx_d_X10_liked te_s170.2.1 te_s170.2.2.2.1 te_s170.2.2.2.2 [] [] 3000 = true := by decide +kernel
theorem te_p170 (hh : te_HH) : tj_KS1 (zx_Cl zx_mt zx_rc zx_mx' 1) tj_Lam te_s170 := tj_method te_so (d := 0) (by rw [← zx_q_X10_liked]; rfl) (fun _ h => absurd h List.not_mem_nil) (by decide +kernel) (by decide +kernel) te_c170
/-! Pairings.likesHis -/
def te_s171 : tj_C := (248, [(1, 65, 0), (0, 2147483649, 2147483652)], ([], []), [([(1, 65, 0), (0, 2147483649, 2147483652)], some (0, 2147483647, 2147483647), ([], [], [])), ([(1, 65, 0), (0, 2147483649, 2147483652)], some (0, 2147483648, 4294967295), ([], [], []))], ([], [], []))
set_option maxRecDepth 100000 in
theorem te_c171 : tj_chk tj_Lam te_s171.2.2.1 [te_s4, te_s170] zx_d_X3_likesHis te_s171.2.1 te_s171.2.2.2.1 te_s171.2.2.2.2 [] [] 3000 = true := by decide +kernel
theorem te_p171 (hh : te_HH) : tj_KS1 (zx_Cl zx_mt zx_rc zx_mx' 2) tj_Lam te_s171 := tj_method te_so (d := 1) (by rw [← zx_q_X3_likesHis]; rfl) (List.forall_mem_cons.mpr ⟨tj_KS1_le (by decide) (te_p4 hh), List.forall_mem_cons.mpr ⟨tj_KS1_le (by decide) (te_p170 hh), fun _ h => absurd h List.not_mem_nil⟩⟩) (by decide +kernel) (by decide +kernel) te_c171
/-! Told.liked -/
def te_s172 : tj_C := (33, [(1, 13, 0), (0, 2147483648, 2147483652), (0, 2147483649, 2147483653)], ([], []), [([(1, 13, 0), (0, 2147483648, 2147483652), (0, 2147483649, 2147483653)], some (0, 2147483648, 4294967295), ([], [], []))], ([], [], []))
set_option maxRecDepth 100000 in
theorem te_c172 : tj_chk tj_Lam te_s172.2.2.1 [] zx_d_X10_liked te_s172.2.1 te_s172.2.2.2.1 te_s172.2.2.2.2 [] [] 3000 = true := by decide +kernel
theorem te_p172 (hh : te_HH) : tj_KS1 (zx_Cl zx_mt zx_rc zx_mx' 1) tj_Lam te_s172 := tj_method te_so (d := 0) (by rw [← zx_q_X10_liked]; rfl) (fun _ h => absurd h List.not_mem_nil) (by decide +kernel) (by decide +kernel) te_c172
/-! Told.liked -/
def te_s173 : tj_C := (33, [(1, 13, 0), (0, 2147483648, 2147483652), (0, 2147483648, 2147483655)], ([], []), [([(1, 13, 0), (0, 2147483648, 2147483652), (0, 2147483648, 2147483655)], some (0, 2147483648, 4294967295), ([], [], []))], ([], [], []))
set_option maxRecDepth 100000 in
theorem te_c173 : tj_chk tj_Lam te_s173.2.2.1 [] zx_d_X10_liked te_s173.2.1 te_s173.2.2.2.1 te_s173.2.2.2.2 [] [] 3000 = true := by decide +kernel
theorem te_p173 (hh : te_HH) : tj_KS1 (zx_Cl zx_mt zx_rc zx_mx' 1) tj_Lam te_s173 := tj_method te_so (d := 0) (by rw [← zx_q_X10_liked]; rfl) (fun _ h => absurd h List.not_mem_nil) (by decide +kernel) (by decide +kernel) te_c173
/-! Pairings.likesHis -/
def te_s174 : tj_C := (248, [(1, 65, 0), (0, 2147483648, 2147483652)], ([], []), [([(1, 65, 0), (0, 2147483648, 2147483652)], some (0, 2147483647, 2147483647), ([], [], [])), ([(1, 65, 0), (0, 2147483648, 2147483652)], some (0, 2147483648, 4294967295), ([], [], []))], ([], [], []))
set_option maxRecDepth 100000 in
theorem te_c174 : tj_chk tj_Lam te_s174.2.2.1 [te_s4, te_s173] zx_d_X3_likesHis te_s174.2.1 te_s174.2.2.2.1 te_s174.2.2.2.2 [] [] 3000 = true := by decide +kernel
theorem te_p174 (hh : te_HH) : tj_KS1 (zx_Cl zx_mt zx_rc zx_mx' 2) tj_Lam te_s174 := tj_method te_so (d := 1) (by rw [← zx_q_X3_likesHis]; rfl) (List.forall_mem_cons.mpr ⟨tj_KS1_le (by decide) (te_p4 hh), List.forall_mem_cons.mpr ⟨tj_KS1_le (by decide) (te_p173 hh), fun _ h => absurd h List.not_mem_nil⟩⟩) (by decide +kernel) (by decide +kernel) te_c174
/-! Told.liked -/
def te_s175 : tj_C := (33, [(1, 13, 0), (0, 2147483649, 2147483653), (0, 2147483648, 2147483652)], ([], []), [([(1, 13, 0), (0, 2147483649, 2147483653), (0, 2147483648, 2147483652)], some (0, 2147483648, 4294967295), ([], [], []))], ([], [], []))
set_option maxRecDepth 100000 in
theorem te_c175 : tj_chk tj_Lam te_s175.2.2.1 [] zx_d_X10_liked te_s175.2.1 te_s175.2.2.2.1 te_s175.2.2.2.2 [] [] 3000 = true := by decide +kernel
theorem te_p175 (hh : te_HH) : tj_KS1 (zx_Cl zx_mt zx_rc zx_mx' 1) tj_Lam te_s175 := tj_method te_so (d := 0) (by rw [← zx_q_X10_liked]; rfl) (fun _ h => absurd h List.not_mem_nil) (by decide +kernel) (by decide +kernel) te_c175
/-! Told.liked -/
def te_s176 : tj_C := (33, [(1, 13, 0), (0, 2147483649, 2147483653), (0, 2147483648, 2147483655)], ([], []), [([(1, 13, 0), (0, 2147483649, 2147483653), (0, 2147483648, 2147483655)], some (0, 2147483648, 4294967295), ([], [], []))], ([], [], []))
set_option maxRecDepth 100000 in
theorem te_c176 : tj_chk tj_Lam te_s176.2.2.1 [] zx_d_X10_liked te_s176.2.1 te_s176.2.2.2.1 te_s176.2.2.2.2 [] [] 3000 = true := by decide +kernel
theorem te_p176 (hh : te_HH) : tj_KS1 (zx_Cl zx_mt zx_rc zx_mx' 1) tj_Lam te_s176 := tj_method te_so (d := 0) (by rw [← zx_q_X10_liked]; rfl) (fun _ h => absurd h List.not_mem_nil) (by decide +kernel) (by decide +kernel) te_c176
/-! Pairings.likesHis -/
def te_s177 : tj_C := (248, [(1, 65, 0), (0, 2147483649, 2147483653)], ([], []), [([(1, 65, 0), (0, 2147483649, 2147483653)], some (0, 2147483647, 2147483647), ([], [], [])), ([(1, 65, 0), (0, 2147483649, 2147483653)], some (0, 2147483648, 4294967295), ([], [], []))], ([], [], []))
set_option maxRecDepth 100000 in
theorem te_c177 : tj_chk tj_Lam te_s177.2.2.1 [te_s4, te_s176] zx_d_X3_likesHis te_s177.2.1 te_s177.2.2.2.1 te_s177.2.2.2.2 [] [] 3000 = true := by decide +kernel
theorem te_p177 (hh : te_HH) : tj_KS1 (zx_Cl zx_mt zx_rc zx_mx' 2) tj_Lam te_s177 := tj_method te_so (d := 1) (by rw [← zx_q_X3_likesHis]; rfl) (List.forall_mem_cons.mpr ⟨tj_KS1_le (by decide) (te_p4 hh), List.forall_mem_cons.mpr ⟨tj_KS1_le (by decide) (te_p176 hh), fun _ h => absurd h List.not_mem_nil⟩⟩) (by decide +kernel) (by decide +kernel) te_c177
/-! Told.liked -/
def te_s178 : tj_C := (33, [(1, 13, 0), (0, 2147483648, 2147483653), (0, 2147483649, 2147483654)], ([], []), [([(1, 13, 0), (0, 2147483648, 2147483653), (0, 2147483649, 2147483654)], some (0, 2147483648, 4294967295), ([], [], []))], ([], [], []))
set_option maxRecDepth 100000 in
theorem te_c178 : tj_chk tj_Lam te_s178.2.2.1 [] zx_d_X10_liked te_s178.2.1 te_s178.2.2.2.1 te_s178.2.2.2.2 [] [] 3000 = true := by decide +kernel
theorem te_p178 (hh : te_HH) : tj_KS1 (zx_Cl zx_mt zx_rc zx_mx' 1) tj_Lam te_s178 := tj_method te_so (d := 0) (by rw [← zx_q_X10_liked]; rfl) (fun _ h => absurd h List.not_mem_nil) (by decide +kernel) (by decide +kernel) te_c178
/-! Told.liked -/
def te_s179 : tj_C := (33, [(1, 13, 0), (0, 2147483648, 2147483653), (0, 2147483648, 2147483655)], ([], []), [([(1, 13, 0), (0, 2147483648, 2147483653), (0, 2147483648, 2147483655)], some (0, 2147483648, 4294967295), ([], [], []))], ([], [], []))
set_option maxRecDepth 100000 in
theorem te_c179 : tj_chk tj_Lam te_s179.2.2.1 [] zx_d_X10_liked te_s179.2.1 te_s179.2.2.2.1 te_s179.2.2.2.2 [] [] 3000 = true := by decide +kernel
theorem te_p179 (hh : te_HH) : tj_KS1 (zx_Cl zx_mt zx_rc zx_mx' 1) tj_Lam te_s179 := tj_method te_so (d := 0) (by rw [← zx_q_X10_liked]; rfl) (fun _ h => absurd h List.not_mem_nil) (by decide +kernel) (by decide +kernel) te_c179
/-! Pairings.likesHis -/
def te_s180 : tj_C := (248, [(1, 65, 0), (0, 2147483648, 2147483653)], ([], []), [([(1, 65, 0), (0, 2147483648, 2147483653)], some (0, 2147483647, 2147483647), ([], [], [])), ([(1, 65, 0), (0, 2147483648, 2147483653)], some (0, 2147483648, 4294967295), ([], [], []))], ([], [], []))
set_option maxRecDepth 100000 in
theorem te_c180 : tj_chk tj_Lam te_s180.2.2.1 [te_s4, te_s179] zx_d_X3_likesHis te_s180.2.1 te_s180.2.2.2.1 te_s180.2.2.2.2 [] [] 3000 = true := by decide +kernel
theorem te_p180 (hh : te_HH) : tj_KS1 (zx_Cl zx_mt zx_rc zx_mx' 2) tj_Lam te_s180 := tj_method te_so (d := 1) (by rw [← zx_q_X3_likesHis]; rfl) (List.forall_mem_cons.mpr ⟨tj_KS1_le (by decide) (te_p4 hh), List.forall_mem_cons.mpr ⟨tj_KS1_le (by decide) (te_p179 hh), fun _ h => absurd h List.not_mem_nil⟩⟩) (by decide +kernel) (by decide +kernel) te_c180
/-! Told.liked -/
def te_s181 : tj_C := (33, [(1, 13, 0), (0, 2147483649, 2147483654), (0, 2147483648, 2147483653)], ([], []), [([(1, 13, 0), (0, 2147483649, 2147483654), (0, 2147483648, 2147483653)], some (0, 2147483648, 4294967295), ([], [], []))], ([], [], []))
set_option maxRecDepth 100000 in
theorem te_c181 : tj_chk tj_Lam te_s181.2.2.1 [] zx_d_X10_liked te_s181.2.1 te_s181.2.2.2.1 te_s181.2.2.2.2 [] [] 3000 = true := by decide +kernel
theorem te_p181 (hh : te_HH) : tj_KS1 (zx_Cl zx_mt zx_rc zx_mx' 1) tj_Lam te_s181 := tj_method te_so (d := 0) (by rw [← zx_q_X10_liked]; rfl) (fun _ h => absurd h List.not_mem_nil) (by decide +kernel) (by decide +kernel) te_c181
/-! Told.liked -/
def te_s182 : tj_C := (33, [(1, 13, 0), (0, 2147483649, 2147483654), (0, 2147483648, 2147483655)], ([], []), [([(1, 13, 0), (0, 2147483649, 2147483654), (0, 2147483648, 2147483655)], some (0, 2147483648, 4294967295), ([], [], []))], ([], [], []))
set_option maxRecDepth 100000 in
theorem te_c182 : tj_chk tj_Lam te_s182.2.2.1 [] zx_d_X10_liked te_s182.2.1 te_s182.2.2.2.1 te_s182.2.2.2.2 [] [] 3000 = true := by decide +kernel
theorem te_p182 (hh : te_HH) : tj_KS1 (zx_Cl zx_mt zx_rc zx_mx' 1) tj_Lam te_s182 := tj_method te_so (d := 0) (by rw [← zx_q_X10_liked]; rfl) (fun _ h => absurd h List.not_mem_nil) (by decide +kernel) (by decide +kernel) te_c182
