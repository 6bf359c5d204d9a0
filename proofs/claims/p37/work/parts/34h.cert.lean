/-! TwoInOne.breaks -/
def te_s120 : tj_C := (37, [(1, 100, 0), (0, 0, 4294967295), (0, 0, 4294967295)], ([(56, 4), (56, 5), (56, 6), (56, 7)], [54]), [([(1, 100, 0), (0, 2147483648, 2147483651), (0, 2147483649, 2147483668)], some (0, 2147483647, 2147483647), ([], [], [])), ([(1, 100, 0), (0, 0, 4294967295), (0, 0, 4294967295)], some (0, 2147483646, 2147483667), ([], [], []))], ([], [], []))
set_option maxRecDepth 100000 in
theorem te_c120 : tj_chk tj_Lam te_s120.2.2.1 [te_s2, te_s33, te_s119] zx_d_X11_breaks te_s120.2.1 te_s120.2.2.2.1 te_s120.2.2.2.2 [] [] 3000 = true := by decide +kernel
theorem te_p120 : tj_KS1 (zx_Cl zx_mt zx_rc zx_mx' 8) tj_Lam te_s120 := tj_method te_so (d := 7) (by rw [← zx_q_X11_breaks]; rfl) (List.forall_mem_cons.mpr ⟨tj_KS1_le (by decide) te_p2, List.forall_mem_cons.mpr ⟨tj_KS1_le (by decide) te_p33, List.forall_mem_cons.mpr ⟨tj_KS1_le (by decide) te_p119, fun _ h => absurd h List.not_mem_nil⟩⟩⟩) (by decide +kernel) (by decide +kernel) te_c120
/-! Course.chosen -/
def te_s121 : tj_C := (7, [(1, 56, 0), (0, 0, 4294967295), (0, 0, 4294967295), (0, 2147483648, 2147483747), (0, 0, 4294967295)], ([(56, 4), (56, 5), (56, 6), (56, 7)], [54]), [([(1, 56, 0), (0, 0, 4294967295), (0, 0, 4294967295), (0, 2147483648, 2147483747), (0, 0, 4294967295)], some (0, 2147483647, 2147483653), ([], [], []))], ([], [], []))
set_option maxRecDepth 100000 in
theorem te_c121 : tj_chk tj_Lam te_s121.2.2.1 [te_s34, te_s35, te_s43, te_s72, te_s75] zx_d_X0_chosen te_s121.2.1 te_s121.2.2.2.1 te_s121.2.2.2.2 [((17, [(0, .inr 0), (1, .inr 1), (2, .inr 2), (3, .inr 3), (4, .inr 4), (5, .inr 5), (6, .inr 6), (7, .inr 7), (8, .inr 8)], [], [(1, 56, 0), (0, 0, 4294967295), (0, 0, 4294967295), (0, 2147483648, 2147483747), (0, 0, 4294967295), (0, 2147483647, 2147483655), (0, 2147483647, 2147483653), (0, 0, 4294967295), (0, 2147483648, 2147483654)], []), [.inl 5, .inl 6, .inl 7, .inl 8], [(0, 0), (1, 8), (0, 0)])] [17] 3000 = true := by decide +kernel
theorem te_p121 : tj_KS1 (zx_Cl zx_mt zx_rc zx_mx' 6) tj_Lam te_s121 := tj_method te_so (d := 5) (by rw [← zx_q_X0_chosen]; rfl) (List.forall_mem_cons.mpr ⟨tj_KS1_le (by decide) te_p34, List.forall_mem_cons.mpr ⟨tj_KS1_le (by decide) te_p35, List.forall_mem_cons.mpr ⟨tj_KS1_le (by decide) te_p43, List.forall_mem_cons.mpr ⟨tj_KS1_le (by decide) te_p72, List.forall_mem_cons.mpr ⟨tj_KS1_le (by decide) te_p75, fun _ h => absurd h List.not_mem_nil⟩⟩⟩⟩⟩) (by decide +kernel) (by decide +kernel) te_c121
/-! Game.fewestCares -/
def te_s122 : tj_C := (219, [(1, 61, 0), (0, 2147483648, 2147483651), (0, 2147483649, 2147483668)], ([(56, 4), (56, 5), (56, 6), (56, 7)], [54]), [([(1, 61, 0), (0, 2147483648, 2147483651), (0, 2147483649, 2147483668)], some (0, 2147483647, 2147483647), ([], [], [])), ([(1, 61, 0), (0, 2147483648, 2147483651), (0, 2147483649, 2147483668)], some (0, 2147483648, 2147483657), ([], [], []))], ([], [], []))
set_option maxRecDepth 100000 in
theorem te_c122 : tj_chk tj_Lam te_s122.2.2.1 [te_s34, te_s35, te_s43, te_s45, te_s47, te_s49, te_s51, te_s53, te_s55, te_s57, te_s59, te_s61, te_s63, te_s65, te_s67, te_s68, te_s121] zx_d_X1_fewestCares te_s122.2.1 te_s122.2.2.2.1 te_s122.2.2.2.2 [((145, [(0, .inr 0), (1, .inr 1), (2, .inr 2), (3, .inr 3), (4, .inr 4), (5, .inr 5)], [], [(1, 61, 0), (0, 2147483648, 2147483651), (0, 2147483649, 2147483668), (0, 2147483648, 2147484671), (0, 2147483648, 2147483747), (0, 2147483648, 2147483658), (1, 33, 0), (1, 28, 0)], [(0, .inr 0, .inl 1, .inr 6), (0, .inr 6, .inl 2, .inr 7)]), [.inl 3, .inl 4, .inl 5, .inr (0, 1), .inr (6, 2)], [(0, 0), (1, 5), (0, 0), (0, 0), (0, 0)]), ((18, [(0, .inr 0), (1, .inr 1), (2, .inr 2), (3, .inr 3), (4, .inr 4), (5, .inr 5)], [], [(1, 61, 0), (0, 2147483648, 2147483651), (0, 2147483649, 2147483668), (0, 2147483648, 2147484671), (0, 2147483648, 2147483747), (0, 2147483648, 2147483668), (1, 33, 0), (1, 28, 0)], [(0, .inr 0, .inl 1, .inr 6), (0, .inr 6, .inl 2, .inr 7)]), [.inl 3, .inl 4, .inl 5, .inr (0, 1), .inr (6, 2)], [(0, 1), (1, 5), (0, 1), (0, 0), (0, 0)]), ((53, [(0, .inr 0), (1, .inr 1), (2, .inr 2), (3, .inr 3), (4, .inr 4), (5, .inr 5), (6, .inr 6), (7, .inr 7)], [], [(1, 61, 0), (0, 2147483648, 2147483651), (0, 2147483649, 2147483668), (0, 2147483648, 2147484671), (0, 2147483648, 2147483747), (0, 2147483648, 2147483667), (0, 2147483648, 4294967295), (0, 2147483648, 2147483658), (1, 33, 0), (1, 56, 0), (0, 0, 4294967295), (1, 28, 0)], [(0, .inr 0, .inl 1, .inr 8), (0, .inr 0, .inl 2, .inr 9), (0, .inr 8, .inl 0, .inr 10), (0, .inr 8, .inl 2, .inr 11)]), [.inl 3, .inl 4, .inl 5, .inl 6, .inl 7, .inr (0, 1), .inr (0, 2), .inr (8, 0), .inr (8, 2)], [(0, 1), (1, 5), (0, 0), (1, 7), (0, 0)])] [18, 53, 145] 3000 = true := by decide +kernel
theorem te_p122 : tj_KS1 (zx_Cl zx_mt zx_rc zx_mx' 7) tj_Lam te_s122 := tj_method te_so (d := 6) (by rw [← zx_q_X1_fewestCares]; rfl) (List.forall_mem_cons.mpr ⟨tj_KS1_le (by decide) te_p34, List.forall_mem_cons.mpr ⟨tj_KS1_le (by decide) te_p35, List.forall_mem_cons.mpr ⟨tj_KS1_le (by decide) te_p43, List.forall_mem_cons.mpr ⟨tj_KS1_le (by decide) te_p45, List.forall_mem_cons.mpr ⟨tj_KS1_le (by decide) te_p47, List.forall_mem_cons.mpr ⟨tj_KS1_le (by decide) te_p49, List.forall_mem_cons.mpr ⟨tj_KS1_le (by decide) te_p51, List.forall_mem_cons.mpr ⟨tj_KS1_le (by decide) te_p53, List.forall_mem_cons.mpr ⟨tj_KS1_le (by decide) te_p55, List.forall_mem_cons.mpr ⟨tj_KS1_le (by decide) te_p57, List.forall_mem_cons.mpr ⟨tj_KS1_le (by decide) te_p59, List.forall_mem_cons.mpr ⟨tj_KS1_le (by decide) te_p61, List.forall_mem_cons.mpr ⟨tj_KS1_le (by decide) te_p63, List.forall_mem_cons.mpr ⟨tj_KS1_le (by decide) te_p65, List.forall_mem_cons.mpr ⟨tj_KS1_le (by decide) te_p67, List.forall_mem_cons.mpr ⟨tj_KS1_le (by decide) te_p68, List.forall_mem_cons.mpr ⟨tj_KS1_le (by decide) te_p121, fun _ h => absurd h List.not_mem_nil⟩⟩⟩⟩⟩⟩⟩⟩⟩⟩⟩⟩⟩⟩⟩⟩⟩) (by decide +kernel) (by decide +kernel) te_c122
/-! TwoInOne.cares -/
def te_s123 : tj_C := (39, [(1, 100, 0), (0, 0, 4294967295), (0, 0, 4294967295)], ([(56, 4), (56, 5), (56, 6), (56, 7)], [54]), [([(1, 100, 0), (0, 2147483648, 2147483651), (0, 2147483649, 2147483668)], some (0, 2147483647, 2147483647), ([], [], [])), ([(1, 100, 0), (0, 0, 4294967295), (0, 0, 4294967295)], some (0, 2147483646, 2147483657), ([], [], []))], ([], [], []))
set_option maxRecDepth 100000 in
theorem te_c123 : tj_chk tj_Lam te_s123.2.2.1 [te_s2, te_s33, te_s122] zx_d_X11_cares te_s123.2.1 te_s123.2.2.2.1 te_s123.2.2.2.2 [] [] 3000 = true := by decide +kernel
theorem te_p123 : tj_KS1 (zx_Cl zx_mt zx_rc zx_mx' 8) tj_Lam te_s123 := tj_method te_so (d := 7) (by rw [← zx_q_X11_cares]; rfl) (List.forall_mem_cons.mpr ⟨tj_KS1_le (by decide) te_p2, List.forall_mem_cons.mpr ⟨tj_KS1_le (by decide) te_p33, List.forall_mem_cons.mpr ⟨tj_KS1_le (by decide) te_p122, fun _ h => absurd h List.not_mem_nil⟩⟩⟩) (by decide +kernel) (by decide +kernel) te_c123
/-! TwoInOne.chooses -/
def te_s124 : tj_C := (40, [(1, 100, 0), (0, 0, 4294967295), (0, 0, 4294967295)], ([(56, 4), (56, 5), (56, 6), (56, 7)], [54]), [([(1, 100, 0), (0, 2147483648, 2147483651), (0, 2147483647, 2147483657)], some (0, 2147483647, 2147483647), ([], [], [])), ([(1, 100, 0), (0, 0, 4294967295), (0, 0, 4294967295)], some (0, 2147483646, 2147483653), ([], [], []))], ([], [], []))
set_option maxRecDepth 100000 in
theorem te_c124 : tj_chk tj_Lam te_s124.2.2.1 [te_s2, te_s34, te_s121] zx_d_X11_chooses te_s124.2.1 te_s124.2.2.2.1 te_s124.2.2.2.2 [] [] 3000 = true := by decide +kernel
theorem te_p124 : tj_KS1 (zx_Cl zx_mt zx_rc zx_mx' 7) tj_Lam te_s124 := tj_method te_so (d := 6) (by rw [← zx_q_X11_chooses]; rfl) (List.forall_mem_cons.mpr ⟨tj_KS1_le (by decide) te_p2, List.forall_mem_cons.mpr ⟨tj_KS1_le (by decide) te_p34, List.forall_mem_cons.mpr ⟨tj_KS1_le (by decide) te_p121, fun _ h => absurd h List.not_mem_nil⟩⟩⟩) (by decide +kernel) (by decide +kernel) te_c124
/-! Course.carryOut -/
def te_s125 : tj_C := (6, [(1, 56, 0), (0, 2147483648, 2147483648), (0, 2147483647, 2147483653)], ([(56, 4), (56, 5), (56, 6)], [54, 31, 32, 28]), [([(1, 56, 0), (0, 2147483648, 2147483648), (0, 2147483647, 2147483653)], none, ([.inr (0, 6)], [(0, 2147483648, 2147483649)], [(0, .inr 0, .inl 6, .inr 3)]))], ([], [], []))
set_option maxRecDepth 100000 in
theorem te_c125 : tj_chk tj_Lam te_s125.2.2.1 [te_s35, te_s38, te_s43, te_s72] zx_d_X0_carryOut te_s125.2.1 te_s125.2.2.2.1 te_s125.2.2.2.2 [] [] 3000 = true := by decide +kernel
theorem te_p125 : tj_KS1 (zx_Cl zx_mt zx_rc zx_mx' 4) tj_Lam te_s125 := tj_method te_so (d := 3) (by rw [← zx_q_X0_carryOut]; rfl) (List.forall_mem_cons.mpr ⟨tj_KS1_le (by decide) te_p35, List.forall_mem_cons.mpr ⟨tj_KS1_le (by decide) te_p38, List.forall_mem_cons.mpr ⟨tj_KS1_le (by decide) te_p43, List.forall_mem_cons.mpr ⟨tj_KS1_le (by decide) te_p72, fun _ h => absurd h List.not_mem_nil⟩⟩⟩⟩) (by decide +kernel) (by decide +kernel) te_c125
/-! Course.carryOut -/
def te_s126 : tj_C := (6, [(1, 56, 0), (0, 2147483648, 2147483649), (0, 2147483647, 2147483653)], ([(56, 4), (56, 5), (56, 6)], [54, 31, 32, 28]), [([(1, 56, 0), (0, 2147483648, 2147483649), (0, 2147483647, 2147483653)], none, ([.inr (0, 6)], [(0, 2147483648, 2147483649)], [(0, .inr 0, .inl 6, .inr 3)]))], ([], [], []))
set_option maxRecDepth 100000 in
theorem te_c126 : tj_chk tj_Lam te_s126.2.2.1 [te_s35, te_s38, te_s43, te_s72] zx_d_X0_carryOut te_s126.2.1 te_s126.2.2.2.1 te_s126.2.2.2.2 [] [] 3000 = true := by decide +kernel
theorem te_p126 : tj_KS1 (zx_Cl zx_mt zx_rc zx_mx' 4) tj_Lam te_s126 := tj_method te_so (d := 3) (by rw [← zx_q_X0_carryOut]; rfl) (List.forall_mem_cons.mpr ⟨tj_KS1_le (by decide) te_p35, List.forall_mem_cons.mpr ⟨tj_KS1_le (by decide) te_p38, List.forall_mem_cons.mpr ⟨tj_KS1_le (by decide) te_p43, List.forall_mem_cons.mpr ⟨tj_KS1_le (by decide) te_p72, fun _ h => absurd h List.not_mem_nil⟩⟩⟩⟩) (by decide +kernel) (by decide +kernel) te_c126
/-! Course.carryOut -/
def te_s127 : tj_C := (6, [(1, 56, 0), (0, 2147483648, 2147483650), (0, 2147483647, 2147483653)], ([(56, 4), (56, 5), (56, 6)], [54, 31, 32, 28]), [([(1, 56, 0), (0, 2147483648, 2147483650), (0, 2147483647, 2147483653)], none, ([.inr (0, 6)], [(0, 2147483648, 2147483649)], [(0, .inr 0, .inl 6, .inr 3)]))], ([], [], []))
set_option maxRecDepth 100000 in
theorem te_c127 : tj_chk tj_Lam te_s127.2.2.1 [te_s35, te_s38, te_s43, te_s72] zx_d_X0_carryOut te_s127.2.1 te_s127.2.2.2.1 te_s127.2.2.2.2 [] [] 3000 = true := by decide +kernel
theorem te_p127 : tj_KS1 (zx_Cl zx_mt zx_rc zx_mx' 4) tj_Lam te_s127 := tj_method te_so (d := 3) (by rw [← zx_q_X0_carryOut]; rfl) (List.forall_mem_cons.mpr ⟨tj_KS1_le (by decide) te_p35, List.forall_mem_cons.mpr ⟨tj_KS1_le (by decide) te_p38, List.forall_mem_cons.mpr ⟨tj_KS1_le (by decide) te_p43, List.forall_mem_cons.mpr ⟨tj_KS1_le (by decide) te_p72, fun _ h => absurd h List.not_mem_nil⟩⟩⟩⟩) (by decide +kernel) (by decide +kernel) te_c127
/-! Course.carryOut -/
def te_s128 : tj_C := (6, [(1, 56, 0), (0, 2147483648, 2147483651), (0, 2147483647, 2147483653)], ([(56, 4), (56, 5), (56, 6)], [54, 31, 32, 28]), [([(1, 56, 0), (0, 2147483648, 2147483651), (0, 2147483647, 2147483653)], none, ([.inr (0, 6)], [(0, 2147483648, 2147483649)], [(0, .inr 0, .inl 6, .inr 3)]))], ([], [], []))
set_option maxRecDepth 100000 in
theorem te_c128 : tj_chk tj_Lam te_s128.2.2.1 [te_s35, te_s38, te_s43, te_s72] zx_d_X0_carryOut te_s128.2.1 te_s128.2.2.2.1 te_s128.2.2.2.2 [] [] 3000 = true := by decide +kernel
theorem te_p128 : tj_KS1 (zx_Cl zx_mt zx_rc zx_mx' 4) tj_Lam te_s128 := tj_method te_so (d := 3) (by rw [← zx_q_X0_carryOut]; rfl) (List.forall_mem_cons.mpr ⟨tj_KS1_le (by decide) te_p35, List.forall_mem_cons.mpr ⟨tj_KS1_le (by decide) te_p38, List.forall_mem_cons.mpr ⟨tj_KS1_le (by decide) te_p43, List.forall_mem_cons.mpr ⟨tj_KS1_le (by decide) te_p72, fun _ h => absurd h List.not_mem_nil⟩⟩⟩⟩) (by decide +kernel) (by decide +kernel) te_c128
/-! Course.passDay -/
def te_s129 : tj_C := (18, [(1, 56, 0), (0, 2147483647, 2147483647), (0, 2147483647, 2147483647)], ([(56, 4), (56, 5), (56, 6), (56, 7), (33, 0)], [54, 31, 32, 28]), [([(1, 56, 0), (0, 2147483647, 2147483647), (0, 2147483647, 2147483647)], none, ([], [], []))], ([], [], []))
set_option maxRecDepth 100000 in
theorem te_c129 : tj_chk tj_Lam te_s129.2.2.1 [te_s34, te_s121, te_s125, te_s126, te_s127, te_s128] zx_d_X0_passDay te_s129.2.1 te_s129.2.2.2.1 te_s129.2.2.2.2 [((2, [(0, .inr 0), (1, .inr 1), (2, .inr 2), (3, .inr 3)], [], [(1, 56, 0), (0, 2147483647, 2147483647), (0, 2147483647, 2147483647), (0, 2147483648, 2147483652)], []), [.inl 3], [(0, 0), (1, 3), (0, 0)])] [2] 3000 = true := by decide +kernel
theorem te_p129 : tj_KS1 (zx_Cl zx_mt zx_rc zx_mx' 7) tj_Lam te_s129 := tj_method te_so (d := 6) (by rw [← zx_q_X0_passDay]; rfl) (List.forall_mem_cons.mpr ⟨tj_KS1_le (by decide) te_p34, List.forall_mem_cons.mpr ⟨tj_KS1_le (by decide) te_p121, List.forall_mem_cons.mpr ⟨tj_KS1_le (by decide) te_p125, List.forall_mem_cons.mpr ⟨tj_KS1_le (by decide) te_p126, List.forall_mem_cons.mpr ⟨tj_KS1_le (by decide) te_p127, List.forall_mem_cons.mpr ⟨tj_KS1_le (by decide) te_p128, fun _ h => absurd h List.not_mem_nil⟩⟩⟩⟩⟩⟩) (by decide +kernel) (by decide +kernel) te_c129
/-! TwoInOne.canDo -/
def te_s130 : tj_C := (38, [(1, 100, 0), (0, 0, 4294967295), (0, 0, 4294967295)], ([], []), [([(1, 100, 0), (0, 0, 4294967295), (0, 0, 4294967295)], some (0, 2147483648, 2147483648), ([], [], [])), ([(1, 100, 0), (0, 2147483648, 2147483651), (0, 2147483648, 2147483653)], some (0, 2147483649, 2147483649), ([], [], []))], ([], [], []))
set_option maxRecDepth 100000 in
theorem te_c130 : tj_chk tj_Lam te_s130.2.2.1 [te_s2, te_s34, te_s38] zx_d_X11_canDo te_s130.2.1 te_s130.2.2.2.1 te_s130.2.2.2.2 [] [] 3000 = true := by decide +kernel
theorem te_p130 : tj_KS1 (zx_Cl zx_mt zx_rc zx_mx' 3) tj_Lam te_s130 := tj_method te_so (d := 2) (by rw [← zx_q_X11_canDo]; rfl) (List.forall_mem_cons.mpr ⟨tj_KS1_le (by decide) te_p2, List.forall_mem_cons.mpr ⟨tj_KS1_le (by decide) te_p34, List.forall_mem_cons.mpr ⟨tj_KS1_le (by decide) te_p38, fun _ h => absurd h List.not_mem_nil⟩⟩⟩) (by decide +kernel) (by decide +kernel) te_c130
/-! Course.passDay -/
def te_s131 : tj_C := (18, [(1, 56, 0), (0, 2147483648, 2147483651), (0, 2147483648, 2147483653)], ([(56, 4), (56, 5), (56, 6), (56, 7), (33, 0)], [54, 31, 32, 28]), [([(1, 56, 0), (0, 2147483648, 2147483651), (0, 2147483648, 2147483653)], none, ([], [], []))], ([], [], []))
set_option maxRecDepth 100000 in
theorem te_c131 : tj_chk tj_Lam te_s131.2.2.1 [te_s34, te_s121, te_s125, te_s126, te_s127, te_s128] zx_d_X0_passDay te_s131.2.1 te_s131.2.2.2.1 te_s131.2.2.2.2 [((2, [(0, .inr 0), (1, .inr 1), (2, .inr 2), (3, .inr 3)], [], [(1, 56, 0), (0, 2147483648, 2147483651), (0, 2147483648, 2147483653), (0, 2147483648, 2147483652)], []), [.inl 3], [(0, 0), (1, 3), (0, 0)])] [2] 3000 = true := by decide +kernel
theorem te_p131 : tj_KS1 (zx_Cl zx_mt zx_rc zx_mx' 7) tj_Lam te_s131 := tj_method te_so (d := 6) (by rw [← zx_q_X0_passDay]; rfl) (List.forall_mem_cons.mpr ⟨tj_KS1_le (by decide) te_p34, List.forall_mem_cons.mpr ⟨tj_KS1_le (by decide) te_p121, List.forall_mem_cons.mpr ⟨tj_KS1_le (by decide) te_p125, List.forall_mem_cons.mpr ⟨tj_KS1_le (by decide) te_p126, List.forall_mem_cons.mpr ⟨tj_KS1_le (by decide) te_p127, List.forall_mem_cons.mpr ⟨tj_KS1_le (by decide) te_p128, fun _ h => absurd h List.not_mem_nil⟩⟩⟩⟩⟩⟩) (by decide +kernel) (by decide +kernel) te_c131
/-! java/util/Arrays.fill -/
def te_s132 : tj_C := (1, [(1, 55, 0), (0, 2147483648, 2147483648)], ([], [55]), [([(1, 55, 0), (0, 2147483648, 2147483648)], none, ([], [], []))], ([], [], []))
set_option maxRecDepth 100000 in
theorem te_c132 : tj_chk tj_Lam te_s132.2.2.1 [] zx_d_J7_fill_53178 te_s132.2.1 te_s132.2.2.2.1 te_s132.2.2.2.2 [((5, [(0, .inr 0), (1, .inr 1), (2, .inr 2), (3, .inr 3)], [], [(1, 55, 0), (0, 2147483648, 2147483648), (0, 2147483648, 2147483651), (0, 2147483651, 2147483651)], []), [.inl 2, .inl 3], [(0, 0), (1, 2), (0, 0)])] [5] 3000 = true := by decide +kernel
theorem te_p132 : tj_KS1 (zx_Cl zx_mt zx_rc zx_mx' 1) tj_Lam te_s132 := tj_method te_so (d := 0) (by rw [← zx_q_J7_fill_53178]; rfl) (fun _ h => absurd h List.not_mem_nil) (by decide +kernel) (by decide +kernel) te_c132
/-! Course.winner -/
def te_s133 : tj_C := (22, [(1, 56, 0)], ([], []), [([(1, 56, 0)], some (0, 2147483647, 2147483650), ([], [], []))], ([], [], []))
set_option maxRecDepth 100000 in
theorem te_c133 : tj_chk tj_Lam te_s133.2.2.1 [] zx_d_X0_winner te_s133.2.1 te_s133.2.2.2.1 te_s133.2.2.2.2 [((6, [(0, .inr 0), (1, .inr 1), (2, .inr 2), (3, .inr 3)], [], [(1, 56, 0), (0, 2147483647, 2147483650), (0, 2147483648, 4294967295), (0, 2147483648, 2147483651)], []), [.inl 1, .inl 2, .inl 3], [(0, 0), (1, 3), (0, 0)])] [6] 3000 = true := by decide +kernel
theorem te_p133 : tj_KS1 (zx_Cl zx_mt zx_rc zx_mx' 1) tj_Lam te_s133 := tj_method te_so (d := 0) (by rw [← zx_q_X0_winner]; rfl) (fun _ h => absurd h List.not_mem_nil) (by decide +kernel) (by decide +kernel) te_c133
/-! Course.addVote -/
def te_s134 : tj_C := (5, [(1, 56, 0), (0, 2147483647, 2147483647)], ([], []), [([(1, 56, 0), (0, 2147483647, 2147483647)], none, ([], [], []))], ([], [], []))
set_option maxRecDepth 100000 in
theorem te_c134 : tj_chk tj_Lam te_s134.2.2.1 [te_s4] zx_d_X0_addVote te_s134.2.1 te_s134.2.2.2.1 te_s134.2.2.2.2 [] [] 3000 = true := by decide +kernel
theorem te_p134 : tj_KS1 (zx_Cl zx_mt zx_rc zx_mx' 2) tj_Lam te_s134 := tj_method te_so (d := 1) (by rw [← zx_q_X0_addVote]; rfl) (List.forall_mem_cons.mpr ⟨tj_KS1_le (by decide) te_p4, fun _ h => absurd h List.not_mem_nil⟩) (by decide +kernel) (by decide +kernel) te_c134
/-! Told.favoured -/
def te_s135 : tj_C := (26, [(1, 13, 0), (0, 2147483648, 2147483655)], ([], []), [([(1, 13, 0), (0, 2147483648, 2147483655)], some (0, 2147483648, 4294967295), ([], [], []))], ([], [], []))
set_option maxRecDepth 100000 in
theorem te_c135 : tj_chk tj_Lam te_s135.2.2.1 [] zx_d_X10_favoured te_s135.2.1 te_s135.2.2.2.1 te_s135.2.2.2.2 [] [] 3000 = true := by decide +kernel
theorem te_p135 : tj_KS1 (zx_Cl zx_mt zx_rc zx_mx' 1) tj_Lam te_s135 := tj_method te_so (d := 0) (by rw [← zx_q_X10_favoured]; rfl) (fun _ h => absurd h List.not_mem_nil) (by decide +kernel) (by decide +kernel) te_c135
/-! Course.addVote -/
def te_s136 : tj_C := (5, [(1, 56, 0), (0, 2147483648, 2147483655)], ([], [55]), [([(1, 56, 0), (0, 2147483648, 2147483655)], none, ([], [], []))], ([], [], []))
set_option maxRecDepth 100000 in
theorem te_c136 : tj_chk tj_Lam te_s136.2.2.1 [te_s4, te_s135] zx_d_X0_addVote te_s136.2.1 te_s136.2.2.2.1 te_s136.2.2.2.2 [] [] 3000 = true := by decide +kernel
theorem te_p136 : tj_KS1 (zx_Cl zx_mt zx_rc zx_mx' 2) tj_Lam te_s136 := tj_method te_so (d := 1) (by rw [← zx_q_X0_addVote]; rfl) (List.forall_mem_cons.mpr ⟨tj_KS1_le (by decide) te_p4, List.forall_mem_cons.mpr ⟨tj_KS1_le (by decide) te_p135, fun _ h => absurd h List.not_mem_nil⟩⟩) (by decide +kernel) (by decide +kernel) te_c136
/-! Course.winnerOn -/
def te_s137 : tj_C := (23, [(1, 56, 0), (0, 2147483648, 2147484647)], ([], [55]), [([(1, 56, 0), (0, 2147483648, 2147484647)], some (0, 2147483647, 2147483650), ([], [], []))], ([], [], []))
set_option maxRecDepth 100000 in
theorem te_c137 : tj_chk tj_Lam te_s137.2.2.1 [te_s34, te_s132, te_s133, te_s134, te_s136] zx_d_X0_winnerOn te_s137.2.1 te_s137.2.2.2.1 te_s137.2.2.2.2 [((10, [(0, .inr 0), (1, .inr 1), (2, .inr 2)], [], [(1, 56, 0), (0, 2147483648, 2147484647), (0, 2147483648, 2147483652), (1, 55, 0)], [(0, .inr 0, .inl 3, .inr 3)]), [.inl 2, .inr (0, 3)], [(0, 0), (1, 2), (0, 0)])] [10] 3000 = true := by decide +kernel
theorem te_p137 : tj_KS1 (zx_Cl zx_mt zx_rc zx_mx' 3) tj_Lam te_s137 := tj_method te_so (d := 2) (by rw [← zx_q_X0_winnerOn]; rfl) (List.forall_mem_cons.mpr ⟨tj_KS1_le (by decide) te_p34, List.forall_mem_cons.mpr ⟨tj_KS1_le (by decide) te_p132, List.forall_mem_cons.mpr ⟨tj_KS1_le (by decide) te_p133, List.forall_mem_cons.mpr ⟨tj_KS1_le (by decide) te_p134, List.forall_mem_cons.mpr ⟨tj_KS1_le (by decide) te_p136, fun _ h => absurd h List.not_mem_nil⟩⟩⟩⟩⟩) (by decide +kernel) (by decide +kernel) te_c137
/-! TwoInOne.elected -/
def te_s138 : tj_C := (45, [(1, 100, 0), (0, 0, 4294967295)], ([], [55]), [([(1, 100, 0), (0, 0, 4294967295)], some (0, 2147483647, 2147483647), ([], [], [])), ([(1, 100, 0), (0, 2147483648, 2147484647)], some (0, 2147483647, 2147483650), ([], [], []))], ([], [], []))
set_option maxRecDepth 100000 in
theorem te_c138 : tj_chk tj_Lam te_s138.2.2.1 [te_s137] zx_d_X11_elected te_s138.2.1 te_s138.2.2.2.1 te_s138.2.2.2.2 [] [] 3000 = true := by decide +kernel
theorem te_p138 : tj_KS1 (zx_Cl zx_mt zx_rc zx_mx' 4) tj_Lam te_s138 := tj_method te_so (d := 3) (by rw [← zx_q_X11_elected]; rfl) (List.forall_mem_cons.mpr ⟨tj_KS1_le (by decide) te_p137, fun _ h => absurd h List.not_mem_nil⟩) (by decide +kernel) (by decide +kernel) te_c138
/-! TwoInOne.end -/
def te_s139 : tj_C := (46, [(1, 100, 0), (0, 0, 4294967295)], ([(100, 1)], []), [([(1, 100, 0), (0, 0, 4294967295)], some (0, 2147483647, 2147483647), ([], [], [])), ([(1, 100, 0), (0, 2147483648, 2147485248)], some (0, 2147483648, 2147485248), ([], [], []))], ([], [], []))
set_option maxRecDepth 100000 in
theorem te_c139 : tj_chk tj_Lam te_s139.2.2.1 [] zx_d_X11_end te_s139.2.1 te_s139.2.2.2.1 te_s139.2.2.2.2 [] [] 3000 = true := by decide +kernel
theorem te_p139 : tj_KS1 (zx_Cl zx_mt zx_rc zx_mx' 1) tj_Lam te_s139 := tj_method te_so (d := 0) (by rw [← zx_q_X11_end]; rfl) (fun _ h => absurd h List.not_mem_nil) (by decide +kernel) (by decide +kernel) te_c139
/-! Told.hasPlace -/
def te_s140 : tj_C := (30, [(1, 13, 0), (0, 2147483648, 2147483651), (0, 0, 4294967295)], ([], []), [([(1, 13, 0), (0, 2147483648, 2147483651), (0, 0, 4294967295)], some (0, 2147483648, 2147483648), ([], [], [])), ([(1, 13, 0), (0, 2147483648, 2147483651), (0, 2147483648, 2147483661)], some (0, 2147483649, 2147483649), ([], [], []))], ([], [], []))
set_option maxRecDepth 100000 in
theorem te_c140 : tj_chk tj_Lam te_s140.2.2.1 [] zx_d_X10_hasPlace te_s140.2.1 te_s140.2.2.2.1 te_s140.2.2.2.2 [] [] 3000 = true := by decide +kernel
theorem te_p140 : tj_KS1 (zx_Cl zx_mt zx_rc zx_mx' 1) tj_Lam te_s140 := tj_method te_so (d := 0) (by rw [← zx_q_X10_hasPlace]; rfl) (fun _ h => absurd h List.not_mem_nil) (by decide +kernel) (by decide +kernel) te_c140
/-! State.exchangePlaces -/
def te_s141 : tj_C := (326, [(1, 33, 0), (0, 2147483648, 2147483651), (0, 2147483648, 2147483661), (0, 2147483648, 2147483661)], ([], [29]), [([(1, 33, 0), (0, 2147483648, 2147483651), (0, 2147483648, 2147483661), (0, 2147483648, 2147483661)], none, ([], [], []))], ([], [], []))
set_option maxRecDepth 100000 in
theorem te_c141 : tj_chk tj_Lam te_s141.2.2.1 [] zx_d_X8_exchangePlaces te_s141.2.1 te_s141.2.2.2.1 te_s141.2.2.2.2 [] [] 3000 = true := by decide +kernel
theorem te_p141 : tj_KS1 (zx_Cl zx_mt zx_rc zx_mx' 1) tj_Lam te_s141 := tj_method te_so (d := 0) (by rw [← zx_q_X8_exchangePlaces]; rfl) (fun _ h => absurd h List.not_mem_nil) (by decide +kernel) (by decide +kernel) te_c141
/-! java/util/Arrays.fill -/
def te_s142 : tj_C := (1, [(1, 62, 0), (0, 2147483646, 2147483646)], ([], [62]), [([(1, 62, 0), (0, 2147483646, 2147483646)], none, ([], [], []))], ([], [], []))
set_option maxRecDepth 100000 in
theorem te_c142 : tj_chk tj_Lam te_s142.2.2.1 [] zx_d_J7_fill_53178 te_s142.2.1 te_s142.2.2.2.1 te_s142.2.2.2.2 [((5, [(0, .inr 0), (1, .inr 1), (2, .inr 2), (3, .inr 3)], [], [(1, 62, 0), (0, 2147483646, 2147483646), (0, 2147483648, 2147483656), (0, 2147483656, 2147483656)], []), [.inl 2, .inl 3], [(0, 0), (1, 2), (0, 0)])] [5] 3000 = true := by decide +kernel
theorem te_p142 : tj_KS1 (zx_Cl zx_mt zx_rc zx_mx' 1) tj_Lam te_s142 := tj_method te_so (d := 0) (by rw [← zx_q_J7_fill_53178]; rfl) (fun _ h => absurd h List.not_mem_nil) (by decide +kernel) (by decide +kernel) te_c142
/-! Told.liked -/
def te_s143 : tj_C := (33, [(1, 13, 0), (0, 2147483648, 2147483648), (0, 2147483649, 2147483649)], ([], []), [([(1, 13, 0), (0, 2147483648, 2147483648), (0, 2147483649, 2147483649)], some (0, 2147483648, 4294967295), ([], [], []))], ([], [], []))
set_option maxRecDepth 100000 in
theorem te_c143 : tj_chk tj_Lam te_s143.2.2.1 [] zx_d_X10_liked te_s143.2.1 te_s143.2.2.2.1 te_s143.2.2.2.2 [] [] 3000 = true := by decide +kernel
theorem te_p143 : tj_KS1 (zx_Cl zx_mt zx_rc zx_mx' 1) tj_Lam te_s143 := tj_method te_so (d := 0) (by rw [← zx_q_X10_liked]; rfl) (fun _ h => absurd h List.not_mem_nil) (by decide +kernel) (by decide +kernel) te_c143
/-! Told.liked -/
def te_s144 : tj_C := (33, [(1, 13, 0), (0, 2147483648, 2147483648), (0, 2147483648, 2147483655)], ([], []), [([(1, 13, 0), (0, 2147483648, 2147483648), (0, 2147483648, 2147483655)], some (0, 2147483648, 4294967295), ([], [], []))], ([], [], []))
set_option maxRecDepth 100000 in
theorem te_c144 : tj_chk tj_Lam te_s144.2.2.1 [] zx_d_X10_liked te_s144.2.1 te_s144.2.2.2.1 te_s144.2.2.2.2 [] [] 3000 = true := by decide +kernel
theorem te_p144 : tj_KS1 (zx_Cl zx_mt zx_rc zx_mx' 1) tj_Lam te_s144 := tj_method te_so (d := 0) (by rw [← zx_q_X10_liked]; rfl) (fun _ h => absurd h List.not_mem_nil) (by decide +kernel) (by decide +kernel) te_c144
/-! Pairings.likesHis -/
def te_s145 : tj_C := (248, [(1, 65, 0), (0, 2147483648, 2147483648)], ([], []), [([(1, 65, 0), (0, 2147483648, 2147483648)], some (0, 2147483647, 2147483647), ([], [], [])), ([(1, 65, 0), (0, 2147483648, 2147483648)], some (0, 2147483648, 4294967295), ([], [], []))], ([], [], []))
set_option maxRecDepth 100000 in
theorem te_c145 : tj_chk tj_Lam te_s145.2.2.1 [te_s4, te_s144] zx_d_X3_likesHis te_s145.2.1 te_s145.2.2.2.1 te_s145.2.2.2.2 [] [] 3000 = true := by decide +kernel
theorem te_p145 : tj_KS1 (zx_Cl zx_mt zx_rc zx_mx' 2) tj_Lam te_s145 := tj_method te_so (d := 1) (by rw [← zx_q_X3_likesHis]; rfl) (List.forall_mem_cons.mpr ⟨tj_KS1_le (by decide) te_p4, List.forall_mem_cons.mpr ⟨tj_KS1_le (by decide) te_p144, fun _ h => absurd h List.not_mem_nil⟩⟩) (by decide +kernel) (by decide +kernel) te_c145
/-! Told.liked -/
def te_s146 : tj_C := (33, [(1, 13, 0), (0, 2147483649, 2147483649), (0, 2147483648, 2147483648)], ([], []), [([(1, 13, 0), (0, 2147483649, 2147483649), (0, 2147483648, 2147483648)], some (0, 2147483648, 4294967295), ([], [], []))], ([], [], []))
set_option maxRecDepth 100000 in
theorem te_c146 : tj_chk tj_Lam te_s146.2.2.1 [] zx_d_X10_liked te_s146.2.1 te_s146.2.2.2.1 te_s146.2.2.2.2 [] [] 3000 = true := by decide +kernel
theorem te_p146 : tj_KS1 (zx_Cl zx_mt zx_rc zx_mx' 1) tj_Lam te_s146 := tj_method te_so (d := 0) (by rw [← zx_q_X10_liked]; rfl) (fun _ h => absurd h List.not_mem_nil) (by decide +kernel) (by decide +kernel) te_c146
/-! Told.liked -/
def te_s147 : tj_C := (33, [(1, 13, 0), (0, 2147483649, 2147483649), (0, 2147483648, 2147483655)], ([], []), [([(1, 13, 0), (0, 2147483649, 2147483649), (0, 2147483648, 2147483655)], some (0, 2147483648, 4294967295), ([], [], []))], ([], [], []))
set_option maxRecDepth 100000 in
theorem te_c147 : tj_chk tj_Lam te_s147.2.2.1 [] zx_d_X10_liked te_s147.2.1 te_s147.2.2.2.1 te_s147.2.2.2.2 [] [] 3000 = true := by decide +kernel
theorem te_p147 : tj_KS1 (zx_Cl zx_mt zx_rc zx_mx' 1) tj_Lam te_s147 := tj_method te_so (d := 0) (by rw [← zx_q_X10_liked]; rfl) (fun _ h => absurd h List.not_mem_nil) (by decide +kernel) (by decide +kernel) te_c147
/-! Pairings.likesHis -/
def te_s148 : tj_C := (248, [(1, 65, 0), (0, 2147483649, 2147483649)], ([], []), [([(1, 65, 0), (0, 2147483649, 2147483649)], some (0, 2147483647, 2147483647), ([], [], [])), ([(1, 65, 0), (0, 2147483649, 2147483649)], some (0, 2147483648, 4294967295), ([], [], []))], ([], [], []))
set_option maxRecDepth 100000 in
theorem te_c148 : tj_chk tj_Lam te_s148.2.2.1 [te_s4, te_s147] zx_d_X3_likesHis te_s148.2.1 te_s148.2.2.2.1 te_s148.2.2.2.2 [] [] 3000 = true := by decide +kernel
theorem te_p148 : tj_KS1 (zx_Cl zx_mt zx_rc zx_mx' 2) tj_Lam te_s148 := tj_method te_so (d := 1) (by rw [← zx_q_X3_likesHis]; rfl) (List.forall_mem_cons.mpr ⟨tj_KS1_le (by decide) te_p4, List.forall_mem_cons.mpr ⟨tj_KS1_le (by decide) te_p147, fun _ h => absurd h List.not_mem_nil⟩⟩) (by decide +kernel) (by decide +kernel) te_c148
/-! Told.liked -/
def te_s149 : tj_C := (33, [(1, 13, 0), (0, 2147483648, 2147483649), (0, 2147483649, 2147483650)], ([], []), [([(1, 13, 0), (0, 2147483648, 2147483649), (0, 2147483649, 2147483650)], some (0, 2147483648, 4294967295), ([], [], []))], ([], [], []))
set_option maxRecDepth 100000 in
theorem te_c149 : tj_chk tj_Lam te_s149.2.2.1 [] zx_d_X10_liked te_s149.2.1 te_s149.2.2.2.1 te_s149.2.2.2.2 [] [] 3000 = true := by decide +kernel
theorem te_p149 : tj_KS1 (zx_Cl zx_mt zx_rc zx_mx' 1) tj_Lam te_s149 := tj_method te_so (d := 0) (by rw [← zx_q_X10_liked]; rfl) (fun _ h => absurd h List.not_mem_nil) (by decide +kernel) (by decide +kernel) te_c149
/-! Told.liked -/
def te_s150 : tj_C := (33, [(1, 13, 0), (0, 2147483648, 2147483649), (0, 2147483648, 2147483655)], ([], []), [([(1, 13, 0), (0, 2147483648, 2147483649), (0, 2147483648, 2147483655)], some (0, 2147483648, 4294967295), ([], [], []))], ([], [], []))
set_option maxRecDepth 100000 in
theorem te_c150 : tj_chk tj_Lam te_s150.2.2.1 [] zx_d_X10_liked te_s150.2.1 te_s150.2.2.2.1 te_s150.2.2.2.2 [] [] 3000 = true := by decide +kernel
theorem te_p150 : tj_KS1 (zx_Cl zx_mt zx_rc zx_mx' 1) tj_Lam te_s150 := tj_method te_so (d := 0) (by rw [← zx_q_X10_liked]; rfl) (fun _ h => absurd h List.not_mem_nil) (by decide +kernel) (by decide +kernel) te_c150
/-! Pairings.likesHis -/
def te_s151 : tj_C := (248, [(1, 65, 0), (0, 2147483648, 2147483649)], ([], []), [([(1, 65, 0), (0, 2147483648, 2147483649)], some (0, 2147483647, 2147483647), ([], [], [])), ([(1, 65, 0), (0, 2147483648, 2147483649)], some (0, 2147483648, 4294967295), ([], [], []))], ([], [], []))
set_option maxRecDepth 100000 in
theorem te_c151 : tj_chk tj_Lam te_s151.2.2.1 [te_s4, te_s150] zx_d_X3_likesHis te_s151.2.1 te_s151.2.2.2.1 te_s151.2.2.2.2 [] [] 3000 = true := by decide +kernel
theorem te_p151 : tj_KS1 (zx_Cl zx_mt zx_rc zx_mx' 2) tj_Lam te_s151 := tj_method te_so (d := 1) (by rw [← zx_q_X3_likesHis]; rfl) (List.forall_mem_cons.mpr ⟨tj_KS1_le (by decide) te_p4, List.forall_mem_cons.mpr ⟨tj_KS1_le (by decide) te_p150, fun _ h => absurd h List.not_mem_nil⟩⟩) (by decide +kernel) (by decide +kernel) te_c151
/-! Told.liked -/
def te_s152 : tj_C := (33, [(1, 13, 0), (0, 2147483649, 2147483650), (0, 2147483648, 2147483649)], ([], []), [([(1, 13, 0), (0, 2147483649, 2147483650), (0, 2147483648, 2147483649)], some (0, 2147483648, 4294967295), ([], [], []))], ([], [], []))
set_option maxRecDepth 100000 in
theorem te_c152 : tj_chk tj_Lam te_s152.2.2.1 [] zx_d_X10_liked te_s152.2.1 te_s152.2.2.2.1 te_s152.2.2.2.2 [] [] 3000 = true := by decide +kernel
theorem te_p152 : tj_KS1 (zx_Cl zx_mt zx_rc zx_mx' 1) tj_Lam te_s152 := tj_method te_so (d := 0) (by rw [← zx_q_X10_liked]; rfl) (fun _ h => absurd h List.not_mem_nil) (by decide +kernel) (by decide +kernel) te_c152
/-! Told.liked -/
def te_s153 : tj_C := (33, [(1, 13, 0), (0, 2147483649, 2147483650), (0, 2147483648, 2147483655)], ([], []), [([(1, 13, 0), (0, 2147483649, 2147483650), (0, 2147483648, 2147483655)], some (0, 2147483648, 4294967295), ([], [], []))], ([], [], []))
set_option maxRecDepth 100000 in
theorem te_c153 : tj_chk tj_Lam te_s153.2.2.1 [] zx_d_X10_liked te_s153.2.1 te_s153.2.2.2.1 te_s153.2.2.2.2 [] [] 3000 = true := by decide +kernel
theorem te_p153 : tj_KS1 (zx_Cl zx_mt zx_rc zx_mx' 1) tj_Lam te_s153 := tj_method te_so (d := 0) (by rw [← zx_q_X10_liked]; rfl) (fun _ h => absurd h List.not_mem_nil) (by decide +kernel) (by decide +kernel) te_c153
/-! Pairings.likesHis -/
def te_s154 : tj_C := (248, [(1, 65, 0), (0, 2147483649, 2147483650)], ([], []), [([(1, 65, 0), (0, 2147483649, 2147483650)], some (0, 2147483647, 2147483647), ([], [], [])), ([(1, 65, 0), (0, 2147483649, 2147483650)], some (0, 2147483648, 4294967295), ([], [], []))], ([], [], []))
set_option maxRecDepth 100000 in
theorem te_c154 : tj_chk tj_Lam te_s154.2.2.1 [te_s4, te_s153] zx_d_X3_likesHis te_s154.2.1 te_s154.2.2.2.1 te_s154.2.2.2.2 [] [] 3000 = true := by decide +kernel
theorem te_p154 : tj_KS1 (zx_Cl zx_mt zx_rc zx_mx' 2) tj_Lam te_s154 := tj_method te_so (d := 1) (by rw [← zx_q_X3_likesHis]; rfl) (List.forall_mem_cons.mpr ⟨tj_KS1_le (by decide) te_p4, List.forall_mem_cons.mpr ⟨tj_KS1_le (by decide) te_p153, fun _ h => absurd h List.not_mem_nil⟩⟩) (by decide +kernel) (by decide +kernel) te_c154
/-! Told.liked -/
def te_s155 : tj_C := (33, [(1, 13, 0), (0, 2147483648, 2147483650), (0, 2147483649, 2147483651)], ([], []), [([(1, 13, 0), (0, 2147483648, 2147483650), (0, 2147483649, 2147483651)], some (0, 2147483648, 4294967295), ([], [], []))], ([], [], []))
set_option maxRecDepth 100000 in
theorem te_c155 : tj_chk tj_Lam te_s155.2.2.1 [] zx_d_X10_liked te_s155.2.1 te_s155.2.2.2.1 te_s155.2.2.2.2 [] [] 3000 = true := by decide +kernel
theorem te_p155 : tj_KS1 (zx_Cl zx_mt zx_rc zx_mx' 1) tj_Lam te_s155 := tj_method te_so (d := 0) (by rw [← zx_q_X10_liked]; rfl) (fun _ h => absurd h List.not_mem_nil) (by decide +kernel) (by decide +kernel) te_c155
/-! Told.liked -/
def te_s156 : tj_C := (33, [(1, 13, 0), (0, 2147483648, 2147483650), (0, 2147483648, 2147483655)], ([], []), [([(1, 13, 0), (0, 2147483648, 2147483650), (0, 2147483648, 2147483655)], some (0, 2147483648, 4294967295), ([], [], []))], ([], [], []))
set_option maxRecDepth 100000 in
theorem te_c156 : tj_chk tj_Lam te_s156.2.2.1 [] zx_d_X10_liked te_s156.2.1 te_s156.2.2.2.1 te_s156.2.2.2.2 [] [] 3000 = true := by decide +kernel
theorem te_p156 : tj_KS1 (zx_Cl zx_mt zx_rc zx_mx' 1) tj_Lam te_s156 := tj_method te_so (d := 0) (by rw [← zx_q_X10_liked]; rfl) (fun _ h => absurd h List.not_mem_nil) (by decide +kernel) (by decide +kernel) te_c156
/-! Pairings.likesHis -/
def te_s157 : tj_C := (248, [(1, 65, 0), (0, 2147483648, 2147483650)], ([], []), [([(1, 65, 0), (0, 2147483648, 2147483650)], some (0, 2147483647, 2147483647), ([], [], [])), ([(1, 65, 0), (0, 2147483648, 2147483650)], some (0, 2147483648, 4294967295), ([], [], []))], ([], [], []))
set_option maxRecDepth 100000 in
theorem te_c157 : tj_chk tj_Lam te_s157.2.2.1 [te_s4, te_s156] zx_d_X3_likesHis te_s157.2.1 te_s157.2.2.2.1 te_s157.2.2.2.2 [] [] 3000 = true := by decide +kernel
theorem te_p157 : tj_KS1 (zx_Cl zx_mt zx_rc zx_mx' 2) tj_Lam te_s157 := tj_method te_so (d := 1) (by rw [← zx_q_X3_likesHis]; rfl) (List.forall_mem_cons.mpr ⟨tj_KS1_le (by decide) te_p4, List.forall_mem_cons.mpr ⟨tj_KS1_le (by decide) te_p156, fun _ h => absurd h List.not_mem_nil⟩⟩) (by decide +kernel) (by decide +kernel) te_c157
/-! Told.liked -/
def te_s158 : tj_C := (33, [(1, 13, 0), (0, 2147483649, 2147483651), (0, 2147483648, 2147483650)], ([], []), [([(1, 13, 0), (0, 2147483649, 2147483651), (0, 2147483648, 2147483650)], some (0, 2147483648, 4294967295), ([], [], []))], ([], [], []))
set_option maxRecDepth 100000 in
theorem te_c158 : tj_chk tj_Lam te_s158.2.2.1 [] zx_d_X10_liked te_s158.2.1 te_s158.2.2.2.1 te_s158.2.2.2.2 [] [] 3000 = true := by decide +kernel
theorem te_p158 : tj_KS1 (zx_Cl zx_mt zx_rc zx_mx' 1) tj_Lam te_s158 := tj_method te_so (d := 0) (by rw [← zx_q_X10_liked]; rfl) (fun _ h => absurd h List.not_mem_nil) (by decide +kernel) (by decide +kernel) te_c158
/-! Told.liked -/
def te_s159 : tj_C := (33, [(1, 13, 0), (0, 2147483649, 2147483651), (0, 2147483648, 2147483655)], ([], []), [([(1, 13, 0), (0, 2147483649, 2147483651), (0, 2147483648, 2147483655)], some (0, 2147483648, 4294967295), ([], [], []))], ([], [], []))
set_option maxRecDepth 100000 in
theorem te_c159 : tj_chk tj_Lam te_s159.2.2.1 [] zx_d_X10_liked te_s159.2.1 te_s159.2.2.2.1 te_s159.2.2.2.2 [] [] 3000 = true := by decide +kernel
theorem te_p159 : tj_KS1 (zx_Cl zx_mt zx_rc zx_mx' 1) tj_Lam te_s159 := tj_method te_so (d := 0) (by rw [← zx_q_X10_liked]; rfl) (fun _ h => absurd h List.not_mem_nil) (by decide +kernel) (by decide +kernel) te_c159
