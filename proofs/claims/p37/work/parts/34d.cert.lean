/-! TwoInOne.cares -/
def te_s68 : tj_C := (39, [(1, 100, 0), (0, 0, 4294967295), (0, 0, 4294967295)], ([(56, 4), (56, 5), (56, 6), (56, 7)], [54]), [([(1, 100, 0), (0, 2147483648, 2147483651), (0, 2147483649, 2147483668)], some (0, 2147483647, 2147483647), [], []), ([(1, 100, 0), (0, 0, 4294967295), (0, 0, 4294967295)], some (0, 2147483646, 2147483657), [], [])], ([], [], []))
set_option maxRecDepth 100000 in
theorem te_c68 : tj_chk tj_Lam te_s68.2.2.1 [te_s2, te_s25, te_s67] zx_d_X11_cares te_s68.2.1 te_s68.2.2.2.1 te_s68.2.2.2.2 [] [] 3000 = true := by decide +kernel
theorem te_p68 : tj_KS1 (zx_Cl zx_mt zx_rc zx_mx' 8) tj_Lam te_s68 := tj_method te_so (d := 7) (by rw [← zx_q_X11_cares]; rfl) (List.forall_mem_cons.mpr ⟨tj_KS1_le (by decide) te_p2, List.forall_mem_cons.mpr ⟨tj_KS1_le (by decide) te_p25, List.forall_mem_cons.mpr ⟨tj_KS1_le (by decide) te_p67, fun _ h => absurd h List.not_mem_nil⟩⟩⟩) (by decide +kernel) (by decide +kernel) te_c68
/-! TwoInOne.chooses -/
def te_s69 : tj_C := (40, [(1, 100, 0), (0, 0, 4294967295), (0, 0, 4294967295)], ([(56, 4), (56, 5), (56, 6), (56, 7)], [54]), [([(1, 100, 0), (0, 2147483648, 2147483651), (0, 2147483647, 2147483657)], some (0, 2147483647, 2147483647), [], []), ([(1, 100, 0), (0, 0, 4294967295), (0, 0, 4294967295)], some (0, 2147483646, 2147483653), [], [])], ([], [], []))
set_option maxRecDepth 100000 in
theorem te_c69 : tj_chk tj_Lam te_s69.2.2.1 [te_s2, te_s26, te_s65] zx_d_X11_chooses te_s69.2.1 te_s69.2.2.2.1 te_s69.2.2.2.2 [] [] 3000 = true := by decide +kernel
theorem te_p69 : tj_KS1 (zx_Cl zx_mt zx_rc zx_mx' 7) tj_Lam te_s69 := tj_method te_so (d := 6) (by rw [← zx_q_X11_chooses]; rfl) (List.forall_mem_cons.mpr ⟨tj_KS1_le (by decide) te_p2, List.forall_mem_cons.mpr ⟨tj_KS1_le (by decide) te_p26, List.forall_mem_cons.mpr ⟨tj_KS1_le (by decide) te_p65, fun _ h => absurd h List.not_mem_nil⟩⟩⟩) (by decide +kernel) (by decide +kernel) te_c69
/-! Course.carryOut -/
def te_s70 : tj_C := (6, [(1, 56, 0), (0, 2147483648, 2147483648), (0, 2147483647, 2147483653)], ([(56, 4), (56, 5), (56, 6)], [54, 31, 32, 28]), [([(1, 56, 0), (0, 2147483648, 2147483648), (0, 2147483647, 2147483653)], none, [(0, 6, (0, 2147483648, 2147483649))], [])], ([], [], []))
set_option maxRecDepth 100000 in
theorem te_c70 : tj_chk tj_Lam te_s70.2.2.1 [te_s27, te_s30, te_s35, te_s43] zx_d_X0_carryOut te_s70.2.1 te_s70.2.2.2.1 te_s70.2.2.2.2 [] [] 3000 = true := by decide +kernel
theorem te_p70 : tj_KS1 (zx_Cl zx_mt zx_rc zx_mx' 4) tj_Lam te_s70 := tj_method te_so (d := 3) (by rw [← zx_q_X0_carryOut]; rfl) (List.forall_mem_cons.mpr ⟨tj_KS1_le (by decide) te_p27, List.forall_mem_cons.mpr ⟨tj_KS1_le (by decide) te_p30, List.forall_mem_cons.mpr ⟨tj_KS1_le (by decide) te_p35, List.forall_mem_cons.mpr ⟨tj_KS1_le (by decide) te_p43, fun _ h => absurd h List.not_mem_nil⟩⟩⟩⟩) (by decide +kernel) (by decide +kernel) te_c70
/-! Course.carryOut -/
def te_s71 : tj_C := (6, [(1, 56, 0), (0, 2147483648, 2147483649), (0, 2147483647, 2147483653)], ([(56, 4), (56, 5), (56, 6)], [54, 31, 32, 28]), [([(1, 56, 0), (0, 2147483648, 2147483649), (0, 2147483647, 2147483653)], none, [(0, 6, (0, 2147483648, 2147483649))], [])], ([], [], []))
set_option maxRecDepth 100000 in
theorem te_c71 : tj_chk tj_Lam te_s71.2.2.1 [te_s27, te_s30, te_s35, te_s43] zx_d_X0_carryOut te_s71.2.1 te_s71.2.2.2.1 te_s71.2.2.2.2 [] [] 3000 = true := by decide +kernel
theorem te_p71 : tj_KS1 (zx_Cl zx_mt zx_rc zx_mx' 4) tj_Lam te_s71 := tj_method te_so (d := 3) (by rw [← zx_q_X0_carryOut]; rfl) (List.forall_mem_cons.mpr ⟨tj_KS1_le (by decide) te_p27, List.forall_mem_cons.mpr ⟨tj_KS1_le (by decide) te_p30, List.forall_mem_cons.mpr ⟨tj_KS1_le (by decide) te_p35, List.forall_mem_cons.mpr ⟨tj_KS1_le (by decide) te_p43, fun _ h => absurd h List.not_mem_nil⟩⟩⟩⟩) (by decide +kernel) (by decide +kernel) te_c71
/-! Course.carryOut -/
def te_s72 : tj_C := (6, [(1, 56, 0), (0, 2147483648, 2147483650), (0, 2147483647, 2147483653)], ([(56, 4), (56, 5), (56, 6)], [54, 31, 32, 28]), [([(1, 56, 0), (0, 2147483648, 2147483650), (0, 2147483647, 2147483653)], none, [(0, 6, (0, 2147483648, 2147483649))], [])], ([], [], []))
set_option maxRecDepth 100000 in
theorem te_c72 : tj_chk tj_Lam te_s72.2.2.1 [te_s27, te_s30, te_s35, te_s43] zx_d_X0_carryOut te_s72.2.1 te_s72.2.2.2.1 te_s72.2.2.2.2 [] [] 3000 = true := by decide +kernel
theorem te_p72 : tj_KS1 (zx_Cl zx_mt zx_rc zx_mx' 4) tj_Lam te_s72 := tj_method te_so (d := 3) (by rw [← zx_q_X0_carryOut]; rfl) (List.forall_mem_cons.mpr ⟨tj_KS1_le (by decide) te_p27, List.forall_mem_cons.mpr ⟨tj_KS1_le (by decide) te_p30, List.forall_mem_cons.mpr ⟨tj_KS1_le (by decide) te_p35, List.forall_mem_cons.mpr ⟨tj_KS1_le (by decide) te_p43, fun _ h => absurd h List.not_mem_nil⟩⟩⟩⟩) (by decide +kernel) (by decide +kernel) te_c72
/-! Course.carryOut -/
def te_s73 : tj_C := (6, [(1, 56, 0), (0, 2147483648, 2147483651), (0, 2147483647, 2147483653)], ([(56, 4), (56, 5), (56, 6)], [54, 31, 32, 28]), [([(1, 56, 0), (0, 2147483648, 2147483651), (0, 2147483647, 2147483653)], none, [(0, 6, (0, 2147483648, 2147483649))], [])], ([], [], []))
set_option maxRecDepth 100000 in
theorem te_c73 : tj_chk tj_Lam te_s73.2.2.1 [te_s27, te_s30, te_s35, te_s43] zx_d_X0_carryOut te_s73.2.1 te_s73.2.2.2.1 te_s73.2.2.2.2 [] [] 3000 = true := by decide +kernel
theorem te_p73 : tj_KS1 (zx_Cl zx_mt zx_rc zx_mx' 4) tj_Lam te_s73 := tj_method te_so (d := 3) (by rw [← zx_q_X0_carryOut]; rfl) (List.forall_mem_cons.mpr ⟨tj_KS1_le (by decide) te_p27, List.forall_mem_cons.mpr ⟨tj_KS1_le (by decide) te_p30, List.forall_mem_cons.mpr ⟨tj_KS1_le (by decide) te_p35, List.forall_mem_cons.mpr ⟨tj_KS1_le (by decide) te_p43, fun _ h => absurd h List.not_mem_nil⟩⟩⟩⟩) (by decide +kernel) (by decide +kernel) te_c73
/-! Course.passDay -/
def te_s74 : tj_C := (18, [(1, 56, 0), (0, 2147483647, 2147483647), (0, 2147483647, 2147483647)], ([(56, 4), (56, 5), (56, 6), (56, 7), (33, 0)], [54, 31, 32, 28]), [([(1, 56, 0), (0, 2147483647, 2147483647), (0, 2147483647, 2147483647)], none, [], [])], ([], [], []))
set_option maxRecDepth 100000 in
theorem te_c74 : tj_chk tj_Lam te_s74.2.2.1 [te_s26, te_s65, te_s70, te_s71, te_s72, te_s73] zx_d_X0_passDay te_s74.2.1 te_s74.2.2.2.1 te_s74.2.2.2.2 [((2, [(0, .inr 0), (1, .inr 1), (2, .inr 2), (3, .inr 3)], [], [(1, 56, 0), (0, 2147483647, 2147483647), (0, 2147483647, 2147483647), (0, 2147483648, 2147483652)], []), [.inl 3], [(0, 0), (1, 3), (0, 0)])] [2] 3000 = true := by decide +kernel
theorem te_p74 : tj_KS1 (zx_Cl zx_mt zx_rc zx_mx' 7) tj_Lam te_s74 := tj_method te_so (d := 6) (by rw [← zx_q_X0_passDay]; rfl) (List.forall_mem_cons.mpr ⟨tj_KS1_le (by decide) te_p26, List.forall_mem_cons.mpr ⟨tj_KS1_le (by decide) te_p65, List.forall_mem_cons.mpr ⟨tj_KS1_le (by decide) te_p70, List.forall_mem_cons.mpr ⟨tj_KS1_le (by decide) te_p71, List.forall_mem_cons.mpr ⟨tj_KS1_le (by decide) te_p72, List.forall_mem_cons.mpr ⟨tj_KS1_le (by decide) te_p73, fun _ h => absurd h List.not_mem_nil⟩⟩⟩⟩⟩⟩) (by decide +kernel) (by decide +kernel) te_c74
/-! TwoInOne.canDo -/
def te_s75 : tj_C := (38, [(1, 100, 0), (0, 0, 4294967295), (0, 0, 4294967295)], ([], []), [([(1, 100, 0), (0, 0, 4294967295), (0, 0, 4294967295)], some (0, 2147483648, 2147483648), [], []), ([(1, 100, 0), (0, 2147483648, 2147483651), (0, 2147483648, 2147483653)], some (0, 2147483649, 2147483649), [], [])], ([], [], []))
set_option maxRecDepth 100000 in
theorem te_c75 : tj_chk tj_Lam te_s75.2.2.1 [te_s2, te_s26, te_s30] zx_d_X11_canDo te_s75.2.1 te_s75.2.2.2.1 te_s75.2.2.2.2 [] [] 3000 = true := by decide +kernel
theorem te_p75 : tj_KS1 (zx_Cl zx_mt zx_rc zx_mx' 3) tj_Lam te_s75 := tj_method te_so (d := 2) (by rw [← zx_q_X11_canDo]; rfl) (List.forall_mem_cons.mpr ⟨tj_KS1_le (by decide) te_p2, List.forall_mem_cons.mpr ⟨tj_KS1_le (by decide) te_p26, List.forall_mem_cons.mpr ⟨tj_KS1_le (by decide) te_p30, fun _ h => absurd h List.not_mem_nil⟩⟩⟩) (by decide +kernel) (by decide +kernel) te_c75
/-! Course.passDay -/
def te_s76 : tj_C := (18, [(1, 56, 0), (0, 2147483648, 2147483651), (0, 2147483648, 2147483653)], ([(56, 4), (56, 5), (56, 6), (56, 7), (33, 0)], [54, 31, 32, 28]), [([(1, 56, 0), (0, 2147483648, 2147483651), (0, 2147483648, 2147483653)], none, [], [])], ([], [], []))
set_option maxRecDepth 100000 in
theorem te_c76 : tj_chk tj_Lam te_s76.2.2.1 [te_s26, te_s65, te_s70, te_s71, te_s72, te_s73] zx_d_X0_passDay te_s76.2.1 te_s76.2.2.2.1 te_s76.2.2.2.2 [((2, [(0, .inr 0), (1, .inr 1), (2, .inr 2), (3, .inr 3)], [], [(1, 56, 0), (0, 2147483648, 2147483651), (0, 2147483648, 2147483653), (0, 2147483648, 2147483652)], []), [.inl 3], [(0, 0), (1, 3), (0, 0)])] [2] 3000 = true := by decide +kernel
theorem te_p76 : tj_KS1 (zx_Cl zx_mt zx_rc zx_mx' 7) tj_Lam te_s76 := tj_method te_so (d := 6) (by rw [← zx_q_X0_passDay]; rfl) (List.forall_mem_cons.mpr ⟨tj_KS1_le (by decide) te_p26, List.forall_mem_cons.mpr ⟨tj_KS1_le (by decide) te_p65, List.forall_mem_cons.mpr ⟨tj_KS1_le (by decide) te_p70, List.forall_mem_cons.mpr ⟨tj_KS1_le (by decide) te_p71, List.forall_mem_cons.mpr ⟨tj_KS1_le (by decide) te_p72, List.forall_mem_cons.mpr ⟨tj_KS1_le (by decide) te_p73, fun _ h => absurd h List.not_mem_nil⟩⟩⟩⟩⟩⟩) (by decide +kernel) (by decide +kernel) te_c76
/-! java/util/Arrays.fill -/
def te_s77 : tj_C := (1, [(1, 55, 0), (0, 2147483648, 2147483648)], ([], [55]), [([(1, 55, 0), (0, 2147483648, 2147483648)], none, [], [])], ([], [], []))
set_option maxRecDepth 100000 in
theorem te_c77 : tj_chk tj_Lam te_s77.2.2.1 [] zx_d_J7_fill_53178 te_s77.2.1 te_s77.2.2.2.1 te_s77.2.2.2.2 [((5, [(0, .inr 0), (1, .inr 1), (2, .inr 2), (3, .inr 3)], [], [(1, 55, 0), (0, 2147483648, 2147483648), (0, 2147483648, 2147483651), (0, 2147483651, 2147483651)], []), [.inl 2, .inl 3], [(0, 0), (1, 2), (0, 0)])] [5] 3000 = true := by decide +kernel
theorem te_p77 : tj_KS1 (zx_Cl zx_mt zx_rc zx_mx' 1) tj_Lam te_s77 := tj_method te_so (d := 0) (by rw [← zx_q_J7_fill_53178]; rfl) (fun _ h => absurd h List.not_mem_nil) (by decide +kernel) (by decide +kernel) te_c77
/-! Course.winner -/
def te_s78 : tj_C := (22, [(1, 56, 0)], ([], []), [([(1, 56, 0)], some (0, 2147483647, 2147483650), [], [])], ([], [], []))
set_option maxRecDepth 100000 in
theorem te_c78 : tj_chk tj_Lam te_s78.2.2.1 [] zx_d_X0_winner te_s78.2.1 te_s78.2.2.2.1 te_s78.2.2.2.2 [((6, [(0, .inr 0), (1, .inr 1), (2, .inr 2), (3, .inr 3)], [], [(1, 56, 0), (0, 2147483647, 2147483650), (0, 2147483648, 4294967295), (0, 2147483648, 2147483651)], []), [.inl 1, .inl 2, .inl 3], [(0, 0), (1, 3), (0, 0)])] [6] 3000 = true := by decide +kernel
theorem te_p78 : tj_KS1 (zx_Cl zx_mt zx_rc zx_mx' 1) tj_Lam te_s78 := tj_method te_so (d := 0) (by rw [← zx_q_X0_winner]; rfl) (fun _ h => absurd h List.not_mem_nil) (by decide +kernel) (by decide +kernel) te_c78
/-! Course.addVote -/
def te_s79 : tj_C := (5, [(1, 56, 0), (0, 2147483647, 2147483647)], ([], []), [([(1, 56, 0), (0, 2147483647, 2147483647)], none, [], [])], ([], [], []))
set_option maxRecDepth 100000 in
theorem te_c79 : tj_chk tj_Lam te_s79.2.2.1 [te_s4] zx_d_X0_addVote te_s79.2.1 te_s79.2.2.2.1 te_s79.2.2.2.2 [] [] 3000 = true := by decide +kernel
theorem te_p79 : tj_KS1 (zx_Cl zx_mt zx_rc zx_mx' 2) tj_Lam te_s79 := tj_method te_so (d := 1) (by rw [← zx_q_X0_addVote]; rfl) (List.forall_mem_cons.mpr ⟨tj_KS1_le (by decide) te_p4, fun _ h => absurd h List.not_mem_nil⟩) (by decide +kernel) (by decide +kernel) te_c79
/-! Told.favoured -/
def te_s80 : tj_C := (26, [(1, 13, 0), (0, 2147483648, 2147483655)], ([], []), [([(1, 13, 0), (0, 2147483648, 2147483655)], some (0, 2147483648, 4294967295), [], [])], ([], [], []))
set_option maxRecDepth 100000 in
theorem te_c80 : tj_chk tj_Lam te_s80.2.2.1 [] zx_d_X10_favoured te_s80.2.1 te_s80.2.2.2.1 te_s80.2.2.2.2 [] [] 3000 = true := by decide +kernel
theorem te_p80 : tj_KS1 (zx_Cl zx_mt zx_rc zx_mx' 1) tj_Lam te_s80 := tj_method te_so (d := 0) (by rw [← zx_q_X10_favoured]; rfl) (fun _ h => absurd h List.not_mem_nil) (by decide +kernel) (by decide +kernel) te_c80
/-! Course.addVote -/
def te_s81 : tj_C := (5, [(1, 56, 0), (0, 2147483648, 2147483655)], ([], [55]), [([(1, 56, 0), (0, 2147483648, 2147483655)], none, [], [])], ([], [], []))
set_option maxRecDepth 100000 in
theorem te_c81 : tj_chk tj_Lam te_s81.2.2.1 [te_s4, te_s80] zx_d_X0_addVote te_s81.2.1 te_s81.2.2.2.1 te_s81.2.2.2.2 [] [] 3000 = true := by decide +kernel
theorem te_p81 : tj_KS1 (zx_Cl zx_mt zx_rc zx_mx' 2) tj_Lam te_s81 := tj_method te_so (d := 1) (by rw [← zx_q_X0_addVote]; rfl) (List.forall_mem_cons.mpr ⟨tj_KS1_le (by decide) te_p4, List.forall_mem_cons.mpr ⟨tj_KS1_le (by decide) te_p80, fun _ h => absurd h List.not_mem_nil⟩⟩) (by decide +kernel) (by decide +kernel) te_c81
/-! Course.winnerOn -/
def te_s82 : tj_C := (23, [(1, 56, 0), (0, 2147483648, 2147484647)], ([], [55]), [([(1, 56, 0), (0, 2147483648, 2147484647)], some (0, 2147483647, 2147483650), [], [])], ([], [], []))
set_option maxRecDepth 100000 in
theorem te_c82 : tj_chk tj_Lam te_s82.2.2.1 [te_s26, te_s77, te_s78, te_s79, te_s81] zx_d_X0_winnerOn te_s82.2.1 te_s82.2.2.2.1 te_s82.2.2.2.2 [((10, [(0, .inr 0), (1, .inr 1), (2, .inr 2)], [], [(1, 56, 0), (0, 2147483648, 2147484647), (0, 2147483648, 2147483652), (1, 55, 0)], [(0, .inr 0, .inl 3, .inr 3)]), [.inl 2, .inr (0, 3)], [(0, 0), (1, 2), (0, 0)])] [10] 3000 = true := by decide +kernel
theorem te_p82 : tj_KS1 (zx_Cl zx_mt zx_rc zx_mx' 3) tj_Lam te_s82 := tj_method te_so (d := 2) (by rw [← zx_q_X0_winnerOn]; rfl) (List.forall_mem_cons.mpr ⟨tj_KS1_le (by decide) te_p26, List.forall_mem_cons.mpr ⟨tj_KS1_le (by decide) te_p77, List.forall_mem_cons.mpr ⟨tj_KS1_le (by decide) te_p78, List.forall_mem_cons.mpr ⟨tj_KS1_le (by decide) te_p79, List.forall_mem_cons.mpr ⟨tj_KS1_le (by decide) te_p81, fun _ h => absurd h List.not_mem_nil⟩⟩⟩⟩⟩) (by decide +kernel) (by decide +kernel) te_c82
/-! TwoInOne.elected -/
def te_s83 : tj_C := (45, [(1, 100, 0), (0, 0, 4294967295)], ([], [55]), [([(1, 100, 0), (0, 0, 4294967295)], some (0, 2147483647, 2147483647), [], []), ([(1, 100, 0), (0, 2147483648, 2147484647)], some (0, 2147483647, 2147483650), [], [])], ([], [], []))
set_option maxRecDepth 100000 in
theorem te_c83 : tj_chk tj_Lam te_s83.2.2.1 [te_s82] zx_d_X11_elected te_s83.2.1 te_s83.2.2.2.1 te_s83.2.2.2.2 [] [] 3000 = true := by decide +kernel
theorem te_p83 : tj_KS1 (zx_Cl zx_mt zx_rc zx_mx' 4) tj_Lam te_s83 := tj_method te_so (d := 3) (by rw [← zx_q_X11_elected]; rfl) (List.forall_mem_cons.mpr ⟨tj_KS1_le (by decide) te_p82, fun _ h => absurd h List.not_mem_nil⟩) (by decide +kernel) (by decide +kernel) te_c83
/-! TwoInOne.end -/
def te_s84 : tj_C := (46, [(1, 100, 0), (0, 0, 4294967295)], ([(100, 1)], []), [([(1, 100, 0), (0, 0, 4294967295)], some (0, 2147483647, 2147483647), [], []), ([(1, 100, 0), (0, 2147483648, 2147485248)], some (0, 2147483648, 2147485248), [], [])], ([], [], []))
set_option maxRecDepth 100000 in
theorem te_c84 : tj_chk tj_Lam te_s84.2.2.1 [] zx_d_X11_end te_s84.2.1 te_s84.2.2.2.1 te_s84.2.2.2.2 [] [] 3000 = true := by decide +kernel
theorem te_p84 : tj_KS1 (zx_Cl zx_mt zx_rc zx_mx' 1) tj_Lam te_s84 := tj_method te_so (d := 0) (by rw [← zx_q_X11_end]; rfl) (fun _ h => absurd h List.not_mem_nil) (by decide +kernel) (by decide +kernel) te_c84
/-! Told.hasPlace -/
def te_s85 : tj_C := (30, [(1, 13, 0), (0, 2147483648, 2147483651), (0, 0, 4294967295)], ([], []), [([(1, 13, 0), (0, 2147483648, 2147483651), (0, 0, 4294967295)], some (0, 2147483648, 2147483648), [], []), ([(1, 13, 0), (0, 2147483648, 2147483651), (0, 2147483648, 2147483661)], some (0, 2147483649, 2147483649), [], [])], ([], [], []))
set_option maxRecDepth 100000 in
theorem te_c85 : tj_chk tj_Lam te_s85.2.2.1 [] zx_d_X10_hasPlace te_s85.2.1 te_s85.2.2.2.1 te_s85.2.2.2.2 [] [] 3000 = true := by decide +kernel
theorem te_p85 : tj_KS1 (zx_Cl zx_mt zx_rc zx_mx' 1) tj_Lam te_s85 := tj_method te_so (d := 0) (by rw [← zx_q_X10_hasPlace]; rfl) (fun _ h => absurd h List.not_mem_nil) (by decide +kernel) (by decide +kernel) te_c85
/-! State.exchangePlaces -/
def te_s86 : tj_C := (326, [(1, 33, 0), (0, 2147483648, 2147483651), (0, 2147483648, 2147483661), (0, 2147483648, 2147483661)], ([], [29]), [([(1, 33, 0), (0, 2147483648, 2147483651), (0, 2147483648, 2147483661), (0, 2147483648, 2147483661)], none, [], [])], ([], [], []))
set_option maxRecDepth 100000 in
theorem te_c86 : tj_chk tj_Lam te_s86.2.2.1 [] zx_d_X8_exchangePlaces te_s86.2.1 te_s86.2.2.2.1 te_s86.2.2.2.2 [] [] 3000 = true := by decide +kernel
theorem te_p86 : tj_KS1 (zx_Cl zx_mt zx_rc zx_mx' 1) tj_Lam te_s86 := tj_method te_so (d := 0) (by rw [← zx_q_X8_exchangePlaces]; rfl) (fun _ h => absurd h List.not_mem_nil) (by decide +kernel) (by decide +kernel) te_c86
/-! java/util/Arrays.fill -/
def te_s87 : tj_C := (1, [(1, 62, 0), (0, 2147483646, 2147483646)], ([], [62]), [([(1, 62, 0), (0, 2147483646, 2147483646)], none, [], [])], ([], [], []))
set_option maxRecDepth 100000 in
theorem te_c87 : tj_chk tj_Lam te_s87.2.2.1 [] zx_d_J7_fill_53178 te_s87.2.1 te_s87.2.2.2.1 te_s87.2.2.2.2 [((5, [(0, .inr 0), (1, .inr 1), (2, .inr 2), (3, .inr 3)], [], [(1, 62, 0), (0, 2147483646, 2147483646), (0, 2147483648, 2147483656), (0, 2147483656, 2147483656)], []), [.inl 2, .inl 3], [(0, 0), (1, 2), (0, 0)])] [5] 3000 = true := by decide +kernel
theorem te_p87 : tj_KS1 (zx_Cl zx_mt zx_rc zx_mx' 1) tj_Lam te_s87 := tj_method te_so (d := 0) (by rw [← zx_q_J7_fill_53178]; rfl) (fun _ h => absurd h List.not_mem_nil) (by decide +kernel) (by decide +kernel) te_c87
/-! Told.liked -/
def te_s88 : tj_C := (33, [(1, 13, 0), (0, 2147483648, 2147483648), (0, 2147483649, 2147483649)], ([], []), [([(1, 13, 0), (0, 2147483648, 2147483648), (0, 2147483649, 2147483649)], some (0, 2147483648, 4294967295), [], [])], ([], [], []))
set_option maxRecDepth 100000 in
theorem te_c88 : tj_chk tj_Lam te_s88.2.2.1 [] zx_d_X10_liked te_s88.2.1 te_s88.2.2.2.1 te_s88.2.2.2.2 [] [] 3000 = true := by decide +kernel
theorem te_p88 : tj_KS1 (zx_Cl zx_mt zx_rc zx_mx' 1) tj_Lam te_s88 := tj_method te_so (d := 0) (by rw [← zx_q_X10_liked]; rfl) (fun _ h => absurd h List.not_mem_nil) (by decide +kernel) (by decide +kernel) te_c88
/-! Told.liked -/
def te_s89 : tj_C := (33, [(1, 13, 0), (0, 2147483648, 2147483648), (0, 2147483648, 2147483655)], ([], []), [([(1, 13, 0), (0, 2147483648, 2147483648), (0, 2147483648, 2147483655)], some (0, 2147483648, 4294967295), [], [])], ([], [], []))
set_option maxRecDepth 100000 in
theorem te_c89 : tj_chk tj_Lam te_s89.2.2.1 [] zx_d_X10_liked te_s89.2.1 te_s89.2.2.2.1 te_s89.2.2.2.2 [] [] 3000 = true := by decide +kernel
theorem te_p89 : tj_KS1 (zx_Cl zx_mt zx_rc zx_mx' 1) tj_Lam te_s89 := tj_method te_so (d := 0) (by rw [← zx_q_X10_liked]; rfl) (fun _ h => absurd h List.not_mem_nil) (by decide +kernel) (by decide +kernel) te_c89
/-! Pairings.likesHis -/
def te_s90 : tj_C := (248, [(1, 65, 0), (0, 2147483648, 2147483648)], ([], []), [([(1, 65, 0), (0, 2147483648, 2147483648)], some (0, 2147483647, 2147483647), [], []), ([(1, 65, 0), (0, 2147483648, 2147483648)], some (0, 2147483648, 4294967295), [], [])], ([], [], []))
set_option maxRecDepth 100000 in
theorem te_c90 : tj_chk tj_Lam te_s90.2.2.1 [te_s4, te_s89] zx_d_X3_likesHis te_s90.2.1 te_s90.2.2.2.1 te_s90.2.2.2.2 [] [] 3000 = true := by decide +kernel
theorem te_p90 : tj_KS1 (zx_Cl zx_mt zx_rc zx_mx' 2) tj_Lam te_s90 := tj_method te_so (d := 1) (by rw [← zx_q_X3_likesHis]; rfl) (List.forall_mem_cons.mpr ⟨tj_KS1_le (by decide) te_p4, List.forall_mem_cons.mpr ⟨tj_KS1_le (by decide) te_p89, fun _ h => absurd h List.not_mem_nil⟩⟩) (by decide +kernel) (by decide +kernel) te_c90
/-! Told.liked -/
def te_s91 : tj_C := (33, [(1, 13, 0), (0, 2147483649, 2147483649), (0, 2147483648, 2147483648)], ([], []), [([(1, 13, 0), (0, 2147483649, 2147483649), (0, 2147483648, 2147483648)], some (0, 2147483648, 4294967295), [], [])], ([], [], []))
set_option maxRecDepth 100000 in
theorem te_c91 : tj_chk tj_Lam te_s91.2.2.1 [] zx_d_X10_liked te_s91.2.1 te_s91.2.2.2.1 te_s91.2.2.2.2 [] [] 3000 = true := by decide +kernel
theorem te_p91 : tj_KS1 (zx_Cl zx_mt zx_rc zx_mx' 1) tj_Lam te_s91 := tj_method te_so (d := 0) (by rw [← zx_q_X10_liked]; rfl) (fun _ h => absurd h List.not_mem_nil) (by decide +kernel) (by decide +kernel) te_c91
/-! Told.liked -/
def te_s92 : tj_C := (33, [(1, 13, 0), (0, 2147483649, 2147483649), (0, 2147483648, 2147483655)], ([], []), [([(1, 13, 0), (0, 2147483649, 2147483649), (0, 2147483648, 2147483655)], some (0, 2147483648, 4294967295), [], [])], ([], [], []))
set_option maxRecDepth 100000 in
theorem te_c92 : tj_chk tj_Lam te_s92.2.2.1 [] zx_d_X10_liked te_s92.2.1 te_s92.2.2.2.1 te_s92.2.2.2.2 [] [] 3000 = true := by decide +kernel
theorem te_p92 : tj_KS1 (zx_Cl zx_mt zx_rc zx_mx' 1) tj_Lam te_s92 := tj_method te_so (d := 0) (by rw [← zx_q_X10_liked]; rfl) (fun _ h => absurd h List.not_mem_nil) (by decide +kernel) (by decide +kernel) te_c92
/-! Pairings.likesHis -/
def te_s93 : tj_C := (248, [(1, 65, 0), (0, 2147483649, 2147483649)], ([], []), [([(1, 65, 0), (0, 2147483649, 2147483649)], some (0, 2147483647, 2147483647), [], []), ([(1, 65, 0), (0, 2147483649, 2147483649)], some (0, 2147483648, 4294967295), [], [])], ([], [], []))
set_option maxRecDepth 100000 in
theorem te_c93 : tj_chk tj_Lam te_s93.2.2.1 [te_s4, te_s92] zx_d_X3_likesHis te_s93.2.1 te_s93.2.2.2.1 te_s93.2.2.2.2 [] [] 3000 = true := by decide +kernel
theorem te_p93 : tj_KS1 (zx_Cl zx_mt zx_rc zx_mx' 2) tj_Lam te_s93 := tj_method te_so (d := 1) (by rw [← zx_q_X3_likesHis]; rfl) (List.forall_mem_cons.mpr ⟨tj_KS1_le (by decide) te_p4, List.forall_mem_cons.mpr ⟨tj_KS1_le (by decide) te_p92, fun _ h => absurd h List.not_mem_nil⟩⟩) (by decide +kernel) (by decide +kernel) te_c93
/-! Told.liked -/
def te_s94 : tj_C := (33, [(1, 13, 0), (0, 2147483648, 2147483649), (0, 2147483649, 2147483650)], ([], []), [([(1, 13, 0), (0, 2147483648, 2147483649), (0, 2147483649, 2147483650)], some (0, 2147483648, 4294967295), [], [])], ([], [], []))
set_option maxRecDepth 100000 in
theorem te_c94 : tj_chk tj_Lam te_s94.2.2.1 [] zx_d_X10_liked te_s94.2.1 te_s94.2.2.2.1 te_s94.2.2.2.2 [] [] 3000 = true := by decide +kernel
theorem te_p94 : tj_KS1 (zx_Cl zx_mt zx_rc zx_mx' 1) tj_Lam te_s94 := tj_method te_so (d := 0) (by rw [← zx_q_X10_liked]; rfl) (fun _ h => absurd h List.not_mem_nil) (by decide +kernel) (by decide +kernel) te_c94
/-! Told.liked -/
def te_s95 : tj_C := (33, [(1, 13, 0), (0, 2147483648, 2147483649), (0, 2147483648, 2147483655)], ([], []), [([(1, 13, 0), (0, 2147483648, 2147483649), (0, 2147483648, 2147483655)], some (0, 2147483648, 4294967295), [], [])], ([], [], []))
set_option maxRecDepth 100000 in
theorem te_c95 : tj_chk tj_Lam te_s95.2.2.1 [] zx_d_X10_liked te_s95.2.1 te_s95.2.2.2.1 te_s95.2.2.2.2 [] [] 3000 = true := by decide +kernel
theorem te_p95 : tj_KS1 (zx_Cl zx_mt zx_rc zx_mx' 1) tj_Lam te_s95 := tj_method te_so (d := 0) (by rw [← zx_q_X10_liked]; rfl) (fun _ h => absurd h List.not_mem_nil) (by decide +kernel) (by decide +kernel) te_c95
/-! Pairings.likesHis -/
def te_s96 : tj_C := (248, [(1, 65, 0), (0, 2147483648, 2147483649)], ([], []), [([(1, 65, 0), (0, 2147483648, 2147483649)], some (0, 2147483647, 2147483647), [], []), ([(1, 65, 0), (0, 2147483648, 2147483649)], some (0, 2147483648, 4294967295), [], [])], ([], [], []))
set_option maxRecDepth 100000 in
theorem te_c96 : tj_chk tj_Lam te_s96.2.2.1 [te_s4, te_s95] zx_d_X3_likesHis te_s96.2.1 te_s96.2.2.2.1 te_s96.2.2.2.2 [] [] 3000 = true := by decide +kernel
theorem te_p96 : tj_KS1 (zx_Cl zx_mt zx_rc zx_mx' 2) tj_Lam te_s96 := tj_method te_so (d := 1) (by rw [← zx_q_X3_likesHis]; rfl) (List.forall_mem_cons.mpr ⟨tj_KS1_le (by decide) te_p4, List.forall_mem_cons.mpr ⟨tj_KS1_le (by decide) te_p95, fun _ h => absurd h List.not_mem_nil⟩⟩) (by decide +kernel) (by decide +kernel) te_c96
/-! Told.liked -/
def te_s97 : tj_C := (33, [(1, 13, 0), (0, 2147483649, 2147483650), (0, 2147483648, 2147483649)], ([], []), [([(1, 13, 0), (0, 2147483649, 2147483650), (0, 2147483648, 2147483649)], some (0, 2147483648, 4294967295), [], [])], ([], [], []))
set_option maxRecDepth 100000 in
theorem te_c97 : tj_chk tj_Lam te_s97.2.2.1 [] zx_d_X10_liked te_s97.2.1 te_s97.2.2.2.1 te_s97.2.2.2.2 [] [] 3000 = true := by decide +kernel
theorem te_p97 : tj_KS1 (zx_Cl zx_mt zx_rc zx_mx' 1) tj_Lam te_s97 := tj_method te_so (d := 0) (by rw [← zx_q_X10_liked]; rfl) (fun _ h => absurd h List.not_mem_nil) (by decide +kernel) (by decide +kernel) te_c97
/-! Told.liked -/
def te_s98 : tj_C := (33, [(1, 13, 0), (0, 2147483649, 2147483650), (0, 2147483648, 2147483655)], ([], []), [([(1, 13, 0), (0, 2147483649, 2147483650), (0, 2147483648, 2147483655)], some (0, 2147483648, 4294967295), [], [])], ([], [], []))
set_option maxRecDepth 100000 in
theorem te_c98 : tj_chk tj_Lam te_s98.2.2.1 [] zx_d_X10_liked te_s98.2.1 te_s98.2.2.2.1 te_s98.2.2.2.2 [] [] 3000 = true := by decide +kernel
theorem te_p98 : tj_KS1 (zx_Cl zx_mt zx_rc zx_mx' 1) tj_Lam te_s98 := tj_method te_so (d := 0) (by rw [← zx_q_X10_liked]; rfl) (fun _ h => absurd h List.not_mem_nil) (by decide +kernel) (by decide +kernel) te_c98
/-! Pairings.likesHis -/
def te_s99 : tj_C := (248, [(1, 65, 0), (0, 2147483649, 2147483650)], ([], []), [([(1, 65, 0), (0, 2147483649, 2147483650)], some (0, 2147483647, 2147483647), [], []), ([(1, 65, 0), (0, 2147483649, 2147483650)], some (0, 2147483648, 4294967295), [], [])], ([], [], []))
set_option maxRecDepth 100000 in
theorem te_c99 : tj_chk tj_Lam te_s99.2.2.1 [te_s4, te_s98] zx_d_X3_likesHis te_s99.2.1 te_s99.2.2.2.1 te_s99.2.2.2.2 [] [] 3000 = true := by decide +kernel
theorem te_p99 : tj_KS1 (zx_Cl zx_mt zx_rc zx_mx' 2) tj_Lam te_s99 := tj_method te_so (d := 1) (by rw [← zx_q_X3_likesHis]; rfl) (List.forall_mem_cons.mpr ⟨tj_KS1_le (by decide) te_p4, List.forall_mem_cons.mpr ⟨tj_KS1_le (by decide) te_p98, fun _ h => absurd h List.not_mem_nil⟩⟩) (by decide +kernel) (by decide +kernel) te_c99
/-! Told.liked -/
def te_s100 : tj_C := (33, [(1, 13, 0), (0, 2147483648, 2147483650), (0, 2147483649, 2147483655)], ([], []), [([(1, 13, 0), (0, 2147483648, 2147483650), (0, 2147483649, 2147483655)], some (0, 2147483648, 4294967295), [], [])], ([], [], []))
set_option maxRecDepth 100000 in
theorem te_c100 : tj_chk tj_Lam te_s100.2.2.1 [] zx_d_X10_liked te_s100.2.1 te_s100.2.2.2.1 te_s100.2.2.2.2 [] [] 3000 = true := by decide +kernel
theorem te_p100 : tj_KS1 (zx_Cl zx_mt zx_rc zx_mx' 1) tj_Lam te_s100 := tj_method te_so (d := 0) (by rw [← zx_q_X10_liked]; rfl) (fun _ h => absurd h List.not_mem_nil) (by decide +kernel) (by decide +kernel) te_c100
/-! Told.liked -/
def te_s101 : tj_C := (33, [(1, 13, 0), (0, 2147483648, 2147483650), (0, 2147483648, 2147483655)], ([], []), [([(1, 13, 0), (0, 2147483648, 2147483650), (0, 2147483648, 2147483655)], some (0, 2147483648, 4294967295), [], [])], ([], [], []))
set_option maxRecDepth 100000 in
theorem te_c101 : tj_chk tj_Lam te_s101.2.2.1 [] zx_d_X10_liked te_s101.2.1 te_s101.2.2.2.1 te_s101.2.2.2.2 [] [] 3000 = true := by decide +kernel
theorem te_p101 : tj_KS1 (zx_Cl zx_mt zx_rc zx_mx' 1) tj_Lam te_s101 := tj_method te_so (d := 0) (by rw [← zx_q_X10_liked]; rfl) (fun _ h => absurd h List.not_mem_nil) (by decide +kernel) (by decide +kernel) te_c101
/-! Pairings.likesHis -/
def te_s102 : tj_C := (248, [(1, 65, 0), (0, 2147483648, 2147483650)], ([], []), [([(1, 65, 0), (0, 2147483648, 2147483650)], some (0, 2147483647, 2147483647), [], []), ([(1, 65, 0), (0, 2147483648, 2147483650)], some (0, 2147483648, 4294967295), [], [])], ([], [], []))
set_option maxRecDepth 100000 in
theorem te_c102 : tj_chk tj_Lam te_s102.2.2.1 [te_s4, te_s101] zx_d_X3_likesHis te_s102.2.1 te_s102.2.2.2.1 te_s102.2.2.2.2 [] [] 3000 = true := by decide +kernel
theorem te_p102 : tj_KS1 (zx_Cl zx_mt zx_rc zx_mx' 2) tj_Lam te_s102 := tj_method te_so (d := 1) (by rw [← zx_q_X3_likesHis]; rfl) (List.forall_mem_cons.mpr ⟨tj_KS1_le (by decide) te_p4, List.forall_mem_cons.mpr ⟨tj_KS1_le (by decide) te_p101, fun _ h => absurd h List.not_mem_nil⟩⟩) (by decide +kernel) (by decide +kernel) te_c102
/-! Told.liked -/
def te_s103 : tj_C := (33, [(1, 13, 0), (0, 2147483649, 2147483655), (0, 2147483648, 2147483650)], ([], []), [([(1, 13, 0), (0, 2147483649, 2147483655), (0, 2147483648, 2147483650)], some (0, 2147483648, 4294967295), [], [])], ([], [], []))
set_option maxRecDepth 100000 in
theorem te_c103 : tj_chk tj_Lam te_s103.2.2.1 [] zx_d_X10_liked te_s103.2.1 te_s103.2.2.2.1 te_s103.2.2.2.2 [] [] 3000 = true := by decide +kernel
theorem te_p103 : tj_KS1 (zx_Cl zx_mt zx_rc zx_mx' 1) tj_Lam te_s103 := tj_method te_so (d := 0) (by rw [← zx_q_X10_liked]; rfl) (fun _ h => absurd h List.not_mem_nil) (by decide +kernel) (by decide +kernel) te_c103
/-! Told.liked -/
def te_s104 : tj_C := (33, [(1, 13, 0), (0, 2147483649, 2147483655), (0, 2147483648, 2147483655)], ([], []), [([(1, 13, 0), (0, 2147483649, 2147483655), (0, 2147483648, 2147483655)], some (0, 2147483648, 4294967295), [], [])], ([], [], []))
set_option maxRecDepth 100000 in
theorem te_c104 : tj_chk tj_Lam te_s104.2.2.1 [] zx_d_X10_liked te_s104.2.1 te_s104.2.2.2.1 te_s104.2.2.2.2 [] [] 3000 = true := by decide +kernel
theorem te_p104 : tj_KS1 (zx_Cl zx_mt zx_rc zx_mx' 1) tj_Lam te_s104 := tj_method te_so (d := 0) (by rw [← zx_q_X10_liked]; rfl) (fun _ h => absurd h List.not_mem_nil) (by decide +kernel) (by decide +kernel) te_c104
/-! Pairings.likesHis -/
def te_s105 : tj_C := (248, [(1, 65, 0), (0, 2147483649, 2147483655)], ([], []), [([(1, 65, 0), (0, 2147483649, 2147483655)], some (0, 2147483647, 2147483647), [], []), ([(1, 65, 0), (0, 2147483649, 2147483655)], some (0, 2147483648, 4294967295), [], [])], ([], [], []))
set_option maxRecDepth 100000 in
theorem te_c105 : tj_chk tj_Lam te_s105.2.2.1 [te_s4, te_s104] zx_d_X3_likesHis te_s105.2.1 te_s105.2.2.2.1 te_s105.2.2.2.2 [] [] 3000 = true := by decide +kernel
theorem te_p105 : tj_KS1 (zx_Cl zx_mt zx_rc zx_mx' 2) tj_Lam te_s105 := tj_method te_so (d := 1) (by rw [← zx_q_X3_likesHis]; rfl) (List.forall_mem_cons.mpr ⟨tj_KS1_le (by decide) te_p4, List.forall_mem_cons.mpr ⟨tj_KS1_le (by decide) te_p104, fun _ h => absurd h List.not_mem_nil⟩⟩) (by decide +kernel) (by decide +kernel) te_c105
/-! Told.liked -/
def te_s106 : tj_C := (33, [(1, 13, 0), (0, 2147483648, 2147483655), (0, 2147483649, 2147483655)], ([], []), [([(1, 13, 0), (0, 2147483648, 2147483655), (0, 2147483649, 2147483655)], some (0, 2147483648, 4294967295), [], [])], ([], [], []))
set_option maxRecDepth 100000 in
theorem te_c106 : tj_chk tj_Lam te_s106.2.2.1 [] zx_d_X10_liked te_s106.2.1 te_s106.2.2.2.1 te_s106.2.2.2.2 [] [] 3000 = true := by decide +kernel
theorem te_p106 : tj_KS1 (zx_Cl zx_mt zx_rc zx_mx' 1) tj_Lam te_s106 := tj_method te_so (d := 0) (by rw [← zx_q_X10_liked]; rfl) (fun _ h => absurd h List.not_mem_nil) (by decide +kernel) (by decide +kernel) te_c106
/-! Told.liked -/
def te_s107 : tj_C := (33, [(1, 13, 0), (0, 2147483648, 2147483655), (0, 2147483648, 2147483655)], ([], []), [([(1, 13, 0), (0, 2147483648, 2147483655), (0, 2147483648, 2147483655)], some (0, 2147483648, 4294967295), [], [])], ([], [], []))
set_option maxRecDepth 100000 in
theorem te_c107 : tj_chk tj_Lam te_s107.2.2.1 [] zx_d_X10_liked te_s107.2.1 te_s107.2.2.2.1 te_s107.2.2.2.2 [] [] 3000 = true := by decide +kernel
theorem te_p107 : tj_KS1 (zx_Cl zx_mt zx_rc zx_mx' 1) tj_Lam te_s107 := tj_method te_so (d := 0) (by rw [← zx_q_X10_liked]; rfl) (fun _ h => absurd h List.not_mem_nil) (by decide +kernel) (by decide +kernel) te_c107
