/-! Game.solveEach -/
def te_s198 : tj_C := (230, [(1, 61, 0), (0, 2147483648, 2147483648), (0, 2147483648, 2147483747)], ([(56, 4), (56, 5), (56, 6)], [54, 57, 58]), [([(1, 61, 0), (0, 2147483648, 2147483648), (0, 2147483648, 2147483747)], none, [], [])], ([], [], []))
set_option maxRecDepth 100000 in
theorem te_c198 : tj_chk tj_Lam te_s198.2.2.1 [te_s26, te_s27, te_s35, te_s43, te_s175, te_s177, te_s178, te_s197] zx_d_X1_solveEach te_s198.2.1 te_s198.2.2.2.1 te_s198.2.2.2.2 [((60, [(0, .inr 0), (1, .inr 1), (2, .inr 2), (3, .inr 3), (4, .inr 4), (5, .inr 5), (6, .inr 6), (7, .inr 7), (8, .inr 8)], [], [(1, 61, 0), (0, 2147483648, 2147483648), (0, 2147483648, 2147483747), (0, 2147483648, 2147483655), (0, 2147483647, 2147483653), (0, 0, 4294967295), (0, 0, 4294967295), (0, 2147483648, 2147483747), (0, 2147483648, 2147483654), (1, 33, 0), (1, 56, 0), (1, 57, 0), (0, 2147483648, 2147483651), (0, 2147483649, 2147483668), (0, 0, 4294967295)], [(0, .inr 0, .inl 1, .inr 9), (0, .inr 0, .inl 2, .inr 10), (0, .inr 0, .inl 3, .inr 11), (0, .inr 0, .inl 8, .inr 12), (0, .inr 0, .inl 9, .inr 13), (0, .inr 9, .inl 0, .inr 14)]), [.inl 3, .inl 4, .inl 5, .inl 6, .inl 7, .inl 8, .inr (0, 1), .inr (0, 2), .inr (0, 3), .inr (0, 8), .inr (0, 9), .inr (9, 0)], [(0, 0), (1, 8), (0, 0)]), ((60, [(0, .inr 0), (1, .inr 1), (2, .inr 2), (3, .inr 3), (4, .inr 4), (5, .inr 5), (6, .inr 6), (7, .inr 2), (8, .inr 7)], [], [(1, 61, 0), (0, 2147483648, 2147483648), (0, 2147483648, 2147483747), (0, 2147483647, 2147483647), (0, 2147483647, 2147483647), (0, 2147483648, 2147483648), (0, 2147483648, 2147483648), (0, 2147483648, 2147483648), (1, 33, 0), (1, 56, 0), (1, 57, 0), (0, 2147483648, 2147483651), (0, 2147483649, 2147483668), (0, 0, 4294967295)], [(0, .inr 0, .inl 1, .inr 8), (0, .inr 0, .inl 2, .inr 9), (0, .inr 0, .inl 3, .inr 10), (0, .inr 0, .inl 8, .inr 11), (0, .inr 0, .inl 9, .inr 12), (0, .inr 8, .inl 0, .inr 13)]), [.inl 3, .inl 4, .inl 5, .inl 6, .inl 8, .inr (0, 1), .inr (0, 2), .inr (0, 3), .inr (0, 8), .inr (0, 9), .inr (8, 0)], [(0, 1), (0, 0), (0, 0)])] [60] 3000 = true := by decide +kernel
theorem te_p198 : tj_KS1 (zx_Cl zx_mt zx_rc zx_mx' 23) tj_Lam te_s198 := tj_method te_so (d := 22) (by rw [← zx_q_X1_solveEach]; rfl) (List.forall_mem_cons.mpr ⟨tj_KS1_le (by decide) te_p26, List.forall_mem_cons.mpr ⟨tj_KS1_le (by decide) te_p27, List.forall_mem_cons.mpr ⟨tj_KS1_le (by decide) te_p35, List.forall_mem_cons.mpr ⟨tj_KS1_le (by decide) te_p43, List.forall_mem_cons.mpr ⟨tj_KS1_le (by decide) te_p175, List.forall_mem_cons.mpr ⟨tj_KS1_le (by decide) te_p177, List.forall_mem_cons.mpr ⟨tj_KS1_le (by decide) te_p178, List.forall_mem_cons.mpr ⟨tj_KS1_le (by decide) te_p197, fun _ h => absurd h List.not_mem_nil⟩⟩⟩⟩⟩⟩⟩⟩) (by decide +kernel) (by decide +kernel) te_c198
/-! Game.tellRow -/
def te_s199 : tj_C := (231, [(1, 61, 0), (1, 42, 0)], ([(56, 4), (56, 5), (56, 6), (42, 1)], [54, 40]), [([(1, 61, 0), (1, 42, 0)], none, [], [])], ([], [], []))
set_option maxRecDepth 100000 in
theorem te_c199 : tj_chk tj_Lam te_s199.2.2.1 [te_s22, te_s27, te_s35, te_s175] zx_d_X1_tellRow te_s199.2.1 te_s199.2.2.2.1 te_s199.2.2.2.2 [((15, [(0, .inr 0), (1, .inr 1), (2, .inr 2), (3, .inr 3)], [], [(1, 61, 0), (1, 42, 0), (0, 2147483648, 2147483747), (0, 2147483648, 2147483668), (1, 33, 0), (0, 2147483648, 2147483651), (1, 28, 0)], [(0, .inr 0, .inl 1, .inr 4), (0, .inr 0, .inl 8, .inr 5), (0, .inr 4, .inl 2, .inr 6)]), [.inl 2, .inl 3, .inr (0, 1), .inr (0, 8), .inr (4, 2)], [(0, 0), (1, 3), (0, 0)])] [15] 3000 = true := by decide +kernel
theorem te_p199 : tj_KS1 (zx_Cl zx_mt zx_rc zx_mx' 4) tj_Lam te_s199 := tj_method te_so (d := 3) (by rw [← zx_q_X1_tellRow]; rfl) (List.forall_mem_cons.mpr ⟨tj_KS1_le (by decide) te_p22, List.forall_mem_cons.mpr ⟨tj_KS1_le (by decide) te_p27, List.forall_mem_cons.mpr ⟨tj_KS1_le (by decide) te_p35, List.forall_mem_cons.mpr ⟨tj_KS1_le (by decide) te_p175, fun _ h => absurd h List.not_mem_nil⟩⟩⟩⟩) (by decide +kernel) (by decide +kernel) te_c199
/-! Game.playEach -/
def te_s200 : tj_C := (227, [(1, 61, 0), (0, 2147483648, 2147483651), (0, 2147483648, 2147483650), (0, 2147483649, 2147483668), (1, 42, 0)], ([(56, 4), (56, 5), (56, 6), (61, 8), (61, 9), (42, 1)], [54, 57, 58, 40]), [([(1, 61, 0), (0, 2147483648, 2147483651), (0, 2147483648, 2147483650), (0, 2147483649, 2147483668), (1, 42, 0)], some (0, 0, 4294967295), [(0, 9, (0, 2147483649, 2147483668))], [])], ([], [], []))
set_option maxRecDepth 100000 in
theorem te_c200 : tj_chk tj_Lam te_s200.2.2.1 [te_s174, te_s177, te_s198, te_s199] zx_d_X1_playEach te_s200.2.1 te_s200.2.2.2.1 te_s200.2.2.2.2 [] [] 3000 = true := by decide +kernel
theorem te_p200 : tj_KS1 (zx_Cl zx_mt zx_rc zx_mx' 24) tj_Lam te_s200 := tj_method te_so (d := 23) (by rw [← zx_q_X1_playEach]; rfl) (List.forall_mem_cons.mpr ⟨tj_KS1_le (by decide) te_p174, List.forall_mem_cons.mpr ⟨tj_KS1_le (by decide) te_p177, List.forall_mem_cons.mpr ⟨tj_KS1_le (by decide) te_p198, List.forall_mem_cons.mpr ⟨tj_KS1_le (by decide) te_p199, fun _ h => absurd h List.not_mem_nil⟩⟩⟩⟩) (by decide +kernel) (by decide +kernel) te_c200
/-! TwoInOne.played -/
def te_s201 : tj_C := (66, [(1, 100, 0), (0, 0, 4294967295), (0, 0, 4294967295), (0, 0, 4294967295)], ([(56, 4), (56, 5), (56, 6), (61, 8), (61, 9), (42, 1)], [54, 57, 58, 40]), [([(1, 100, 0), (0, 0, 4294967295), (0, 0, 4294967295), (0, 0, 4294967295)], some (0, 0, 4294967295), [], [])], ([], [], []))
set_option maxRecDepth 100000 in
theorem te_c201 : tj_chk tj_Lam te_s201.2.2.1 [te_s1, te_s25, te_s161, te_s200] zx_d_X11_played te_s201.2.1 te_s201.2.2.2.1 te_s201.2.2.2.2 [] [] 3000 = true := by decide +kernel
theorem te_p201 : tj_KS1 (zx_Cl zx_mt zx_rc zx_mx' 25) tj_Lam te_s201 := tj_method te_so (d := 24) (by rw [← zx_q_X11_played]; rfl) (List.forall_mem_cons.mpr ⟨tj_KS1_le (by decide) te_p1, List.forall_mem_cons.mpr ⟨tj_KS1_le (by decide) te_p25, List.forall_mem_cons.mpr ⟨tj_KS1_le (by decide) te_p161, List.forall_mem_cons.mpr ⟨tj_KS1_le (by decide) te_p200, fun _ h => absurd h List.not_mem_nil⟩⟩⟩⟩) (by decide +kernel) (by decide +kernel) te_c201
/-! Course.mostFavoured -/
def te_s202 : tj_C := (17, [(1, 56, 0)], ([], [55]), [([(1, 56, 0)], some (0, 2147483647, 2147483650), [], [])], ([], [], []))
set_option maxRecDepth 100000 in
theorem te_c202 : tj_chk tj_Lam te_s202.2.2.1 [te_s77, te_s78, te_s79, te_s81] zx_d_X0_mostFavoured te_s202.2.1 te_s202.2.2.2.1 te_s202.2.2.2.2 [((10, [(0, .inr 0), (1, .inr 1)], [], [(1, 56, 0), (0, 2147483648, 2147483656), (1, 55, 0)], [(0, .inr 0, .inl 3, .inr 2)]), [.inl 1, .inr (0, 3)], [(0, 0), (1, 1), (0, 0)])] [10] 3000 = true := by decide +kernel
theorem te_p202 : tj_KS1 (zx_Cl zx_mt zx_rc zx_mx' 3) tj_Lam te_s202 := tj_method te_so (d := 2) (by rw [← zx_q_X0_mostFavoured]; rfl) (List.forall_mem_cons.mpr ⟨tj_KS1_le (by decide) te_p77, List.forall_mem_cons.mpr ⟨tj_KS1_le (by decide) te_p78, List.forall_mem_cons.mpr ⟨tj_KS1_le (by decide) te_p79, List.forall_mem_cons.mpr ⟨tj_KS1_le (by decide) te_p81, fun _ h => absurd h List.not_mem_nil⟩⟩⟩⟩) (by decide +kernel) (by decide +kernel) te_c202
/-! TwoInOne.popular -/
def te_s203 : tj_C := (67, [(1, 100, 0)], ([], [55]), [([(1, 100, 0)], some (0, 2147483647, 2147483650), [], [])], ([], [], []))
set_option maxRecDepth 100000 in
theorem te_c203 : tj_chk tj_Lam te_s203.2.2.1 [te_s202] zx_d_X11_popular te_s203.2.1 te_s203.2.2.2.1 te_s203.2.2.2.2 [] [] 3000 = true := by decide +kernel
theorem te_p203 : tj_KS1 (zx_Cl zx_mt zx_rc zx_mx' 4) tj_Lam te_s203 := tj_method te_so (d := 3) (by rw [← zx_q_X11_popular]; rfl) (List.forall_mem_cons.mpr ⟨tj_KS1_le (by decide) te_p202, fun _ h => absurd h List.not_mem_nil⟩) (by decide +kernel) (by decide +kernel) te_c203
/-! State.goOn -/
def te_s204 : tj_C := (327, [(1, 33, 0), (0, 2147483648, 2147483651), (0, 2147483648, 2147483662)], ([], [29]), [([(1, 33, 0), (0, 2147483648, 2147483651), (0, 2147483648, 2147483662)], none, [], [])], ([], [], []))
set_option maxRecDepth 100000 in
theorem te_c204 : tj_chk tj_Lam te_s204.2.2.1 [te_s86] zx_d_X8_goOn te_s204.2.1 te_s204.2.2.2.1 te_s204.2.2.2.2 [((2, [(0, .inr 0), (1, .inr 1), (2, .inr 2), (3, .inr 3)], [], [(1, 33, 0), (0, 2147483648, 2147483651), (0, 2147483648, 2147483662), (0, 2147483648, 2147483661)], []), [.inl 3], [(0, 0), (1, 3), (0, 0)])] [2] 3000 = true := by decide +kernel
theorem te_p204 : tj_KS1 (zx_Cl zx_mt zx_rc zx_mx' 2) tj_Lam te_s204 := tj_method te_so (d := 1) (by rw [← zx_q_X8_goOn]; rfl) (List.forall_mem_cons.mpr ⟨tj_KS1_le (by decide) te_p86, fun _ h => absurd h List.not_mem_nil⟩) (by decide +kernel) (by decide +kernel) te_c204
/-! TwoInOne.record -/
def te_s205 : tj_C := (70, [(1, 100, 0), (0, 0, 4294967295), (0, 0, 4294967295)], ([], []), [([(1, 100, 0), (0, 0, 4294967295), (0, 0, 4294967295)], some (0, 0, 4294967295), [], [])], ([], [], []))
set_option maxRecDepth 100000 in
theorem te_c205 : tj_chk tj_Lam te_s205.2.2.1 [te_s4, te_s30, te_s153] zx_d_X11_record te_s205.2.1 te_s205.2.2.2.1 te_s205.2.2.2.2 [] [] 3000 = true := by decide +kernel
theorem te_p205 : tj_KS1 (zx_Cl zx_mt zx_rc zx_mx' 2) tj_Lam te_s205 := tj_method te_so (d := 1) (by rw [← zx_q_X11_record]; rfl) (List.forall_mem_cons.mpr ⟨tj_KS1_le (by decide) te_p4, List.forall_mem_cons.mpr ⟨tj_KS1_le (by decide) te_p30, List.forall_mem_cons.mpr ⟨tj_KS1_le (by decide) te_p153, fun _ h => absurd h List.not_mem_nil⟩⟩⟩) (by decide +kernel) (by decide +kernel) te_c205
/-! java/util/Arrays.fill -/
def te_s206 : tj_C := (1, [(1, 16, 0), (0, 2147483647, 2147483647)], ([], [16]), [([(1, 16, 0), (0, 2147483647, 2147483647)], none, [], [])], ([], [], []))
set_option maxRecDepth 100000 in
theorem te_c206 : tj_chk tj_Lam te_s206.2.2.1 [] zx_d_J7_fill_53178 te_s206.2.1 te_s206.2.2.2.1 te_s206.2.2.2.2 [((5, [(0, .inr 0), (1, .inr 1), (2, .inr 2), (3, .inr 3)], [], [(1, 16, 0), (0, 2147483647, 2147483647), (0, 2147483648, 2147483656), (0, 2147483656, 2147483656)], []), [.inl 2, .inl 3], [(0, 0), (1, 2), (0, 0)])] [5] 3000 = true := by decide +kernel
theorem te_p206 : tj_KS1 (zx_Cl zx_mt zx_rc zx_mx' 1) tj_Lam te_s206 := tj_method te_so (d := 0) (by rw [← zx_q_J7_fill_53178]; rfl) (fun _ h => absurd h List.not_mem_nil) (by decide +kernel) (by decide +kernel) te_c206
/-! java/util/Arrays.fill -/
def te_s207 : tj_C := (1, [(1, 17, 0), (0, 2147483647, 2147483647)], ([], [17]), [([(1, 17, 0), (0, 2147483647, 2147483647)], none, [], [])], ([], [], []))
set_option maxRecDepth 100000 in
theorem te_c207 : tj_chk tj_Lam te_s207.2.2.1 [] zx_d_J7_fill_53178 te_s207.2.1 te_s207.2.2.2.1 te_s207.2.2.2.2 [((5, [(0, .inr 0), (1, .inr 1), (2, .inr 2), (3, .inr 3)], [], [(1, 17, 0), (0, 2147483647, 2147483647), (0, 2147483648, 2147483656), (0, 2147483656, 2147483656)], []), [.inl 2, .inl 3], [(0, 0), (1, 2), (0, 0)])] [5] 3000 = true := by decide +kernel
theorem te_p207 : tj_KS1 (zx_Cl zx_mt zx_rc zx_mx' 1) tj_Lam te_s207 := tj_method te_so (d := 0) (by rw [← zx_q_J7_fill_53178]; rfl) (fun _ h => absurd h List.not_mem_nil) (by decide +kernel) (by decide +kernel) te_c207
/-! java/util/Arrays.fill -/
def te_s208 : tj_C := (1, [(1, 19, 0), (0, 2147483647, 2147483647)], ([], [19]), [([(1, 19, 0), (0, 2147483647, 2147483647)], none, [], [])], ([], [], []))
set_option maxRecDepth 100000 in
theorem te_c208 : tj_chk tj_Lam te_s208.2.2.1 [] zx_d_J7_fill_53178 te_s208.2.1 te_s208.2.2.2.1 te_s208.2.2.2.2 [((5, [(0, .inr 0), (1, .inr 1), (2, .inr 2), (3, .inr 3)], [], [(1, 19, 0), (0, 2147483647, 2147483647), (0, 2147483648, 2147483712), (0, 2147483712, 2147483712)], []), [.inl 2, .inl 3], [(0, 0), (1, 2), (0, 0)])] [5] 3000 = true := by decide +kernel
theorem te_p208 : tj_KS1 (zx_Cl zx_mt zx_rc zx_mx' 1) tj_Lam te_s208 := tj_method te_so (d := 0) (by rw [← zx_q_J7_fill_53178]; rfl) (fun _ h => absurd h List.not_mem_nil) (by decide +kernel) (by decide +kernel) te_c208
/-! Told.empty -/
def te_s209 : tj_C := (25, [(1, 27, 0)], ([(27, 0), (27, 1), (27, 2), (27, 3), (27, 4), (27, 5)], [16, 19, 17]), [([(1, 27, 0)], none, [(0, 0, (0, 2147483648, 2147483648)), (0, 1, (0, 2147483648, 2147483648)), (0, 2, (0, 2147483648, 2147483648)), (0, 3, (0, 2147483648, 2147483648)), (0, 4, (0, 2147483648, 2147483648)), (0, 5, (0, 2147483647, 2147483647))], [])], ([], [], []))
set_option maxRecDepth 100000 in
theorem te_c209 : tj_chk tj_Lam te_s209.2.2.1 [te_s206, te_s207, te_s208] zx_d_X10_empty te_s209.2.1 te_s209.2.2.2.1 te_s209.2.2.2.2 [] [] 3000 = true := by decide +kernel
theorem te_p209 : tj_KS1 (zx_Cl zx_mt zx_rc zx_mx' 2) tj_Lam te_s209 := tj_method te_so (d := 1) (by rw [← zx_q_X10_empty]; rfl) (List.forall_mem_cons.mpr ⟨tj_KS1_le (by decide) te_p206, List.forall_mem_cons.mpr ⟨tj_KS1_le (by decide) te_p207, List.forall_mem_cons.mpr ⟨tj_KS1_le (by decide) te_p208, fun _ h => absurd h List.not_mem_nil⟩⟩⟩) (by decide +kernel) (by decide +kernel) te_c209
/-! Reader.isLetter -/
def te_s210 : tj_C := (262, [(1, 49, 0), (0, 2147483648, 2147485247)], ([], []), [([(1, 49, 0), (0, 2147483648, 2147485247)], some (0, 2147483648, 2147483648), [], []), ([(1, 49, 0), (0, 2147483648, 2147485247)], some (0, 2147483649, 2147483649), [(0, 6, (0, 2147483649, 2147485248))], [])], ([], [], []))
set_option maxRecDepth 100000 in
theorem te_c210 : tj_chk tj_Lam te_s210.2.2.1 [] zx_d_X4_isLetter te_s210.2.1 te_s210.2.2.2.1 te_s210.2.2.2.2 [] [] 3000 = true := by decide +kernel
theorem te_p210 : tj_KS1 (zx_Cl zx_mt zx_rc zx_mx' 1) tj_Lam te_s210 := tj_method te_so (d := 0) (by rw [← zx_q_X4_isLetter]; rfl) (fun _ h => absurd h List.not_mem_nil) (by decide +kernel) (by decide +kernel) te_c210
/-! Reader.isDigit -/
def te_s211 : tj_C := (261, [(1, 49, 0), (0, 2147483648, 2147485247)], ([], []), [([(1, 49, 0), (0, 2147483648, 2147485247)], some (0, 2147483648, 2147483648), [], []), ([(1, 49, 0), (0, 2147483648, 2147485247)], some (0, 2147483649, 2147483649), [(0, 6, (0, 2147483649, 2147485248))], [])], ([], [], []))
set_option maxRecDepth 100000 in
theorem te_c211 : tj_chk tj_Lam te_s211.2.2.1 [] zx_d_X4_isDigit te_s211.2.1 te_s211.2.2.2.1 te_s211.2.2.2.2 [] [] 3000 = true := by decide +kernel
theorem te_p211 : tj_KS1 (zx_Cl zx_mt zx_rc zx_mx' 1) tj_Lam te_s211 := tj_method te_so (d := 0) (by rw [← zx_q_X4_isDigit]; rfl) (fun _ h => absurd h List.not_mem_nil) (by decide +kernel) (by decide +kernel) te_c211
/-! Reader.isSign -/
def te_s212 : tj_C := (263, [(0, 2147483648, 2147483903)], ([], []), [([(0, 2147483648, 2147483903)], some (0, 2147483648, 2147483648), [], []), ([(0, 2147483685, 2147483710)], some (0, 2147483649, 2147483649), [], [])], ([], [], []))
set_option maxRecDepth 100000 in
theorem te_c212 : tj_chk tj_Lam te_s212.2.2.1 [] zx_d_X4_isSign te_s212.2.1 te_s212.2.2.2.1 te_s212.2.2.2.2 [] [] 3000 = true := by decide +kernel
theorem te_p212 : tj_KS1 (zx_Cl zx_mt zx_rc zx_mx' 1) tj_Lam te_s212 := tj_method te_so (d := 0) (by rw [← zx_q_X4_isSign]; rfl) (fun _ h => absurd h List.not_mem_nil) (by decide +kernel) (by decide +kernel) te_c212
/-! Reader.isLetter -/
def te_s213 : tj_C := (262, [(1, 49, 0), (0, 2147483648, 2147485248)], ([], []), [([(1, 49, 0), (0, 2147483648, 2147485248)], some (0, 2147483648, 2147483648), [], []), ([(1, 49, 0), (0, 2147483648, 2147485247)], some (0, 2147483649, 2147483649), [(0, 6, (0, 2147483649, 2147485248))], [])], ([], [], []))
set_option maxRecDepth 100000 in
theorem te_c213 : tj_chk tj_Lam te_s213.2.2.1 [] zx_d_X4_isLetter te_s213.2.1 te_s213.2.2.2.1 te_s213.2.2.2.2 [] [] 3000 = true := by decide +kernel
theorem te_p213 : tj_KS1 (zx_Cl zx_mt zx_rc zx_mx' 1) tj_Lam te_s213 := tj_method te_so (d := 0) (by rw [← zx_q_X4_isLetter]; rfl) (fun _ h => absurd h List.not_mem_nil) (by decide +kernel) (by decide +kernel) te_c213
/-! Reader.scanNumber -/
def te_s214 : tj_C := (269, [(1, 49, 0)], ([(49, 10), (49, 12), (49, 13)], []), [([(1, 49, 0)], none, [(0, 10, (0, 2147483649, 2147483651))], [])], ([], [], []))
set_option maxRecDepth 100000 in
theorem te_c214 : tj_chk tj_Lam te_s214.2.2.1 [te_s210, te_s211, te_s213] zx_d_X4_scanNumber te_s214.2.1 te_s214.2.2.2.1 te_s214.2.2.2.2 [((5, [(0, .inr 0)], [], [(1, 49, 0), (0, 0, 4294967295), (0, 0, 4294967295), (0, 2147483648, 2147485248)], [(0, .inr 0, .inl 10, .inr 1), (0, .inr 0, .inl 12, .inr 2), (0, .inr 0, .inl 13, .inr 3)]), [.inr (0, 10), .inr (0, 12), .inr (0, 13)], [(0, 0), (1, 3), (0, 0)])] [5] 3000 = true := by decide +kernel
theorem te_p214 : tj_KS1 (zx_Cl zx_mt zx_rc zx_mx' 2) tj_Lam te_s214 := tj_method te_so (d := 1) (by rw [← zx_q_X4_scanNumber]; rfl) (List.forall_mem_cons.mpr ⟨tj_KS1_le (by decide) te_p210, List.forall_mem_cons.mpr ⟨tj_KS1_le (by decide) te_p211, List.forall_mem_cons.mpr ⟨tj_KS1_le (by decide) te_p213, fun _ h => absurd h List.not_mem_nil⟩⟩⟩) (by decide +kernel) (by decide +kernel) te_c214
/-! Reader.scanWord -/
def te_s215 : tj_C := (270, [(1, 49, 0)], ([(49, 11), (49, 13)], []), [([(1, 49, 0)], none, [], [])], ([], [], []))
set_option maxRecDepth 100000 in
theorem te_c215 : tj_chk tj_Lam te_s215.2.2.1 [te_s210] zx_d_X4_scanWord te_s215.2.1 te_s215.2.2.2.1 te_s215.2.2.2.2 [((5, [(0, .inr 0)], [], [(1, 49, 0), (3, 0, 0), (0, 2147483648, 2147485248)], [(0, .inr 0, .inl 11, .inr 1), (0, .inr 0, .inl 13, .inr 2)]), [.inr (0, 11), .inr (0, 13)], [(0, 0), (1, 2), (0, 0)])] [5] 3000 = true := by decide +kernel
theorem te_p215 : tj_KS1 (zx_Cl zx_mt zx_rc zx_mx' 2) tj_Lam te_s215 := tj_method te_so (d := 1) (by rw [← zx_q_X4_scanWord]; rfl) (List.forall_mem_cons.mpr ⟨tj_KS1_le (by decide) te_p210, fun _ h => absurd h List.not_mem_nil⟩) (by decide +kernel) (by decide +kernel) te_c215
/-! Reader.indexOf -/
def te_s216 : tj_C := (259, [(1, 49, 0), (1, 44, 0), (0, 2147483648, 2147483655)], ([], []), [([(1, 49, 0), (1, 44, 0), (0, 2147483648, 2147483655)], some (0, 2147483647, 2147483647), [], []), ([(1, 49, 0), (1, 44, 0), (0, 2147483649, 2147483655)], some (0, 2147483648, 2147483654), [], [])], ([], [], []))
set_option maxRecDepth 100000 in
theorem te_c216 : tj_chk tj_Lam te_s216.2.2.1 [] zx_d_X4_indexOf te_s216.2.1 te_s216.2.2.2.1 te_s216.2.2.2.2 [((2, [(0, .inr 0), (1, .inr 1), (2, .inr 2), (3, .inr 3)], [], [(1, 49, 0), (1, 44, 0), (0, 2147483648, 2147483655), (0, 2147483648, 2147483655)], []), [.inl 3], [(0, 0), (1, 3), (0, 0)])] [2] 3000 = true := by decide +kernel
theorem te_p216 : tj_KS1 (zx_Cl zx_mt zx_rc zx_mx' 1) tj_Lam te_s216 := tj_method te_so (d := 0) (by rw [← zx_q_X4_indexOf]; rfl) (fun _ h => absurd h List.not_mem_nil) (by decide +kernel) (by decide +kernel) te_c216
/-! Reader.refuse -/
def te_s217 : tj_C := (268, [(1, 49, 0), (0, 2147483651, 2147483651)], ([(49, 7), (49, 8)], []), [([(1, 49, 0), (0, 2147483651, 2147483651)], some (0, 2147483648, 2147483648), [(0, 7, (0, 2147483649, 2147483651)), (0, 8, (0, 2147483648, 2147485248))], [])], ([], [], []))
set_option maxRecDepth 100000 in
theorem te_c217 : tj_chk tj_Lam te_s217.2.2.1 [] zx_d_X4_refuse te_s217.2.1 te_s217.2.2.2.1 te_s217.2.2.2.2 [] [] 3000 = true := by decide +kernel
theorem te_p217 : tj_KS1 (zx_Cl zx_mt zx_rc zx_mx' 1) tj_Lam te_s217 := tj_method te_so (d := 0) (by rw [← zx_q_X4_refuse]; rfl) (fun _ h => absurd h List.not_mem_nil) (by decide +kernel) (by decide +kernel) te_c217
/-! Reader.refuse -/
def te_s218 : tj_C := (268, [(1, 49, 0), (0, 2147483650, 2147483650)], ([(49, 7), (49, 8)], []), [([(1, 49, 0), (0, 2147483650, 2147483650)], some (0, 2147483648, 2147483648), [(0, 7, (0, 2147483649, 2147483650)), (0, 8, (0, 2147483648, 2147485248))], [])], ([], [], []))
set_option maxRecDepth 100000 in
theorem te_c218 : tj_chk tj_Lam te_s218.2.2.1 [] zx_d_X4_refuse te_s218.2.1 te_s218.2.2.2.1 te_s218.2.2.2.2 [] [] 3000 = true := by decide +kernel
theorem te_p218 : tj_KS1 (zx_Cl zx_mt zx_rc zx_mx' 1) tj_Lam te_s218 := tj_method te_so (d := 0) (by rw [← zx_q_X4_refuse]; rfl) (fun _ h => absurd h List.not_mem_nil) (by decide +kernel) (by decide +kernel) te_c218
/-! Reader.refuse -/
def te_s219 : tj_C := (268, [(1, 49, 0), (0, 2147483652, 2147483652)], ([(49, 7), (49, 8)], []), [([(1, 49, 0), (0, 2147483652, 2147483652)], some (0, 2147483648, 2147483648), [(0, 7, (0, 2147483649, 2147483652)), (0, 8, (0, 2147483648, 2147485248))], [])], ([], [], []))
set_option maxRecDepth 100000 in
theorem te_c219 : tj_chk tj_Lam te_s219.2.2.1 [] zx_d_X4_refuse te_s219.2.1 te_s219.2.2.2.1 te_s219.2.2.2.2 [] [] 3000 = true := by decide +kernel
theorem te_p219 : tj_KS1 (zx_Cl zx_mt zx_rc zx_mx' 1) tj_Lam te_s219 := tj_method te_so (d := 0) (by rw [← zx_q_X4_refuse]; rfl) (fun _ h => absurd h List.not_mem_nil) (by decide +kernel) (by decide +kernel) te_c219
/-! Reader.indexOf -/
def te_s220 : tj_C := (259, [(1, 49, 0), (1, 45, 0), (0, 2147483648, 2147483651)], ([], []), [([(1, 49, 0), (1, 45, 0), (0, 2147483648, 2147483651)], some (0, 2147483647, 2147483647), [], []), ([(1, 49, 0), (1, 45, 0), (0, 2147483649, 2147483651)], some (0, 2147483648, 2147483650), [], [])], ([], [], []))
set_option maxRecDepth 100000 in
theorem te_c220 : tj_chk tj_Lam te_s220.2.2.1 [] zx_d_X4_indexOf te_s220.2.1 te_s220.2.2.2.1 te_s220.2.2.2.2 [((2, [(0, .inr 0), (1, .inr 1), (2, .inr 2), (3, .inr 3)], [], [(1, 49, 0), (1, 45, 0), (0, 2147483648, 2147483651), (0, 2147483648, 2147483651)], []), [.inl 3], [(0, 0), (1, 3), (0, 0)])] [2] 3000 = true := by decide +kernel
theorem te_p220 : tj_KS1 (zx_Cl zx_mt zx_rc zx_mx' 1) tj_Lam te_s220 := tj_method te_so (d := 0) (by rw [← zx_q_X4_indexOf]; rfl) (fun _ h => absurd h List.not_mem_nil) (by decide +kernel) (by decide +kernel) te_c220
/-! Reader.indexOf -/
def te_s221 : tj_C := (259, [(1, 49, 0), (1, 46, 0), (0, 2147483648, 2147483653)], ([], []), [([(1, 49, 0), (1, 46, 0), (0, 2147483648, 2147483653)], some (0, 2147483647, 2147483647), [], []), ([(1, 49, 0), (1, 46, 0), (0, 2147483649, 2147483653)], some (0, 2147483648, 2147483652), [], [])], ([], [], []))
set_option maxRecDepth 100000 in
theorem te_c221 : tj_chk tj_Lam te_s221.2.2.1 [] zx_d_X4_indexOf te_s221.2.1 te_s221.2.2.2.1 te_s221.2.2.2.2 [((2, [(0, .inr 0), (1, .inr 1), (2, .inr 2), (3, .inr 3)], [], [(1, 49, 0), (1, 46, 0), (0, 2147483648, 2147483653), (0, 2147483648, 2147483653)], []), [.inl 3], [(0, 0), (1, 3), (0, 0)])] [2] 3000 = true := by decide +kernel
theorem te_p221 : tj_KS1 (zx_Cl zx_mt zx_rc zx_mx' 1) tj_Lam te_s221 := tj_method te_so (d := 0) (by rw [← zx_q_X4_indexOf]; rfl) (fun _ h => absurd h List.not_mem_nil) (by decide +kernel) (by decide +kernel) te_c221
/-! Reader.emit -/
def te_s222 : tj_C := (254, [(1, 49, 0), (0, 0, 4294967295)], ([(49, 16), (49, 7), (49, 8)], [26]), [([(1, 49, 0), (0, 0, 4294967295)], some (0, 2147483648, 2147483648), [(0, 7, (0, 2147483649, 2147483650)), (0, 8, (0, 2147483648, 2147485248)), (0, 16, (0, 2147484288, 2147484288))], []), ([(1, 49, 0), (0, 0, 4294967295)], some (0, 2147483649, 2147483649), [(0, 16, (0, 2147483649, 2147484288))], [])], ([], [], []))
set_option maxRecDepth 100000 in
theorem te_c222 : tj_chk tj_Lam te_s222.2.2.1 [te_s218] zx_d_X4_emit te_s222.2.1 te_s222.2.2.2.1 te_s222.2.2.2.2 [] [] 3000 = true := by decide +kernel
theorem te_p222 : tj_KS1 (zx_Cl zx_mt zx_rc zx_mx' 2) tj_Lam te_s222 := tj_method te_so (d := 1) (by rw [← zx_q_X4_emit]; rfl) (List.forall_mem_cons.mpr ⟨tj_KS1_le (by decide) te_p218, fun _ h => absurd h List.not_mem_nil⟩) (by decide +kernel) (by decide +kernel) te_c222
/-! Reader.levelOf -/
def te_s223 : tj_C := (264, [(0, 2147483648, 2147483865)], ([], []), [([(0, 2147483648, 2147483865)], some (0, 2147483647, 2147483647), [], []), ([(0, 2147483685, 2147483862)], some (0, 2147483648, 2147483652), [], [])], ([], [], []))
set_option maxRecDepth 100000 in
theorem te_c223 : tj_chk tj_Lam te_s223.2.2.1 [] zx_d_X4_levelOf te_s223.2.1 te_s223.2.2.2.1 te_s223.2.2.2.2 [] [] 3000 = true := by decide +kernel
theorem te_p223 : tj_KS1 (zx_Cl zx_mt zx_rc zx_mx' 1) tj_Lam te_s223 := tj_method te_so (d := 0) (by rw [← zx_q_X4_levelOf]; rfl) (fun _ h => absurd h List.not_mem_nil) (by decide +kernel) (by decide +kernel) te_c223
/-! Told.copyFrom -/
def te_s224 : tj_C := (24, [(1, 13, 0), (1, 27, 0)], ([(13, 0), (13, 1), (13, 2), (13, 3), (13, 4), (13, 5)], [1, 12, 2, 9, 5, 11, 10, 6, 3, 4, 7, 0, 8]), [([(1, 13, 0), (1, 27, 0)], none, [], [])], ([], [], []))
set_option maxRecDepth 100000 in
theorem te_c224 : tj_chk tj_Lam te_s224.2.2.1 [] zx_d_X10_copyFrom te_s224.2.1 te_s224.2.2.2.1 te_s224.2.2.2.2 [] [] 3000 = true := by decide +kernel
theorem te_p224 : tj_KS1 (zx_Cl zx_mt zx_rc zx_mx' 1) tj_Lam te_s224 := tj_method te_so (d := 0) (by rw [← zx_q_X10_copyFrom]; rfl) (fun _ h => absurd h List.not_mem_nil) (by decide +kernel) (by decide +kernel) te_c224
/-! java/util/Arrays.fill -/
def te_s225 : tj_C := (1, [(1, 28, 0), (0, 2147483648, 2147483648)], ([], [28]), [([(1, 28, 0), (0, 2147483648, 2147483648)], none, [], [])], ([], [], []))
set_option maxRecDepth 100000 in
theorem te_c225 : tj_chk tj_Lam te_s225.2.2.1 [] zx_d_J7_fill_53178 te_s225.2.1 te_s225.2.2.2.1 te_s225.2.2.2.2 [((5, [(0, .inr 0), (1, .inr 1), (2, .inr 2), (3, .inr 3)], [], [(1, 28, 0), (0, 2147483648, 2147483648), (0, 2147483648, 2147483652), (0, 2147483652, 2147483652)], []), [.inl 2, .inl 3], [(0, 0), (1, 2), (0, 0)])] [5] 3000 = true := by decide +kernel
theorem te_p225 : tj_KS1 (zx_Cl zx_mt zx_rc zx_mx' 1) tj_Lam te_s225 := tj_method te_so (d := 0) (by rw [← zx_q_J7_fill_53178]; rfl) (fun _ h => absurd h List.not_mem_nil) (by decide +kernel) (by decide +kernel) te_c225
/-! java/util/Arrays.fill -/
def te_s226 : tj_C := (1, [(1, 30, 0), (0, 2147483649, 2147483649)], ([], [30]), [([(1, 30, 0), (0, 2147483649, 2147483649)], none, [], [])], ([], [], []))
set_option maxRecDepth 100000 in
theorem te_c226 : tj_chk tj_Lam te_s226.2.2.1 [] zx_d_J7_fill_53178 te_s226.2.1 te_s226.2.2.2.1 te_s226.2.2.2.2 [((5, [(0, .inr 0), (1, .inr 1), (2, .inr 2), (3, .inr 3)], [], [(1, 30, 0), (0, 2147483649, 2147483649), (0, 2147483648, 2147483656), (0, 2147483656, 2147483656)], []), [.inl 2, .inl 3], [(0, 0), (1, 2), (0, 0)])] [5] 3000 = true := by decide +kernel
theorem te_p226 : tj_KS1 (zx_Cl zx_mt zx_rc zx_mx' 1) tj_Lam te_s226 := tj_method te_so (d := 0) (by rw [← zx_q_J7_fill_53178]; rfl) (fun _ h => absurd h List.not_mem_nil) (by decide +kernel) (by decide +kernel) te_c226
/-! java/util/Arrays.fill -/
def te_s227 : tj_C := (1, [(1, 31, 0), (0, 2147483648, 2147483648)], ([], [31]), [([(1, 31, 0), (0, 2147483648, 2147483648)], none, [], [])], ([], [], []))
set_option maxRecDepth 100000 in
theorem te_c227 : tj_chk tj_Lam te_s227.2.2.1 [] zx_d_J7_fill_53178 te_s227.2.1 te_s227.2.2.2.1 te_s227.2.2.2.2 [((5, [(0, .inr 0), (1, .inr 1), (2, .inr 2), (3, .inr 3)], [], [(1, 31, 0), (0, 2147483648, 2147483648), (0, 2147483648, 2147483696), (0, 2147483696, 2147483696)], []), [.inl 2, .inl 3], [(0, 0), (1, 2), (0, 0)])] [5] 3000 = true := by decide +kernel
theorem te_p227 : tj_KS1 (zx_Cl zx_mt zx_rc zx_mx' 1) tj_Lam te_s227 := tj_method te_so (d := 0) (by rw [← zx_q_J7_fill_53178]; rfl) (fun _ h => absurd h List.not_mem_nil) (by decide +kernel) (by decide +kernel) te_c227
/-! java/util/Arrays.fill -/
def te_s228 : tj_C := (1, [(1, 32, 0), (0, 2147483648, 2147483648)], ([], [32]), [([(1, 32, 0), (0, 2147483648, 2147483648)], none, [], [])], ([], [], []))
set_option maxRecDepth 100000 in
theorem te_c228 : tj_chk tj_Lam te_s228.2.2.1 [] zx_d_J7_fill_53178 te_s228.2.1 te_s228.2.2.2.1 te_s228.2.2.2.2 [((5, [(0, .inr 0), (1, .inr 1), (2, .inr 2), (3, .inr 3)], [], [(1, 32, 0), (0, 2147483648, 2147483648), (0, 2147483648, 2147483656), (0, 2147483656, 2147483656)], []), [.inl 2, .inl 3], [(0, 0), (1, 2), (0, 0)])] [5] 3000 = true := by decide +kernel
theorem te_p228 : tj_KS1 (zx_Cl zx_mt zx_rc zx_mx' 1) tj_Lam te_s228 := tj_method te_so (d := 0) (by rw [← zx_q_J7_fill_53178]; rfl) (fun _ h => absurd h List.not_mem_nil) (by decide +kernel) (by decide +kernel) te_c228
/-! State.begin -/
def te_s229 : tj_C := (324, [(1, 33, 0), (1, 13, 0)], ([(33, 0), (33, 1)], [30, 31, 32, 28, 29]), [([(1, 33, 0), (1, 13, 0)], none, [(0, 0, (0, 2147483648, 2147483648))], [])], ([], [], []))
set_option maxRecDepth 100000 in
theorem te_c229 : tj_chk tj_Lam te_s229.2.2.1 [te_s225, te_s226, te_s227, te_s228] zx_d_X8_begin te_s229.2.1 te_s229.2.2.2.1 te_s229.2.2.2.2 [] [] 3000 = true := by decide +kernel
theorem te_p229 : tj_KS1 (zx_Cl zx_mt zx_rc zx_mx' 2) tj_Lam te_s229 := tj_method te_so (d := 1) (by rw [← zx_q_X8_begin]; rfl) (List.forall_mem_cons.mpr ⟨tj_KS1_le (by decide) te_p225, List.forall_mem_cons.mpr ⟨tj_KS1_le (by decide) te_p226, List.forall_mem_cons.mpr ⟨tj_KS1_le (by decide) te_p227, List.forall_mem_cons.mpr ⟨tj_KS1_le (by decide) te_p228, fun _ h => absurd h List.not_mem_nil⟩⟩⟩⟩) (by decide +kernel) (by decide +kernel) te_c229
/-! History.emptyBoxes -/
def te_s230 : tj_C := (233, [(1, 53, 0)], ([], [52]), [([(1, 53, 0)], none, [], [])], ([], [], []))
set_option maxRecDepth 100000 in
theorem te_c230 : tj_chk tj_Lam te_s230.2.2.1 [] zx_d_X2_emptyBoxes te_s230.2.1 te_s230.2.2.2.1 te_s230.2.2.2.2 [((2, [(0, .inr 0), (1, .inr 1)], [], [(1, 53, 0), (0, 2147483648, 2147483651)], []), [.inl 1], [(0, 0), (1, 1), (0, 0)])] [2] 3000 = true := by decide +kernel
theorem te_p230 : tj_KS1 (zx_Cl zx_mt zx_rc zx_mx' 1) tj_Lam te_s230 := tj_method te_so (d := 0) (by rw [← zx_q_X2_emptyBoxes]; rfl) (fun _ h => absurd h List.not_mem_nil) (by decide +kernel) (by decide +kernel) te_c230
/-! Sights.clear -/
def te_s231 : tj_C := (311, [(1, 73, 0)], ([(73, 6)], []), [([(1, 73, 0)], none, [(0, 6, (0, 2147483648, 2147483648))], [])], ([], [], []))
set_option maxRecDepth 100000 in
theorem te_c231 : tj_chk tj_Lam te_s231.2.2.1 [] zx_d_X7_clear te_s231.2.1 te_s231.2.2.2.1 te_s231.2.2.2.2 [] [] 3000 = true := by decide +kernel
theorem te_p231 : tj_KS1 (zx_Cl zx_mt zx_rc zx_mx' 1) tj_Lam te_s231 := tj_method te_so (d := 0) (by rw [← zx_q_X7_clear]; rfl) (fun _ h => absurd h List.not_mem_nil) (by decide +kernel) (by decide +kernel) te_c231
/-! Sights.tell -/
def te_s232 : tj_C := (321, [(1, 73, 0), (0, 0, 4294967295), (0, 2147483647, 2147483647), (0, 2147483648, 2147483657)], ([(73, 6)], [70, 66, 67, 68, 69]), [([(1, 73, 0), (0, 0, 4294967295), (0, 2147483647, 2147483647), (0, 2147483648, 2147483657)], some (0, 2147483647, 2147483647), [], []), ([(1, 73, 0), (0, 2147483648, 2147483747), (0, 2147483647, 2147483647), (0, 2147483648, 2147483657)], some (0, 2147483648, 2147483677), [(0, 6, (0, 2147483649, 2147483678))], [])], ([], [], []))
set_option maxRecDepth 100000 in
theorem te_c232 : tj_chk tj_Lam te_s232.2.2.1 [] zx_d_X7_tell te_s232.2.1 te_s232.2.2.2.1 te_s232.2.2.2.2 [] [] 3000 = true := by decide +kernel
theorem te_p232 : tj_KS1 (zx_Cl zx_mt zx_rc zx_mx' 1) tj_Lam te_s232 := tj_method te_so (d := 0) (by rw [← zx_q_X7_tell]; rfl) (fun _ h => absurd h List.not_mem_nil) (by decide +kernel) (by decide +kernel) te_c232
/-! TwoInOne.shown -/
def te_s233 : tj_C := (73, [(1, 100, 0), (0, 0, 4294967295), (0, 0, 4294967295)], ([(73, 6)], [70, 66, 67, 68, 69]), [([(1, 100, 0), (0, 0, 4294967295), (0, 0, 4294967295)], some (0, 2147483647, 2147483647), [], []), ([(1, 100, 0), (0, 2147483648, 2147483747), (0, 2147483648, 2147483657)], some (0, 2147483648, 2147483677), [], [])], ([], [], []))
set_option maxRecDepth 100000 in
theorem te_c233 : tj_chk tj_Lam te_s233.2.2.1 [te_s232] zx_d_X11_shown te_s233.2.1 te_s233.2.2.2.1 te_s233.2.2.2.2 [] [] 3000 = true := by decide +kernel
theorem te_p233 : tj_KS1 (zx_Cl zx_mt zx_rc zx_mx' 2) tj_Lam te_s233 := tj_method te_so (d := 1) (by rw [← zx_q_X11_shown]; rfl) (List.forall_mem_cons.mpr ⟨tj_KS1_le (by decide) te_p232, fun _ h => absurd h List.not_mem_nil⟩) (by decide +kernel) (by decide +kernel) te_c233
/-! Sights.tell -/
def te_s234 : tj_C := (321, [(1, 73, 0), (0, 0, 4294967295), (0, 2147483648, 2147483655), (0, 2147483647, 2147483647)], ([(73, 6)], [70, 66, 67, 68, 69]), [([(1, 73, 0), (0, 0, 4294967295), (0, 2147483648, 2147483655), (0, 2147483647, 2147483647)], some (0, 2147483647, 2147483647), [], []), ([(1, 73, 0), (0, 2147483648, 2147483747), (0, 2147483648, 2147483655), (0, 2147483647, 2147483647)], some (0, 2147483648, 2147483677), [(0, 6, (0, 2147483649, 2147483678))], [])], ([], [], []))
set_option maxRecDepth 100000 in
theorem te_c234 : tj_chk tj_Lam te_s234.2.2.1 [] zx_d_X7_tell te_s234.2.1 te_s234.2.2.2.1 te_s234.2.2.2.2 [] [] 3000 = true := by decide +kernel
theorem te_p234 : tj_KS1 (zx_Cl zx_mt zx_rc zx_mx' 1) tj_Lam te_s234 := tj_method te_so (d := 0) (by rw [← zx_q_X7_tell]; rfl) (fun _ h => absurd h List.not_mem_nil) (by decide +kernel) (by decide +kernel) te_c234
/-! TwoInOne.sight -/
def te_s235 : tj_C := (74, [(1, 100, 0), (0, 0, 4294967295), (0, 0, 4294967295)], ([(73, 6)], [70, 66, 67, 68, 69]), [([(1, 100, 0), (0, 0, 4294967295), (0, 0, 4294967295)], some (0, 2147483647, 2147483647), [], []), ([(1, 100, 0), (0, 2147483648, 2147483747), (0, 2147483648, 2147483655)], some (0, 2147483648, 2147483677), [], [])], ([], [], []))
set_option maxRecDepth 100000 in
theorem te_c235 : tj_chk tj_Lam te_s235.2.2.1 [te_s4, te_s234] zx_d_X11_sight te_s235.2.1 te_s235.2.2.2.1 te_s235.2.2.2.2 [] [] 3000 = true := by decide +kernel
theorem te_p235 : tj_KS1 (zx_Cl zx_mt zx_rc zx_mx' 2) tj_Lam te_s235 := tj_method te_so (d := 1) (by rw [← zx_q_X11_sight]; rfl) (List.forall_mem_cons.mpr ⟨tj_KS1_le (by decide) te_p4, List.forall_mem_cons.mpr ⟨tj_KS1_le (by decide) te_p234, fun _ h => absurd h List.not_mem_nil⟩⟩) (by decide +kernel) (by decide +kernel) te_c235
/-! Course.winnerOn -/
def te_s236 : tj_C := (23, [(1, 56, 0), (0, 0, 4294967295)], ([], [55]), [([(1, 56, 0), (0, 0, 4294967295)], some (0, 2147483647, 2147483650), [], [])], ([], [], []))
set_option maxRecDepth 100000 in
theorem te_c236 : tj_chk tj_Lam te_s236.2.2.1 [te_s26, te_s77, te_s78, te_s79, te_s81] zx_d_X0_winnerOn te_s236.2.1 te_s236.2.2.2.1 te_s236.2.2.2.2 [((10, [(0, .inr 0), (1, .inr 1), (2, .inr 2)], [], [(1, 56, 0), (0, 0, 4294967295), (0, 2147483648, 2147483652), (1, 55, 0)], [(0, .inr 0, .inl 3, .inr 3)]), [.inl 2, .inr (0, 3)], [(0, 0), (1, 2), (0, 0)])] [10] 3000 = true := by decide +kernel
theorem te_p236 : tj_KS1 (zx_Cl zx_mt zx_rc zx_mx' 3) tj_Lam te_s236 := tj_method te_so (d := 2) (by rw [← zx_q_X0_winnerOn]; rfl) (List.forall_mem_cons.mpr ⟨tj_KS1_le (by decide) te_p26, List.forall_mem_cons.mpr ⟨tj_KS1_le (by decide) te_p77, List.forall_mem_cons.mpr ⟨tj_KS1_le (by decide) te_p78, List.forall_mem_cons.mpr ⟨tj_KS1_le (by decide) te_p79, List.forall_mem_cons.mpr ⟨tj_KS1_le (by decide) te_p81, fun _ h => absurd h List.not_mem_nil⟩⟩⟩⟩⟩) (by decide +kernel) (by decide +kernel) te_c236
/-! Course.daysLost -/
def te_s237 : tj_C := (8, [(1, 56, 0), (0, 2147483648, 2147483747)], ([], [55]), [([(1, 56, 0), (0, 2147483648, 2147483747)], some (0, 0, 4294967295), [], [])], ([], [], []))
set_option maxRecDepth 100000 in
theorem te_c237 : tj_chk tj_Lam te_s237.2.2.1 [te_s202, te_s236] zx_d_X0_daysLost te_s237.2.1 te_s237.2.2.2.1 te_s237.2.2.2.2 [((10, [(0, .inr 0), (1, .inr 1), (2, .inr 2), (3, .inr 3), (4, .inr 4)], [], [(1, 56, 0), (0, 2147483648, 2147483747), (0, 2147483647, 2147483650), (0, 0, 4294967295), (0, 2147483648, 2147483747)], []), [.inl 2, .inl 3, .inl 4], [(0, 0), (1, 4), (0, 0)])] [10] 3000 = true := by decide +kernel
theorem te_p237 : tj_KS1 (zx_Cl zx_mt zx_rc zx_mx' 4) tj_Lam te_s237 := tj_method te_so (d := 3) (by rw [← zx_q_X0_daysLost]; rfl) (List.forall_mem_cons.mpr ⟨tj_KS1_le (by decide) te_p202, List.forall_mem_cons.mpr ⟨tj_KS1_le (by decide) te_p236, fun _ h => absurd h List.not_mem_nil⟩⟩) (by decide +kernel) (by decide +kernel) te_c237
