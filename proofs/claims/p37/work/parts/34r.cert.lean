/-! Game.solveEach -/
def te_s326 : tj_C := (230, [(1, 61, 0), (0, 2147483649, 2147483649), (0, 2147483648, 2147483747)], ([(56, 4), (56, 5), (56, 6)], [54, 57, 58]), [([(1, 61, 0), (0, 2147483649, 2147483649), (0, 2147483648, 2147483747)], none, ([], [], []))], ([], [], []))
set_option maxRecDepth 100000 in
theorem te_c326 : tj_chk tj_Lam te_s326.2.2.1 [te_s34, te_s35, te_s43, te_s72, te_s304, te_s306, te_s307, te_s325] zx_d_X1_solveEach te_s326.2.1 te_s326.2.2.2.1 te_s326.2.2.2.2 [((60, [(0, .inr 0), (1, .inr 1), (2, .inr 2), (3, .inr 3), (4, .inr 4), (5, .inr 5), (6, .inr 6), (7, .inr 7), (8, .inr 8)], [], [(1, 61, 0), (0, 2147483649, 2147483649), (0, 2147483648, 2147483747), (0, 2147483648, 2147483655), (0, 2147483647, 2147483653), (0, 0, 4294967295), (0, 0, 4294967295), (0, 2147483648, 2147483747), (0, 2147483648, 2147483654), (1, 33, 0), (1, 56, 0), (1, 57, 0), (0, 2147483648, 2147483651), (0, 2147483650, 2147483668), (0, 0, 4294967295)], [(0, .inr 0, .inl 1, .inr 9), (0, .inr 0, .inl 2, .inr 10), (0, .inr 0, .inl 3, .inr 11), (0, .inr 0, .inl 8, .inr 12), (0, .inr 0, .inl 9, .inr 13), (0, .inr 9, .inl 0, .inr 14)]), [.inl 3, .inl 4, .inl 5, .inl 6, .inl 7, .inl 8, .inr (0, 1), .inr (0, 2), .inr (0, 3), .inr (0, 8), .inr (0, 9), .inr (9, 0)], [(0, 0), (1, 8), (0, 0)]), ((60, [(0, .inr 0), (1, .inr 1), (2, .inr 2), (3, .inr 3), (4, .inr 4), (5, .inr 5), (6, .inr 6), (7, .inr 2), (8, .inr 7)], [], [(1, 61, 0), (0, 2147483649, 2147483649), (0, 2147483648, 2147483747), (0, 2147483647, 2147483647), (0, 2147483647, 2147483647), (0, 2147483648, 2147483648), (0, 2147483648, 2147483648), (0, 2147483648, 2147483648), (1, 33, 0), (1, 56, 0), (1, 57, 0), (0, 2147483648, 2147483651), (0, 2147483650, 2147483668), (0, 0, 4294967295)], [(0, .inr 0, .inl 1, .inr 8), (0, .inr 0, .inl 2, .inr 9), (0, .inr 0, .inl 3, .inr 10), (0, .inr 0, .inl 8, .inr 11), (0, .inr 0, .inl 9, .inr 12), (0, .inr 8, .inl 0, .inr 13)]), [.inl 3, .inl 4, .inl 5, .inl 6, .inl 8, .inr (0, 1), .inr (0, 2), .inr (0, 3), .inr (0, 8), .inr (0, 9), .inr (8, 0)], [(0, 1), (0, 0), (0, 0)])] [60] 3000 = true := by decide +kernel
theorem te_p326 : tj_KS1 (zx_Cl zx_mt zx_rc zx_mx' 22) tj_Lam te_s326 := tj_method te_so (d := 21) (by rw [← zx_q_X1_solveEach]; rfl) (List.forall_mem_cons.mpr ⟨tj_KS1_le (by decide) te_p34, List.forall_mem_cons.mpr ⟨tj_KS1_le (by decide) te_p35, List.forall_mem_cons.mpr ⟨tj_KS1_le (by decide) te_p43, List.forall_mem_cons.mpr ⟨tj_KS1_le (by decide) te_p72, List.forall_mem_cons.mpr ⟨tj_KS1_le (by decide) te_p304, List.forall_mem_cons.mpr ⟨tj_KS1_le (by decide) te_p306, List.forall_mem_cons.mpr ⟨tj_KS1_le (by decide) te_p307, List.forall_mem_cons.mpr ⟨tj_KS1_le (by decide) te_p325, fun _ h => absurd h List.not_mem_nil⟩⟩⟩⟩⟩⟩⟩⟩) (by decide +kernel) (by decide +kernel) te_c326
/-! Game.solveEach -/
def te_s327 : tj_C := (230, [(1, 61, 0), (0, 2147483648, 2147483648), (0, 2147483648, 2147483747)], ([(56, 4), (56, 5), (56, 6)], [54, 57, 58]), [([(1, 61, 0), (0, 2147483648, 2147483648), (0, 2147483648, 2147483747)], none, ([], [], []))], ([], [], []))
set_option maxRecDepth 100000 in
theorem te_c327 : tj_chk tj_Lam te_s327.2.2.1 [te_s34, te_s35, te_s43, te_s72, te_s304, te_s306, te_s307, te_s326] zx_d_X1_solveEach te_s327.2.1 te_s327.2.2.2.1 te_s327.2.2.2.2 [((60, [(0, .inr 0), (1, .inr 1), (2, .inr 2), (3, .inr 3), (4, .inr 4), (5, .inr 5), (6, .inr 6), (7, .inr 7), (8, .inr 8)], [], [(1, 61, 0), (0, 2147483648, 2147483648), (0, 2147483648, 2147483747), (0, 2147483648, 2147483655), (0, 2147483647, 2147483653), (0, 0, 4294967295), (0, 0, 4294967295), (0, 2147483648, 2147483747), (0, 2147483648, 2147483654), (1, 33, 0), (1, 56, 0), (1, 57, 0), (0, 2147483648, 2147483651), (0, 2147483649, 2147483668), (0, 0, 4294967295)], [(0, .inr 0, .inl 1, .inr 9), (0, .inr 0, .inl 2, .inr 10), (0, .inr 0, .inl 3, .inr 11), (0, .inr 0, .inl 8, .inr 12), (0, .inr 0, .inl 9, .inr 13), (0, .inr 9, .inl 0, .inr 14)]), [.inl 3, .inl 4, .inl 5, .inl 6, .inl 7, .inl 8, .inr (0, 1), .inr (0, 2), .inr (0, 3), .inr (0, 8), .inr (0, 9), .inr (9, 0)], [(0, 0), (1, 8), (0, 0)]), ((60, [(0, .inr 0), (1, .inr 1), (2, .inr 2), (3, .inr 3), (4, .inr 4), (5, .inr 5), (6, .inr 6), (7, .inr 2), (8, .inr 7)], [], [(1, 61, 0), (0, 2147483648, 2147483648), (0, 2147483648, 2147483747), (0, 2147483647, 2147483647), (0, 2147483647, 2147483647), (0, 2147483648, 2147483648), (0, 2147483648, 2147483648), (0, 2147483648, 2147483648), (1, 33, 0), (1, 56, 0), (1, 57, 0), (0, 2147483648, 2147483651), (0, 2147483649, 2147483668), (0, 0, 4294967295)], [(0, .inr 0, .inl 1, .inr 8), (0, .inr 0, .inl 2, .inr 9), (0, .inr 0, .inl 3, .inr 10), (0, .inr 0, .inl 8, .inr 11), (0, .inr 0, .inl 9, .inr 12), (0, .inr 8, .inl 0, .inr 13)]), [.inl 3, .inl 4, .inl 5, .inl 6, .inl 8, .inr (0, 1), .inr (0, 2), .inr (0, 3), .inr (0, 8), .inr (0, 9), .inr (8, 0)], [(0, 1), (0, 0), (0, 0)])] [60] 3000 = true := by decide +kernel
theorem te_p327 : tj_KS1 (zx_Cl zx_mt zx_rc zx_mx' 23) tj_Lam te_s327 := tj_method te_so (d := 22) (by rw [← zx_q_X1_solveEach]; rfl) (List.forall_mem_cons.mpr ⟨tj_KS1_le (by decide) te_p34, List.forall_mem_cons.mpr ⟨tj_KS1_le (by decide) te_p35, List.forall_mem_cons.mpr ⟨tj_KS1_le (by decide) te_p43, List.forall_mem_cons.mpr ⟨tj_KS1_le (by decide) te_p72, List.forall_mem_cons.mpr ⟨tj_KS1_le (by decide) te_p304, List.forall_mem_cons.mpr ⟨tj_KS1_le (by decide) te_p306, List.forall_mem_cons.mpr ⟨tj_KS1_le (by decide) te_p307, List.forall_mem_cons.mpr ⟨tj_KS1_le (by decide) te_p326, fun _ h => absurd h List.not_mem_nil⟩⟩⟩⟩⟩⟩⟩⟩) (by decide +kernel) (by decide +kernel) te_c327
/-! Game.tellRow -/
def te_s328 : tj_C := (231, [(1, 61, 0), (1, 42, 0)], ([(56, 4), (56, 5), (56, 6), (42, 1)], [54, 40]), [([(1, 61, 0), (1, 42, 0)], none, ([], [], []))], ([], [], []))
set_option maxRecDepth 100000 in
theorem te_c328 : tj_chk tj_Lam te_s328.2.2.1 [te_s30, te_s35, te_s43, te_s304] zx_d_X1_tellRow te_s328.2.1 te_s328.2.2.2.1 te_s328.2.2.2.2 [((15, [(0, .inr 0), (1, .inr 1), (2, .inr 2), (3, .inr 3)], [], [(1, 61, 0), (1, 42, 0), (0, 2147483648, 2147483747), (0, 2147483648, 2147483668), (1, 33, 0), (0, 2147483648, 2147483651), (1, 28, 0)], [(0, .inr 0, .inl 1, .inr 4), (0, .inr 0, .inl 8, .inr 5), (0, .inr 4, .inl 2, .inr 6)]), [.inl 2, .inl 3, .inr (0, 1), .inr (0, 8), .inr (4, 2)], [(0, 0), (1, 3), (0, 0)])] [15] 3000 = true := by decide +kernel
theorem te_p328 : tj_KS1 (zx_Cl zx_mt zx_rc zx_mx' 4) tj_Lam te_s328 := tj_method te_so (d := 3) (by rw [← zx_q_X1_tellRow]; rfl) (List.forall_mem_cons.mpr ⟨tj_KS1_le (by decide) te_p30, List.forall_mem_cons.mpr ⟨tj_KS1_le (by decide) te_p35, List.forall_mem_cons.mpr ⟨tj_KS1_le (by decide) te_p43, List.forall_mem_cons.mpr ⟨tj_KS1_le (by decide) te_p304, fun _ h => absurd h List.not_mem_nil⟩⟩⟩⟩) (by decide +kernel) (by decide +kernel) te_c328
/-! Game.playEach -/
def te_s329 : tj_C := (227, [(1, 61, 0), (0, 2147483648, 2147483651), (0, 2147483648, 2147483650), (0, 2147483649, 2147483668), (1, 42, 0)], ([(56, 4), (56, 5), (56, 6), (61, 8), (61, 9), (42, 1)], [54, 57, 58, 40]), [([(1, 61, 0), (0, 2147483648, 2147483651), (0, 2147483648, 2147483650), (0, 2147483649, 2147483668), (1, 42, 0)], some (0, 0, 4294967295), ([.inr (0, 9)], [(0, 2147483649, 2147483668)], [(0, .inr 0, .inl 9, .inr 6)]))], ([], [], []))
set_option maxRecDepth 100000 in
theorem te_c329 : tj_chk tj_Lam te_s329.2.2.1 [te_s303, te_s306, te_s327, te_s328] zx_d_X1_playEach te_s329.2.1 te_s329.2.2.2.1 te_s329.2.2.2.2 [] [] 3000 = true := by decide +kernel
theorem te_p329 : tj_KS1 (zx_Cl zx_mt zx_rc zx_mx' 24) tj_Lam te_s329 := tj_method te_so (d := 23) (by rw [← zx_q_X1_playEach]; rfl) (List.forall_mem_cons.mpr ⟨tj_KS1_le (by decide) te_p303, List.forall_mem_cons.mpr ⟨tj_KS1_le (by decide) te_p306, List.forall_mem_cons.mpr ⟨tj_KS1_le (by decide) te_p327, List.forall_mem_cons.mpr ⟨tj_KS1_le (by decide) te_p328, fun _ h => absurd h List.not_mem_nil⟩⟩⟩⟩) (by decide +kernel) (by decide +kernel) te_c329
/-! TwoInOne.played -/
def te_s330 : tj_C := (66, [(1, 100, 0), (0, 0, 4294967295), (0, 0, 4294967295), (0, 0, 4294967295)], ([(56, 4), (56, 5), (56, 6), (61, 8), (61, 9), (42, 1)], [54, 57, 58, 40]), [([(1, 100, 0), (0, 0, 4294967295), (0, 0, 4294967295), (0, 0, 4294967295)], some (0, 0, 4294967295), ([], [], []))], ([], [], []))
set_option maxRecDepth 100000 in
theorem te_c330 : tj_chk tj_Lam te_s330.2.2.1 [te_s1, te_s33, te_s290, te_s329] zx_d_X11_played te_s330.2.1 te_s330.2.2.2.1 te_s330.2.2.2.2 [] [] 3000 = true := by decide +kernel
theorem te_p330 : tj_KS1 (zx_Cl zx_mt zx_rc zx_mx' 25) tj_Lam te_s330 := tj_method te_so (d := 24) (by rw [← zx_q_X11_played]; rfl) (List.forall_mem_cons.mpr ⟨tj_KS1_le (by decide) te_p1, List.forall_mem_cons.mpr ⟨tj_KS1_le (by decide) te_p33, List.forall_mem_cons.mpr ⟨tj_KS1_le (by decide) te_p290, List.forall_mem_cons.mpr ⟨tj_KS1_le (by decide) te_p329, fun _ h => absurd h List.not_mem_nil⟩⟩⟩⟩) (by decide +kernel) (by decide +kernel) te_c330
/-! Course.mostFavoured -/
def te_s331 : tj_C := (17, [(1, 56, 0)], ([], [55]), [([(1, 56, 0)], some (0, 2147483647, 2147483650), ([], [], []))], ([], [], []))
set_option maxRecDepth 100000 in
theorem te_c331 : tj_chk tj_Lam te_s331.2.2.1 [te_s132, te_s133, te_s134, te_s136] zx_d_X0_mostFavoured te_s331.2.1 te_s331.2.2.2.1 te_s331.2.2.2.2 [((10, [(0, .inr 0), (1, .inr 1)], [], [(1, 56, 0), (0, 2147483648, 2147483656), (1, 55, 0)], [(0, .inr 0, .inl 3, .inr 2)]), [.inl 1, .inr (0, 3)], [(0, 0), (1, 1), (0, 0)])] [10] 3000 = true := by decide +kernel
theorem te_p331 : tj_KS1 (zx_Cl zx_mt zx_rc zx_mx' 3) tj_Lam te_s331 := tj_method te_so (d := 2) (by rw [← zx_q_X0_mostFavoured]; rfl) (List.forall_mem_cons.mpr ⟨tj_KS1_le (by decide) te_p132, List.forall_mem_cons.mpr ⟨tj_KS1_le (by decide) te_p133, List.forall_mem_cons.mpr ⟨tj_KS1_le (by decide) te_p134, List.forall_mem_cons.mpr ⟨tj_KS1_le (by decide) te_p136, fun _ h => absurd h List.not_mem_nil⟩⟩⟩⟩) (by decide +kernel) (by decide +kernel) te_c331
/-! TwoInOne.popular -/
def te_s332 : tj_C := (67, [(1, 100, 0)], ([], [55]), [([(1, 100, 0)], some (0, 2147483647, 2147483650), ([], [], []))], ([], [], []))
set_option maxRecDepth 100000 in
theorem te_c332 : tj_chk tj_Lam te_s332.2.2.1 [te_s331] zx_d_X11_popular te_s332.2.1 te_s332.2.2.2.1 te_s332.2.2.2.2 [] [] 3000 = true := by decide +kernel
theorem te_p332 : tj_KS1 (zx_Cl zx_mt zx_rc zx_mx' 4) tj_Lam te_s332 := tj_method te_so (d := 3) (by rw [← zx_q_X11_popular]; rfl) (List.forall_mem_cons.mpr ⟨tj_KS1_le (by decide) te_p331, fun _ h => absurd h List.not_mem_nil⟩) (by decide +kernel) (by decide +kernel) te_c332
/-! State.goOn -/
def te_s333 : tj_C := (327, [(1, 33, 0), (0, 2147483648, 2147483651), (0, 2147483648, 2147483662)], ([], [29]), [([(1, 33, 0), (0, 2147483648, 2147483651), (0, 2147483648, 2147483662)], none, ([], [], []))], ([], [], []))
set_option maxRecDepth 100000 in
theorem te_c333 : tj_chk tj_Lam te_s333.2.2.1 [te_s141] zx_d_X8_goOn te_s333.2.1 te_s333.2.2.2.1 te_s333.2.2.2.2 [((2, [(0, .inr 0), (1, .inr 1), (2, .inr 2), (3, .inr 3)], [], [(1, 33, 0), (0, 2147483648, 2147483651), (0, 2147483648, 2147483662), (0, 2147483648, 2147483661)], []), [.inl 3], [(0, 0), (1, 3), (0, 0)])] [2] 3000 = true := by decide +kernel
theorem te_p333 : tj_KS1 (zx_Cl zx_mt zx_rc zx_mx' 2) tj_Lam te_s333 := tj_method te_so (d := 1) (by rw [← zx_q_X8_goOn]; rfl) (List.forall_mem_cons.mpr ⟨tj_KS1_le (by decide) te_p141, fun _ h => absurd h List.not_mem_nil⟩) (by decide +kernel) (by decide +kernel) te_c333
/-! TwoInOne.record -/
def te_s334 : tj_C := (70, [(1, 100, 0), (0, 0, 4294967295), (0, 0, 4294967295)], ([], []), [([(1, 100, 0), (0, 0, 4294967295), (0, 0, 4294967295)], some (0, 0, 4294967295), ([], [], []))], ([], [], []))
set_option maxRecDepth 100000 in
theorem te_c334 : tj_chk tj_Lam te_s334.2.2.1 [te_s4, te_s38, te_s282] zx_d_X11_record te_s334.2.1 te_s334.2.2.2.1 te_s334.2.2.2.2 [] [] 3000 = true := by decide +kernel
theorem te_p334 : tj_KS1 (zx_Cl zx_mt zx_rc zx_mx' 2) tj_Lam te_s334 := tj_method te_so (d := 1) (by rw [← zx_q_X11_record]; rfl) (List.forall_mem_cons.mpr ⟨tj_KS1_le (by decide) te_p4, List.forall_mem_cons.mpr ⟨tj_KS1_le (by decide) te_p38, List.forall_mem_cons.mpr ⟨tj_KS1_le (by decide) te_p282, fun _ h => absurd h List.not_mem_nil⟩⟩⟩) (by decide +kernel) (by decide +kernel) te_c334
/-! java/util/Arrays.fill -/
def te_s335 : tj_C := (1, [(1, 16, 0), (0, 2147483647, 2147483647)], ([], [16]), [([(1, 16, 0), (0, 2147483647, 2147483647)], none, ([], [], []))], ([], [], []))
set_option maxRecDepth 100000 in
theorem te_c335 : tj_chk tj_Lam te_s335.2.2.1 [] zx_d_J7_fill_53178 te_s335.2.1 te_s335.2.2.2.1 te_s335.2.2.2.2 [((5, [(0, .inr 0), (1, .inr 1), (2, .inr 2), (3, .inr 3)], [], [(1, 16, 0), (0, 2147483647, 2147483647), (0, 2147483648, 2147483656), (0, 2147483656, 2147483656)], []), [.inl 2, .inl 3], [(0, 0), (1, 2), (0, 0)])] [5] 3000 = true := by decide +kernel
theorem te_p335 : tj_KS1 (zx_Cl zx_mt zx_rc zx_mx' 1) tj_Lam te_s335 := tj_method te_so (d := 0) (by rw [← zx_q_J7_fill_53178]; rfl) (fun _ h => absurd h List.not_mem_nil) (by decide +kernel) (by decide +kernel) te_c335
/-! java/util/Arrays.fill -/
def te_s336 : tj_C := (1, [(1, 17, 0), (0, 2147483647, 2147483647)], ([], [17]), [([(1, 17, 0), (0, 2147483647, 2147483647)], none, ([], [], []))], ([], [], []))
set_option maxRecDepth 100000 in
theorem te_c336 : tj_chk tj_Lam te_s336.2.2.1 [] zx_d_J7_fill_53178 te_s336.2.1 te_s336.2.2.2.1 te_s336.2.2.2.2 [((5, [(0, .inr 0), (1, .inr 1), (2, .inr 2), (3, .inr 3)], [], [(1, 17, 0), (0, 2147483647, 2147483647), (0, 2147483648, 2147483656), (0, 2147483656, 2147483656)], []), [.inl 2, .inl 3], [(0, 0), (1, 2), (0, 0)])] [5] 3000 = true := by decide +kernel
theorem te_p336 : tj_KS1 (zx_Cl zx_mt zx_rc zx_mx' 1) tj_Lam te_s336 := tj_method te_so (d := 0) (by rw [← zx_q_J7_fill_53178]; rfl) (fun _ h => absurd h List.not_mem_nil) (by decide +kernel) (by decide +kernel) te_c336
/-! java/util/Arrays.fill -/
def te_s337 : tj_C := (1, [(1, 19, 0), (0, 2147483647, 2147483647)], ([], [19]), [([(1, 19, 0), (0, 2147483647, 2147483647)], none, ([], [], []))], ([], [], []))
set_option maxRecDepth 100000 in
theorem te_c337 : tj_chk tj_Lam te_s337.2.2.1 [] zx_d_J7_fill_53178 te_s337.2.1 te_s337.2.2.2.1 te_s337.2.2.2.2 [((5, [(0, .inr 0), (1, .inr 1), (2, .inr 2), (3, .inr 3)], [], [(1, 19, 0), (0, 2147483647, 2147483647), (0, 2147483648, 2147483712), (0, 2147483712, 2147483712)], []), [.inl 2, .inl 3], [(0, 0), (1, 2), (0, 0)])] [5] 3000 = true := by decide +kernel
theorem te_p337 : tj_KS1 (zx_Cl zx_mt zx_rc zx_mx' 1) tj_Lam te_s337 := tj_method te_so (d := 0) (by rw [← zx_q_J7_fill_53178]; rfl) (fun _ h => absurd h List.not_mem_nil) (by decide +kernel) (by decide +kernel) te_c337
/-! Told.empty -/
def te_s338 : tj_C := (25, [(1, 27, 0)], ([(27, 0), (27, 1), (27, 2), (27, 3), (27, 4), (27, 5)], [16, 19, 17]), [([(1, 27, 0)], none, ([.inr (0, 0), .inr (0, 1), .inr (0, 2), .inr (0, 3), .inr (0, 4), .inr (0, 5)], [(0, 2147483648, 2147483648), (0, 2147483648, 2147483648), (0, 2147483648, 2147483648), (0, 2147483648, 2147483648), (0, 2147483648, 2147483648), (0, 2147483647, 2147483647)], [(0, .inr 0, .inl 0, .inr 1), (0, .inr 0, .inl 1, .inr 2), (0, .inr 0, .inl 2, .inr 3), (0, .inr 0, .inl 3, .inr 4), (0, .inr 0, .inl 4, .inr 5), (0, .inr 0, .inl 5, .inr 6)]))], ([], [], []))
set_option maxRecDepth 100000 in
theorem te_c338 : tj_chk tj_Lam te_s338.2.2.1 [te_s335, te_s336, te_s337] zx_d_X10_empty te_s338.2.1 te_s338.2.2.2.1 te_s338.2.2.2.2 [] [] 3000 = true := by decide +kernel
theorem te_p338 : tj_KS1 (zx_Cl zx_mt zx_rc zx_mx' 2) tj_Lam te_s338 := tj_method te_so (d := 1) (by rw [← zx_q_X10_empty]; rfl) (List.forall_mem_cons.mpr ⟨tj_KS1_le (by decide) te_p335, List.forall_mem_cons.mpr ⟨tj_KS1_le (by decide) te_p336, List.forall_mem_cons.mpr ⟨tj_KS1_le (by decide) te_p337, fun _ h => absurd h List.not_mem_nil⟩⟩⟩) (by decide +kernel) (by decide +kernel) te_c338
/-! Reader.isLetter -/
def te_s339 : tj_C := (262, [(1, 49, 0), (0, 2147483648, 2147485247)], ([], []), [([(1, 49, 0), (0, 2147483648, 2147485247)], some (0, 2147483648, 2147483648), ([], [], [])), ([(1, 49, 0), (0, 2147483648, 2147485247)], some (0, 2147483649, 2147483649), ([.inr (0, 6)], [(0, 2147483649, 2147485248)], [(0, .inr 0, .inl 6, .inr 3)]))], ([], [], []))
set_option maxRecDepth 100000 in
theorem te_c339 : tj_chk tj_Lam te_s339.2.2.1 [] zx_d_X4_isLetter te_s339.2.1 te_s339.2.2.2.1 te_s339.2.2.2.2 [] [] 3000 = true := by decide +kernel
theorem te_p339 : tj_KS1 (zx_Cl zx_mt zx_rc zx_mx' 1) tj_Lam te_s339 := tj_method te_so (d := 0) (by rw [← zx_q_X4_isLetter]; rfl) (fun _ h => absurd h List.not_mem_nil) (by decide +kernel) (by decide +kernel) te_c339
/-! Reader.isDigit -/
def te_s340 : tj_C := (261, [(1, 49, 0), (0, 2147483648, 2147485247)], ([], []), [([(1, 49, 0), (0, 2147483648, 2147485247)], some (0, 2147483648, 2147483648), ([], [], [])), ([(1, 49, 0), (0, 2147483648, 2147485247)], some (0, 2147483649, 2147483649), ([.inr (0, 6)], [(0, 2147483649, 2147485248)], [(0, .inr 0, .inl 6, .inr 3)]))], ([], [], []))
set_option maxRecDepth 100000 in
theorem te_c340 : tj_chk tj_Lam te_s340.2.2.1 [] zx_d_X4_isDigit te_s340.2.1 te_s340.2.2.2.1 te_s340.2.2.2.2 [] [] 3000 = true := by decide +kernel
theorem te_p340 : tj_KS1 (zx_Cl zx_mt zx_rc zx_mx' 1) tj_Lam te_s340 := tj_method te_so (d := 0) (by rw [← zx_q_X4_isDigit]; rfl) (fun _ h => absurd h List.not_mem_nil) (by decide +kernel) (by decide +kernel) te_c340
/-! Reader.isSign -/
def te_s341 : tj_C := (263, [(0, 2147483648, 2147483903)], ([], []), [([(0, 2147483648, 2147483903)], some (0, 2147483648, 2147483648), ([], [], [])), ([(0, 2147483685, 2147483710)], some (0, 2147483649, 2147483649), ([], [], []))], ([], [], []))
set_option maxRecDepth 100000 in
theorem te_c341 : tj_chk tj_Lam te_s341.2.2.1 [] zx_d_X4_isSign te_s341.2.1 te_s341.2.2.2.1 te_s341.2.2.2.2 [] [] 3000 = true := by decide +kernel
theorem te_p341 : tj_KS1 (zx_Cl zx_mt zx_rc zx_mx' 1) tj_Lam te_s341 := tj_method te_so (d := 0) (by rw [← zx_q_X4_isSign]; rfl) (fun _ h => absurd h List.not_mem_nil) (by decide +kernel) (by decide +kernel) te_c341
/-! Reader.isLetter -/
def te_s342 : tj_C := (262, [(1, 49, 0), (0, 2147483648, 2147485248)], ([], []), [([(1, 49, 0), (0, 2147483648, 2147485248)], some (0, 2147483648, 2147483648), ([], [], [])), ([(1, 49, 0), (0, 2147483648, 2147485247)], some (0, 2147483649, 2147483649), ([.inr (0, 6)], [(0, 2147483649, 2147485248)], [(0, .inr 0, .inl 6, .inr 3)]))], ([], [], []))
set_option maxRecDepth 100000 in
theorem te_c342 : tj_chk tj_Lam te_s342.2.2.1 [] zx_d_X4_isLetter te_s342.2.1 te_s342.2.2.2.1 te_s342.2.2.2.2 [] [] 3000 = true := by decide +kernel
theorem te_p342 : tj_KS1 (zx_Cl zx_mt zx_rc zx_mx' 1) tj_Lam te_s342 := tj_method te_so (d := 0) (by rw [← zx_q_X4_isLetter]; rfl) (fun _ h => absurd h List.not_mem_nil) (by decide +kernel) (by decide +kernel) te_c342
/-! Reader.scanNumber -/
def te_s343 : tj_C := (269, [(1, 49, 0)], ([(49, 10), (49, 12), (49, 13)], []), [([(1, 49, 0)], none, ([.inr (0, 10)], [(0, 2147483649, 2147483651)], [(0, .inr 0, .inl 10, .inr 1)]))], ([], [], []))
set_option maxRecDepth 100000 in
theorem te_c343 : tj_chk tj_Lam te_s343.2.2.1 [te_s339, te_s340, te_s342] zx_d_X4_scanNumber te_s343.2.1 te_s343.2.2.2.1 te_s343.2.2.2.2 [((5, [(0, .inr 0)], [], [(1, 49, 0), (0, 0, 4294967295), (0, 0, 4294967295), (0, 2147483648, 2147485248)], [(0, .inr 0, .inl 10, .inr 1), (0, .inr 0, .inl 12, .inr 2), (0, .inr 0, .inl 13, .inr 3)]), [.inr (0, 10), .inr (0, 12), .inr (0, 13)], [(0, 0), (1, 3), (0, 0)])] [5] 3000 = true := by decide +kernel
theorem te_p343 : tj_KS1 (zx_Cl zx_mt zx_rc zx_mx' 2) tj_Lam te_s343 := tj_method te_so (d := 1) (by rw [← zx_q_X4_scanNumber]; rfl) (List.forall_mem_cons.mpr ⟨tj_KS1_le (by decide) te_p339, List.forall_mem_cons.mpr ⟨tj_KS1_le (by decide) te_p340, List.forall_mem_cons.mpr ⟨tj_KS1_le (by decide) te_p342, fun _ h => absurd h List.not_mem_nil⟩⟩⟩) (by decide +kernel) (by decide +kernel) te_c343
/-! Reader.scanWord -/
def te_s344 : tj_C := (270, [(1, 49, 0)], ([(49, 11), (49, 13)], []), [([(1, 49, 0)], none, ([], [], []))], ([], [], []))
set_option maxRecDepth 100000 in
theorem te_c344 : tj_chk tj_Lam te_s344.2.2.1 [te_s339] zx_d_X4_scanWord te_s344.2.1 te_s344.2.2.2.1 te_s344.2.2.2.2 [((5, [(0, .inr 0)], [], [(1, 49, 0), (3, 0, 0), (0, 2147483648, 2147485248)], [(0, .inr 0, .inl 11, .inr 1), (0, .inr 0, .inl 13, .inr 2)]), [.inr (0, 11), .inr (0, 13)], [(0, 0), (1, 2), (0, 0)])] [5] 3000 = true := by decide +kernel
theorem te_p344 : tj_KS1 (zx_Cl zx_mt zx_rc zx_mx' 2) tj_Lam te_s344 := tj_method te_so (d := 1) (by rw [← zx_q_X4_scanWord]; rfl) (List.forall_mem_cons.mpr ⟨tj_KS1_le (by decide) te_p339, fun _ h => absurd h List.not_mem_nil⟩) (by decide +kernel) (by decide +kernel) te_c344
/-! Reader.indexOf -/
def te_s345 : tj_C := (259, [(1, 49, 0), (1, 44, 0), (0, 2147483648, 2147483655)], ([], []), [([(1, 49, 0), (1, 44, 0), (0, 2147483648, 2147483655)], some (0, 2147483647, 2147483647), ([], [], [])), ([(1, 49, 0), (1, 44, 0), (0, 2147483649, 2147483655)], some (0, 2147483648, 2147483654), ([], [], []))], ([], [], []))
set_option maxRecDepth 100000 in
theorem te_c345 : tj_chk tj_Lam te_s345.2.2.1 [] zx_d_X4_indexOf te_s345.2.1 te_s345.2.2.2.1 te_s345.2.2.2.2 [((2, [(0, .inr 0), (1, .inr 1), (2, .inr 2), (3, .inr 3)], [], [(1, 49, 0), (1, 44, 0), (0, 2147483648, 2147483655), (0, 2147483648, 2147483655)], []), [.inl 3], [(0, 0), (1, 3), (0, 0)])] [2] 3000 = true := by decide +kernel
theorem te_p345 : tj_KS1 (zx_Cl zx_mt zx_rc zx_mx' 1) tj_Lam te_s345 := tj_method te_so (d := 0) (by rw [← zx_q_X4_indexOf]; rfl) (fun _ h => absurd h List.not_mem_nil) (by decide +kernel) (by decide +kernel) te_c345
/-! Reader.refuse -/
def te_s346 : tj_C := (268, [(1, 49, 0), (0, 2147483651, 2147483651)], ([(49, 7), (49, 8)], []), [([(1, 49, 0), (0, 2147483651, 2147483651)], some (0, 2147483648, 2147483648), ([.inr (0, 7), .inr (0, 8)], [(0, 2147483649, 2147483651), (0, 2147483648, 2147485248)], [(0, .inr 0, .inl 7, .inr 3), (0, .inr 0, .inl 8, .inr 4)]))], ([], [], []))
set_option maxRecDepth 100000 in
theorem te_c346 : tj_chk tj_Lam te_s346.2.2.1 [] zx_d_X4_refuse te_s346.2.1 te_s346.2.2.2.1 te_s346.2.2.2.2 [] [] 3000 = true := by decide +kernel
theorem te_p346 : tj_KS1 (zx_Cl zx_mt zx_rc zx_mx' 1) tj_Lam te_s346 := tj_method te_so (d := 0) (by rw [← zx_q_X4_refuse]; rfl) (fun _ h => absurd h List.not_mem_nil) (by decide +kernel) (by decide +kernel) te_c346
/-! Reader.refuse -/
def te_s347 : tj_C := (268, [(1, 49, 0), (0, 2147483650, 2147483650)], ([(49, 7), (49, 8)], []), [([(1, 49, 0), (0, 2147483650, 2147483650)], some (0, 2147483648, 2147483648), ([.inr (0, 7), .inr (0, 8)], [(0, 2147483649, 2147483650), (0, 2147483648, 2147485248)], [(0, .inr 0, .inl 7, .inr 3), (0, .inr 0, .inl 8, .inr 4)]))], ([], [], []))
set_option maxRecDepth 100000 in
theorem te_c347 : tj_chk tj_Lam te_s347.2.2.1 [] zx_d_X4_refuse te_s347.2.1 te_s347.2.2.2.1 te_s347.2.2.2.2 [] [] 3000 = true := by decide +kernel
theorem te_p347 : tj_KS1 (zx_Cl zx_mt zx_rc zx_mx' 1) tj_Lam te_s347 := tj_method te_so (d := 0) (by rw [← zx_q_X4_refuse]; rfl) (fun _ h => absurd h List.not_mem_nil) (by decide +kernel) (by decide +kernel) te_c347
/-! Reader.refuse -/
def te_s348 : tj_C := (268, [(1, 49, 0), (0, 2147483652, 2147483652)], ([(49, 7), (49, 8)], []), [([(1, 49, 0), (0, 2147483652, 2147483652)], some (0, 2147483648, 2147483648), ([.inr (0, 7), .inr (0, 8)], [(0, 2147483649, 2147483652), (0, 2147483648, 2147485248)], [(0, .inr 0, .inl 7, .inr 3), (0, .inr 0, .inl 8, .inr 4)]))], ([], [], []))
set_option maxRecDepth 100000 in
theorem te_c348 : tj_chk tj_Lam te_s348.2.2.1 [] zx_d_X4_refuse te_s348.2.1 te_s348.2.2.2.1 te_s348.2.2.2.2 [] [] 3000 = true := by decide +kernel
theorem te_p348 : tj_KS1 (zx_Cl zx_mt zx_rc zx_mx' 1) tj_Lam te_s348 := tj_method te_so (d := 0) (by rw [← zx_q_X4_refuse]; rfl) (fun _ h => absurd h List.not_mem_nil) (by decide +kernel) (by decide +kernel) te_c348
/-! Reader.indexOf -/
def te_s349 : tj_C := (259, [(1, 49, 0), (1, 45, 0), (0, 2147483648, 2147483651)], ([], []), [([(1, 49, 0), (1, 45, 0), (0, 2147483648, 2147483651)], some (0, 2147483647, 2147483647), ([], [], [])), ([(1, 49, 0), (1, 45, 0), (0, 2147483649, 2147483651)], some (0, 2147483648, 2147483650), ([], [], []))], ([], [], []))
set_option maxRecDepth 100000 in
theorem te_c349 : tj_chk tj_Lam te_s349.2.2.1 [] zx_d_X4_indexOf te_s349.2.1 te_s349.2.2.2.1 te_s349.2.2.2.2 [((2, [(0, .inr 0), (1, .inr 1), (2, .inr 2), (3, .inr 3)], [], [(1, 49, 0), (1, 45, 0), (0, 2147483648, 2147483651), (0, 2147483648, 2147483651)], []), [.inl 3], [(0, 0), (1, 3), (0, 0)])] [2] 3000 = true := by decide +kernel
theorem te_p349 : tj_KS1 (zx_Cl zx_mt zx_rc zx_mx' 1) tj_Lam te_s349 := tj_method te_so (d := 0) (by rw [← zx_q_X4_indexOf]; rfl) (fun _ h => absurd h List.not_mem_nil) (by decide +kernel) (by decide +kernel) te_c349
/-! Reader.indexOf -/
def te_s350 : tj_C := (259, [(1, 49, 0), (1, 46, 0), (0, 2147483648, 2147483653)], ([], []), [([(1, 49, 0), (1, 46, 0), (0, 2147483648, 2147483653)], some (0, 2147483647, 2147483647), ([], [], [])), ([(1, 49, 0), (1, 46, 0), (0, 2147483649, 2147483653)], some (0, 2147483648, 2147483652), ([], [], []))], ([], [], []))
set_option maxRecDepth 100000 in
theorem te_c350 : tj_chk tj_Lam te_s350.2.2.1 [] zx_d_X4_indexOf te_s350.2.1 te_s350.2.2.2.1 te_s350.2.2.2.2 [((2, [(0, .inr 0), (1, .inr 1), (2, .inr 2), (3, .inr 3)], [], [(1, 49, 0), (1, 46, 0), (0, 2147483648, 2147483653), (0, 2147483648, 2147483653)], []), [.inl 3], [(0, 0), (1, 3), (0, 0)])] [2] 3000 = true := by decide +kernel
theorem te_p350 : tj_KS1 (zx_Cl zx_mt zx_rc zx_mx' 1) tj_Lam te_s350 := tj_method te_so (d := 0) (by rw [← zx_q_X4_indexOf]; rfl) (fun _ h => absurd h List.not_mem_nil) (by decide +kernel) (by decide +kernel) te_c350
/-! Reader.emit -/
def te_s351 : tj_C := (254, [(1, 49, 0), (0, 0, 4294967295)], ([(49, 16), (49, 7), (49, 8)], [26]), [([(1, 49, 0), (0, 0, 4294967295)], some (0, 2147483648, 2147483648), ([.inr (0, 7), .inr (0, 8), .inr (0, 16)], [(0, 2147483649, 2147483650), (0, 2147483648, 2147485248), (0, 2147484288, 2147484288)], [(0, .inr 0, .inl 7, .inr 3), (0, .inr 0, .inl 8, .inr 4), (0, .inr 0, .inl 16, .inr 5)])), ([(1, 49, 0), (0, 0, 4294967295)], some (0, 2147483649, 2147483649), ([.inr (0, 16)], [(0, 2147483649, 2147484288)], [(0, .inr 0, .inl 16, .inr 3)]))], ([], [], []))
set_option maxRecDepth 100000 in
theorem te_c351 : tj_chk tj_Lam te_s351.2.2.1 [te_s347] zx_d_X4_emit te_s351.2.1 te_s351.2.2.2.1 te_s351.2.2.2.2 [] [] 3000 = true := by decide +kernel
theorem te_p351 : tj_KS1 (zx_Cl zx_mt zx_rc zx_mx' 2) tj_Lam te_s351 := tj_method te_so (d := 1) (by rw [← zx_q_X4_emit]; rfl) (List.forall_mem_cons.mpr ⟨tj_KS1_le (by decide) te_p347, fun _ h => absurd h List.not_mem_nil⟩) (by decide +kernel) (by decide +kernel) te_c351
/-! Reader.levelOf -/
def te_s352 : tj_C := (264, [(0, 2147483648, 2147483865)], ([], []), [([(0, 2147483648, 2147483865)], some (0, 2147483647, 2147483647), ([], [], [])), ([(0, 2147483685, 2147483862)], some (0, 2147483648, 2147483652), ([], [], []))], ([], [], []))
set_option maxRecDepth 100000 in
theorem te_c352 : tj_chk tj_Lam te_s352.2.2.1 [] zx_d_X4_levelOf te_s352.2.1 te_s352.2.2.2.1 te_s352.2.2.2.2 [] [] 3000 = true := by decide +kernel
theorem te_p352 : tj_KS1 (zx_Cl zx_mt zx_rc zx_mx' 1) tj_Lam te_s352 := tj_method te_so (d := 0) (by rw [← zx_q_X4_levelOf]; rfl) (fun _ h => absurd h List.not_mem_nil) (by decide +kernel) (by decide +kernel) te_c352
/-! Told.copyFrom -/
def te_s353 : tj_C := (24, [(1, 13, 0), (1, 27, 0)], ([(13, 0), (13, 1), (13, 2), (13, 3), (13, 4), (13, 5)], [1, 12, 2, 9, 5, 11, 10, 6, 3, 4, 7, 0, 8]), [([(1, 13, 0), (1, 27, 0)], none, ([], [], []))], ([], [], []))
set_option maxRecDepth 100000 in
theorem te_c353 : tj_chk tj_Lam te_s353.2.2.1 [] zx_d_X10_copyFrom te_s353.2.1 te_s353.2.2.2.1 te_s353.2.2.2.2 [] [] 3000 = true := by decide +kernel
theorem te_p353 : tj_KS1 (zx_Cl zx_mt zx_rc zx_mx' 1) tj_Lam te_s353 := tj_method te_so (d := 0) (by rw [← zx_q_X10_copyFrom]; rfl) (fun _ h => absurd h List.not_mem_nil) (by decide +kernel) (by decide +kernel) te_c353
/-! java/util/Arrays.fill -/
def te_s354 : tj_C := (1, [(1, 28, 0), (0, 2147483648, 2147483648)], ([], [28]), [([(1, 28, 0), (0, 2147483648, 2147483648)], none, ([], [], []))], ([], [], []))
set_option maxRecDepth 100000 in
theorem te_c354 : tj_chk tj_Lam te_s354.2.2.1 [] zx_d_J7_fill_53178 te_s354.2.1 te_s354.2.2.2.1 te_s354.2.2.2.2 [((5, [(0, .inr 0), (1, .inr 1), (2, .inr 2), (3, .inr 3)], [], [(1, 28, 0), (0, 2147483648, 2147483648), (0, 2147483648, 2147483652), (0, 2147483652, 2147483652)], []), [.inl 2, .inl 3], [(0, 0), (1, 2), (0, 0)])] [5] 3000 = true := by decide +kernel
theorem te_p354 : tj_KS1 (zx_Cl zx_mt zx_rc zx_mx' 1) tj_Lam te_s354 := tj_method te_so (d := 0) (by rw [← zx_q_J7_fill_53178]; rfl) (fun _ h => absurd h List.not_mem_nil) (by decide +kernel) (by decide +kernel) te_c354
/-! java/util/Arrays.fill -/
def te_s355 : tj_C := (1, [(1, 30, 0), (0, 2147483649, 2147483649)], ([], [30]), [([(1, 30, 0), (0, 2147483649, 2147483649)], none, ([], [], []))], ([], [], []))
set_option maxRecDepth 100000 in
theorem te_c355 : tj_chk tj_Lam te_s355.2.2.1 [] zx_d_J7_fill_53178 te_s355.2.1 te_s355.2.2.2.1 te_s355.2.2.2.2 [((5, [(0, .inr 0), (1, .inr 1), (2, .inr 2), (3, .inr 3)], [], [(1, 30, 0), (0, 2147483649, 2147483649), (0, 2147483648, 2147483656), (0, 2147483656, 2147483656)], []), [.inl 2, .inl 3], [(0, 0), (1, 2), (0, 0)])] [5] 3000 = true := by decide +kernel
theorem te_p355 : tj_KS1 (zx_Cl zx_mt zx_rc zx_mx' 1) tj_Lam te_s355 := tj_method te_so (d := 0) (by rw [← zx_q_J7_fill_53178]; rfl) (fun _ h => absurd h List.not_mem_nil) (by decide +kernel) (by decide +kernel) te_c355
/-! java/util/Arrays.fill -/
def te_s356 : tj_C := (1, [(1, 31, 0), (0, 2147483648, 2147483648)], ([], [31]), [([(1, 31, 0), (0, 2147483648, 2147483648)], none, ([], [], []))], ([], [], []))
set_option maxRecDepth 100000 in
theorem te_c356 : tj_chk tj_Lam te_s356.2.2.1 [] zx_d_J7_fill_53178 te_s356.2.1 te_s356.2.2.2.1 te_s356.2.2.2.2 [((5, [(0, .inr 0), (1, .inr 1), (2, .inr 2), (3, .inr 3)], [], [(1, 31, 0), (0, 2147483648, 2147483648), (0, 2147483648, 2147483696), (0, 2147483696, 2147483696)], []), [.inl 2, .inl 3], [(0, 0), (1, 2), (0, 0)])] [5] 3000 = true := by decide +kernel
theorem te_p356 : tj_KS1 (zx_Cl zx_mt zx_rc zx_mx' 1) tj_Lam te_s356 := tj_method te_so (d := 0) (by rw [← zx_q_J7_fill_53178]; rfl) (fun _ h => absurd h List.not_mem_nil) (by decide +kernel) (by decide +kernel) te_c356
/-! java/util/Arrays.fill -/
def te_s357 : tj_C := (1, [(1, 32, 0), (0, 2147483648, 2147483648)], ([], [32]), [([(1, 32, 0), (0, 2147483648, 2147483648)], none, ([], [], []))], ([], [], []))
set_option maxRecDepth 100000 in
theorem te_c357 : tj_chk tj_Lam te_s357.2.2.1 [] zx_d_J7_fill_53178 te_s357.2.1 te_s357.2.2.2.1 te_s357.2.2.2.2 [((5, [(0, .inr 0), (1, .inr 1), (2, .inr 2), (3, .inr 3)], [], [(1, 32, 0), (0, 2147483648, 2147483648), (0, 2147483648, 2147483656), (0, 2147483656, 2147483656)], []), [.inl 2, .inl 3], [(0, 0), (1, 2), (0, 0)])] [5] 3000 = true := by decide +kernel
theorem te_p357 : tj_KS1 (zx_Cl zx_mt zx_rc zx_mx' 1) tj_Lam te_s357 := tj_method te_so (d := 0) (by rw [← zx_q_J7_fill_53178]; rfl) (fun _ h => absurd h List.not_mem_nil) (by decide +kernel) (by decide +kernel) te_c357
/-! State.begin -/
def te_s358 : tj_C := (324, [(1, 33, 0), (1, 13, 0)], ([(33, 0), (33, 1)], [30, 31, 32, 28, 29]), [([(1, 33, 0), (1, 13, 0)], none, ([.inr (0, 0)], [(0, 2147483648, 2147483648)], [(0, .inr 0, .inl 0, .inr 2)]))], ([], [], []))
set_option maxRecDepth 100000 in
theorem te_c358 : tj_chk tj_Lam te_s358.2.2.1 [te_s354, te_s355, te_s356, te_s357] zx_d_X8_begin te_s358.2.1 te_s358.2.2.2.1 te_s358.2.2.2.2 [] [] 3000 = true := by decide +kernel
theorem te_p358 : tj_KS1 (zx_Cl zx_mt zx_rc zx_mx' 2) tj_Lam te_s358 := tj_method te_so (d := 1) (by rw [← zx_q_X8_begin]; rfl) (List.forall_mem_cons.mpr ⟨tj_KS1_le (by decide) te_p354, List.forall_mem_cons.mpr ⟨tj_KS1_le (by decide) te_p355, List.forall_mem_cons.mpr ⟨tj_KS1_le (by decide) te_p356, List.forall_mem_cons.mpr ⟨tj_KS1_le (by decide) te_p357, fun _ h => absurd h List.not_mem_nil⟩⟩⟩⟩) (by decide +kernel) (by decide +kernel) te_c358
/-! History.emptyBoxes -/
def te_s359 : tj_C := (233, [(1, 53, 0)], ([], [52]), [([(1, 53, 0)], none, ([], [], []))], ([], [], []))
set_option maxRecDepth 100000 in
theorem te_c359 : tj_chk tj_Lam te_s359.2.2.1 [] zx_d_X2_emptyBoxes te_s359.2.1 te_s359.2.2.2.1 te_s359.2.2.2.2 [((2, [(0, .inr 0), (1, .inr 1)], [], [(1, 53, 0), (0, 2147483648, 2147483651)], []), [.inl 1], [(0, 0), (1, 1), (0, 0)])] [2] 3000 = true := by decide +kernel
theorem te_p359 : tj_KS1 (zx_Cl zx_mt zx_rc zx_mx' 1) tj_Lam te_s359 := tj_method te_so (d := 0) (by rw [← zx_q_X2_emptyBoxes]; rfl) (fun _ h => absurd h List.not_mem_nil) (by decide +kernel) (by decide +kernel) te_c359
/-! Sights.clear -/
def te_s360 : tj_C := (311, [(1, 73, 0)], ([(73, 6)], []), [([(1, 73, 0)], none, ([.inr (0, 6)], [(0, 2147483648, 2147483648)], [(0, .inr 0, .inl 6, .inr 1)]))], ([], [], []))
set_option maxRecDepth 100000 in
theorem te_c360 : tj_chk tj_Lam te_s360.2.2.1 [] zx_d_X7_clear te_s360.2.1 te_s360.2.2.2.1 te_s360.2.2.2.2 [] [] 3000 = true := by decide +kernel
theorem te_p360 : tj_KS1 (zx_Cl zx_mt zx_rc zx_mx' 1) tj_Lam te_s360 := tj_method te_so (d := 0) (by rw [← zx_q_X7_clear]; rfl) (fun _ h => absurd h List.not_mem_nil) (by decide +kernel) (by decide +kernel) te_c360
/-! Sights.tell -/
def te_s361 : tj_C := (321, [(1, 73, 0), (0, 0, 4294967295), (0, 2147483647, 2147483647), (0, 2147483648, 2147483657)], ([(73, 6)], [70, 66, 67, 68, 69]), [([(1, 73, 0), (0, 0, 4294967295), (0, 2147483647, 2147483647), (0, 2147483648, 2147483657)], some (0, 2147483647, 2147483647), ([], [], [])), ([(1, 73, 0), (0, 2147483648, 2147483747), (0, 2147483647, 2147483647), (0, 2147483648, 2147483657)], some (0, 2147483648, 2147483677), ([.inr (0, 6)], [(0, 2147483649, 2147483678)], [(0, .inr 0, .inl 6, .inr 5)]))], ([], [], []))
set_option maxRecDepth 100000 in
theorem te_c361 : tj_chk tj_Lam te_s361.2.2.1 [] zx_d_X7_tell te_s361.2.1 te_s361.2.2.2.1 te_s361.2.2.2.2 [] [] 3000 = true := by decide +kernel
theorem te_p361 : tj_KS1 (zx_Cl zx_mt zx_rc zx_mx' 1) tj_Lam te_s361 := tj_method te_so (d := 0) (by rw [← zx_q_X7_tell]; rfl) (fun _ h => absurd h List.not_mem_nil) (by decide +kernel) (by decide +kernel) te_c361
/-! TwoInOne.shown -/
def te_s362 : tj_C := (73, [(1, 100, 0), (0, 0, 4294967295), (0, 0, 4294967295)], ([(73, 6)], [70, 66, 67, 68, 69]), [([(1, 100, 0), (0, 0, 4294967295), (0, 0, 4294967295)], some (0, 2147483647, 2147483647), ([], [], [])), ([(1, 100, 0), (0, 2147483648, 2147483747), (0, 2147483648, 2147483657)], some (0, 2147483648, 2147483677), ([], [], []))], ([], [], []))
set_option maxRecDepth 100000 in
theorem te_c362 : tj_chk tj_Lam te_s362.2.2.1 [te_s361] zx_d_X11_shown te_s362.2.1 te_s362.2.2.2.1 te_s362.2.2.2.2 [] [] 3000 = true := by decide +kernel
theorem te_p362 : tj_KS1 (zx_Cl zx_mt zx_rc zx_mx' 2) tj_Lam te_s362 := tj_method te_so (d := 1) (by rw [← zx_q_X11_shown]; rfl) (List.forall_mem_cons.mpr ⟨tj_KS1_le (by decide) te_p361, fun _ h => absurd h List.not_mem_nil⟩) (by decide +kernel) (by decide +kernel) te_c362
/-! Sights.tell -/
def te_s363 : tj_C := (321, [(1, 73, 0), (0, 0, 4294967295), (0, 2147483648, 2147483655), (0, 2147483647, 2147483647)], ([(73, 6)], [70, 66, 67, 68, 69]), [([(1, 73, 0), (0, 0, 4294967295), (0, 2147483648, 2147483655), (0, 2147483647, 2147483647)], some (0, 2147483647, 2147483647), ([], [], [])), ([(1, 73, 0), (0, 2147483648, 2147483747), (0, 2147483648, 2147483655), (0, 2147483647, 2147483647)], some (0, 2147483648, 2147483677), ([.inr (0, 6)], [(0, 2147483649, 2147483678)], [(0, .inr 0, .inl 6, .inr 5)]))], ([], [], []))
set_option maxRecDepth 100000 in
theorem te_c363 : tj_chk tj_Lam te_s363.2.2.1 [] zx_d_X7_tell te_s363.2.1 te_s363.2.2.2.1 te_s363.2.2.2.2 [] [] 3000 = true := by decide +kernel
theorem te_p363 : tj_KS1 (zx_Cl zx_mt zx_rc zx_mx' 1) tj_Lam te_s363 := tj_method te_so (d := 0) (by rw [← zx_q_X7_tell]; rfl) (fun _ h => absurd h List.not_mem_nil) (by decide +kernel) (by decide +kernel) te_c363
/-! TwoInOne.sight -/
def te_s364 : tj_C := (74, [(1, 100, 0), (0, 0, 4294967295), (0, 0, 4294967295)], ([(73, 6)], [70, 66, 67, 68, 69]), [([(1, 100, 0), (0, 0, 4294967295), (0, 0, 4294967295)], some (0, 2147483647, 2147483647), ([], [], [])), ([(1, 100, 0), (0, 2147483648, 2147483747), (0, 2147483648, 2147483655)], some (0, 2147483648, 2147483677), ([], [], []))], ([], [], []))
set_option maxRecDepth 100000 in
theorem te_c364 : tj_chk tj_Lam te_s364.2.2.1 [te_s4, te_s363] zx_d_X11_sight te_s364.2.1 te_s364.2.2.2.1 te_s364.2.2.2.2 [] [] 3000 = true := by decide +kernel
theorem te_p364 : tj_KS1 (zx_Cl zx_mt zx_rc zx_mx' 2) tj_Lam te_s364 := tj_method te_so (d := 1) (by rw [← zx_q_X11_sight]; rfl) (List.forall_mem_cons.mpr ⟨tj_KS1_le (by decide) te_p4, List.forall_mem_cons.mpr ⟨tj_KS1_le (by decide) te_p363, fun _ h => absurd h List.not_mem_nil⟩⟩) (by decide +kernel) (by decide +kernel) te_c364
/-! Course.winnerOn -/
def te_s365 : tj_C := (23, [(1, 56, 0), (0, 0, 4294967295)], ([], [55]), [([(1, 56, 0), (0, 0, 4294967295)], some (0, 2147483647, 2147483650), ([], [], []))], ([], [], []))
set_option maxRecDepth 100000 in
theorem te_c365 : tj_chk tj_Lam te_s365.2.2.1 [te_s34, te_s132, te_s133, te_s134, te_s136] zx_d_X0_winnerOn te_s365.2.1 te_s365.2.2.2.1 te_s365.2.2.2.2 [((10, [(0, .inr 0), (1, .inr 1), (2, .inr 2)], [], [(1, 56, 0), (0, 0, 4294967295), (0, 2147483648, 2147483652), (1, 55, 0)], [(0, .inr 0, .inl 3, .inr 3)]), [.inl 2, .inr (0, 3)], [(0, 0), (1, 2), (0, 0)])] [10] 3000 = true := by decide +kernel
theorem te_p365 : tj_KS1 (zx_Cl zx_mt zx_rc zx_mx' 3) tj_Lam te_s365 := tj_method te_so (d := 2) (by rw [← zx_q_X0_winnerOn]; rfl) (List.forall_mem_cons.mpr ⟨tj_KS1_le (by decide) te_p34, List.forall_mem_cons.mpr ⟨tj_KS1_le (by decide) te_p132, List.forall_mem_cons.mpr ⟨tj_KS1_le (by decide) te_p133, List.forall_mem_cons.mpr ⟨tj_KS1_le (by decide) te_p134, List.forall_mem_cons.mpr ⟨tj_KS1_le (by decide) te_p136, fun _ h => absurd h List.not_mem_nil⟩⟩⟩⟩⟩) (by decide +kernel) (by decide +kernel) te_c365
