/-! Course.standing -/
def te_s40 : tj_C := (20, [(1, 56, 0), (0, 2147483649, 2147483865), (0, 2147483648, 2147483747)], ([], []), [([(1, 56, 0), (0, 2147483649, 2147483865), (0, 2147483648, 2147483747)], some (0, 0, 4294967295), ([], [], []))], ([], [], []))
set_option maxRecDepth 100000 in
theorem te_c40 : tj_chk tj_Lam te_s40.2.2.1 [] zx_d_X0_standing te_s40.2.1 te_s40.2.2.2.1 te_s40.2.2.2.2 [] [] 3000 = true := by decide +kernel
theorem te_p40 : tj_KS1 (zx_Cl zx_mt zx_rc zx_mx' 1) tj_Lam te_s40 := tj_method te_so (d := 0) (by rw [← zx_q_X0_standing]; rfl) (fun _ h => absurd h List.not_mem_nil) (by decide +kernel) (by decide +kernel) te_c40
/-! Course.join -/
def te_s41 : tj_C := (14, [(0, 0, 4294967295), (0, 0, 4294967295), (0, 0, 4294967295)], ([], []), [([(0, 0, 4294967295), (0, 0, 4294967295), (0, 0, 4294967295)], some (0, 0, 4294967295), ([], [], []))], ([], [], []))
set_option maxRecDepth 100000 in
theorem te_c41 : tj_chk tj_Lam te_s41.2.2.1 [] zx_d_X0_join te_s41.2.1 te_s41.2.2.2.1 te_s41.2.2.2.2 [] [] 3000 = true := by decide +kernel
theorem te_p41 : tj_KS1 (zx_Cl zx_mt zx_rc zx_mx' 1) tj_Lam te_s41 := tj_method te_so (d := 0) (by rw [← zx_q_X0_join]; rfl) (fun _ h => absurd h List.not_mem_nil) (by decide +kernel) (by decide +kernel) te_c41
/-! Course.evaluate -/
def te_s42 : tj_C := (9, [(1, 56, 0), (0, 2147483648, 2147484288), (0, 2147483648, 2147484288), (0, 2147483648, 2147483747)], ([], [54]), [([(1, 56, 0), (0, 2147483648, 2147484288), (0, 2147483648, 2147484288), (0, 2147483648, 2147483747)], some (0, 0, 4294967295), ([], [], []))], ([], [], []))
set_option maxRecDepth 100000 in
theorem te_c42 : tj_chk tj_Lam te_s42.2.2.1 [te_s39, te_s40, te_s41] zx_d_X0_evaluate te_s42.2.1 te_s42.2.2.2.1 te_s42.2.2.2.2 [((10, [(0, .inr 0), (1, .inr 1), (2, .inr 2), (3, .inr 3), (4, .inr 4), (5, .inr 5)], [], [(1, 56, 0), (0, 2147483648, 2147484288), (0, 2147483648, 2147484288), (0, 2147483648, 2147483747), (0, 2147483648, 2147483678), (0, 2147483648, 2147484288)], []), [.inl 4, .inl 5], [(0, 0), (1, 5), (0, 0)])] [10] 3000 = true := by decide +kernel
theorem te_p42 : tj_KS1 (zx_Cl zx_mt zx_rc zx_mx' 2) tj_Lam te_s42 := tj_method te_so (d := 1) (by rw [← zx_q_X0_evaluate]; rfl) (List.forall_mem_cons.mpr ⟨tj_KS1_le (by decide) te_p39, List.forall_mem_cons.mpr ⟨tj_KS1_le (by decide) te_p40, List.forall_mem_cons.mpr ⟨tj_KS1_le (by decide) te_p41, fun _ h => absurd h List.not_mem_nil⟩⟩⟩) (by decide +kernel) (by decide +kernel) te_c42
/-! Course.loadAfter -/
def te_s43 : tj_C := (16, [(1, 56, 0), (0, 0, 4294967295), (0, 2147483648, 2147483747)], ([], [54]), [([(1, 56, 0), (0, 0, 4294967295), (0, 2147483648, 2147483747)], some (0, 2147483648, 2147483747), ([], [], []))], ([], [], []))
set_option maxRecDepth 100000 in
theorem te_c43 : tj_chk tj_Lam te_s43.2.2.1 [te_s38, te_s42] zx_d_X0_loadAfter te_s43.2.1 te_s43.2.2.2.1 te_s43.2.2.2.2 [] [] 3000 = true := by decide +kernel
theorem te_p43 : tj_KS1 (zx_Cl zx_mt zx_rc zx_mx' 3) tj_Lam te_s43 := tj_method te_so (d := 2) (by rw [← zx_q_X0_loadAfter]; rfl) (List.forall_mem_cons.mpr ⟨tj_KS1_le (by decide) te_p38, List.forall_mem_cons.mpr ⟨tj_KS1_le (by decide) te_p42, fun _ h => absurd h List.not_mem_nil⟩⟩) (by decide +kernel) (by decide +kernel) te_c43
/-! Row.at -/
def te_s44 : tj_C := (280, [(1, 43, 0), (0, 2147483648, 2147483649)], ([], []), [([(1, 43, 0), (0, 2147483648, 2147483649)], some (0, 2147483647, 2147483647), ([.inr (0, 1)], [(0, 2147483648, 2147483649)], [(0, .inr 0, .inl 1, .inr 3)])), ([(1, 43, 0), (0, 2147483648, 2147483649)], some (0, 0, 4294967295), ([.inr (0, 1)], [(0, 2147483649, 2147483662)], [(0, .inr 0, .inl 1, .inr 3)]))], ([], [], []))
set_option maxRecDepth 100000 in
theorem te_c44 : tj_chk tj_Lam te_s44.2.2.1 [] zx_d_X5_at te_s44.2.1 te_s44.2.2.2.1 te_s44.2.2.2.2 [] [] 3000 = true := by decide +kernel
theorem te_p44 : tj_KS1 (zx_Cl zx_mt zx_rc zx_mx' 1) tj_Lam te_s44 := tj_method te_so (d := 0) (by rw [← zx_q_X5_at]; rfl) (fun _ h => absurd h List.not_mem_nil) (by decide +kernel) (by decide +kernel) te_c44
/-! Game.deedOn -/
def te_s45 : tj_C := (218, [(1, 61, 0), (0, 2147483648, 2147483649)], ([], []), [([(1, 61, 0), (0, 2147483648, 2147483649)], some (0, 2147483647, 2147483647), ([], [], [])), ([(1, 61, 0), (0, 2147483648, 2147483649)], some (0, 0, 4294967295), ([], [], []))], ([], [], []))
set_option maxRecDepth 100000 in
theorem te_c45 : tj_chk tj_Lam te_s45.2.2.1 [te_s44] zx_d_X1_deedOn te_s45.2.1 te_s45.2.2.2.1 te_s45.2.2.2.2 [] [] 3000 = true := by decide +kernel
theorem te_p45 : tj_KS1 (zx_Cl zx_mt zx_rc zx_mx' 2) tj_Lam te_s45 := tj_method te_so (d := 1) (by rw [← zx_q_X1_deedOn]; rfl) (List.forall_mem_cons.mpr ⟨tj_KS1_le (by decide) te_p44, fun _ h => absurd h List.not_mem_nil⟩) (by decide +kernel) (by decide +kernel) te_c45
/-! Row.at -/
def te_s46 : tj_C := (280, [(1, 43, 0), (0, 2147483648, 2147483650)], ([], []), [([(1, 43, 0), (0, 2147483648, 2147483650)], some (0, 2147483647, 2147483647), ([.inr (0, 1)], [(0, 2147483648, 2147483650)], [(0, .inr 0, .inl 1, .inr 3)])), ([(1, 43, 0), (0, 2147483648, 2147483650)], some (0, 0, 4294967295), ([.inr (0, 1)], [(0, 2147483649, 2147483662)], [(0, .inr 0, .inl 1, .inr 3)]))], ([], [], []))
set_option maxRecDepth 100000 in
theorem te_c46 : tj_chk tj_Lam te_s46.2.2.1 [] zx_d_X5_at te_s46.2.1 te_s46.2.2.2.1 te_s46.2.2.2.2 [] [] 3000 = true := by decide +kernel
theorem te_p46 : tj_KS1 (zx_Cl zx_mt zx_rc zx_mx' 1) tj_Lam te_s46 := tj_method te_so (d := 0) (by rw [← zx_q_X5_at]; rfl) (fun _ h => absurd h List.not_mem_nil) (by decide +kernel) (by decide +kernel) te_c46
/-! Game.deedOn -/
def te_s47 : tj_C := (218, [(1, 61, 0), (0, 2147483648, 2147483650)], ([], []), [([(1, 61, 0), (0, 2147483648, 2147483650)], some (0, 2147483647, 2147483647), ([], [], [])), ([(1, 61, 0), (0, 2147483648, 2147483650)], some (0, 0, 4294967295), ([], [], []))], ([], [], []))
set_option maxRecDepth 100000 in
theorem te_c47 : tj_chk tj_Lam te_s47.2.2.1 [te_s46] zx_d_X1_deedOn te_s47.2.1 te_s47.2.2.2.1 te_s47.2.2.2.2 [] [] 3000 = true := by decide +kernel
theorem te_p47 : tj_KS1 (zx_Cl zx_mt zx_rc zx_mx' 2) tj_Lam te_s47 := tj_method te_so (d := 1) (by rw [← zx_q_X1_deedOn]; rfl) (List.forall_mem_cons.mpr ⟨tj_KS1_le (by decide) te_p46, fun _ h => absurd h List.not_mem_nil⟩) (by decide +kernel) (by decide +kernel) te_c47
/-! Row.at -/
def te_s48 : tj_C := (280, [(1, 43, 0), (0, 2147483648, 2147483651)], ([], []), [([(1, 43, 0), (0, 2147483648, 2147483651)], some (0, 2147483647, 2147483647), ([.inr (0, 1)], [(0, 2147483648, 2147483651)], [(0, .inr 0, .inl 1, .inr 3)])), ([(1, 43, 0), (0, 2147483648, 2147483651)], some (0, 0, 4294967295), ([.inr (0, 1)], [(0, 2147483649, 2147483662)], [(0, .inr 0, .inl 1, .inr 3)]))], ([], [], []))
set_option maxRecDepth 100000 in
theorem te_c48 : tj_chk tj_Lam te_s48.2.2.1 [] zx_d_X5_at te_s48.2.1 te_s48.2.2.2.1 te_s48.2.2.2.2 [] [] 3000 = true := by decide +kernel
theorem te_p48 : tj_KS1 (zx_Cl zx_mt zx_rc zx_mx' 1) tj_Lam te_s48 := tj_method te_so (d := 0) (by rw [← zx_q_X5_at]; rfl) (fun _ h => absurd h List.not_mem_nil) (by decide +kernel) (by decide +kernel) te_c48
/-! Game.deedOn -/
def te_s49 : tj_C := (218, [(1, 61, 0), (0, 2147483648, 2147483651)], ([], []), [([(1, 61, 0), (0, 2147483648, 2147483651)], some (0, 2147483647, 2147483647), ([], [], [])), ([(1, 61, 0), (0, 2147483648, 2147483651)], some (0, 0, 4294967295), ([], [], []))], ([], [], []))
set_option maxRecDepth 100000 in
theorem te_c49 : tj_chk tj_Lam te_s49.2.2.1 [te_s48] zx_d_X1_deedOn te_s49.2.1 te_s49.2.2.2.1 te_s49.2.2.2.2 [] [] 3000 = true := by decide +kernel
theorem te_p49 : tj_KS1 (zx_Cl zx_mt zx_rc zx_mx' 2) tj_Lam te_s49 := tj_method te_so (d := 1) (by rw [← zx_q_X1_deedOn]; rfl) (List.forall_mem_cons.mpr ⟨tj_KS1_le (by decide) te_p48, fun _ h => absurd h List.not_mem_nil⟩) (by decide +kernel) (by decide +kernel) te_c49
/-! Row.at -/
def te_s50 : tj_C := (280, [(1, 43, 0), (0, 2147483648, 2147483652)], ([], []), [([(1, 43, 0), (0, 2147483648, 2147483652)], some (0, 2147483647, 2147483647), ([.inr (0, 1)], [(0, 2147483648, 2147483652)], [(0, .inr 0, .inl 1, .inr 3)])), ([(1, 43, 0), (0, 2147483648, 2147483652)], some (0, 0, 4294967295), ([.inr (0, 1)], [(0, 2147483649, 2147483662)], [(0, .inr 0, .inl 1, .inr 3)]))], ([], [], []))
set_option maxRecDepth 100000 in
theorem te_c50 : tj_chk tj_Lam te_s50.2.2.1 [] zx_d_X5_at te_s50.2.1 te_s50.2.2.2.1 te_s50.2.2.2.2 [] [] 3000 = true := by decide +kernel
theorem te_p50 : tj_KS1 (zx_Cl zx_mt zx_rc zx_mx' 1) tj_Lam te_s50 := tj_method te_so (d := 0) (by rw [← zx_q_X5_at]; rfl) (fun _ h => absurd h List.not_mem_nil) (by decide +kernel) (by decide +kernel) te_c50
/-! Game.deedOn -/
def te_s51 : tj_C := (218, [(1, 61, 0), (0, 2147483648, 2147483652)], ([], []), [([(1, 61, 0), (0, 2147483648, 2147483652)], some (0, 2147483647, 2147483647), ([], [], [])), ([(1, 61, 0), (0, 2147483648, 2147483652)], some (0, 0, 4294967295), ([], [], []))], ([], [], []))
set_option maxRecDepth 100000 in
theorem te_c51 : tj_chk tj_Lam te_s51.2.2.1 [te_s50] zx_d_X1_deedOn te_s51.2.1 te_s51.2.2.2.1 te_s51.2.2.2.2 [] [] 3000 = true := by decide +kernel
theorem te_p51 : tj_KS1 (zx_Cl zx_mt zx_rc zx_mx' 2) tj_Lam te_s51 := tj_method te_so (d := 1) (by rw [← zx_q_X1_deedOn]; rfl) (List.forall_mem_cons.mpr ⟨tj_KS1_le (by decide) te_p50, fun _ h => absurd h List.not_mem_nil⟩) (by decide +kernel) (by decide +kernel) te_c51
/-! Row.at -/
def te_s52 : tj_C := (280, [(1, 43, 0), (0, 2147483648, 2147483653)], ([], []), [([(1, 43, 0), (0, 2147483648, 2147483653)], some (0, 2147483647, 2147483647), ([.inr (0, 1)], [(0, 2147483648, 2147483653)], [(0, .inr 0, .inl 1, .inr 3)])), ([(1, 43, 0), (0, 2147483648, 2147483653)], some (0, 0, 4294967295), ([.inr (0, 1)], [(0, 2147483649, 2147483662)], [(0, .inr 0, .inl 1, .inr 3)]))], ([], [], []))
set_option maxRecDepth 100000 in
theorem te_c52 : tj_chk tj_Lam te_s52.2.2.1 [] zx_d_X5_at te_s52.2.1 te_s52.2.2.2.1 te_s52.2.2.2.2 [] [] 3000 = true := by decide +kernel
theorem te_p52 : tj_KS1 (zx_Cl zx_mt zx_rc zx_mx' 1) tj_Lam te_s52 := tj_method te_so (d := 0) (by rw [← zx_q_X5_at]; rfl) (fun _ h => absurd h List.not_mem_nil) (by decide +kernel) (by decide +kernel) te_c52
/-! Game.deedOn -/
def te_s53 : tj_C := (218, [(1, 61, 0), (0, 2147483648, 2147483653)], ([], []), [([(1, 61, 0), (0, 2147483648, 2147483653)], some (0, 2147483647, 2147483647), ([], [], [])), ([(1, 61, 0), (0, 2147483648, 2147483653)], some (0, 0, 4294967295), ([], [], []))], ([], [], []))
set_option maxRecDepth 100000 in
theorem te_c53 : tj_chk tj_Lam te_s53.2.2.1 [te_s52] zx_d_X1_deedOn te_s53.2.1 te_s53.2.2.2.1 te_s53.2.2.2.2 [] [] 3000 = true := by decide +kernel
theorem te_p53 : tj_KS1 (zx_Cl zx_mt zx_rc zx_mx' 2) tj_Lam te_s53 := tj_method te_so (d := 1) (by rw [← zx_q_X1_deedOn]; rfl) (List.forall_mem_cons.mpr ⟨tj_KS1_le (by decide) te_p52, fun _ h => absurd h List.not_mem_nil⟩) (by decide +kernel) (by decide +kernel) te_c53
/-! Row.at -/
def te_s54 : tj_C := (280, [(1, 43, 0), (0, 2147483648, 2147483654)], ([], []), [([(1, 43, 0), (0, 2147483648, 2147483654)], some (0, 2147483647, 2147483647), ([.inr (0, 1)], [(0, 2147483648, 2147483654)], [(0, .inr 0, .inl 1, .inr 3)])), ([(1, 43, 0), (0, 2147483648, 2147483654)], some (0, 0, 4294967295), ([.inr (0, 1)], [(0, 2147483649, 2147483662)], [(0, .inr 0, .inl 1, .inr 3)]))], ([], [], []))
set_option maxRecDepth 100000 in
theorem te_c54 : tj_chk tj_Lam te_s54.2.2.1 [] zx_d_X5_at te_s54.2.1 te_s54.2.2.2.1 te_s54.2.2.2.2 [] [] 3000 = true := by decide +kernel
theorem te_p54 : tj_KS1 (zx_Cl zx_mt zx_rc zx_mx' 1) tj_Lam te_s54 := tj_method te_so (d := 0) (by rw [← zx_q_X5_at]; rfl) (fun _ h => absurd h List.not_mem_nil) (by decide +kernel) (by decide +kernel) te_c54
/-! Game.deedOn -/
def te_s55 : tj_C := (218, [(1, 61, 0), (0, 2147483648, 2147483654)], ([], []), [([(1, 61, 0), (0, 2147483648, 2147483654)], some (0, 2147483647, 2147483647), ([], [], [])), ([(1, 61, 0), (0, 2147483648, 2147483654)], some (0, 0, 4294967295), ([], [], []))], ([], [], []))
set_option maxRecDepth 100000 in
theorem te_c55 : tj_chk tj_Lam te_s55.2.2.1 [te_s54] zx_d_X1_deedOn te_s55.2.1 te_s55.2.2.2.1 te_s55.2.2.2.2 [] [] 3000 = true := by decide +kernel
theorem te_p55 : tj_KS1 (zx_Cl zx_mt zx_rc zx_mx' 2) tj_Lam te_s55 := tj_method te_so (d := 1) (by rw [← zx_q_X1_deedOn]; rfl) (List.forall_mem_cons.mpr ⟨tj_KS1_le (by decide) te_p54, fun _ h => absurd h List.not_mem_nil⟩) (by decide +kernel) (by decide +kernel) te_c55
/-! Row.at -/
def te_s56 : tj_C := (280, [(1, 43, 0), (0, 2147483648, 2147483655)], ([], []), [([(1, 43, 0), (0, 2147483648, 2147483655)], some (0, 2147483647, 2147483647), ([.inr (0, 1)], [(0, 2147483648, 2147483655)], [(0, .inr 0, .inl 1, .inr 3)])), ([(1, 43, 0), (0, 2147483648, 2147483655)], some (0, 0, 4294967295), ([.inr (0, 1)], [(0, 2147483649, 2147483662)], [(0, .inr 0, .inl 1, .inr 3)]))], ([], [], []))
set_option maxRecDepth 100000 in
theorem te_c56 : tj_chk tj_Lam te_s56.2.2.1 [] zx_d_X5_at te_s56.2.1 te_s56.2.2.2.1 te_s56.2.2.2.2 [] [] 3000 = true := by decide +kernel
theorem te_p56 : tj_KS1 (zx_Cl zx_mt zx_rc zx_mx' 1) tj_Lam te_s56 := tj_method te_so (d := 0) (by rw [← zx_q_X5_at]; rfl) (fun _ h => absurd h List.not_mem_nil) (by decide +kernel) (by decide +kernel) te_c56
/-! Game.deedOn -/
def te_s57 : tj_C := (218, [(1, 61, 0), (0, 2147483648, 2147483655)], ([], []), [([(1, 61, 0), (0, 2147483648, 2147483655)], some (0, 2147483647, 2147483647), ([], [], [])), ([(1, 61, 0), (0, 2147483648, 2147483655)], some (0, 0, 4294967295), ([], [], []))], ([], [], []))
set_option maxRecDepth 100000 in
theorem te_c57 : tj_chk tj_Lam te_s57.2.2.1 [te_s56] zx_d_X1_deedOn te_s57.2.1 te_s57.2.2.2.1 te_s57.2.2.2.2 [] [] 3000 = true := by decide +kernel
theorem te_p57 : tj_KS1 (zx_Cl zx_mt zx_rc zx_mx' 2) tj_Lam te_s57 := tj_method te_so (d := 1) (by rw [← zx_q_X1_deedOn]; rfl) (List.forall_mem_cons.mpr ⟨tj_KS1_le (by decide) te_p56, fun _ h => absurd h List.not_mem_nil⟩) (by decide +kernel) (by decide +kernel) te_c57
/-! Row.at -/
def te_s58 : tj_C := (280, [(1, 43, 0), (0, 2147483648, 2147483656)], ([], []), [([(1, 43, 0), (0, 2147483648, 2147483656)], some (0, 2147483647, 2147483647), ([.inr (0, 1)], [(0, 2147483648, 2147483656)], [(0, .inr 0, .inl 1, .inr 3)])), ([(1, 43, 0), (0, 2147483648, 2147483656)], some (0, 0, 4294967295), ([.inr (0, 1)], [(0, 2147483649, 2147483662)], [(0, .inr 0, .inl 1, .inr 3)]))], ([], [], []))
set_option maxRecDepth 100000 in
theorem te_c58 : tj_chk tj_Lam te_s58.2.2.1 [] zx_d_X5_at te_s58.2.1 te_s58.2.2.2.1 te_s58.2.2.2.2 [] [] 3000 = true := by decide +kernel
theorem te_p58 : tj_KS1 (zx_Cl zx_mt zx_rc zx_mx' 1) tj_Lam te_s58 := tj_method te_so (d := 0) (by rw [← zx_q_X5_at]; rfl) (fun _ h => absurd h List.not_mem_nil) (by decide +kernel) (by decide +kernel) te_c58
/-! Game.deedOn -/
def te_s59 : tj_C := (218, [(1, 61, 0), (0, 2147483648, 2147483656)], ([], []), [([(1, 61, 0), (0, 2147483648, 2147483656)], some (0, 2147483647, 2147483647), ([], [], [])), ([(1, 61, 0), (0, 2147483648, 2147483656)], some (0, 0, 4294967295), ([], [], []))], ([], [], []))
set_option maxRecDepth 100000 in
theorem te_c59 : tj_chk tj_Lam te_s59.2.2.1 [te_s58] zx_d_X1_deedOn te_s59.2.1 te_s59.2.2.2.1 te_s59.2.2.2.2 [] [] 3000 = true := by decide +kernel
theorem te_p59 : tj_KS1 (zx_Cl zx_mt zx_rc zx_mx' 2) tj_Lam te_s59 := tj_method te_so (d := 1) (by rw [← zx_q_X1_deedOn]; rfl) (List.forall_mem_cons.mpr ⟨tj_KS1_le (by decide) te_p58, fun _ h => absurd h List.not_mem_nil⟩) (by decide +kernel) (by decide +kernel) te_c59
/-! Row.at -/
def te_s60 : tj_C := (280, [(1, 43, 0), (0, 2147483648, 2147483657)], ([], []), [([(1, 43, 0), (0, 2147483648, 2147483657)], some (0, 2147483647, 2147483647), ([.inr (0, 1)], [(0, 2147483648, 2147483657)], [(0, .inr 0, .inl 1, .inr 3)])), ([(1, 43, 0), (0, 2147483648, 2147483657)], some (0, 0, 4294967295), ([.inr (0, 1)], [(0, 2147483649, 2147483662)], [(0, .inr 0, .inl 1, .inr 3)]))], ([], [], []))
set_option maxRecDepth 100000 in
theorem te_c60 : tj_chk tj_Lam te_s60.2.2.1 [] zx_d_X5_at te_s60.2.1 te_s60.2.2.2.1 te_s60.2.2.2.2 [] [] 3000 = true := by decide +kernel
theorem te_p60 : tj_KS1 (zx_Cl zx_mt zx_rc zx_mx' 1) tj_Lam te_s60 := tj_method te_so (d := 0) (by rw [← zx_q_X5_at]; rfl) (fun _ h => absurd h List.not_mem_nil) (by decide +kernel) (by decide +kernel) te_c60
/-! Game.deedOn -/
def te_s61 : tj_C := (218, [(1, 61, 0), (0, 2147483648, 2147483657)], ([], []), [([(1, 61, 0), (0, 2147483648, 2147483657)], some (0, 2147483647, 2147483647), ([], [], [])), ([(1, 61, 0), (0, 2147483648, 2147483657)], some (0, 0, 4294967295), ([], [], []))], ([], [], []))
set_option maxRecDepth 100000 in
theorem te_c61 : tj_chk tj_Lam te_s61.2.2.1 [te_s60] zx_d_X1_deedOn te_s61.2.1 te_s61.2.2.2.1 te_s61.2.2.2.2 [] [] 3000 = true := by decide +kernel
theorem te_p61 : tj_KS1 (zx_Cl zx_mt zx_rc zx_mx' 2) tj_Lam te_s61 := tj_method te_so (d := 1) (by rw [← zx_q_X1_deedOn]; rfl) (List.forall_mem_cons.mpr ⟨tj_KS1_le (by decide) te_p60, fun _ h => absurd h List.not_mem_nil⟩) (by decide +kernel) (by decide +kernel) te_c61
/-! Row.at -/
def te_s62 : tj_C := (280, [(1, 43, 0), (0, 2147483648, 2147483658)], ([], []), [([(1, 43, 0), (0, 2147483648, 2147483658)], some (0, 2147483647, 2147483647), ([.inr (0, 1)], [(0, 2147483648, 2147483658)], [(0, .inr 0, .inl 1, .inr 3)])), ([(1, 43, 0), (0, 2147483648, 2147483658)], some (0, 0, 4294967295), ([.inr (0, 1)], [(0, 2147483649, 2147483662)], [(0, .inr 0, .inl 1, .inr 3)]))], ([], [], []))
set_option maxRecDepth 100000 in
theorem te_c62 : tj_chk tj_Lam te_s62.2.2.1 [] zx_d_X5_at te_s62.2.1 te_s62.2.2.2.1 te_s62.2.2.2.2 [] [] 3000 = true := by decide +kernel
theorem te_p62 : tj_KS1 (zx_Cl zx_mt zx_rc zx_mx' 1) tj_Lam te_s62 := tj_method te_so (d := 0) (by rw [← zx_q_X5_at]; rfl) (fun _ h => absurd h List.not_mem_nil) (by decide +kernel) (by decide +kernel) te_c62
/-! Game.deedOn -/
def te_s63 : tj_C := (218, [(1, 61, 0), (0, 2147483648, 2147483658)], ([], []), [([(1, 61, 0), (0, 2147483648, 2147483658)], some (0, 2147483647, 2147483647), ([], [], [])), ([(1, 61, 0), (0, 2147483648, 2147483658)], some (0, 0, 4294967295), ([], [], []))], ([], [], []))
set_option maxRecDepth 100000 in
theorem te_c63 : tj_chk tj_Lam te_s63.2.2.1 [te_s62] zx_d_X1_deedOn te_s63.2.1 te_s63.2.2.2.1 te_s63.2.2.2.2 [] [] 3000 = true := by decide +kernel
theorem te_p63 : tj_KS1 (zx_Cl zx_mt zx_rc zx_mx' 2) tj_Lam te_s63 := tj_method te_so (d := 1) (by rw [← zx_q_X1_deedOn]; rfl) (List.forall_mem_cons.mpr ⟨tj_KS1_le (by decide) te_p62, fun _ h => absurd h List.not_mem_nil⟩) (by decide +kernel) (by decide +kernel) te_c63
/-! Row.at -/
def te_s64 : tj_C := (280, [(1, 43, 0), (0, 2147483648, 2147483661)], ([], []), [([(1, 43, 0), (0, 2147483648, 2147483661)], some (0, 2147483647, 2147483647), ([.inr (0, 1)], [(0, 2147483648, 2147483661)], [(0, .inr 0, .inl 1, .inr 3)])), ([(1, 43, 0), (0, 2147483648, 2147483661)], some (0, 0, 4294967295), ([.inr (0, 1)], [(0, 2147483649, 2147483662)], [(0, .inr 0, .inl 1, .inr 3)]))], ([], [], []))
set_option maxRecDepth 100000 in
theorem te_c64 : tj_chk tj_Lam te_s64.2.2.1 [] zx_d_X5_at te_s64.2.1 te_s64.2.2.2.1 te_s64.2.2.2.2 [] [] 3000 = true := by decide +kernel
theorem te_p64 : tj_KS1 (zx_Cl zx_mt zx_rc zx_mx' 1) tj_Lam te_s64 := tj_method te_so (d := 0) (by rw [← zx_q_X5_at]; rfl) (fun _ h => absurd h List.not_mem_nil) (by decide +kernel) (by decide +kernel) te_c64
/-! Game.deedOn -/
def te_s65 : tj_C := (218, [(1, 61, 0), (0, 2147483648, 2147483661)], ([], []), [([(1, 61, 0), (0, 2147483648, 2147483661)], some (0, 2147483647, 2147483647), ([], [], [])), ([(1, 61, 0), (0, 2147483648, 2147483661)], some (0, 0, 4294967295), ([], [], []))], ([], [], []))
set_option maxRecDepth 100000 in
theorem te_c65 : tj_chk tj_Lam te_s65.2.2.1 [te_s64] zx_d_X1_deedOn te_s65.2.1 te_s65.2.2.2.1 te_s65.2.2.2.2 [] [] 3000 = true := by decide +kernel
theorem te_p65 : tj_KS1 (zx_Cl zx_mt zx_rc zx_mx' 2) tj_Lam te_s65 := tj_method te_so (d := 1) (by rw [← zx_q_X1_deedOn]; rfl) (List.forall_mem_cons.mpr ⟨tj_KS1_le (by decide) te_p64, fun _ h => absurd h List.not_mem_nil⟩) (by decide +kernel) (by decide +kernel) te_c65
/-! Game.deedOn -/
def te_s66 : tj_C := (218, [(1, 61, 0), (0, 2147483648, 2147483662)], ([], []), [([(1, 61, 0), (0, 2147483648, 2147483662)], some (0, 2147483647, 2147483647), ([], [], [])), ([(1, 61, 0), (0, 2147483648, 2147483662)], some (0, 0, 4294967295), ([], [], []))], ([], [], []))
set_option maxRecDepth 100000 in
theorem te_c66 : tj_chk tj_Lam te_s66.2.2.1 [te_s64] zx_d_X1_deedOn te_s66.2.1 te_s66.2.2.2.1 te_s66.2.2.2.2 [] [] 3000 = true := by decide +kernel
theorem te_p66 : tj_KS1 (zx_Cl zx_mt zx_rc zx_mx' 2) tj_Lam te_s66 := tj_method te_so (d := 1) (by rw [← zx_q_X1_deedOn]; rfl) (List.forall_mem_cons.mpr ⟨tj_KS1_le (by decide) te_p64, fun _ h => absurd h List.not_mem_nil⟩) (by decide +kernel) (by decide +kernel) te_c66
/-! Game.deedOn -/
def te_s67 : tj_C := (218, [(1, 61, 0), (0, 2147483648, 2147483663)], ([], []), [([(1, 61, 0), (0, 2147483648, 2147483663)], some (0, 2147483647, 2147483647), ([], [], [])), ([(1, 61, 0), (0, 2147483648, 2147483663)], some (0, 0, 4294967295), ([], [], []))], ([], [], []))
set_option maxRecDepth 100000 in
theorem te_c67 : tj_chk tj_Lam te_s67.2.2.1 [te_s64] zx_d_X1_deedOn te_s67.2.1 te_s67.2.2.2.1 te_s67.2.2.2.2 [] [] 3000 = true := by decide +kernel
theorem te_p67 : tj_KS1 (zx_Cl zx_mt zx_rc zx_mx' 2) tj_Lam te_s67 := tj_method te_so (d := 1) (by rw [← zx_q_X1_deedOn]; rfl) (List.forall_mem_cons.mpr ⟨tj_KS1_le (by decide) te_p64, fun _ h => absurd h List.not_mem_nil⟩) (by decide +kernel) (by decide +kernel) te_c67
/-! Game.deedOn -/
def te_s68 : tj_C := (218, [(1, 61, 0), (0, 2147483648, 2147483667)], ([], []), [([(1, 61, 0), (0, 2147483648, 2147483667)], some (0, 2147483647, 2147483647), ([], [], [])), ([(1, 61, 0), (0, 2147483648, 2147483667)], some (0, 0, 4294967295), ([], [], []))], ([], [], []))
set_option maxRecDepth 100000 in
theorem te_c68 : tj_chk tj_Lam te_s68.2.2.1 [te_s64] zx_d_X1_deedOn te_s68.2.1 te_s68.2.2.2.1 te_s68.2.2.2.2 [] [] 3000 = true := by decide +kernel
theorem te_p68 : tj_KS1 (zx_Cl zx_mt zx_rc zx_mx' 2) tj_Lam te_s68 := tj_method te_so (d := 1) (by rw [← zx_q_X1_deedOn]; rfl) (List.forall_mem_cons.mpr ⟨tj_KS1_le (by decide) te_p64, fun _ h => absurd h List.not_mem_nil⟩) (by decide +kernel) (by decide +kernel) te_c68
/-! Game.keptJoy -/
def te_s69 : tj_C := (223, [(1, 61, 0), (0, 2147483648, 2147483651), (0, 2147483647, 2147483647), (0, 2147483648, 2147483648), (0, 2147483648, 2147483747), (0, 2147483649, 2147483668)], ([(56, 4), (56, 5), (56, 6)], [54]), [([(1, 61, 0), (0, 2147483648, 2147483651), (0, 2147483647, 2147483647), (0, 2147483648, 2147483648), (0, 2147483648, 2147483747), (0, 2147483649, 2147483668)], some (0, 2147483648, 2147483648), ([], [], []))], ([], [], []))
set_option maxRecDepth 100000 in
theorem te_c69 : tj_chk tj_Lam te_s69.2.2.1 [te_s35, te_s37, te_s43, te_s45, te_s47, te_s49, te_s51, te_s53, te_s55, te_s57, te_s59, te_s61, te_s63, te_s65, te_s66, te_s67, te_s68] zx_d_X1_keptJoy te_s69.2.1 te_s69.2.2.2.1 te_s69.2.2.2.2 [((10, [(0, .inr 0), (1, .inr 1), (2, .inr 2), (3, .inr 3), (4, .inr 4), (5, .inr 5), (6, .inr 6), (7, .inr 7), (8, .inr 8)], [], [(1, 61, 0), (0, 2147483648, 2147483651), (0, 2147483647, 2147483647), (0, 2147483648, 2147483648), (0, 2147483648, 2147483747), (0, 2147483649, 2147483668), (0, 2147483648, 2147483648), (0, 2147483648, 2147483747), (0, 2147483648, 2147483668)], []), [.inl 6, .inl 7, .inl 8], [(0, 0), (1, 8), (0, 0)])] [10] 3000 = true := by decide +kernel
theorem te_p69 : tj_KS1 (zx_Cl zx_mt zx_rc zx_mx' 4) tj_Lam te_s69 := tj_method te_so (d := 3) (by rw [← zx_q_X1_keptJoy]; rfl) (List.forall_mem_cons.mpr ⟨tj_KS1_le (by decide) te_p35, List.forall_mem_cons.mpr ⟨tj_KS1_le (by decide) te_p37, List.forall_mem_cons.mpr ⟨tj_KS1_le (by decide) te_p43, List.forall_mem_cons.mpr ⟨tj_KS1_le (by decide) te_p45, List.forall_mem_cons.mpr ⟨tj_KS1_le (by decide) te_p47, List.forall_mem_cons.mpr ⟨tj_KS1_le (by decide) te_p49, List.forall_mem_cons.mpr ⟨tj_KS1_le (by decide) te_p51, List.forall_mem_cons.mpr ⟨tj_KS1_le (by decide) te_p53, List.forall_mem_cons.mpr ⟨tj_KS1_le (by decide) te_p55, List.forall_mem_cons.mpr ⟨tj_KS1_le (by decide) te_p57, List.forall_mem_cons.mpr ⟨tj_KS1_le (by decide) te_p59, List.forall_mem_cons.mpr ⟨tj_KS1_le (by decide) te_p61, List.forall_mem_cons.mpr ⟨tj_KS1_le (by decide) te_p63, List.forall_mem_cons.mpr ⟨tj_KS1_le (by decide) te_p65, List.forall_mem_cons.mpr ⟨tj_KS1_le (by decide) te_p66, List.forall_mem_cons.mpr ⟨tj_KS1_le (by decide) te_p67, List.forall_mem_cons.mpr ⟨tj_KS1_le (by decide) te_p68, fun _ h => absurd h List.not_mem_nil⟩⟩⟩⟩⟩⟩⟩⟩⟩⟩⟩⟩⟩⟩⟩⟩⟩) (by decide +kernel) (by decide +kernel) te_c69
/-! Course.standing -/
def te_s70 : tj_C := (20, [(1, 56, 0), (0, 2147483649, 2147483865), (0, 0, 4294967295)], ([], []), [([(1, 56, 0), (0, 2147483649, 2147483865), (0, 0, 4294967295)], some (0, 0, 4294967295), ([], [], []))], ([], [], []))
set_option maxRecDepth 100000 in
theorem te_c70 : tj_chk tj_Lam te_s70.2.2.1 [] zx_d_X0_standing te_s70.2.1 te_s70.2.2.2.1 te_s70.2.2.2.2 [] [] 3000 = true := by decide +kernel
theorem te_p70 : tj_KS1 (zx_Cl zx_mt zx_rc zx_mx' 1) tj_Lam te_s70 := tj_method te_so (d := 0) (by rw [← zx_q_X0_standing]; rfl) (fun _ h => absurd h List.not_mem_nil) (by decide +kernel) (by decide +kernel) te_c70
/-! Course.evaluate -/
def te_s71 : tj_C := (9, [(1, 56, 0), (0, 2147483648, 2147484288), (0, 2147483648, 2147484288), (0, 0, 4294967295)], ([], [54]), [([(1, 56, 0), (0, 2147483648, 2147484288), (0, 2147483648, 2147484288), (0, 0, 4294967295)], some (0, 0, 4294967295), ([], [], []))], ([], [], []))
set_option maxRecDepth 100000 in
theorem te_c71 : tj_chk tj_Lam te_s71.2.2.1 [te_s39, te_s41, te_s70] zx_d_X0_evaluate te_s71.2.1 te_s71.2.2.2.1 te_s71.2.2.2.2 [((10, [(0, .inr 0), (1, .inr 1), (2, .inr 2), (3, .inr 3), (4, .inr 4), (5, .inr 5)], [], [(1, 56, 0), (0, 2147483648, 2147484288), (0, 2147483648, 2147484288), (0, 0, 4294967295), (0, 2147483648, 2147483678), (0, 2147483648, 2147484288)], []), [.inl 4, .inl 5], [(0, 0), (1, 5), (0, 0)])] [10] 3000 = true := by decide +kernel
theorem te_p71 : tj_KS1 (zx_Cl zx_mt zx_rc zx_mx' 2) tj_Lam te_s71 := tj_method te_so (d := 1) (by rw [← zx_q_X0_evaluate]; rfl) (List.forall_mem_cons.mpr ⟨tj_KS1_le (by decide) te_p39, List.forall_mem_cons.mpr ⟨tj_KS1_le (by decide) te_p41, List.forall_mem_cons.mpr ⟨tj_KS1_le (by decide) te_p70, fun _ h => absurd h List.not_mem_nil⟩⟩⟩) (by decide +kernel) (by decide +kernel) te_c71
/-! Course.joyOf -/
def te_s72 : tj_C := (15, [(1, 56, 0), (0, 0, 4294967295), (0, 0, 4294967295)], ([], [54]), [([(1, 56, 0), (0, 0, 4294967295), (0, 0, 4294967295)], some (0, 0, 4294967295), ([], [], []))], ([], [], []))
set_option maxRecDepth 100000 in
theorem te_c72 : tj_chk tj_Lam te_s72.2.2.1 [te_s38, te_s71] zx_d_X0_joyOf te_s72.2.1 te_s72.2.2.2.1 te_s72.2.2.2.2 [] [] 3000 = true := by decide +kernel
theorem te_p72 : tj_KS1 (zx_Cl zx_mt zx_rc zx_mx' 3) tj_Lam te_s72 := tj_method te_so (d := 2) (by rw [← zx_q_X0_joyOf]; rfl) (List.forall_mem_cons.mpr ⟨tj_KS1_le (by decide) te_p38, List.forall_mem_cons.mpr ⟨tj_KS1_le (by decide) te_p71, fun _ h => absurd h List.not_mem_nil⟩⟩) (by decide +kernel) (by decide +kernel) te_c72
/-! Game.keptJoy -/
def te_s73 : tj_C := (223, [(1, 61, 0), (0, 2147483648, 2147483651), (0, 2147483648, 2147483655), (0, 2147483648, 2147483648), (0, 2147483648, 2147483747), (0, 2147483649, 2147483668)], ([(56, 4), (56, 5), (56, 6)], [54]), [([(1, 61, 0), (0, 2147483648, 2147483651), (0, 2147483648, 2147483655), (0, 2147483648, 2147483648), (0, 2147483648, 2147483747), (0, 2147483649, 2147483668)], some (0, 0, 4294967295), ([], [], []))], ([], [], []))
set_option maxRecDepth 100000 in
theorem te_c73 : tj_chk tj_Lam te_s73.2.2.1 [te_s35, te_s37, te_s43, te_s45, te_s47, te_s49, te_s51, te_s53, te_s55, te_s57, te_s59, te_s61, te_s63, te_s65, te_s66, te_s67, te_s68, te_s72] zx_d_X1_keptJoy te_s73.2.1 te_s73.2.2.2.1 te_s73.2.2.2.2 [((10, [(0, .inr 0), (1, .inr 1), (2, .inr 2), (3, .inr 3), (4, .inr 4), (5, .inr 5), (6, .inr 6), (7, .inr 7), (8, .inr 8)], [], [(1, 61, 0), (0, 2147483648, 2147483651), (0, 2147483648, 2147483655), (0, 2147483648, 2147483648), (0, 2147483648, 2147483747), (0, 2147483649, 2147483668), (0, 0, 4294967295), (0, 2147483648, 2147483747), (0, 2147483648, 2147483668)], []), [.inl 6, .inl 7, .inl 8], [(0, 0), (1, 8), (0, 0)])] [10] 3000 = true := by decide +kernel
theorem te_p73 : tj_KS1 (zx_Cl zx_mt zx_rc zx_mx' 4) tj_Lam te_s73 := tj_method te_so (d := 3) (by rw [← zx_q_X1_keptJoy]; rfl) (List.forall_mem_cons.mpr ⟨tj_KS1_le (by decide) te_p35, List.forall_mem_cons.mpr ⟨tj_KS1_le (by decide) te_p37, List.forall_mem_cons.mpr ⟨tj_KS1_le (by decide) te_p43, List.forall_mem_cons.mpr ⟨tj_KS1_le (by decide) te_p45, List.forall_mem_cons.mpr ⟨tj_KS1_le (by decide) te_p47, List.forall_mem_cons.mpr ⟨tj_KS1_le (by decide) te_p49, List.forall_mem_cons.mpr ⟨tj_KS1_le (by decide) te_p51, List.forall_mem_cons.mpr ⟨tj_KS1_le (by decide) te_p53, List.forall_mem_cons.mpr ⟨tj_KS1_le (by decide) te_p55, List.forall_mem_cons.mpr ⟨tj_KS1_le (by decide) te_p57, List.forall_mem_cons.mpr ⟨tj_KS1_le (by decide) te_p59, List.forall_mem_cons.mpr ⟨tj_KS1_le (by decide) te_p61, List.forall_mem_cons.mpr ⟨tj_KS1_le (by decide) te_p63, List.forall_mem_cons.mpr ⟨tj_KS1_le (by decide) te_p65, List.forall_mem_cons.mpr ⟨tj_KS1_le (by decide) te_p66, List.forall_mem_cons.mpr ⟨tj_KS1_le (by decide) te_p67, List.forall_mem_cons.mpr ⟨tj_KS1_le (by decide) te_p68, List.forall_mem_cons.mpr ⟨tj_KS1_le (by decide) te_p72, fun _ h => absurd h List.not_mem_nil⟩⟩⟩⟩⟩⟩⟩⟩⟩⟩⟩⟩⟩⟩⟩⟩⟩⟩) (by decide +kernel) (by decide +kernel) te_c73
/-! Course.greedyDeed -/
def te_s74 : tj_C := (10, [(1, 56, 0), (0, 2147483648, 2147483747)], ([(56, 7)], [54]), [([(1, 56, 0), (0, 2147483648, 2147483747)], some (0, 2147483647, 2147483653), ([], [], []))], ([], [], []))
set_option maxRecDepth 100000 in
theorem te_c74 : tj_chk tj_Lam te_s74.2.2.1 [te_s72] zx_d_X0_greedyDeed te_s74.2.1 te_s74.2.2.2.1 te_s74.2.2.2.2 [((4, [(0, .inr 0), (1, .inr 1), (2, .inr 2), (3, .inr 3)], [], [(1, 56, 0), (0, 2147483648, 2147483747), (0, 2147483647, 2147483653), (0, 2147483648, 2147483654), (0, 0, 4294967295)], [(0, .inr 0, .inl 7, .inr 4)]), [.inl 2, .inl 3, .inr (0, 7)], [(0, 0), (1, 3), (0, 0)])] [4] 3000 = true := by decide +kernel
theorem te_p74 : tj_KS1 (zx_Cl zx_mt zx_rc zx_mx' 4) tj_Lam te_s74 := tj_method te_so (d := 3) (by rw [← zx_q_X0_greedyDeed]; rfl) (List.forall_mem_cons.mpr ⟨tj_KS1_le (by decide) te_p72, fun _ h => absurd h List.not_mem_nil⟩) (by decide +kernel) (by decide +kernel) te_c74
/-! Course.greedyJoy -/
def te_s75 : tj_C := (11, [(1, 56, 0), (0, 0, 4294967295), (0, 0, 4294967295), (0, 0, 4294967295), (0, 2147483648, 2147483747), (0, 0, 4294967295)], ([(56, 4), (56, 5), (56, 6), (56, 7)], [54]), [([(1, 56, 0), (0, 0, 4294967295), (0, 0, 4294967295), (0, 0, 4294967295), (0, 2147483648, 2147483747), (0, 0, 4294967295)], some (0, 0, 4294967295), ([], [], []))], ([], [], []))
set_option maxRecDepth 100000 in
theorem te_c75 : tj_chk tj_Lam te_s75.2.2.1 [te_s35, te_s43, te_s74] zx_d_X0_greedyJoy te_s75.2.1 te_s75.2.2.2.1 te_s75.2.2.2.2 [((10, [(0, .inr 0), (1, .inr 1), (2, .inr 2), (3, .inr 3), (4, .inr 4), (5, .inr 5), (6, .inr 6), (7, .inr 7), (8, .inr 8)], [], [(1, 56, 0), (0, 0, 4294967295), (0, 0, 4294967295), (0, 0, 4294967295), (0, 2147483648, 2147483747), (0, 0, 4294967295), (0, 0, 4294967295), (0, 2147483648, 2147483747), (0, 2147483648, 4294967295)], []), [.inl 6, .inl 7, .inl 8], [(0, 0), (1, 8), (0, 0)])] [10] 3000 = true := by decide +kernel
theorem te_p75 : tj_KS1 (zx_Cl zx_mt zx_rc zx_mx' 5) tj_Lam te_s75 := tj_method te_so (d := 4) (by rw [← zx_q_X0_greedyJoy]; rfl) (List.forall_mem_cons.mpr ⟨tj_KS1_le (by decide) te_p35, List.forall_mem_cons.mpr ⟨tj_KS1_le (by decide) te_p43, List.forall_mem_cons.mpr ⟨tj_KS1_le (by decide) te_p74, fun _ h => absurd h List.not_mem_nil⟩⟩⟩) (by decide +kernel) (by decide +kernel) te_c75
