/-! Pairings.search -/
def te_s143 : tj_C := (249, [(1, 65, 0)], ([(65, 5), (65, 6), (65, 7), (65, 8)], [64, 63, 62]), [([(1, 65, 0)], none, [])])
set_option maxRecDepth 100000 in
theorem te_c143 : tj_chk tj_Lam te_s143.2.2.1 [te_s82, te_s127, te_s142] zx_d_X3_search te_s143.2.1 te_s143.2.2.2 [((4, [(0, .inr 0), (1, .inr 1), (2, .inr 2)], [], [(1, 65, 0), (0, 0, 4294967295), (0, 2147483648, 2147483656), (0, 2147483648, 2147483649), (0, 0, 4294967295)], [(0, .inr 0, .inl 5, .inr 3), (0, .inr 0, .inl 8, .inr 4)]), [.inl 1, .inl 2, .inr (0, 5), .inr (0, 8)], [(0, 0), (1, 2), (0, 0)])] [4] 3000 = true := by decide +kernel
theorem te_p143 : tj_KS1 (zx_Cl zx_mt zx_rc zx_mx' 14) tj_Lam te_s143 := tj_method (d := 13) (by rw [← zx_q_X3_search]; rfl) (List.forall_mem_cons.mpr ⟨tj_KS1_le (by decide) te_p82, List.forall_mem_cons.mpr ⟨tj_KS1_le (by decide) te_p127, List.forall_mem_cons.mpr ⟨tj_KS1_le (by decide) te_p142, fun _ h => absurd h List.not_mem_nil⟩⟩⟩) (by decide +kernel) (by decide +kernel) te_c143
/-! TwoInOne.fast -/
def te_s144 : tj_C := (48, [(1, 100, 0)], ([(65, 5), (65, 6), (65, 7), (65, 8)], [64, 63, 62]), [([(1, 100, 0)], some (0, 0, 4294967295), [])])
set_option maxRecDepth 100000 in
theorem te_c144 : tj_chk tj_Lam te_s144.2.2.1 [te_s143] zx_d_X11_fast te_s144.2.1 te_s144.2.2.2 [] [] 3000 = true := by decide +kernel
theorem te_p144 : tj_KS1 (zx_Cl zx_mt zx_rc zx_mx' 15) tj_Lam te_s144 := tj_method (d := 14) (by rw [← zx_q_X11_fast]; rfl) (List.forall_mem_cons.mpr ⟨tj_KS1_le (by decide) te_p143, fun _ h => absurd h List.not_mem_nil⟩) (by decide +kernel) (by decide +kernel) te_c144
/-! TwoInOne.fault -/
def te_s145 : tj_C := (49, [(1, 100, 0), (0, 0, 4294967295)], ([], []), [([(1, 100, 0), (0, 0, 4294967295)], some (0, 2147483647, 2147483647), []), ([(1, 100, 0), (0, 2147483648, 2147483649)], some (0, 0, 4294967295), [])])
set_option maxRecDepth 100000 in
theorem te_c145 : tj_chk tj_Lam te_s145.2.2.1 [] zx_d_X11_fault te_s145.2.1 te_s145.2.2.2 [] [] 3000 = true := by decide +kernel
theorem te_p145 : tj_KS1 (zx_Cl zx_mt zx_rc zx_mx' 1) tj_Lam te_s145 := tj_method (d := 0) (by rw [← zx_q_X11_fault]; rfl) (fun _ h => absurd h List.not_mem_nil) (by decide +kernel) (by decide +kernel) te_c145
/-! TwoInOne.put -/
def te_s146 : tj_C := (69, [(1, 100, 0), (0, 0, 4294967295)], ([(100, 1)], [48]), [([(1, 100, 0), (0, 0, 4294967295)], none, [])])
set_option maxRecDepth 100000 in
theorem te_c146 : tj_chk tj_Lam te_s146.2.2.1 [] zx_d_X11_put te_s146.2.1 te_s146.2.2.2 [((3, [(0, .inr 0), (1, .inr 1), (2, .inr 2)], [], [(1, 100, 0), (0, 0, 4294967295), (0, 2147483640, 2147483672), (0, 2147483648, 2147485248)], [(0, .inr 0, .inl 1, .inr 3)]), [.inl 2, .inr (0, 1)], [(0, 0), (2, 2), (0, 0)])] [3] 3000 = true := by decide +kernel
theorem te_p146 : tj_KS1 (zx_Cl zx_mt zx_rc zx_mx' 1) tj_Lam te_s146 := tj_method (d := 0) (by rw [← zx_q_X11_put]; rfl) (fun _ h => absurd h List.not_mem_nil) (by decide +kernel) (by decide +kernel) te_c146
/-! TwoInOne.feed -/
def te_s147 : tj_C := (50, [(1, 100, 0), (0, 0, 4294967295), (0, 0, 4294967295), (0, 0, 4294967295), (0, 0, 4294967295), (0, 0, 4294967295)], ([(100, 1)], [48]), [([(1, 100, 0), (0, 0, 4294967295), (0, 0, 4294967295), (0, 0, 4294967295), (0, 0, 4294967295), (0, 0, 4294967295)], some (0, 2147483647, 2147483647), [(0, 1, (0, 2147485229, 2147485248))]), ([(1, 100, 0), (0, 0, 4294967295), (0, 0, 4294967295), (0, 0, 4294967295), (0, 0, 4294967295), (0, 0, 4294967295)], some (0, 2147483648, 2147485248), [])])
set_option maxRecDepth 100000 in
theorem te_c147 : tj_chk tj_Lam te_s147.2.2.1 [te_s146] zx_d_X11_feed te_s147.2.1 te_s147.2.2.2 [] [] 3000 = true := by decide +kernel
theorem te_p147 : tj_KS1 (zx_Cl zx_mt zx_rc zx_mx' 2) tj_Lam te_s147 := tj_method (d := 1) (by rw [← zx_q_X11_feed]; rfl) (List.forall_mem_cons.mpr ⟨tj_KS1_le (by decide) te_p146, fun _ h => absurd h List.not_mem_nil⟩) (by decide +kernel) (by decide +kernel) te_c147
/-! State.howOften -/
def te_s148 : tj_C := (328, [(1, 33, 0), (0, 2147483648, 2147483655), (0, 2147483648, 2147483653)], ([], []), [([(1, 33, 0), (0, 2147483648, 2147483655), (0, 2147483648, 2147483653)], some (0, 0, 4294967295), [])])
set_option maxRecDepth 100000 in
theorem te_c148 : tj_chk tj_Lam te_s148.2.2.1 [] zx_d_X8_howOften te_s148.2.1 te_s148.2.2.2 [] [] 3000 = true := by decide +kernel
theorem te_p148 : tj_KS1 (zx_Cl zx_mt zx_rc zx_mx' 1) tj_Lam te_s148 := tj_method (d := 0) (by rw [← zx_q_X8_howOften]; rfl) (fun _ h => absurd h List.not_mem_nil) (by decide +kernel) (by decide +kernel) te_c148
/-! TwoInOne.commonDivisor -/
def te_s149 : tj_C := (41, [(0, 0, 4294967295), (0, 0, 4294967295)], ([], []), [([(0, 0, 4294967295), (0, 0, 4294967295)], some (0, 0, 4294967295), [])])
set_option maxRecDepth 100000 in
theorem te_c149 : tj_chk tj_Lam te_s149.2.2.1 [] zx_d_X11_commonDivisor te_s149.2.1 te_s149.2.2.2 [((7, [(0, .inr 0), (1, .inr 1), (2, .inr 2), (3, .inr 3), (4, .inr 4)], [], [(0, 0, 4294967295), (0, 0, 4294967295), (0, 0, 4294967295), (0, 0, 4294967295), (0, 2147483648, 2147483712)], []), [.inl 2, .inl 3, .inl 4], [(0, 0), (1, 4), (0, 0)])] [7] 3000 = true := by decide +kernel
theorem te_p149 : tj_KS1 (zx_Cl zx_mt zx_rc zx_mx' 1) tj_Lam te_s149 := tj_method (d := 0) (by rw [← zx_q_X11_commonDivisor]; rfl) (fun _ h => absurd h List.not_mem_nil) (by decide +kernel) (by decide +kernel) te_c149
/-! TwoInOne.guilt -/
def te_s150 : tj_C := (51, [(1, 100, 0), (0, 0, 4294967295), (0, 0, 4294967295), (0, 0, 4294967295)], ([], []), [([(1, 100, 0), (0, 0, 4294967295), (0, 0, 4294967295), (0, 0, 4294967295)], some (0, 2147483647, 2147483647), []), ([(1, 100, 0), (0, 2147483648, 2147483653), (0, 2147483648, 2147483655), (0, 2147483648, 2147483649)], some (0, 0, 4294967295), [])])
set_option maxRecDepth 100000 in
theorem te_c150 : tj_chk tj_Lam te_s150.2.2.1 [te_s4, te_s25, te_s148, te_s149] zx_d_X11_guilt te_s150.2.1 te_s150.2.2.2 [((50, [(0, .inr 0), (1, .inr 1), (2, .inr 2), (3, .inr 3), (4, .inr 4), (5, .inr 5), (6, .inr 6)], [], [(1, 100, 0), (0, 2147483648, 2147483653), (0, 2147483648, 2147483655), (0, 2147483648, 2147483649), (0, 0, 4294967295), (0, 0, 4294967295), (0, 2147483648, 2147483656), (1, 13, 0), (1, 33, 0), (0, 2147483649, 2147483656), (0, 2147483649, 2147483654)], [(0, .inr 0, .inl 2, .inr 7), (0, .inr 0, .inl 4, .inr 8), (0, .inr 7, .inl 0, .inr 9), (0, .inr 7, .inl 2, .inr 10)]), [.inl 4, .inl 5, .inl 6, .inr (0, 2), .inr (0, 4), .inr (7, 0), .inr (7, 2)], [(0, 0), (1, 6), (0, 0)])] [50] 3000 = true := by decide +kernel
theorem te_p150 : tj_KS1 (zx_Cl zx_mt zx_rc zx_mx' 2) tj_Lam te_s150 := tj_method (d := 1) (by rw [← zx_q_X11_guilt]; rfl) (List.forall_mem_cons.mpr ⟨tj_KS1_le (by decide) te_p4, List.forall_mem_cons.mpr ⟨tj_KS1_le (by decide) te_p25, List.forall_mem_cons.mpr ⟨tj_KS1_le (by decide) te_p148, List.forall_mem_cons.mpr ⟨tj_KS1_le (by decide) te_p149, fun _ h => absurd h List.not_mem_nil⟩⟩⟩⟩) (by decide +kernel) (by decide +kernel) te_c150
/-! TwoInOne.half -/
def te_s151 : tj_C := (52, [(1, 100, 0), (0, 0, 4294967295), (0, 0, 4294967295)], ([], []), [([(1, 100, 0), (0, 0, 4294967295), (0, 0, 4294967295)], some (0, 2147483647, 2147483647), []), ([(1, 100, 0), (0, 2147483648, 2147483655), (0, 2147483648, 2147483652)], some (0, 0, 4294967295), [])])
set_option maxRecDepth 100000 in
theorem te_c151 : tj_chk tj_Lam te_s151.2.2.1 [te_s4, te_s75] zx_d_X11_half te_s151.2.1 te_s151.2.2.2 [] [] 3000 = true := by decide +kernel
theorem te_p151 : tj_KS1 (zx_Cl zx_mt zx_rc zx_mx' 2) tj_Lam te_s151 := tj_method (d := 1) (by rw [← zx_q_X11_half]; rfl) (List.forall_mem_cons.mpr ⟨tj_KS1_le (by decide) te_p4, List.forall_mem_cons.mpr ⟨tj_KS1_le (by decide) te_p75, fun _ h => absurd h List.not_mem_nil⟩⟩) (by decide +kernel) (by decide +kernel) te_c151
/-! Row.clear -/
def te_s152 : tj_C := (281, [(1, 43, 0)], ([(43, 1)], []), [([(1, 43, 0)], none, [(0, 1, (0, 2147483648, 2147483648))])])
set_option maxRecDepth 100000 in
theorem te_c152 : tj_chk tj_Lam te_s152.2.2.1 [] zx_d_X5_clear te_s152.2.1 te_s152.2.2.2 [] [] 3000 = true := by decide +kernel
theorem te_p152 : tj_KS1 (zx_Cl zx_mt zx_rc zx_mx' 1) tj_Lam te_s152 := tj_method (d := 0) (by rw [← zx_q_X5_clear]; rfl) (fun _ h => absurd h List.not_mem_nil) (by decide +kernel) (by decide +kernel) te_c152
/-! TwoInOne.hush -/
def te_s153 : tj_C := (53, [(1, 100, 0)], ([(43, 1)], []), [([(1, 100, 0)], some (0, 2147483648, 2147483662), [])])
set_option maxRecDepth 100000 in
theorem te_c153 : tj_chk tj_Lam te_s153.2.2.1 [te_s152] zx_d_X11_hush te_s153.2.1 te_s153.2.2.2 [] [] 3000 = true := by decide +kernel
theorem te_p153 : tj_KS1 (zx_Cl zx_mt zx_rc zx_mx' 2) tj_Lam te_s153 := tj_method (d := 1) (by rw [← zx_q_X11_hush]; rfl) (List.forall_mem_cons.mpr ⟨tj_KS1_le (by decide) te_p152, fun _ h => absurd h List.not_mem_nil⟩) (by decide +kernel) (by decide +kernel) te_c153
/-! TwoInOne.in -/
def te_s154 : tj_C := (55, [(1, 100, 0), (0, 0, 4294967295), (0, 0, 4294967295)], ([], []), [([(1, 100, 0), (0, 2147483648, 2147483651), (0, 2147483648, 2147484647)], some (0, 2147483647, 2147483647), []), ([(1, 100, 0), (0, 0, 4294967295), (0, 0, 4294967295)], some (0, 2147483646, 2147483655), [])])
set_option maxRecDepth 100000 in
theorem te_c154 : tj_chk tj_Lam te_s154.2.2.1 [te_s2, te_s21] zx_d_X11_in te_s154.2.1 te_s154.2.2.2 [] [] 3000 = true := by decide +kernel
theorem te_p154 : tj_KS1 (zx_Cl zx_mt zx_rc zx_mx' 3) tj_Lam te_s154 := tj_method (d := 2) (by rw [← zx_q_X11_in]; rfl) (List.forall_mem_cons.mpr ⟨tj_KS1_le (by decide) te_p2, List.forall_mem_cons.mpr ⟨tj_KS1_le (by decide) te_p21, fun _ h => absurd h List.not_mem_nil⟩⟩) (by decide +kernel) (by decide +kernel) te_c154
/-! TwoInOne.joy -/
def te_s155 : tj_C := (58, [(1, 100, 0), (0, 0, 4294967295), (0, 0, 4294967295)], ([(56, 4), (56, 5), (56, 6)], [54]), [([(1, 100, 0), (0, 0, 4294967295), (0, 0, 4294967295)], some (0, 0, 4294967295), [])])
set_option maxRecDepth 100000 in
theorem te_c155 : tj_chk tj_Lam te_s155.2.2.1 [te_s22, te_s38, te_s70] zx_d_X11_joy te_s155.2.1 te_s155.2.2.2 [] [] 3000 = true := by decide +kernel
theorem te_p155 : tj_KS1 (zx_Cl zx_mt zx_rc zx_mx' 4) tj_Lam te_s155 := tj_method (d := 3) (by rw [← zx_q_X11_joy]; rfl) (List.forall_mem_cons.mpr ⟨tj_KS1_le (by decide) te_p22, List.forall_mem_cons.mpr ⟨tj_KS1_le (by decide) te_p38, List.forall_mem_cons.mpr ⟨tj_KS1_le (by decide) te_p70, fun _ h => absurd h List.not_mem_nil⟩⟩⟩) (by decide +kernel) (by decide +kernel) te_c155
/-! Told.isMember -/
def te_s156 : tj_C := (32, [(1, 13, 0), (0, 0, 4294967295), (0, 0, 4294967295)], ([], []), [([(1, 13, 0), (0, 0, 4294967295), (0, 0, 4294967295)], some (0, 2147483648, 2147483648), []), ([(1, 13, 0), (0, 2147483648, 2147483651), (0, 2147483648, 2147483655)], some (0, 2147483649, 2147483649), [(0, 0, (0, 2147483649, 2147483656)), (0, 1, (0, 2147483649, 2147483652))])])
set_option maxRecDepth 100000 in
theorem te_c156 : tj_chk tj_Lam te_s156.2.2.1 [te_s2, te_s4] zx_d_X10_isMember te_s156.2.1 te_s156.2.2.2 [] [] 3000 = true := by decide +kernel
theorem te_p156 : tj_KS1 (zx_Cl zx_mt zx_rc zx_mx' 2) tj_Lam te_s156 := tj_method (d := 1) (by rw [← zx_q_X10_isMember]; rfl) (List.forall_mem_cons.mpr ⟨tj_KS1_le (by decide) te_p2, List.forall_mem_cons.mpr ⟨tj_KS1_le (by decide) te_p4, fun _ h => absurd h List.not_mem_nil⟩⟩) (by decide +kernel) (by decide +kernel) te_c156
/-! TwoInOne.keeps -/
def te_s157 : tj_C := (59, [(1, 100, 0), (0, 0, 4294967295), (0, 0, 4294967295), (0, 0, 4294967295)], ([(56, 4), (56, 5), (56, 6)], [54]), [([(1, 100, 0), (0, 0, 4294967295), (0, 0, 4294967295), (0, 0, 4294967295)], some (0, 0, 4294967295), [])])
set_option maxRecDepth 100000 in
theorem te_c157 : tj_chk tj_Lam te_s157.2.2.1 [te_s20, te_s39, te_s156] zx_d_X11_keeps te_s157.2.1 te_s157.2.2.2 [] [] 3000 = true := by decide +kernel
theorem te_p157 : tj_KS1 (zx_Cl zx_mt zx_rc zx_mx' 5) tj_Lam te_s157 := tj_method (d := 4) (by rw [← zx_q_X11_keeps]; rfl) (List.forall_mem_cons.mpr ⟨tj_KS1_le (by decide) te_p20, List.forall_mem_cons.mpr ⟨tj_KS1_le (by decide) te_p39, List.forall_mem_cons.mpr ⟨tj_KS1_le (by decide) te_p156, fun _ h => absurd h List.not_mem_nil⟩⟩⟩) (by decide +kernel) (by decide +kernel) te_c157
/-! TwoInOne.later -/
def te_s158 : tj_C := (60, [(1, 100, 0), (0, 0, 4294967295)], ([(73, 7)], []), [([(1, 100, 0), (0, 0, 4294967295)], some (0, 2147483647, 2147483647), []), ([(1, 100, 0), (0, 2147483648, 2147484648)], some (0, 2147483648, 2147583648), [])])
set_option maxRecDepth 100000 in
theorem te_c158 : tj_chk tj_Lam te_s158.2.2.1 [] zx_d_X11_later te_s158.2.1 te_s158.2.2.2 [] [] 3000 = true := by decide +kernel
theorem te_p158 : tj_KS1 (zx_Cl zx_mt zx_rc zx_mx' 1) tj_Lam te_s158 := tj_method (d := 0) (by rw [← zx_q_X11_later]; rfl) (fun _ h => absurd h List.not_mem_nil) (by decide +kernel) (by decide +kernel) te_c158
/-! Row.at -/
def te_s159 : tj_C := (280, [(1, 42, 0), (0, 0, 4294967295)], ([], []), [([(1, 42, 0), (0, 0, 4294967295)], some (0, 2147483647, 2147483647), []), ([(1, 42, 0), (0, 2147483648, 2147483667)], some (0, 0, 4294967295), [(0, 1, (0, 2147483649, 2147483668))])])
set_option maxRecDepth 100000 in
theorem te_c159 : tj_chk tj_Lam te_s159.2.2.1 [] zx_d_X5_at te_s159.2.1 te_s159.2.2.2 [] [] 3000 = true := by decide +kernel
theorem te_p159 : tj_KS1 (zx_Cl zx_mt zx_rc zx_mx' 1) tj_Lam te_s159 := tj_method (d := 0) (by rw [← zx_q_X5_at]; rfl) (fun _ h => absurd h List.not_mem_nil) (by decide +kernel) (by decide +kernel) te_c159
/-! TwoInOne.lies -/
def te_s160 : tj_C := (61, [(1, 100, 0), (0, 0, 4294967295)], ([], []), [([(1, 100, 0), (0, 0, 4294967295)], some (0, 2147483647, 2147483647), []), ([(1, 100, 0), (0, 2147483648, 2147483667)], some (0, 0, 4294967295), [])])
set_option maxRecDepth 100000 in
theorem te_c160 : tj_chk tj_Lam te_s160.2.2.1 [te_s159] zx_d_X11_lies te_s160.2.1 te_s160.2.2.2 [] [] 3000 = true := by decide +kernel
theorem te_p160 : tj_KS1 (zx_Cl zx_mt zx_rc zx_mx' 2) tj_Lam te_s160 := tj_method (d := 1) (by rw [← zx_q_X11_lies]; rfl) (List.forall_mem_cons.mpr ⟨tj_KS1_le (by decide) te_p159, fun _ h => absurd h List.not_mem_nil⟩) (by decide +kernel) (by decide +kernel) te_c160
/-! TwoInOne.likes -/
def te_s161 : tj_C := (62, [(1, 100, 0), (0, 0, 4294967295), (0, 0, 4294967295)], ([], []), [([(1, 100, 0), (0, 0, 4294967295), (0, 0, 4294967295)], some (0, 2147483647, 2147483647), []), ([(1, 100, 0), (0, 2147483648, 2147483655), (0, 2147483648, 2147483655)], some (0, 2147483648, 4294967295), [])])
set_option maxRecDepth 100000 in
theorem te_c161 : tj_chk tj_Lam te_s161.2.2.1 [te_s4, te_s102] zx_d_X11_likes te_s161.2.1 te_s161.2.2.2 [] [] 3000 = true := by decide +kernel
theorem te_p161 : tj_KS1 (zx_Cl zx_mt zx_rc zx_mx' 2) tj_Lam te_s161 := tj_method (d := 1) (by rw [← zx_q_X11_likes]; rfl) (List.forall_mem_cons.mpr ⟨tj_KS1_le (by decide) te_p4, List.forall_mem_cons.mpr ⟨tj_KS1_le (by decide) te_p102, fun _ h => absurd h List.not_mem_nil⟩⟩) (by decide +kernel) (by decide +kernel) te_c161
/-! Row.add -/
def te_s162 : tj_C := (279, [(1, 43, 0), (0, 0, 4294967295)], ([(43, 1)], [41]), [([(1, 43, 0), (0, 0, 4294967295)], none, [(0, 1, (0, 2147483649, 2147483662))])])
set_option maxRecDepth 100000 in
theorem te_c162 : tj_chk tj_Lam te_s162.2.2.1 [] zx_d_X5_add te_s162.2.1 te_s162.2.2.2 [] [] 3000 = true := by decide +kernel
theorem te_p162 : tj_KS1 (zx_Cl zx_mt zx_rc zx_mx' 1) tj_Lam te_s162 := tj_method (d := 0) (by rw [← zx_q_X5_add]; rfl) (fun _ h => absurd h List.not_mem_nil) (by decide +kernel) (by decide +kernel) te_c162
/-! TwoInOne.next -/
def te_s163 : tj_C := (63, [(1, 100, 0), (0, 0, 4294967295)], ([(43, 1)], [41]), [([(1, 100, 0), (0, 0, 4294967295)], some (0, 2147483647, 2147483647), []), ([(1, 100, 0), (0, 2147483648, 2147483653)], some (0, 2147483649, 2147483662), [])])
set_option maxRecDepth 100000 in
theorem te_c163 : tj_chk tj_Lam te_s163.2.2.1 [te_s25, te_s162] zx_d_X11_next te_s163.2.1 te_s163.2.2.2 [] [] 3000 = true := by decide +kernel
theorem te_p163 : tj_KS1 (zx_Cl zx_mt zx_rc zx_mx' 2) tj_Lam te_s163 := tj_method (d := 1) (by rw [← zx_q_X11_next]; rfl) (List.forall_mem_cons.mpr ⟨tj_KS1_le (by decide) te_p25, List.forall_mem_cons.mpr ⟨tj_KS1_le (by decide) te_p162, fun _ h => absurd h List.not_mem_nil⟩⟩) (by decide +kernel) (by decide +kernel) te_c163
/-! Row.add -/
def te_s164 : tj_C := (279, [(1, 42, 0), (0, 0, 4294967295)], ([(42, 1)], [40]), [([(1, 42, 0), (0, 0, 4294967295)], none, [(0, 1, (0, 2147483649, 2147483668))])])
set_option maxRecDepth 100000 in
theorem te_c164 : tj_chk tj_Lam te_s164.2.2.1 [] zx_d_X5_add te_s164.2.1 te_s164.2.2.2 [] [] 3000 = true := by decide +kernel
theorem te_p164 : tj_KS1 (zx_Cl zx_mt zx_rc zx_mx' 1) tj_Lam te_s164 := tj_method (d := 0) (by rw [← zx_q_X5_add]; rfl) (fun _ h => absurd h List.not_mem_nil) (by decide +kernel) (by decide +kernel) te_c164
/-! Pairings.tellOthers -/
def te_s165 : tj_C := (250, [(1, 65, 0), (1, 63, 0), (1, 42, 0)], ([(42, 1)], [40]), [([(1, 65, 0), (1, 63, 0), (1, 42, 0)], none, [])])
set_option maxRecDepth 100000 in
theorem te_c165 : tj_chk tj_Lam te_s165.2.2.1 [te_s164] zx_d_X3_tellOthers te_s165.2.1 te_s165.2.2.2 [((2, [(0, .inr 0), (1, .inr 1), (2, .inr 2), (3, .inr 3)], [], [(1, 65, 0), (1, 63, 0), (1, 42, 0), (0, 2147483648, 2147483656)], []), [.inl 3], [(0, 0), (1, 3), (0, 0)])] [2] 3000 = true := by decide +kernel
theorem te_p165 : tj_KS1 (zx_Cl zx_mt zx_rc zx_mx' 2) tj_Lam te_s165 := tj_method (d := 1) (by rw [← zx_q_X3_tellOthers]; rfl) (List.forall_mem_cons.mpr ⟨tj_KS1_le (by decide) te_p164, fun _ h => absurd h List.not_mem_nil⟩) (by decide +kernel) (by decide +kernel) te_c165
/-! Pairings.tellOthers -/
def te_s166 : tj_C := (250, [(1, 65, 0), (1, 64, 0), (1, 42, 0)], ([(42, 1)], [40]), [([(1, 65, 0), (1, 64, 0), (1, 42, 0)], none, [])])
set_option maxRecDepth 100000 in
theorem te_c166 : tj_chk tj_Lam te_s166.2.2.1 [te_s164] zx_d_X3_tellOthers te_s166.2.1 te_s166.2.2.2 [((2, [(0, .inr 0), (1, .inr 1), (2, .inr 2), (3, .inr 3)], [], [(1, 65, 0), (1, 64, 0), (1, 42, 0), (0, 2147483648, 2147483656)], []), [.inl 3], [(0, 0), (1, 3), (0, 0)])] [2] 3000 = true := by decide +kernel
theorem te_p166 : tj_KS1 (zx_Cl zx_mt zx_rc zx_mx' 2) tj_Lam te_s166 := tj_method (d := 1) (by rw [← zx_q_X3_tellOthers]; rfl) (List.forall_mem_cons.mpr ⟨tj_KS1_le (by decide) te_p164, fun _ h => absurd h List.not_mem_nil⟩) (by decide +kernel) (by decide +kernel) te_c166
/-! TwoInOne.pairing -/
def te_s167 : tj_C := (64, [(1, 100, 0), (0, 2147483648, 2147483649)], ([(65, 5), (65, 6), (65, 7), (65, 8), (42, 1)], [64, 63, 62, 40]), [([(1, 100, 0), (0, 2147483648, 2147483649)], some (0, 0, 4294967295), [])])
set_option maxRecDepth 100000 in
theorem te_c167 : tj_chk tj_Lam te_s167.2.2.1 [te_s1, te_s143, te_s165, te_s166] zx_d_X11_pairing te_s167.2.1 te_s167.2.2.2 [] [] 3000 = true := by decide +kernel
theorem te_p167 : tj_KS1 (zx_Cl zx_mt zx_rc zx_mx' 15) tj_Lam te_s167 := tj_method (d := 14) (by rw [← zx_q_X11_pairing]; rfl) (List.forall_mem_cons.mpr ⟨tj_KS1_le (by decide) te_p1, List.forall_mem_cons.mpr ⟨tj_KS1_le (by decide) te_p143, List.forall_mem_cons.mpr ⟨tj_KS1_le (by decide) te_p165, List.forall_mem_cons.mpr ⟨tj_KS1_le (by decide) te_p166, fun _ h => absurd h List.not_mem_nil⟩⟩⟩⟩) (by decide +kernel) (by decide +kernel) te_c167
/-! TwoInOne.person -/
def te_s168 : tj_C := (65, [(1, 100, 0), (0, 0, 4294967295), (0, 0, 4294967295)], ([], []), [([(1, 100, 0), (0, 0, 4294967295), (0, 0, 4294967295)], some (0, 2147483647, 2147483647), []), ([(1, 100, 0), (0, 2147483648, 2147483651), (0, 2147483648, 2147483650)], some (0, 2147483648, 2147483747), [])])
set_option maxRecDepth 100000 in
theorem te_c168 : tj_chk tj_Lam te_s168.2.2.1 [te_s2] zx_d_X11_person te_s168.2.1 te_s168.2.2.2 [] [] 3000 = true := by decide +kernel
theorem te_p168 : tj_KS1 (zx_Cl zx_mt zx_rc zx_mx' 2) tj_Lam te_s168 := tj_method (d := 1) (by rw [← zx_q_X11_person]; rfl) (List.forall_mem_cons.mpr ⟨tj_KS1_le (by decide) te_p2, fun _ h => absurd h List.not_mem_nil⟩) (by decide +kernel) (by decide +kernel) te_c168
/-! java/util/Arrays.fill -/
def te_s169 : tj_C := (1, [(1, 57, 0), (0, 2147483646, 2147483646)], ([], [57]), [([(1, 57, 0), (0, 2147483646, 2147483646)], none, [])])
set_option maxRecDepth 100000 in
theorem te_c169 : tj_chk tj_Lam te_s169.2.2.1 [] zx_d_J7_fill_53178 te_s169.2.1 te_s169.2.2.2 [((5, [(0, .inr 0), (1, .inr 1), (2, .inr 2), (3, .inr 3)], [], [(1, 57, 0), (0, 2147483646, 2147483646), (0, 2147483648, 2147485648), (0, 2147485648, 2147485648)], []), [.inl 2, .inl 3], [(0, 0), (1, 2), (0, 0)])] [5] 3000 = true := by decide +kernel
theorem te_p169 : tj_KS1 (zx_Cl zx_mt zx_rc zx_mx' 1) tj_Lam te_s169 := tj_method (d := 0) (by rw [← zx_q_J7_fill_53178]; rfl) (fun _ h => absurd h List.not_mem_nil) (by decide +kernel) (by decide +kernel) te_c169
/-! Game.begin -/
def te_s170 : tj_C := (215, [(1, 61, 0), (0, 2147483648, 2147483651), (0, 2147483649, 2147483668)], ([(61, 8), (61, 9)], [57]), [([(1, 61, 0), (0, 2147483648, 2147483651), (0, 2147483649, 2147483668)], none, [(0, 9, (0, 2147483649, 2147483668))])])
set_option maxRecDepth 100000 in
theorem te_c170 : tj_chk tj_Lam te_s170.2.2.1 [te_s169] zx_d_X1_begin te_s170.2.1 te_s170.2.2.2 [] [] 3000 = true := by decide +kernel
theorem te_p170 : tj_KS1 (zx_Cl zx_mt zx_rc zx_mx' 2) tj_Lam te_s170 := tj_method (d := 1) (by rw [← zx_q_X1_begin]; rfl) (List.forall_mem_cons.mpr ⟨tj_KS1_le (by decide) te_p169, fun _ h => absurd h List.not_mem_nil⟩) (by decide +kernel) (by decide +kernel) te_c170
/-! Game.cell -/
def te_s171 : tj_C := (217, [(0, 2147483648, 2147483667), (0, 0, 4294967295)], ([], []), [([(0, 2147483648, 2147483667), (0, 0, 4294967295)], some (0, 2147483648, 2147485647), [])])
set_option maxRecDepth 100000 in
theorem te_c171 : tj_chk tj_Lam te_s171.2.2.1 [] zx_d_X1_cell te_s171.2.1 te_s171.2.2.2 [] [] 3000 = true := by decide +kernel
theorem te_p171 : tj_KS1 (zx_Cl zx_mt zx_rc zx_mx' 1) tj_Lam te_s171 := tj_method (d := 0) (by rw [← zx_q_X1_cell]; rfl) (fun _ h => absurd h List.not_mem_nil) (by decide +kernel) (by decide +kernel) te_c171
/-! Game.solveEach -/
def te_s172 : tj_C := (230, [(1, 61, 0), (0, 2147483668, 2147483668), (0, 2147483648, 2147483747)], ([], []), [([(1, 61, 0), (0, 2147483668, 2147483668), (0, 2147483648, 2147483747)], none, [])])
set_option maxRecDepth 100000 in
theorem te_c172 : tj_chk tj_Lam te_s172.2.2.1 [] zx_d_X1_solveEach te_s172.2.1 te_s172.2.2.2 [] [] 3000 = true := by decide +kernel
theorem te_p172 : tj_KS1 (zx_Cl zx_mt zx_rc zx_mx' 1) tj_Lam te_s172 := tj_method (d := 0) (by rw [← zx_q_X1_solveEach]; rfl) (fun _ h => absurd h List.not_mem_nil) (by decide +kernel) (by decide +kernel) te_c172
/-! Game.worthAt -/
def te_s173 : tj_C := (232, [(1, 61, 0), (0, 2147483648, 2147483668), (0, 0, 4294967295), (0, 2147483648, 2147483650)], ([], []), [([(1, 61, 0), (0, 2147483648, 2147483668), (0, 0, 4294967295), (0, 2147483648, 2147483650)], some (0, 0, 4294967295), [])])
set_option maxRecDepth 100000 in
theorem te_c173 : tj_chk tj_Lam te_s173.2.2.1 [te_s171] zx_d_X1_worthAt te_s173.2.1 te_s173.2.2.2 [] [] 3000 = true := by decide +kernel
theorem te_p173 : tj_KS1 (zx_Cl zx_mt zx_rc zx_mx' 2) tj_Lam te_s173 := tj_method (d := 1) (by rw [← zx_q_X1_worthAt]; rfl) (List.forall_mem_cons.mpr ⟨tj_KS1_le (by decide) te_p171, fun _ h => absurd h List.not_mem_nil⟩) (by decide +kernel) (by decide +kernel) te_c173
/-! Game.settle -/
def te_s174 : tj_C := (228, [(1, 61, 0), (0, 2147483648, 2147485647), (0, 2147483648, 2147483668), (0, 0, 4294967295)], ([], [58]), [([(1, 61, 0), (0, 2147483648, 2147485647), (0, 2147483648, 2147483668), (0, 0, 4294967295)], none, [])])
set_option maxRecDepth 100000 in
theorem te_c174 : tj_chk tj_Lam te_s174.2.2.1 [te_s173] zx_d_X1_settle te_s174.2.1 te_s174.2.2.2 [((3, [(0, .inr 0), (1, .inr 1), (2, .inr 2), (3, .inr 3), (4, .inr 4)], [], [(1, 61, 0), (0, 2147483648, 2147485647), (0, 2147483648, 2147483668), (0, 0, 4294967295), (0, 2147483648, 2147483651)], []), [.inl 4], [(0, 0), (1, 4), (0, 0)])] [3] 3000 = true := by decide +kernel
theorem te_p174 : tj_KS1 (zx_Cl zx_mt zx_rc zx_mx' 3) tj_Lam te_s174 := tj_method (d := 2) (by rw [← zx_q_X1_settle]; rfl) (List.forall_mem_cons.mpr ⟨tj_KS1_le (by decide) te_p173, fun _ h => absurd h List.not_mem_nil⟩) (by decide +kernel) (by decide +kernel) te_c174
/-! Game.solveEach -/
def te_s175 : tj_C := (230, [(1, 61, 0), (0, 2147483667, 2147483667), (0, 2147483648, 2147483747)], ([(56, 4), (56, 5), (56, 6)], [54, 57, 58]), [([(1, 61, 0), (0, 2147483667, 2147483667), (0, 2147483648, 2147483747)], none, [])])
set_option maxRecDepth 100000 in
theorem te_c175 : tj_chk tj_Lam te_s175.2.2.1 [te_s21, te_s22, te_s30, te_s38, te_s171, te_s172, te_s173, te_s174] zx_d_X1_solveEach te_s175.2.1 te_s175.2.2.2 [((60, [(0, .inr 0), (1, .inr 1), (2, .inr 2), (3, .inr 3), (4, .inr 4), (5, .inr 5), (6, .inr 6), (7, .inr 7), (8, .inr 8)], [], [(1, 61, 0), (0, 2147483667, 2147483667), (0, 2147483648, 2147483747), (0, 2147483648, 2147483655), (0, 2147483647, 2147483653), (0, 0, 4294967295), (0, 0, 4294967295), (0, 2147483648, 2147483747), (0, 2147483648, 2147483654), (1, 33, 0), (1, 56, 0), (1, 57, 0), (0, 2147483648, 2147483651), (0, 2147483668, 2147483668), (0, 0, 4294967295)], [(0, .inr 0, .inl 1, .inr 9), (0, .inr 0, .inl 2, .inr 10), (0, .inr 0, .inl 3, .inr 11), (0, .inr 0, .inl 8, .inr 12), (0, .inr 0, .inl 9, .inr 13), (0, .inr 9, .inl 0, .inr 14)]), [.inl 3, .inl 4, .inl 5, .inl 6, .inl 7, .inl 8, .inr (0, 1), .inr (0, 2), .inr (0, 3), .inr (0, 8), .inr (0, 9), .inr (9, 0)], [(0, 0), (1, 8), (0, 0)]), ((60, [(0, .inr 0), (1, .inr 1), (2, .inr 2), (3, .inr 3), (4, .inr 4), (5, .inr 5), (6, .inr 6), (7, .inr 2), (8, .inr 7)], [], [(1, 61, 0), (0, 2147483667, 2147483667), (0, 2147483648, 2147483747), (0, 2147483647, 2147483647), (0, 2147483647, 2147483647), (0, 2147483648, 2147483648), (0, 2147483648, 2147483648), (0, 2147483648, 2147483648), (1, 33, 0), (1, 56, 0), (1, 57, 0), (0, 2147483648, 2147483651), (0, 2147483668, 2147483668), (0, 0, 4294967295)], [(0, .inr 0, .inl 1, .inr 8), (0, .inr 0, .inl 2, .inr 9), (0, .inr 0, .inl 3, .inr 10), (0, .inr 0, .inl 8, .inr 11), (0, .inr 0, .inl 9, .inr 12), (0, .inr 8, .inl 0, .inr 13)]), [.inl 3, .inl 4, .inl 5, .inl 6, .inl 8, .inr (0, 1), .inr (0, 2), .inr (0, 3), .inr (0, 8), .inr (0, 9), .inr (8, 0)], [(0, 1), (0, 0), (0, 0)])] [60] 3000 = true := by decide +kernel
theorem te_p175 : tj_KS1 (zx_Cl zx_mt zx_rc zx_mx' 4) tj_Lam te_s175 := tj_method (d := 3) (by rw [← zx_q_X1_solveEach]; rfl) (List.forall_mem_cons.mpr ⟨tj_KS1_le (by decide) te_p21, List.forall_mem_cons.mpr ⟨tj_KS1_le (by decide) te_p22, List.forall_mem_cons.mpr ⟨tj_KS1_le (by decide) te_p30, List.forall_mem_cons.mpr ⟨tj_KS1_le (by decide) te_p38, List.forall_mem_cons.mpr ⟨tj_KS1_le (by decide) te_p171, List.forall_mem_cons.mpr ⟨tj_KS1_le (by decide) te_p172, List.forall_mem_cons.mpr ⟨tj_KS1_le (by decide) te_p173, List.forall_mem_cons.mpr ⟨tj_KS1_le (by decide) te_p174, fun _ h => absurd h List.not_mem_nil⟩⟩⟩⟩⟩⟩⟩⟩) (by decide +kernel) (by decide +kernel) te_c175
/-! Game.solveEach -/
def te_s176 : tj_C := (230, [(1, 61, 0), (0, 2147483666, 2147483666), (0, 2147483648, 2147483747)], ([(56, 4), (56, 5), (56, 6)], [54, 57, 58]), [([(1, 61, 0), (0, 2147483666, 2147483666), (0, 2147483648, 2147483747)], none, [])])
set_option maxRecDepth 100000 in
theorem te_c176 : tj_chk tj_Lam te_s176.2.2.1 [te_s21, te_s22, te_s30, te_s38, te_s171, te_s173, te_s174, te_s175] zx_d_X1_solveEach te_s176.2.1 te_s176.2.2.2 [((60, [(0, .inr 0), (1, .inr 1), (2, .inr 2), (3, .inr 3), (4, .inr 4), (5, .inr 5), (6, .inr 6), (7, .inr 7), (8, .inr 8)], [], [(1, 61, 0), (0, 2147483666, 2147483666), (0, 2147483648, 2147483747), (0, 2147483648, 2147483655), (0, 2147483647, 2147483653), (0, 0, 4294967295), (0, 0, 4294967295), (0, 2147483648, 2147483747), (0, 2147483648, 2147483654), (1, 33, 0), (1, 56, 0), (1, 57, 0), (0, 2147483648, 2147483651), (0, 2147483667, 2147483668), (0, 0, 4294967295)], [(0, .inr 0, .inl 1, .inr 9), (0, .inr 0, .inl 2, .inr 10), (0, .inr 0, .inl 3, .inr 11), (0, .inr 0, .inl 8, .inr 12), (0, .inr 0, .inl 9, .inr 13), (0, .inr 9, .inl 0, .inr 14)]), [.inl 3, .inl 4, .inl 5, .inl 6, .inl 7, .inl 8, .inr (0, 1), .inr (0, 2), .inr (0, 3), .inr (0, 8), .inr (0, 9), .inr (9, 0)], [(0, 0), (1, 8), (0, 0)]), ((60, [(0, .inr 0), (1, .inr 1), (2, .inr 2), (3, .inr 3), (4, .inr 4), (5, .inr 5), (6, .inr 6), (7, .inr 2), (8, .inr 7)], [], [(1, 61, 0), (0, 2147483666, 2147483666), (0, 2147483648, 2147483747), (0, 2147483647, 2147483647), (0, 2147483647, 2147483647), (0, 2147483648, 2147483648), (0, 2147483648, 2147483648), (0, 2147483648, 2147483648), (1, 33, 0), (1, 56, 0), (1, 57, 0), (0, 2147483648, 2147483651), (0, 2147483667, 2147483668), (0, 0, 4294967295)], [(0, .inr 0, .inl 1, .inr 8), (0, .inr 0, .inl 2, .inr 9), (0, .inr 0, .inl 3, .inr 10), (0, .inr 0, .inl 8, .inr 11), (0, .inr 0, .inl 9, .inr 12), (0, .inr 8, .inl 0, .inr 13)]), [.inl 3, .inl 4, .inl 5, .inl 6, .inl 8, .inr (0, 1), .inr (0, 2), .inr (0, 3), .inr (0, 8), .inr (0, 9), .inr (8, 0)], [(0, 1), (0, 0), (0, 0)])] [60] 3000 = true := by decide +kernel
theorem te_p176 : tj_KS1 (zx_Cl zx_mt zx_rc zx_mx' 5) tj_Lam te_s176 := tj_method (d := 4) (by rw [← zx_q_X1_solveEach]; rfl) (List.forall_mem_cons.mpr ⟨tj_KS1_le (by decide) te_p21, List.forall_mem_cons.mpr ⟨tj_KS1_le (by decide) te_p22, List.forall_mem_cons.mpr ⟨tj_KS1_le (by decide) te_p30, List.forall_mem_cons.mpr ⟨tj_KS1_le (by decide) te_p38, List.forall_mem_cons.mpr ⟨tj_KS1_le (by decide) te_p171, List.forall_mem_cons.mpr ⟨tj_KS1_le (by decide) te_p173, List.forall_mem_cons.mpr ⟨tj_KS1_le (by decide) te_p174, List.forall_mem_cons.mpr ⟨tj_KS1_le (by decide) te_p175, fun _ h => absurd h List.not_mem_nil⟩⟩⟩⟩⟩⟩⟩⟩) (by decide +kernel) (by decide +kernel) te_c176
/-! Game.solveEach -/
def te_s177 : tj_C := (230, [(1, 61, 0), (0, 2147483665, 2147483665), (0, 2147483648, 2147483747)], ([(56, 4), (56, 5), (56, 6)], [54, 57, 58]), [([(1, 61, 0), (0, 2147483665, 2147483665), (0, 2147483648, 2147483747)], none, [])])
set_option maxRecDepth 100000 in
theorem te_c177 : tj_chk tj_Lam te_s177.2.2.1 [te_s21, te_s22, te_s30, te_s38, te_s171, te_s173, te_s174, te_s176] zx_d_X1_solveEach te_s177.2.1 te_s177.2.2.2 [((60, [(0, .inr 0), (1, .inr 1), (2, .inr 2), (3, .inr 3), (4, .inr 4), (5, .inr 5), (6, .inr 6), (7, .inr 7), (8, .inr 8)], [], [(1, 61, 0), (0, 2147483665, 2147483665), (0, 2147483648, 2147483747), (0, 2147483648, 2147483655), (0, 2147483647, 2147483653), (0, 0, 4294967295), (0, 0, 4294967295), (0, 2147483648, 2147483747), (0, 2147483648, 2147483654), (1, 33, 0), (1, 56, 0), (1, 57, 0), (0, 2147483648, 2147483651), (0, 2147483666, 2147483668), (0, 0, 4294967295)], [(0, .inr 0, .inl 1, .inr 9), (0, .inr 0, .inl 2, .inr 10), (0, .inr 0, .inl 3, .inr 11), (0, .inr 0, .inl 8, .inr 12), (0, .inr 0, .inl 9, .inr 13), (0, .inr 9, .inl 0, .inr 14)]), [.inl 3, .inl 4, .inl 5, .inl 6, .inl 7, .inl 8, .inr (0, 1), .inr (0, 2), .inr (0, 3), .inr (0, 8), .inr (0, 9), .inr (9, 0)], [(0, 0), (1, 8), (0, 0)]), ((60, [(0, .inr 0), (1, .inr 1), (2, .inr 2), (3, .inr 3), (4, .inr 4), (5, .inr 5), (6, .inr 6), (7, .inr 2), (8, .inr 7)], [], [(1, 61, 0), (0, 2147483665, 2147483665), (0, 2147483648, 2147483747), (0, 2147483647, 2147483647), (0, 2147483647, 2147483647), (0, 2147483648, 2147483648), (0, 2147483648, 2147483648), (0, 2147483648, 2147483648), (1, 33, 0), (1, 56, 0), (1, 57, 0), (0, 2147483648, 2147483651), (0, 2147483666, 2147483668), (0, 0, 4294967295)], [(0, .inr 0, .inl 1, .inr 8), (0, .inr 0, .inl 2, .inr 9), (0, .inr 0, .inl 3, .inr 10), (0, .inr 0, .inl 8, .inr 11), (0, .inr 0, .inl 9, .inr 12), (0, .inr 8, .inl 0, .inr 13)]), [.inl 3, .inl 4, .inl 5, .inl 6, .inl 8, .inr (0, 1), .inr (0, 2), .inr (0, 3), .inr (0, 8), .inr (0, 9), .inr (8, 0)], [(0, 1), (0, 0), (0, 0)])] [60] 3000 = true := by decide +kernel
theorem te_p177 : tj_KS1 (zx_Cl zx_mt zx_rc zx_mx' 6) tj_Lam te_s177 := tj_method (d := 5) (by rw [← zx_q_X1_solveEach]; rfl) (List.forall_mem_cons.mpr ⟨tj_KS1_le (by decide) te_p21, List.forall_mem_cons.mpr ⟨tj_KS1_le (by decide) te_p22, List.forall_mem_cons.mpr ⟨tj_KS1_le (by decide) te_p30, List.forall_mem_cons.mpr ⟨tj_KS1_le (by decide) te_p38, List.forall_mem_cons.mpr ⟨tj_KS1_le (by decide) te_p171, List.forall_mem_cons.mpr ⟨tj_KS1_le (by decide) te_p173, List.forall_mem_cons.mpr ⟨tj_KS1_le (by decide) te_p174, List.forall_mem_cons.mpr ⟨tj_KS1_le (by decide) te_p176, fun _ h => absurd h List.not_mem_nil⟩⟩⟩⟩⟩⟩⟩⟩) (by decide +kernel) (by decide +kernel) te_c177
/-! Game.solveEach -/
def te_s178 : tj_C := (230, [(1, 61, 0), (0, 2147483664, 2147483664), (0, 2147483648, 2147483747)], ([(56, 4), (56, 5), (56, 6)], [54, 57, 58]), [([(1, 61, 0), (0, 2147483664, 2147483664), (0, 2147483648, 2147483747)], none, [])])
set_option maxRecDepth 100000 in
theorem te_c178 : tj_chk tj_Lam te_s178.2.2.1 [te_s21, te_s22, te_s30, te_s38, te_s171, te_s173, te_s174, te_s177] zx_d_X1_solveEach te_s178.2.1 te_s178.2.2.2 [((60, [(0, .inr 0), (1, .inr 1), (2, .inr 2), (3, .inr 3), (4, .inr 4), (5, .inr 5), (6, .inr 6), (7, .inr 7), (8, .inr 8)], [], [(1, 61, 0), (0, 2147483664, 2147483664), (0, 2147483648, 2147483747), (0, 2147483648, 2147483655), (0, 2147483647, 2147483653), (0, 0, 4294967295), (0, 0, 4294967295), (0, 2147483648, 2147483747), (0, 2147483648, 2147483654), (1, 33, 0), (1, 56, 0), (1, 57, 0), (0, 2147483648, 2147483651), (0, 2147483665, 2147483668), (0, 0, 4294967295)], [(0, .inr 0, .inl 1, .inr 9), (0, .inr 0, .inl 2, .inr 10), (0, .inr 0, .inl 3, .inr 11), (0, .inr 0, .inl 8, .inr 12), (0, .inr 0, .inl 9, .inr 13), (0, .inr 9, .inl 0, .inr 14)]), [.inl 3, .inl 4, .inl 5, .inl 6, .inl 7, .inl 8, .inr (0, 1), .inr (0, 2), .inr (0, 3), .inr (0, 8), .inr (0, 9), .inr (9, 0)], [(0, 0), (1, 8), (0, 0)]), ((60, [(0, .inr 0), (1, .inr 1), (2, .inr 2), (3, .inr 3), (4, .inr 4), (5, .inr 5), (6, .inr 6), (7, .inr 2), (8, .inr 7)], [], [(1, 61, 0), (0, 2147483664, 2147483664), (0, 2147483648, 2147483747), (0, 2147483647, 2147483647), (0, 2147483647, 2147483647), (0, 2147483648, 2147483648), (0, 2147483648, 2147483648), (0, 2147483648, 2147483648), (1, 33, 0), (1, 56, 0), (1, 57, 0), (0, 2147483648, 2147483651), (0, 2147483665, 2147483668), (0, 0, 4294967295)], [(0, .inr 0, .inl 1, .inr 8), (0, .inr 0, .inl 2, .inr 9), (0, .inr 0, .inl 3, .inr 10), (0, .inr 0, .inl 8, .inr 11), (0, .inr 0, .inl 9, .inr 12), (0, .inr 8, .inl 0, .inr 13)]), [.inl 3, .inl 4, .inl 5, .inl 6, .inl 8, .inr (0, 1), .inr (0, 2), .inr (0, 3), .inr (0, 8), .inr (0, 9), .inr (8, 0)], [(0, 1), (0, 0), (0, 0)])] [60] 3000 = true := by decide +kernel
theorem te_p178 : tj_KS1 (zx_Cl zx_mt zx_rc zx_mx' 7) tj_Lam te_s178 := tj_method (d := 6) (by rw [← zx_q_X1_solveEach]; rfl) (List.forall_mem_cons.mpr ⟨tj_KS1_le (by decide) te_p21, List.forall_mem_cons.mpr ⟨tj_KS1_le (by decide) te_p22, List.forall_mem_cons.mpr ⟨tj_KS1_le (by decide) te_p30, List.forall_mem_cons.mpr ⟨tj_KS1_le (by decide) te_p38, List.forall_mem_cons.mpr ⟨tj_KS1_le (by decide) te_p171, List.forall_mem_cons.mpr ⟨tj_KS1_le (by decide) te_p173, List.forall_mem_cons.mpr ⟨tj_KS1_le (by decide) te_p174, List.forall_mem_cons.mpr ⟨tj_KS1_le (by decide) te_p177, fun _ h => absurd h List.not_mem_nil⟩⟩⟩⟩⟩⟩⟩⟩) (by decide +kernel) (by decide +kernel) te_c178
