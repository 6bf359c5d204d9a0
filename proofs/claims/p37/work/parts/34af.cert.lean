/-! Game.fewestCares -/
def te_s173 : tj_C := (219, [(1, 61, 0), (0, 2147483648, 2147483651), (0, 2147483649, 2147483668)], ([(56, 4), (56, 5), (56, 6), (56, 7)], [54]), [([(1, 61, 0), (0, 2147483648, 2147483651), (0, 2147483649, 2147483668)], some (0, 2147483647, 2147483647), ([], [], [])), ([(1, 61, 0), (0, 2147483648, 2147483651), (0, 2147483649, 2147483668)], some (0, 2147483648, 2147483657), ([], [], []))], ([], [], []))
set_option maxRecDepth 100000 in
theorem te_c173 : tj_chk tj_Lam te_s173.2.2.1 [te_s172, te_s94, te_s86, te_s85, te_s96, te_s98, te_s100, te_s102, te_s104, te_s106, te_s108, te_s110, te_s112, te_s114, te_s116, te_s118, te_s119] zx_d_X1_fewestCares te_s173.2.1 te_s173.2.2.2.1 te_s173.2.2.2.2 [((145, [(0, .inr 0), (1, .inr 1), (2, .inr 2), (3, .inr 3), (4, .inr 4), (5, .inr 5)], [], [(1, 61, 0), (0, 2147483648, 2147483651), (0, 2147483649, 2147483668), (0, 2147483648, 2147484671), (0, 2147483648, 2147483747), (0, 2147483648, 2147483658), (1, 33, 0), (1, 28, 0)], [(0, .inr 0, .inl 1, .inr 6), (0, .inr 6, .inl 2, .inr 7)]), [.inl 3, .inl 4, .inl 5, .inr (0, 1), .inr (6, 2)], [(0, 0), (1, 5), (0, 0), (0, 0), (0, 0)]), ((18, [(0, .inr 0), (1, .inr 1), (2, .inr 2), (3, .inr 3), (4, .inr 4), (5, .inr 5)], [], [(1, 61, 0), (0, 2147483648, 2147483651), (0, 2147483649, 2147483668), (0, 2147483648, 2147484671), (0, 2147483648, 2147483747), (0, 2147483648, 2147483668), (1, 33, 0), (1, 28, 0)], [(0, .inr 0, .inl 1, .inr 6), (0, .inr 6, .inl 2, .inr 7)]), [.inl 3, .inl 4, .inl 5, .inr (0, 1), .inr (6, 2)], [(0, 1), (1, 5), (0, 1), (0, 0), (0, 0)]), ((53, [(0, .inr 0), (1, .inr 1), (2, .inr 2), (3, .inr 3), (4, .inr 4), (5, .inr 5), (6, .inr 6), (7, .inr 7)], [], [(1, 61, 0), (0, 2147483648, 2147483651), (0, 2147483649, 2147483668), (0, 2147483648, 2147484671), (0, 2147483648, 2147483747), (0, 2147483648, 2147483667), (0, 2147483648, 4294967295), (0, 2147483648, 2147483658), (1, 33, 0), (1, 56, 0), (0, 0, 4294967295), (1, 28, 0)], [(0, .inr 0, .inl 1, .inr 8), (0, .inr 0, .inl 2, .inr 9), (0, .inr 8, .inl 0, .inr 10), (0, .inr 8, .inl 2, .inr 11)]), [.inl 3, .inl 4, .inl 5, .inl 6, .inl 7, .inr (0, 1), .inr (0, 2), .inr (8, 0), .inr (8, 2)], [(0, 1), (1, 5), (0, 0), (1, 7), (0, 0)])] [18, 53, 145] 3000 = true := by decide +kernel
theorem te_p173 : tj_KS1 (zx_Cl zx_mt zx_rc zx_mx' 7) tj_Lam te_s173 := tj_method te_so (d := 6) (by rw [← zx_q_X1_fewestCares]; rfl) (List.forall_mem_cons.mpr ⟨tj_KS1_le (by decide) te_p172, List.forall_mem_cons.mpr ⟨tj_KS1_le (by decide) te_p94, List.forall_mem_cons.mpr ⟨tj_KS1_le (by decide) te_p86, List.forall_mem_cons.mpr ⟨tj_KS1_le (by decide) te_p85, List.forall_mem_cons.mpr ⟨tj_KS1_le (by decide) te_p96, List.forall_mem_cons.mpr ⟨tj_KS1_le (by decide) te_p98, List.forall_mem_cons.mpr ⟨tj_KS1_le (by decide) te_p100, List.forall_mem_cons.mpr ⟨tj_KS1_le (by decide) te_p102, List.forall_mem_cons.mpr ⟨tj_KS1_le (by decide) te_p104, List.forall_mem_cons.mpr ⟨tj_KS1_le (by decide) te_p106, List.forall_mem_cons.mpr ⟨tj_KS1_le (by decide) te_p108, List.forall_mem_cons.mpr ⟨tj_KS1_le (by decide) te_p110, List.forall_mem_cons.mpr ⟨tj_KS1_le (by decide) te_p112, List.forall_mem_cons.mpr ⟨tj_KS1_le (by decide) te_p114, List.forall_mem_cons.mpr ⟨tj_KS1_le (by decide) te_p116, List.forall_mem_cons.mpr ⟨tj_KS1_le (by decide) te_p118, List.forall_mem_cons.mpr ⟨tj_KS1_le (by decide) te_p119, fun _ h => absurd h List.not_mem_nil⟩⟩⟩⟩⟩⟩⟩⟩⟩⟩⟩⟩⟩⟩⟩⟩⟩) (by decide +kernel) (by decide +kernel) te_c173
/-! TwoInOne.cares -/
def te_s174 : tj_C := (39, [(1, 100, 0), (0, 0, 4294967295), (0, 0, 4294967295)], ([(56, 4), (56, 5), (56, 6), (56, 7)], [54]), [([(1, 100, 0), (0, 2147483648, 2147483651), (0, 2147483649, 2147483668)], some (0, 2147483647, 2147483647), ([], [], [])), ([(1, 100, 0), (0, 0, 4294967295), (0, 0, 4294967295)], some (0, 2147483646, 2147483657), ([], [], []))], ([], [], []))
set_option maxRecDepth 100000 in
theorem te_c174 : tj_chk tj_Lam te_s174.2.2.1 [te_s2, te_s84, te_s173] zx_d_X11_cares te_s174.2.1 te_s174.2.2.2.1 te_s174.2.2.2.2 [] [] 3000 = true := by decide +kernel
theorem te_p174 : tj_KS1 (zx_Cl zx_mt zx_rc zx_mx' 8) tj_Lam te_s174 := tj_method te_so (d := 7) (by rw [← zx_q_X11_cares]; rfl) (List.forall_mem_cons.mpr ⟨tj_KS1_le (by decide) te_p2, List.forall_mem_cons.mpr ⟨tj_KS1_le (by decide) te_p84, List.forall_mem_cons.mpr ⟨tj_KS1_le (by decide) te_p173, fun _ h => absurd h List.not_mem_nil⟩⟩⟩) (by decide +kernel) (by decide +kernel) te_c174
/-! TwoInOne.chooses -/
def te_s175 : tj_C := (40, [(1, 100, 0), (0, 0, 4294967295), (0, 0, 4294967295)], ([(56, 4), (56, 5), (56, 6), (56, 7)], [54]), [([(1, 100, 0), (0, 2147483648, 2147483651), (0, 2147483647, 2147483657)], some (0, 2147483647, 2147483647), ([], [], [])), ([(1, 100, 0), (0, 0, 4294967295), (0, 0, 4294967295)], some (0, 2147483646, 2147483653), ([], [], []))], ([], [], []))
set_option maxRecDepth 100000 in
theorem te_c175 : tj_chk tj_Lam te_s175.2.2.1 [te_s172, te_s85, te_s2] zx_d_X11_chooses te_s175.2.1 te_s175.2.2.2.1 te_s175.2.2.2.2 [] [] 3000 = true := by decide +kernel
theorem te_p175 : tj_KS1 (zx_Cl zx_mt zx_rc zx_mx' 7) tj_Lam te_s175 := tj_method te_so (d := 6) (by rw [← zx_q_X11_chooses]; rfl) (List.forall_mem_cons.mpr ⟨tj_KS1_le (by decide) te_p172, List.forall_mem_cons.mpr ⟨tj_KS1_le (by decide) te_p85, List.forall_mem_cons.mpr ⟨tj_KS1_le (by decide) te_p2, fun _ h => absurd h List.not_mem_nil⟩⟩⟩) (by decide +kernel) (by decide +kernel) te_c175
/-! Course.carryOut -/
def te_s176 : tj_C := (6, [(1, 56, 0), (0, 2147483648, 2147483648), (0, 2147483647, 2147483653)], ([(56, 4), (56, 5), (56, 6)], [54, 31, 32, 28]), [([(1, 56, 0), (0, 2147483648, 2147483648), (0, 2147483647, 2147483653)], none, ([.inr (0, 6)], [(0, 2147483648, 2147483649)], [(0, .inr 0, .inl 6, .inr 3)]))], ([], [], []))
set_option maxRecDepth 100000 in
theorem te_c176 : tj_chk tj_Lam te_s176.2.2.1 [te_s123, te_s94, te_s86, te_s89] zx_d_X0_carryOut te_s176.2.1 te_s176.2.2.2.1 te_s176.2.2.2.2 [] [] 3000 = true := by decide +kernel
theorem te_p176 : tj_KS1 (zx_Cl zx_mt zx_rc zx_mx' 4) tj_Lam te_s176 := tj_method te_so (d := 3) (by rw [← zx_q_X0_carryOut]; rfl) (List.forall_mem_cons.mpr ⟨tj_KS1_le (by decide) te_p123, List.forall_mem_cons.mpr ⟨tj_KS1_le (by decide) te_p94, List.forall_mem_cons.mpr ⟨tj_KS1_le (by decide) te_p86, List.forall_mem_cons.mpr ⟨tj_KS1_le (by decide) te_p89, fun _ h => absurd h List.not_mem_nil⟩⟩⟩⟩) (by decide +kernel) (by decide +kernel) te_c176
/-! Course.carryOut -/
def te_s177 : tj_C := (6, [(1, 56, 0), (0, 2147483648, 2147483649), (0, 2147483647, 2147483653)], ([(56, 4), (56, 5), (56, 6)], [54, 31, 32, 28]), [([(1, 56, 0), (0, 2147483648, 2147483649), (0, 2147483647, 2147483653)], none, ([.inr (0, 6)], [(0, 2147483648, 2147483649)], [(0, .inr 0, .inl 6, .inr 3)]))], ([], [], []))
set_option maxRecDepth 100000 in
theorem te_c177 : tj_chk tj_Lam te_s177.2.2.1 [te_s123, te_s94, te_s86, te_s89] zx_d_X0_carryOut te_s177.2.1 te_s177.2.2.2.1 te_s177.2.2.2.2 [] [] 3000 = true := by decide +kernel
theorem te_p177 : tj_KS1 (zx_Cl zx_mt zx_rc zx_mx' 4) tj_Lam te_s177 := tj_method te_so (d := 3) (by rw [← zx_q_X0_carryOut]; rfl) (List.forall_mem_cons.mpr ⟨tj_KS1_le (by decide) te_p123, List.forall_mem_cons.mpr ⟨tj_KS1_le (by decide) te_p94, List.forall_mem_cons.mpr ⟨tj_KS1_le (by decide) te_p86, List.forall_mem_cons.mpr ⟨tj_KS1_le (by decide) te_p89, fun _ h => absurd h List.not_mem_nil⟩⟩⟩⟩) (by decide +kernel) (by decide +kernel) te_c177
/-! Course.carryOut -/
def te_s178 : tj_C := (6, [(1, 56, 0), (0, 2147483648, 2147483650), (0, 2147483647, 2147483653)], ([(56, 4), (56, 5), (56, 6)], [54, 31, 32, 28]), [([(1, 56, 0), (0, 2147483648, 2147483650), (0, 2147483647, 2147483653)], none, ([.inr (0, 6)], [(0, 2147483648, 2147483649)], [(0, .inr 0, .inl 6, .inr 3)]))], ([], [], []))
set_option maxRecDepth 100000 in
theorem te_c178 : tj_chk tj_Lam te_s178.2.2.1 [te_s123, te_s94, te_s86, te_s89] zx_d_X0_carryOut te_s178.2.1 te_s178.2.2.2.1 te_s178.2.2.2.2 [] [] 3000 = true := by decide +kernel
theorem te_p178 : tj_KS1 (zx_Cl zx_mt zx_rc zx_mx' 4) tj_Lam te_s178 := tj_method te_so (d := 3) (by rw [← zx_q_X0_carryOut]; rfl) (List.forall_mem_cons.mpr ⟨tj_KS1_le (by decide) te_p123, List.forall_mem_cons.mpr ⟨tj_KS1_le (by decide) te_p94, List.forall_mem_cons.mpr ⟨tj_KS1_le (by decide) te_p86, List.forall_mem_cons.mpr ⟨tj_KS1_le (by decide) te_p89, fun _ h => absurd h List.not_mem_nil⟩⟩⟩⟩) (by decide +kernel) (by decide +kernel) te_c178
/-! Course.carryOut -/
def te_s179 : tj_C := (6, [(1, 56, 0), (0, 2147483648, 2147483651), (0, 2147483647, 2147483653)], ([(56, 4), (56, 5), (56, 6)], [54, 31, 32, 28]), [([(1, 56, 0), (0, 2147483648, 2147483651), (0, 2147483647, 2147483653)], none, ([.inr (0, 6)], [(0, 2147483648, 2147483649)], [(0, .inr 0, .inl 6, .inr 3)]))], ([], [], []))
set_option maxRecDepth 100000 in
theorem te_c179 : tj_chk tj_Lam te_s179.2.2.1 [te_s123, te_s94, te_s86, te_s89] zx_d_X0_carryOut te_s179.2.1 te_s179.2.2.2.1 te_s179.2.2.2.2 [] [] 3000 = true := by decide +kernel
theorem te_p179 : tj_KS1 (zx_Cl zx_mt zx_rc zx_mx' 4) tj_Lam te_s179 := tj_method te_so (d := 3) (by rw [← zx_q_X0_carryOut]; rfl) (List.forall_mem_cons.mpr ⟨tj_KS1_le (by decide) te_p123, List.forall_mem_cons.mpr ⟨tj_KS1_le (by decide) te_p94, List.forall_mem_cons.mpr ⟨tj_KS1_le (by decide) te_p86, List.forall_mem_cons.mpr ⟨tj_KS1_le (by decide) te_p89, fun _ h => absurd h List.not_mem_nil⟩⟩⟩⟩) (by decide +kernel) (by decide +kernel) te_c179
/-! Course.passDay -/
def te_s180 : tj_C := (18, [(1, 56, 0), (0, 2147483647, 2147483647), (0, 2147483647, 2147483647)], ([(56, 4), (56, 5), (56, 6), (56, 7), (33, 0)], [54, 31, 32, 28]), [([(1, 56, 0), (0, 2147483647, 2147483647), (0, 2147483647, 2147483647)], none, ([], [], []))], ([], [], []))
set_option maxRecDepth 100000 in
theorem te_c180 : tj_chk tj_Lam te_s180.2.2.1 [te_s176, te_s177, te_s178, te_s179, te_s172, te_s85] zx_d_X0_passDay te_s180.2.1 te_s180.2.2.2.1 te_s180.2.2.2.2 [((2, [(0, .inr 0), (1, .inr 1), (2, .inr 2), (3, .inr 3)], [], [(1, 56, 0), (0, 2147483647, 2147483647), (0, 2147483647, 2147483647), (0, 2147483648, 2147483652)], []), [.inl 3], [(0, 0), (1, 3), (0, 0)])] [2] 3000 = true := by decide +kernel
theorem te_p180 : tj_KS1 (zx_Cl zx_mt zx_rc zx_mx' 7) tj_Lam te_s180 := tj_method te_so (d := 6) (by rw [← zx_q_X0_passDay]; rfl) (List.forall_mem_cons.mpr ⟨tj_KS1_le (by decide) te_p176, List.forall_mem_cons.mpr ⟨tj_KS1_le (by decide) te_p177, List.forall_mem_cons.mpr ⟨tj_KS1_le (by decide) te_p178, List.forall_mem_cons.mpr ⟨tj_KS1_le (by decide) te_p179, List.forall_mem_cons.mpr ⟨tj_KS1_le (by decide) te_p172, List.forall_mem_cons.mpr ⟨tj_KS1_le (by decide) te_p85, fun _ h => absurd h List.not_mem_nil⟩⟩⟩⟩⟩⟩) (by decide +kernel) (by decide +kernel) te_c180
/-! TwoInOne.days -/
def te_s181 : tj_C := (42, [(1, 100, 0), (0, 0, 4294967295)], ([(56, 4), (56, 5), (56, 6), (56, 7), (53, 3), (53, 4), (53, 5), (39, 0), (39, 1), (33, 0)], [54, 50, 36, 37, 38, 34, 35, 31, 32, 28]), [([(1, 100, 0), (0, 0, 4294967295)], some (0, 2147483647, 2147483647), ([], [], [])), ([(1, 100, 0), (0, 2147483648, 2147483708)], some (0, 0, 4294967295), ([], [], []))], ([], [], []))
set_option maxRecDepth 100000 in
theorem te_c181 : tj_chk tj_Lam te_s181.2.2.1 [te_s180, te_h1] zx_d_X11_days te_s181.2.1 te_s181.2.2.2.1 te_s181.2.2.2.2 [((29, [(0, .inr 0), (1, .inr 1), (2, .inr 2)], [], [(1, 100, 0), (0, 2147483648, 2147483708), (0, 2147483648, 2147483708), (1, 33, 0), (0, 0, 4294967295)], [(0, .inr 0, .inl 4, .inr 3), (0, .inr 3, .inl 0, .inr 4)]), [.inl 2, .inr (0, 4), .inr (3, 0)], [(0, 0), (1, 2), (0, 0)])] [29] 3000 = true := by decide +kernel
theorem te_p181 (hh : te_HH) : tj_KS1 (zx_Cl zx_mt zx_rc zx_mx' 101) tj_Lam te_s181 := tj_method te_so (d := 100) (by rw [← zx_q_X11_days]; rfl) (List.forall_mem_cons.mpr ⟨tj_KS1_le (by decide) te_p180, List.forall_mem_cons.mpr ⟨tj_KS1_le (by decide) (te_hh1 hh), fun _ h => absurd h List.not_mem_nil⟩⟩) (by decide +kernel) (by decide +kernel) te_c181
/-! TwoInOne.canDo -/
def te_s182 : tj_C := (38, [(1, 100, 0), (0, 0, 4294967295), (0, 0, 4294967295)], ([], []), [([(1, 100, 0), (0, 0, 4294967295), (0, 0, 4294967295)], some (0, 2147483648, 2147483648), ([], [], [])), ([(1, 100, 0), (0, 2147483648, 2147483651), (0, 2147483648, 2147483653)], some (0, 2147483649, 2147483649), ([], [], []))], ([], [], []))
set_option maxRecDepth 100000 in
theorem te_c182 : tj_chk tj_Lam te_s182.2.2.1 [te_s85, te_s89, te_s2] zx_d_X11_canDo te_s182.2.1 te_s182.2.2.2.1 te_s182.2.2.2.2 [] [] 3000 = true := by decide +kernel
theorem te_p182 : tj_KS1 (zx_Cl zx_mt zx_rc zx_mx' 3) tj_Lam te_s182 := tj_method te_so (d := 2) (by rw [← zx_q_X11_canDo]; rfl) (List.forall_mem_cons.mpr ⟨tj_KS1_le (by decide) te_p85, List.forall_mem_cons.mpr ⟨tj_KS1_le (by decide) te_p89, List.forall_mem_cons.mpr ⟨tj_KS1_le (by decide) te_p2, fun _ h => absurd h List.not_mem_nil⟩⟩⟩) (by decide +kernel) (by decide +kernel) te_c182
/-! Course.passDay -/
def te_s183 : tj_C := (18, [(1, 56, 0), (0, 2147483648, 2147483651), (0, 2147483648, 2147483653)], ([(56, 4), (56, 5), (56, 6), (56, 7), (33, 0)], [54, 31, 32, 28]), [([(1, 56, 0), (0, 2147483648, 2147483651), (0, 2147483648, 2147483653)], none, ([], [], []))], ([], [], []))
set_option maxRecDepth 100000 in
theorem te_c183 : tj_chk tj_Lam te_s183.2.2.1 [te_s176, te_s177, te_s178, te_s179, te_s172, te_s85] zx_d_X0_passDay te_s183.2.1 te_s183.2.2.2.1 te_s183.2.2.2.2 [((2, [(0, .inr 0), (1, .inr 1), (2, .inr 2), (3, .inr 3)], [], [(1, 56, 0), (0, 2147483648, 2147483651), (0, 2147483648, 2147483653), (0, 2147483648, 2147483652)], []), [.inl 3], [(0, 0), (1, 3), (0, 0)])] [2] 3000 = true := by decide +kernel
theorem te_p183 : tj_KS1 (zx_Cl zx_mt zx_rc zx_mx' 7) tj_Lam te_s183 := tj_method te_so (d := 6) (by rw [← zx_q_X0_passDay]; rfl) (List.forall_mem_cons.mpr ⟨tj_KS1_le (by decide) te_p176, List.forall_mem_cons.mpr ⟨tj_KS1_le (by decide) te_p177, List.forall_mem_cons.mpr ⟨tj_KS1_le (by decide) te_p178, List.forall_mem_cons.mpr ⟨tj_KS1_le (by decide) te_p179, List.forall_mem_cons.mpr ⟨tj_KS1_le (by decide) te_p172, List.forall_mem_cons.mpr ⟨tj_KS1_le (by decide) te_p85, fun _ h => absurd h List.not_mem_nil⟩⟩⟩⟩⟩⟩) (by decide +kernel) (by decide +kernel) te_c183
/-! TwoInOne.decree -/
def te_s184 : tj_C := (43, [(1, 100, 0), (0, 0, 4294967295), (0, 0, 4294967295)], ([(56, 4), (56, 5), (56, 6), (56, 7), (53, 3), (53, 4), (53, 5), (39, 0), (39, 1), (33, 0)], [54, 50, 36, 37, 38, 34, 35, 31, 32, 28]), [([(1, 100, 0), (0, 0, 4294967295), (0, 0, 4294967295)], some (0, 0, 4294967295), ([], [], []))], ([], [], []))
set_option maxRecDepth 100000 in
theorem te_c184 : tj_chk tj_Lam te_s184.2.2.1 [te_s123, te_s183, te_s86, te_s182, te_h1] zx_d_X11_decree te_s184.2.1 te_s184.2.2.2.1 te_s184.2.2.2.2 [] [] 3000 = true := by decide +kernel
theorem te_p184 (hh : te_HH) : tj_KS1 (zx_Cl zx_mt zx_rc zx_mx' 101) tj_Lam te_s184 := tj_method te_so (d := 100) (by rw [← zx_q_X11_decree]; rfl) (List.forall_mem_cons.mpr ⟨tj_KS1_le (by decide) te_p123, List.forall_mem_cons.mpr ⟨tj_KS1_le (by decide) te_p183, List.forall_mem_cons.mpr ⟨tj_KS1_le (by decide) te_p86, List.forall_mem_cons.mpr ⟨tj_KS1_le (by decide) te_p182, List.forall_mem_cons.mpr ⟨tj_KS1_le (by decide) (te_hh1 hh), fun _ h => absurd h List.not_mem_nil⟩⟩⟩⟩⟩) (by decide +kernel) (by decide +kernel) te_c184
/-! TwoInOne.die -/
def te_s185 : tj_C := (44, [(1, 100, 0), (0, 0, 4294967295)], ([(53, 3), (53, 4), (53, 5), (39, 0), (39, 1)], [50, 36, 37, 38, 34, 35, 30]), [([(1, 100, 0), (0, 0, 4294967295)], some (0, 2147483647, 2147483647), ([], [], [])), ([(1, 100, 0), (0, 2147483648, 2147483655)], some (0, 2147483648, 2147483649), ([], [], []))], ([], [], []))
set_option maxRecDepth 100000 in
theorem te_c185 : tj_chk tj_Lam te_s185.2.2.1 [te_s4, te_h1] zx_d_X11_die te_s185.2.1 te_s185.2.2.2.1 te_s185.2.2.2.2 [] [] 3000 = true := by decide +kernel
theorem te_p185 (hh : te_HH) : tj_KS1 (zx_Cl zx_mt zx_rc zx_mx' 101) tj_Lam te_s185 := tj_method te_so (d := 100) (by rw [← zx_q_X11_die]; rfl) (List.forall_mem_cons.mpr ⟨tj_KS1_le (by decide) te_p4, List.forall_mem_cons.mpr ⟨tj_KS1_le (by decide) (te_hh1 hh), fun _ h => absurd h List.not_mem_nil⟩⟩) (by decide +kernel) (by decide +kernel) te_c185
/-! java/util/Arrays.fill -/
def te_s186 : tj_C := (1, [(1, 55, 0), (0, 2147483648, 2147483648)], ([], [55]), [([(1, 55, 0), (0, 2147483648, 2147483648)], none, ([], [], []))], ([], [], []))
set_option maxRecDepth 100000 in
theorem te_c186 : tj_chk tj_Lam te_s186.2.2.1 [] zx_d_J7_fill_53178 te_s186.2.1 te_s186.2.2.2.1 te_s186.2.2.2.2 [((5, [(0, .inr 0), (1, .inr 1), (2, .inr 2), (3, .inr 3)], [], [(1, 55, 0), (0, 2147483648, 2147483648), (0, 2147483648, 2147483651), (0, 2147483651, 2147483651)], []), [.inl 2, .inl 3], [(0, 0), (1, 2), (0, 0)])] [5] 3000 = true := by decide +kernel
theorem te_p186 : tj_KS1 (zx_Cl zx_mt zx_rc zx_mx' 1) tj_Lam te_s186 := tj_method te_so (d := 0) (by rw [← zx_q_J7_fill_53178]; rfl) (fun _ h => absurd h List.not_mem_nil) (by decide +kernel) (by decide +kernel) te_c186
/-! Course.winner -/
def te_s187 : tj_C := (22, [(1, 56, 0)], ([], []), [([(1, 56, 0)], some (0, 2147483647, 2147483650), ([], [], []))], ([], [], []))
set_option maxRecDepth 100000 in
theorem te_c187 : tj_chk tj_Lam te_s187.2.2.1 [] zx_d_X0_winner te_s187.2.1 te_s187.2.2.2.1 te_s187.2.2.2.2 [((6, [(0, .inr 0), (1, .inr 1), (2, .inr 2), (3, .inr 3)], [], [(1, 56, 0), (0, 2147483647, 2147483650), (0, 2147483648, 4294967295), (0, 2147483648, 2147483651)], []), [.inl 1, .inl 2, .inl 3], [(0, 0), (1, 3), (0, 0)])] [6] 3000 = true := by decide +kernel
theorem te_p187 : tj_KS1 (zx_Cl zx_mt zx_rc zx_mx' 1) tj_Lam te_s187 := tj_method te_so (d := 0) (by rw [← zx_q_X0_winner]; rfl) (fun _ h => absurd h List.not_mem_nil) (by decide +kernel) (by decide +kernel) te_c187
/-! Course.addVote -/
def te_s188 : tj_C := (5, [(1, 56, 0), (0, 2147483647, 2147483647)], ([], []), [([(1, 56, 0), (0, 2147483647, 2147483647)], none, ([], [], []))], ([], [], []))
set_option maxRecDepth 100000 in
theorem te_c188 : tj_chk tj_Lam te_s188.2.2.1 [te_s4] zx_d_X0_addVote te_s188.2.1 te_s188.2.2.2.1 te_s188.2.2.2.2 [] [] 3000 = true := by decide +kernel
theorem te_p188 : tj_KS1 (zx_Cl zx_mt zx_rc zx_mx' 2) tj_Lam te_s188 := tj_method te_so (d := 1) (by rw [← zx_q_X0_addVote]; rfl) (List.forall_mem_cons.mpr ⟨tj_KS1_le (by decide) te_p4, fun _ h => absurd h List.not_mem_nil⟩) (by decide +kernel) (by decide +kernel) te_c188
/-! Told.favoured -/
def te_s189 : tj_C := (26, [(1, 13, 0), (0, 2147483648, 2147483655)], ([], []), [([(1, 13, 0), (0, 2147483648, 2147483655)], some (0, 2147483648, 4294967295), ([], [], []))], ([], [], []))
set_option maxRecDepth 100000 in
theorem te_c189 : tj_chk tj_Lam te_s189.2.2.1 [] zx_d_X10_favoured te_s189.2.1 te_s189.2.2.2.1 te_s189.2.2.2.2 [] [] 3000 = true := by decide +kernel
theorem te_p189 : tj_KS1 (zx_Cl zx_mt zx_rc zx_mx' 1) tj_Lam te_s189 := tj_method te_so (d := 0) (by rw [← zx_q_X10_favoured]; rfl) (fun _ h => absurd h List.not_mem_nil) (by decide +kernel) (by decide +kernel) te_c189
/-! Course.addVote -/
def te_s190 : tj_C := (5, [(1, 56, 0), (0, 2147483648, 2147483655)], ([], [55]), [([(1, 56, 0), (0, 2147483648, 2147483655)], none, ([], [], []))], ([], [], []))
set_option maxRecDepth 100000 in
theorem te_c190 : tj_chk tj_Lam te_s190.2.2.1 [te_s189, te_s4] zx_d_X0_addVote te_s190.2.1 te_s190.2.2.2.1 te_s190.2.2.2.2 [] [] 3000 = true := by decide +kernel
theorem te_p190 : tj_KS1 (zx_Cl zx_mt zx_rc zx_mx' 2) tj_Lam te_s190 := tj_method te_so (d := 1) (by rw [← zx_q_X0_addVote]; rfl) (List.forall_mem_cons.mpr ⟨tj_KS1_le (by decide) te_p189, List.forall_mem_cons.mpr ⟨tj_KS1_le (by decide) te_p4, fun _ h => absurd h List.not_mem_nil⟩⟩) (by decide +kernel) (by decide +kernel) te_c190
/-! Course.winnerOn -/
def te_s191 : tj_C := (23, [(1, 56, 0), (0, 2147483648, 2147484647)], ([], [55]), [([(1, 56, 0), (0, 2147483648, 2147484647)], some (0, 2147483647, 2147483650), ([], [], []))], ([], [], []))
set_option maxRecDepth 100000 in
theorem te_c191 : tj_chk tj_Lam te_s191.2.2.1 [te_s186, te_s188, te_s190, te_s85, te_s187] zx_d_X0_winnerOn te_s191.2.1 te_s191.2.2.2.1 te_s191.2.2.2.2 [((10, [(0, .inr 0), (1, .inr 1), (2, .inr 2)], [], [(1, 56, 0), (0, 2147483648, 2147484647), (0, 2147483648, 2147483652), (1, 55, 0)], [(0, .inr 0, .inl 3, .inr 3)]), [.inl 2, .inr (0, 3)], [(0, 0), (1, 2), (0, 0)])] [10] 3000 = true := by decide +kernel
theorem te_p191 : tj_KS1 (zx_Cl zx_mt zx_rc zx_mx' 3) tj_Lam te_s191 := tj_method te_so (d := 2) (by rw [← zx_q_X0_winnerOn]; rfl) (List.forall_mem_cons.mpr ⟨tj_KS1_le (by decide) te_p186, List.forall_mem_cons.mpr ⟨tj_KS1_le (by decide) te_p188, List.forall_mem_cons.mpr ⟨tj_KS1_le (by decide) te_p190, List.forall_mem_cons.mpr ⟨tj_KS1_le (by decide) te_p85, List.forall_mem_cons.mpr ⟨tj_KS1_le (by decide) te_p187, fun _ h => absurd h List.not_mem_nil⟩⟩⟩⟩⟩) (by decide +kernel) (by decide +kernel) te_c191
/-! TwoInOne.elected -/
def te_s192 : tj_C := (45, [(1, 100, 0), (0, 0, 4294967295)], ([], [55]), [([(1, 100, 0), (0, 0, 4294967295)], some (0, 2147483647, 2147483647), ([], [], [])), ([(1, 100, 0), (0, 2147483648, 2147484647)], some (0, 2147483647, 2147483650), ([], [], []))], ([], [], []))
set_option maxRecDepth 100000 in
theorem te_c192 : tj_chk tj_Lam te_s192.2.2.1 [te_s191] zx_d_X11_elected te_s192.2.1 te_s192.2.2.2.1 te_s192.2.2.2.2 [] [] 3000 = true := by decide +kernel
theorem te_p192 : tj_KS1 (zx_Cl zx_mt zx_rc zx_mx' 4) tj_Lam te_s192 := tj_method te_so (d := 3) (by rw [← zx_q_X11_elected]; rfl) (List.forall_mem_cons.mpr ⟨tj_KS1_le (by decide) te_p191, fun _ h => absurd h List.not_mem_nil⟩) (by decide +kernel) (by decide +kernel) te_c192
/-! TwoInOne.end -/
def te_s193 : tj_C := (46, [(1, 100, 0), (0, 0, 4294967295)], ([(100, 1)], []), [([(1, 100, 0), (0, 0, 4294967295)], some (0, 2147483647, 2147483647), ([], [], [])), ([(1, 100, 0), (0, 2147483648, 2147485248)], some (0, 2147483648, 2147485248), ([], [], []))], ([], [], []))
set_option maxRecDepth 100000 in
theorem te_c193 : tj_chk tj_Lam te_s193.2.2.1 [] zx_d_X11_end te_s193.2.1 te_s193.2.2.2.1 te_s193.2.2.2.2 [] [] 3000 = true := by decide +kernel
theorem te_p193 : tj_KS1 (zx_Cl zx_mt zx_rc zx_mx' 1) tj_Lam te_s193 := tj_method te_so (d := 0) (by rw [← zx_q_X11_end]; rfl) (fun _ h => absurd h List.not_mem_nil) (by decide +kernel) (by decide +kernel) te_c193
/-! Told.hasPlace -/
def te_s194 : tj_C := (30, [(1, 13, 0), (0, 2147483648, 2147483651), (0, 0, 4294967295)], ([], []), [([(1, 13, 0), (0, 2147483648, 2147483651), (0, 0, 4294967295)], some (0, 2147483648, 2147483648), ([], [], [])), ([(1, 13, 0), (0, 2147483648, 2147483651), (0, 2147483648, 2147483661)], some (0, 2147483649, 2147483649), ([], [], []))], ([], [], []))
set_option maxRecDepth 100000 in
theorem te_c194 : tj_chk tj_Lam te_s194.2.2.1 [] zx_d_X10_hasPlace te_s194.2.1 te_s194.2.2.2.1 te_s194.2.2.2.2 [] [] 3000 = true := by decide +kernel
theorem te_p194 : tj_KS1 (zx_Cl zx_mt zx_rc zx_mx' 1) tj_Lam te_s194 := tj_method te_so (d := 0) (by rw [← zx_q_X10_hasPlace]; rfl) (fun _ h => absurd h List.not_mem_nil) (by decide +kernel) (by decide +kernel) te_c194
/-! State.exchangePlaces -/
def te_s195 : tj_C := (326, [(1, 33, 0), (0, 2147483648, 2147483651), (0, 2147483648, 2147483661), (0, 2147483648, 2147483661)], ([], [29]), [([(1, 33, 0), (0, 2147483648, 2147483651), (0, 2147483648, 2147483661), (0, 2147483648, 2147483661)], none, ([], [], []))], ([], [], []))
set_option maxRecDepth 100000 in
theorem te_c195 : tj_chk tj_Lam te_s195.2.2.1 [] zx_d_X8_exchangePlaces te_s195.2.1 te_s195.2.2.2.1 te_s195.2.2.2.2 [] [] 3000 = true := by decide +kernel
theorem te_p195 : tj_KS1 (zx_Cl zx_mt zx_rc zx_mx' 1) tj_Lam te_s195 := tj_method te_so (d := 0) (by rw [← zx_q_X8_exchangePlaces]; rfl) (fun _ h => absurd h List.not_mem_nil) (by decide +kernel) (by decide +kernel) te_c195
/-! TwoInOne.exchange -/
def te_s196 : tj_C := (47, [(1, 100, 0), (0, 0, 4294967295), (0, 0, 4294967295), (0, 0, 4294967295)], ([(53, 3), (53, 4), (53, 5), (39, 0), (39, 1)], [50, 36, 37, 38, 34, 35, 29]), [([(1, 100, 0), (0, 0, 4294967295), (0, 0, 4294967295), (0, 0, 4294967295)], some (0, 2147483648, 2147483648), ([], [], [])), ([(1, 100, 0), (0, 2147483648, 2147483651), (0, 2147483648, 2147483661), (0, 2147483648, 2147483661)], some (0, 2147483649, 2147483649), ([], [], []))], ([], [], []))
set_option maxRecDepth 100000 in
theorem te_c196 : tj_chk tj_Lam te_s196.2.2.1 [te_s2, te_s194, te_h1, te_s195] zx_d_X11_exchange te_s196.2.1 te_s196.2.2.2.1 te_s196.2.2.2.2 [] [] 3000 = true := by decide +kernel
theorem te_p196 (hh : te_HH) : tj_KS1 (zx_Cl zx_mt zx_rc zx_mx' 101) tj_Lam te_s196 := tj_method te_so (d := 100) (by rw [← zx_q_X11_exchange]; rfl) (List.forall_mem_cons.mpr ⟨tj_KS1_le (by decide) te_p2, List.forall_mem_cons.mpr ⟨tj_KS1_le (by decide) te_p194, List.forall_mem_cons.mpr ⟨tj_KS1_le (by decide) (te_hh1 hh), List.forall_mem_cons.mpr ⟨tj_KS1_le (by decide) te_p195, fun _ h => absurd h List.not_mem_nil⟩⟩⟩⟩) (by decide +kernel) (by decide +kernel) te_c196
/-! java/util/Arrays.fill -/
def te_s197 : tj_C := (1, [(1, 62, 0), (0, 2147483646, 2147483646)], ([], [62]), [([(1, 62, 0), (0, 2147483646, 2147483646)], none, ([], [], []))], ([], [], []))
set_option maxRecDepth 100000 in
theorem te_c197 : tj_chk tj_Lam te_s197.2.2.1 [] zx_d_J7_fill_53178 te_s197.2.1 te_s197.2.2.2.1 te_s197.2.2.2.2 [((5, [(0, .inr 0), (1, .inr 1), (2, .inr 2), (3, .inr 3)], [], [(1, 62, 0), (0, 2147483646, 2147483646), (0, 2147483648, 2147483656), (0, 2147483656, 2147483656)], []), [.inl 2, .inl 3], [(0, 0), (1, 2), (0, 0)])] [5] 3000 = true := by decide +kernel
theorem te_p197 : tj_KS1 (zx_Cl zx_mt zx_rc zx_mx' 1) tj_Lam te_s197 := tj_method te_so (d := 0) (by rw [← zx_q_J7_fill_53178]; rfl) (fun _ h => absurd h List.not_mem_nil) (by decide +kernel) (by decide +kernel) te_c197
/-! Told.liked -/
def te_s198 : tj_C := (33, [(1, 13, 0), (0, 2147483648, 2147483648), (0, 2147483649, 2147483649)], ([], []), [([(1, 13, 0), (0, 2147483648, 2147483648), (0, 2147483649, 2147483649)], some (0, 2147483648, 4294967295), ([], [], []))], ([], [], []))
set_option maxRecDepth 100000 in
theorem te_c198 : tj_chk tj_Lam te_s198.2.2.1 [] zx_d_X10_liked te_s198.2.1 te_s198.2.2.2.1 te_s198.2.2.2.2 [] [] 3000 = true := by decide +kernel
theorem te_p198 : tj_KS1 (zx_Cl zx_mt zx_rc zx_mx' 1) tj_Lam te_s198 := tj_method te_so (d := 0) (by rw [← zx_q_X10_liked]; rfl) (fun _ h => absurd h List.not_mem_nil) (by decide +kernel) (by decide +kernel) te_c198
/-! Told.liked -/
def te_s199 : tj_C := (33, [(1, 13, 0), (0, 2147483648, 2147483648), (0, 2147483648, 2147483655)], ([], []), [([(1, 13, 0), (0, 2147483648, 2147483648), (0, 2147483648, 2147483655)], some (0, 2147483648, 4294967295), ([], [], []))], ([], [], []))
set_option maxRecDepth 100000 in
theorem te_c199 : tj_chk tj_Lam te_s199.2.2.1 [] zx_d_X10_liked te_s199.2.1 te_s199.2.2.2.1 te_s199.2.2.2.2 [] [] 3000 = true := by decide +kernel
theorem te_p199 : tj_KS1 (zx_Cl zx_mt zx_rc zx_mx' 1) tj_Lam te_s199 := tj_method te_so (d := 0) (by rw [← zx_q_X10_liked]; rfl) (fun _ h => absurd h List.not_mem_nil) (by decide +kernel) (by decide +kernel) te_c199
/-! Pairings.likesHis -/
def te_s200 : tj_C := (248, [(1, 65, 0), (0, 2147483648, 2147483648)], ([], []), [([(1, 65, 0), (0, 2147483648, 2147483648)], some (0, 2147483647, 2147483647), ([], [], [])), ([(1, 65, 0), (0, 2147483648, 2147483648)], some (0, 2147483648, 4294967295), ([], [], []))], ([], [], []))
set_option maxRecDepth 100000 in
theorem te_c200 : tj_chk tj_Lam te_s200.2.2.1 [te_s4, te_s199] zx_d_X3_likesHis te_s200.2.1 te_s200.2.2.2.1 te_s200.2.2.2.2 [] [] 3000 = true := by decide +kernel
theorem te_p200 : tj_KS1 (zx_Cl zx_mt zx_rc zx_mx' 2) tj_Lam te_s200 := tj_method te_so (d := 1) (by rw [← zx_q_X3_likesHis]; rfl) (List.forall_mem_cons.mpr ⟨tj_KS1_le (by decide) te_p4, List.forall_mem_cons.mpr ⟨tj_KS1_le (by decide) te_p199, fun _ h => absurd h List.not_mem_nil⟩⟩) (by decide +kernel) (by decide +kernel) te_c200
/-! Told.liked -/
def te_s201 : tj_C := (33, [(1, 13, 0), (0, 2147483649, 2147483649), (0, 2147483648, 2147483648)], ([], []), [([(1, 13, 0), (0, 2147483649, 2147483649), (0, 2147483648, 2147483648)], some (0, 2147483648, 4294967295), ([], [], []))], ([], [], []))
set_option maxRecDepth 100000 in
theorem te_c201 : tj_chk tj_Lam te_s201.2.2.1 [] zx_d_X10_liked te_s201.2.1 te_s201.2.2.2.1 te_s201.2.2.2.2 [] [] 3000 = true := by decide +kernel
theorem te_p201 : tj_KS1 (zx_Cl zx_mt zx_rc zx_mx' 1) tj_Lam te_s201 := tj_method te_so (d := 0) (by rw [← zx_q_X10_liked]; rfl) (fun _ h => absurd h List.not_mem_nil) (by decide +kernel) (by decide +kernel) te_c201
/-! Told.liked -/
def te_s202 : tj_C := (33, [(1, 13, 0), (0, 2147483649, 2147483649), (0, 2147483648, 2147483655)], ([], []), [([(1, 13, 0), (0, 2147483649, 2147483649), (0, 2147483648, 2147483655)], some (0, 2147483648, 4294967295), ([], [], []))], ([], [], []))
set_option maxRecDepth 100000 in
theorem te_c202 : tj_chk tj_Lam te_s202.2.2.1 [] zx_d_X10_liked te_s202.2.1 te_s202.2.2.2.1 te_s202.2.2.2.2 [] [] 3000 = true := by decide +kernel
theorem te_p202 : tj_KS1 (zx_Cl zx_mt zx_rc zx_mx' 1) tj_Lam te_s202 := tj_method te_so (d := 0) (by rw [← zx_q_X10_liked]; rfl) (fun _ h => absurd h List.not_mem_nil) (by decide +kernel) (by decide +kernel) te_c202
/-! Pairings.likesHis -/
def te_s203 : tj_C := (248, [(1, 65, 0), (0, 2147483649, 2147483649)], ([], []), [([(1, 65, 0), (0, 2147483649, 2147483649)], some (0, 2147483647, 2147483647), ([], [], [])), ([(1, 65, 0), (0, 2147483649, 2147483649)], some (0, 2147483648, 4294967295), ([], [], []))], ([], [], []))
set_option maxRecDepth 100000 in
theorem te_c203 : tj_chk tj_Lam te_s203.2.2.1 [te_s4, te_s202] zx_d_X3_likesHis te_s203.2.1 te_s203.2.2.2.1 te_s203.2.2.2.2 [] [] 3000 = true := by decide +kernel
theorem te_p203 : tj_KS1 (zx_Cl zx_mt zx_rc zx_mx' 2) tj_Lam te_s203 := tj_method te_so (d := 1) (by rw [← zx_q_X3_likesHis]; rfl) (List.forall_mem_cons.mpr ⟨tj_KS1_le (by decide) te_p4, List.forall_mem_cons.mpr ⟨tj_KS1_le (by decide) te_p202, fun _ h => absurd h List.not_mem_nil⟩⟩) (by decide +kernel) (by decide +kernel) te_c203
/-! Told.liked -/
def te_s204 : tj_C := (33, [(1, 13, 0), (0, 2147483648, 2147483649), (0, 2147483649, 2147483650)], ([], []), [([(1, 13, 0), (0, 2147483648, 2147483649), (0, 2147483649, 2147483650)], some (0, 2147483648, 4294967295), ([], [], []))], ([], [], []))
set_option maxRecDepth 100000 in
theorem te_c204 : tj_chk tj_Lam te_s204.2.2.1 [] zx_d_X10_liked te_s204.2.1 te_s204.2.2.2.1 te_s204.2.2.2.2 [] [] 3000 = true := by decide +kernel
theorem te_p204 : tj_KS1 (zx_Cl zx_mt zx_rc zx_mx' 1) tj_Lam te_s204 := tj_method te_so (d := 0) (by rw [← zx_q_X10_liked]; rfl) (fun _ h => absurd h List.not_mem_nil) (by decide +kernel) (by decide +kernel) te_c204
/-! Told.liked -/
def te_s205 : tj_C := (33, [(1, 13, 0), (0, 2147483648, 2147483649), (0, 2147483648, 2147483655)], ([], []), [([(1, 13, 0), (0, 2147483648, 2147483649), (0, 2147483648, 2147483655)], some (0, 2147483648, 4294967295), ([], [], []))], ([], [], []))
set_option maxRecDepth 100000 in
theorem te_c205 : tj_chk tj_Lam te_s205.2.2.1 [] zx_d_X10_liked te_s205.2.1 te_s205.2.2.2.1 te_s205.2.2.2.2 [] [] 3000 = true := by decide +kernel
theorem te_p205 : tj_KS1 (zx_Cl zx_mt zx_rc zx_mx' 1) tj_Lam te_s205 := tj_method te_so (d := 0) (by rw [← zx_q_X10_liked]; rfl) (fun _ h => absurd h List.not_mem_nil) (by decide +kernel) (by decide +kernel) te_c205
/-! Pairings.likesHis -/
def te_s206 : tj_C := (248, [(1, 65, 0), (0, 2147483648, 2147483649)], ([], []), [([(1, 65, 0), (0, 2147483648, 2147483649)], some (0, 2147483647, 2147483647), ([], [], [])), ([(1, 65, 0), (0, 2147483648, 2147483649)], some (0, 2147483648, 4294967295), ([], [], []))], ([], [], []))
set_option maxRecDepth 100000 in
theorem te_c206 : tj_chk tj_Lam te_s206.2.2.1 [te_s4, te_s205] zx_d_X3_likesHis te_s206.2.1 te_s206.2.2.2.1 te_s206.2.2.2.2 [] [] 3000 = true := by decide +kernel
theorem te_p206 : tj_KS1 (zx_Cl zx_mt zx_rc zx_mx' 2) tj_Lam te_s206 := tj_method te_so (d := 1) (by rw [← zx_q_X3_likesHis]; rfl) (List.forall_mem_cons.mpr ⟨tj_KS1_le (by decide) te_p4, List.forall_mem_cons.mpr ⟨tj_KS1_le (by decide) te_p205, fun _ h => absurd h List.not_mem_nil⟩⟩) (by decide +kernel) (by decide +kernel) te_c206
/-! Told.liked -/
def te_s207 : tj_C := (33, [(1, 13, 0), (0, 2147483649, 2147483650), (0, 2147483648, 2147483649)], ([], []), [([(1, 13, 0), (0, 2147483649, 2147483650), (0, 2147483648, 2147483649)], some (0, 2147483648, 4294967295), ([], [], []))], ([], [], []))
set_option maxRecDepth 100000 in
theorem te_c207 : tj_chk tj_Lam te_s207.2.2.1 [] zx_d_X10_liked te_s207.2.1 te_s207.2.2.2.1 te_s207.2.2.2.2 [] [] 3000 = true := by decide +kernel
theorem te_p207 : tj_KS1 (zx_Cl zx_mt zx_rc zx_mx' 1) tj_Lam te_s207 := tj_method te_so (d := 0) (by rw [← zx_q_X10_liked]; rfl) (fun _ h => absurd h List.not_mem_nil) (by decide +kernel) (by decide +kernel) te_c207
/-! Told.liked -/
def te_s208 : tj_C := (33, [(1, 13, 0), (0, 2147483649, 2147483650), (0, 2147483648, 2147483655)], ([], []), [([(1, 13, 0), (0, 2147483649, 2147483650), (0, 2147483648, 2147483655)], some (0, 2147483648, 4294967295), ([], [], []))], ([], [], []))
set_option maxRecDepth 100000 in
theorem te_c208 : tj_chk tj_Lam te_s208.2.2.1 [] zx_d_X10_liked te_s208.2.1 te_s208.2.2.2.1 te_s208.2.2.2.2 [] [] 3000 = true := by decide +kernel
theorem te_p208 : tj_KS1 (zx_Cl zx_mt zx_rc zx_mx' 1) tj_Lam te_s208 := tj_method te_so (d := 0) (by rw [← zx_q_X10_liked]; rfl) (fun _ h => absurd h List.not_mem_nil) (by decide +kernel) (by decide +kernel) te_c208
/-! Pairings.likesHis -/
def te_s209 : tj_C := (248, [(1, 65, 0), (0, 2147483649, 2147483650)], ([], []), [([(1, 65, 0), (0, 2147483649, 2147483650)], some (0, 2147483647, 2147483647), ([], [], [])), ([(1, 65, 0), (0, 2147483649, 2147483650)], some (0, 2147483648, 4294967295), ([], [], []))], ([], [], []))
set_option maxRecDepth 100000 in
theorem te_c209 : tj_chk tj_Lam te_s209.2.2.1 [te_s4, te_s208] zx_d_X3_likesHis te_s209.2.1 te_s209.2.2.2.1 te_s209.2.2.2.2 [] [] 3000 = true := by decide +kernel
theorem te_p209 : tj_KS1 (zx_Cl zx_mt zx_rc zx_mx' 2) tj_Lam te_s209 := tj_method te_so (d := 1) (by rw [← zx_q_X3_likesHis]; rfl) (List.forall_mem_cons.mpr ⟨tj_KS1_le (by decide) te_p4, List.forall_mem_cons.mpr ⟨tj_KS1_le (by decide) te_p208, fun _ h => absurd h List.not_mem_nil⟩⟩) (by decide +kernel) (by decide +kernel) te_c209
/-! Told.liked -/
def te_s210 : tj_C := (33, [(1, 13, 0), (0, 2147483648, 2147483650), (0, 2147483649, 2147483651)], ([], []), [([(1, 13, 0), (0, 2147483648, 2147483650), (0, 2147483649, 2147483651)], some (0, 2147483648, 4294967295), ([], [], []))], ([], [], []))
set_option maxRecDepth 100000 in
theorem te_c210 : tj_chk tj_Lam te_s210.2.2.1 [] zx_d_X10_liked te_s210.2.1 te_s210.2.2.2.1 te_s210.2.2.2.2 [] [] 3000 = true := by decide +kernel
theorem te_p210 : tj_KS1 (zx_Cl zx_mt zx_rc zx_mx' 1) tj_Lam te_s210 := tj_method te_so (d := 0) (by rw [← zx_q_X10_liked]; rfl) (fun _ h => absurd h List.not_mem_nil) (by decide +kernel) (by decide +kernel) te_c210
/-! Told.liked -/
def te_s211 : tj_C := (33, [(1, 13, 0), (0, 2147483648, 2147483650), (0, 2147483648, 2147483655)], ([], []), [([(1, 13, 0), (0, 2147483648, 2147483650), (0, 2147483648, 2147483655)], some (0, 2147483648, 4294967295), ([], [], []))], ([], [], []))
set_option maxRecDepth 100000 in
theorem te_c211 : tj_chk tj_Lam te_s211.2.2.1 [] zx_d_X10_liked te_s211.2.1 te_s211.2.2.2.1 te_s211.2.2.2.2 [] [] 3000 = true := by decide +kernel
theorem te_p211 : tj_KS1 (zx_Cl zx_mt zx_rc zx_mx' 1) tj_Lam te_s211 := tj_method te_so (d := 0) (by rw [← zx_q_X10_liked]; rfl) (fun _ h => absurd h List.not_mem_nil) (by decide +kernel) (by decide +kernel) te_c211
/-! Pairings.likesHis -/
def te_s212 : tj_C := (248, [(1, 65, 0), (0, 2147483648, 2147483650)], ([], []), [([(1, 65, 0), (0, 2147483648, 2147483650)], some (0, 2147483647, 2147483647), ([], [], [])), ([(1, 65, 0), (0, 2147483648, 2147483650)], some (0, 2147483648, 4294967295), ([], [], []))], ([], [], []))
set_option maxRecDepth 100000 in
theorem te_c212 : tj_chk tj_Lam te_s212.2.2.1 [te_s4, te_s211] zx_d_X3_likesHis te_s212.2.1 te_s212.2.2.2.1 te_s212.2.2.2.2 [] [] 3000 = true := by decide +kernel
theorem te_p212 : tj_KS1 (zx_Cl zx_mt zx_rc zx_mx' 2) tj_Lam te_s212 := tj_method te_so (d := 1) (by rw [← zx_q_X3_likesHis]; rfl) (List.forall_mem_cons.mpr ⟨tj_KS1_le (by decide) te_p4, List.forall_mem_cons.mpr ⟨tj_KS1_le (by decide) te_p211, fun _ h => absurd h List.not_mem_nil⟩⟩) (by decide +kernel) (by decide +kernel) te_c212
/-! Told.liked -/
def te_s213 : tj_C := (33, [(1, 13, 0), (0, 2147483649, 2147483651), (0, 2147483648, 2147483650)], ([], []), [([(1, 13, 0), (0, 2147483649, 2147483651), (0, 2147483648, 2147483650)], some (0, 2147483648, 4294967295), ([], [], []))], ([], [], []))
set_option maxRecDepth 100000 in
theorem te_c213 : tj_chk tj_Lam te_s213.2.2.1 [] zx_d_X10_liked te_s213.2.1 te_s213.2.2.2.1 te_s213.2.2.2.2 [] [] 3000 = true := by decide +kernel
theorem te_p213 : tj_KS1 (zx_Cl zx_mt zx_rc zx_mx' 1) tj_Lam te_s213 := tj_method te_so (d := 0) (by rw [← zx_q_X10_liked]; rfl) (fun _ h => absurd h List.not_mem_nil) (by decide +kernel) (by decide +kernel) te_c213
/-! Told.liked -/
def te_s214 : tj_C := (33, [(1, 13, 0), (0, 2147483649, 2147483651), (0, 2147483648, 2147483655)], ([], []), [([(1, 13, 0), (0, 2147483649, 2147483651), (0, 2147483648, 2147483655)], some (0, 2147483648, 4294967295), ([], [], []))], ([], [], []))
set_option maxRecDepth 100000 in
theorem te_c214 : tj_chk tj_Lam te_s214.2.2.1 [] zx_d_X10_liked te_s214.2.1 te_s214.2.2.2.1 te_s214.2.2.2.2 [] [] 3000 = true := by decide +kernel
theorem te_p214 : tj_KS1 (zx_Cl zx_mt zx_rc zx_mx' 1) tj_Lam te_s214 := tj_method te_so (d := 0) (by rw [← zx_q_X10_liked]; rfl) (fun _ h => absurd h List.not_mem_nil) (by decide +kernel) (by decide +kernel) te_c214
/-! Pairings.likesHis -/
def te_s215 : tj_C := (248, [(1, 65, 0), (0, 2147483649, 2147483651)], ([], []), [([(1, 65, 0), (0, 2147483649, 2147483651)], some (0, 2147483647, 2147483647), ([], [], [])), ([(1, 65, 0), (0, 2147483649, 2147483651)], some (0, 2147483648, 4294967295), ([], [], []))], ([], [], []))
set_option maxRecDepth 100000 in
theorem te_c215 : tj_chk tj_Lam te_s215.2.2.1 [te_s4, te_s214] zx_d_X3_likesHis te_s215.2.1 te_s215.2.2.2.1 te_s215.2.2.2.2 [] [] 3000 = true := by decide +kernel
theorem te_p215 : tj_KS1 (zx_Cl zx_mt zx_rc zx_mx' 2) tj_Lam te_s215 := tj_method te_so (d := 1) (by rw [← zx_q_X3_likesHis]; rfl) (List.forall_mem_cons.mpr ⟨tj_KS1_le (by decide) te_p4, List.forall_mem_cons.mpr ⟨tj_KS1_le (by decide) te_p214, fun _ h => absurd h List.not_mem_nil⟩⟩) (by decide +kernel) (by decide +kernel) te_c215
/-! Told.liked -/
def te_s216 : tj_C := (33, [(1, 13, 0), (0, 2147483648, 2147483651), (0, 2147483649, 2147483652)], ([], []), [([(1, 13, 0), (0, 2147483648, 2147483651), (0, 2147483649, 2147483652)], some (0, 2147483648, 4294967295), ([], [], []))], ([], [], []))
set_option maxRecDepth 100000 in
theorem te_c216 : tj_chk tj_Lam te_s216.2.2.1 [] zx_d_X10_liked te_s216.2.1 te_s216.2.2.2.1 te_s216.2.2.2.2 [] [] 3000 = true := by decide +kernel
theorem te_p216 : tj_KS1 (zx_Cl zx_mt zx_rc zx_mx' 1) tj_Lam te_s216 := tj_method te_so (d := 0) (by rw [← zx_q_X10_liked]; rfl) (fun _ h => absurd h List.not_mem_nil) (by decide +kernel) (by decide +kernel) te_c216
/-! Told.liked -/
def te_s217 : tj_C := (33, [(1, 13, 0), (0, 2147483648, 2147483651), (0, 2147483648, 2147483655)], ([], []), [([(1, 13, 0), (0, 2147483648, 2147483651), (0, 2147483648, 2147483655)], some (0, 2147483648, 4294967295), ([], [], []))], ([], [], []))
set_option maxRecDepth 100000 in
theorem te_c217 : tj_chk tj_Lam te_s217.2.2.1 [] zx_d_X10_liked te_s217.2.1 te_s217.2.2.2.1 te_s217.2.2.2.2 [] [] 3000 = true := by decide +kernel
theorem te_p217 : tj_KS1 (zx_Cl zx_mt zx_rc zx_mx' 1) tj_Lam te_s217 := tj_method te_so (d := 0) (by rw [← zx_q_X10_liked]; rfl) (fun _ h => absurd h List.not_mem_nil) (by decide +kernel) (by decide +kernel) te_c217
/-! Pairings.likesHis -/
def te_s218 : tj_C := (248, [(1, 65, 0), (0, 2147483648, 2147483651)], ([], []), [([(1, 65, 0), (0, 2147483648, 2147483651)], some (0, 2147483647, 2147483647), ([], [], [])), ([(1, 65, 0), (0, 2147483648, 2147483651)], some (0, 2147483648, 4294967295), ([], [], []))], ([], [], []))
set_option maxRecDepth 100000 in
theorem te_c218 : tj_chk tj_Lam te_s218.2.2.1 [te_s4, te_s217] zx_d_X3_likesHis te_s218.2.1 te_s218.2.2.2.1 te_s218.2.2.2.2 [] [] 3000 = true := by decide +kernel
theorem te_p218 : tj_KS1 (zx_Cl zx_mt zx_rc zx_mx' 2) tj_Lam te_s218 := tj_method te_so (d := 1) (by rw [← zx_q_X3_likesHis]; rfl) (List.forall_mem_cons.mpr ⟨tj_KS1_le (by decide) te_p4, List.forall_mem_cons.mpr ⟨tj_KS1_le (by decide) te_p217, fun _ h => absurd h List.not_mem_nil⟩⟩) (by decide +kernel) (by decide +kernel) te_c218
/-! Told.liked -/
def te_s219 : tj_C := (33, [(1, 13, 0), (0, 2147483649, 2147483652), (0, 2147483648, 2147483651)], ([], []), [([(1, 13, 0), (0, 2147483649, 2147483652), (0, 2147483648, 2147483651)], some (0, 2147483648, 4294967295), ([], [], []))], ([], [], []))
set_option maxRecDepth 100000 in
theorem te_c219 : tj_chk tj_Lam te_s219.2.2.1 [] zx_d_X10_liked te_s219.2.1 te_s219.2.2.2.1 te_s219.2.2.2.2 [] [] 3000 = true := by decide +kernel
theorem te_p219 : tj_KS1 (zx_Cl zx_mt zx_rc zx_mx' 1) tj_Lam te_s219 := tj_method te_so (d := 0) (by rw [← zx_q_X10_liked]; rfl) (fun _ h => absurd h List.not_mem_nil) (by decide +kernel) (by decide +kernel) te_c219
/-! Told.liked -/
def te_s220 : tj_C := (33, [(1, 13, 0), (0, 2147483649, 2147483652), (0, 2147483648, 2147483655)], ([], []), [([(1, 13, 0), (0, 2147483649, 2147483652), (0, 2147483648, 2147483655)], some (0, 2147483648, 4294967295), ([], [], []))], ([], [], []))
set_option maxRecDepth 100000 in
theorem te_c220 : tj_chk tj_Lam te_s220.2.2.1 [] zx_d_X10_liked te_s220.2.1 te_s220.2.2.2.1 te_s220.2.2.2.2 [] [] 3000 = true := by decide +kernel
theorem te_p220 : tj_KS1 (zx_Cl zx_mt zx_rc zx_mx' 1) tj_Lam te_s220 := tj_method te_so (d := 0) (by rw [← zx_q_X10_liked]; rfl) (fun _ h => absurd h List.not_mem_nil) (by decide +kernel) (by decide +kernel) te_c220
/-! Pairings.likesHis -/
def te_s221 : tj_C := (248, [(1, 65, 0), (0, 2147483649, 2147483652)], ([], []), [([(1, 65, 0), (0, 2147483649, 2147483652)], some (0, 2147483647, 2147483647), ([], [], [])), ([(1, 65, 0), (0, 2147483649, 2147483652)], some (0, 2147483648, 4294967295), ([], [], []))], ([], [], []))
set_option maxRecDepth 100000 in
theorem te_c221 : tj_chk tj_Lam te_s221.2.2.1 [te_s4, te_s220] zx_d_X3_likesHis te_s221.2.1 te_s221.2.2.2.1 te_s221.2.2.2.2 [] [] 3000 = true := by decide +kernel
theorem te_p221 : tj_KS1 (zx_Cl zx_mt zx_rc zx_mx' 2) tj_Lam te_s221 := tj_method te_so (d := 1) (by rw [← zx_q_X3_likesHis]; rfl) (List.forall_mem_cons.mpr ⟨tj_KS1_le (by decide) te_p4, List.forall_mem_cons.mpr ⟨tj_KS1_le (by decide) te_p220, fun _ h => absurd h List.not_mem_nil⟩⟩) (by decide +kernel) (by decide +kernel) te_c221
/-! Told.liked -/
def te_s222 : tj_C := (33, [(1, 13, 0), (0, 2147483648, 2147483652), (0, 2147483649, 2147483653)], ([], []), [([(1, 13, 0), (0, 2147483648, 2147483652), (0, 2147483649, 2147483653)], some (0, 2147483648, 4294967295), ([], [], []))], ([], [], []))
set_option maxRecDepth 100000 in
theorem te_c222 : tj_chk tj_Lam te_s222.2.2.1 [] zx_d_X10_liked te_s222.2.1 te_s222.2.2.2.1 te_s222.2.2.2.2 [] [] 3000 = true := by decide +kernel
theorem te_p222 : tj_KS1 (zx_Cl zx_mt zx_rc zx_mx' 1) tj_Lam te_s222 := tj_method te_so (d := 0) (by rw [← zx_q_X10_liked]; rfl) (fun _ h => absurd h List.not_mem_nil) (by decide +kernel) (by decide +kernel) te_c222
/-! Told.liked -/
def te_s223 : tj_C := (33, [(1, 13, 0), (0, 2147483648, 2147483652), (0, 2147483648, 2147483655)], ([], []), [([(1, 13, 0), (0, 2147483648, 2147483652), (0, 2147483648, 2147483655)], some (0, 2147483648, 4294967295), ([], [], []))], ([], [], []))
set_option maxRecDepth 100000 in
theorem te_c223 : tj_chk tj_Lam te_s223.2.2.1 [] zx_d_X10_liked te_s223.2.1 te_s223.2.2.2.1 te_s223.2.2.2.2 [] [] 3000 = true := by decide +kernel
theorem te_p223 : tj_KS1 (zx_Cl zx_mt zx_rc zx_mx' 1) tj_Lam te_s223 := tj_method te_so (d := 0) (by rw [← zx_q_X10_liked]; rfl) (fun _ h => absurd h List.not_mem_nil) (by decide +kernel) (by decide +kernel) te_c223
/-! Pairings.likesHis -/
def te_s224 : tj_C := (248, [(1, 65, 0), (0, 2147483648, 2147483652)], ([], []), [([(1, 65, 0), (0, 2147483648, 2147483652)], some (0, 2147483647, 2147483647), ([], [], [])), ([(1, 65, 0), (0, 2147483648, 2147483652)], some (0, 2147483648, 4294967295), ([], [], []))], ([], [], []))
set_option maxRecDepth 100000 in
theorem te_c224 : tj_chk tj_Lam te_s224.2.2.1 [te_s4, te_s223] zx_d_X3_likesHis te_s224.2.1 te_s224.2.2.2.1 te_s224.2.2.2.2 [] [] 3000 = true := by decide +kernel
theorem te_p224 : tj_KS1 (zx_Cl zx_mt zx_rc zx_mx' 2) tj_Lam te_s224 := tj_method te_so (d := 1) (by rw [← zx_q_X3_likesHis]; rfl) (List.forall_mem_cons.mpr ⟨tj_KS1_le (by decide) te_p4, List.forall_mem_cons.mpr ⟨tj_KS1_le (by decide) te_p223, fun _ h => absurd h List.not_mem_nil⟩⟩) (by decide +kernel) (by decide +kernel) te_c224
/-! Told.liked -/
def te_s225 : tj_C := (33, [(1, 13, 0), (0, 2147483649, 2147483653), (0, 2147483648, 2147483652)], ([], []), [([(1, 13, 0), (0, 2147483649, 2147483653), (0, 2147483648, 2147483652)], some (0, 2147483648, 4294967295), ([], [], []))], ([], [], []))
set_option maxRecDepth 100000 in
theorem te_c225 : tj_chk tj_Lam te_s225.2.2.1 [] zx_d_X10_liked te_s225.2.1 te_s225.2.2.2.1 te_s225.2.2.2.2 [] [] 3000 = true := by decide +kernel
theorem te_p225 : tj_KS1 (zx_Cl zx_mt zx_rc zx_mx' 1) tj_Lam te_s225 := tj_method te_so (d := 0) (by rw [← zx_q_X10_liked]; rfl) (fun _ h => absurd h List.not_mem_nil) (by decide +kernel) (by decide +kernel) te_c225
/-! Told.liked -/
def te_s226 : tj_C := (33, [(1, 13, 0), (0, 2147483649, 2147483653), (0, 2147483648, 2147483655)], ([], []), [([(1, 13, 0), (0, 2147483649, 2147483653), (0, 2147483648, 2147483655)], some (0, 2147483648, 4294967295), ([], [], []))], ([], [], []))
set_option maxRecDepth 100000 in
theorem te_c226 : tj_chk tj_Lam te_s226.2.2.1 [] zx_d_X10_liked te_s226.2.1 te_s226.2.2.2.1 te_s226.2.2.2.2 [] [] 3000 = true := by decide +kernel
theorem te_p226 : tj_KS1 (zx_Cl zx_mt zx_rc zx_mx' 1) tj_Lam te_s226 := tj_method te_so (d := 0) (by rw [← zx_q_X10_liked]; rfl) (fun _ h => absurd h List.not_mem_nil) (by decide +kernel) (by decide +kernel) te_c226
/-! Pairings.likesHis -/
def te_s227 : tj_C := (248, [(1, 65, 0), (0, 2147483649, 2147483653)], ([], []), [([(1, 65, 0), (0, 2147483649, 2147483653)], some (0, 2147483647, 2147483647), ([], [], [])), ([(1, 65, 0), (0, 2147483649, 2147483653)], some (0, 2147483648, 4294967295), ([], [], []))], ([], [], []))
set_option maxRecDepth 100000 in
theorem te_c227 : tj_chk tj_Lam te_s227.2.2.1 [te_s4, te_s226] zx_d_X3_likesHis te_s227.2.1 te_s227.2.2.2.1 te_s227.2.2.2.2 [] [] 3000 = true := by decide +kernel
theorem te_p227 : tj_KS1 (zx_Cl zx_mt zx_rc zx_mx' 2) tj_Lam te_s227 := tj_method te_so (d := 1) (by rw [← zx_q_X3_likesHis]; rfl) (List.forall_mem_cons.mpr ⟨tj_KS1_le (by decide) te_p4, List.forall_mem_cons.mpr ⟨tj_KS1_le (by decide) te_p226, fun _ h => absurd h List.not_mem_nil⟩⟩) (by decide +kernel) (by decide +kernel) te_c227
/-! Told.liked -/
def te_s228 : tj_C := (33, [(1, 13, 0), (0, 2147483648, 2147483653), (0, 2147483649, 2147483654)], ([], []), [([(1, 13, 0), (0, 2147483648, 2147483653), (0, 2147483649, 2147483654)], some (0, 2147483648, 4294967295), ([], [], []))], ([], [], []))
set_option maxRecDepth 100000 in
theorem te_c228 : tj_chk tj_Lam te_s228.2.2.1 [] zx_d_X10_liked te_s228.2.1 te_s228.2.2.2.1 te_s228.2.2.2.2 [] [] 3000 = true := by decide +kernel
theorem te_p228 : tj_KS1 (zx_Cl zx_mt zx_rc zx_mx' 1) tj_Lam te_s228 := tj_method te_so (d := 0) (by rw [← zx_q_X10_liked]; rfl) (fun _ h => absurd h List.not_mem_nil) (by decide +kernel) (by decide +kernel) te_c228
/-! Told.liked -/
def te_s229 : tj_C := (33, [(1, 13, 0), (0, 2147483648, 2147483653), (0, 2147483648, 2147483655)], ([], []), [([(1, 13, 0), (0, 2147483648, 2147483653), (0, 2147483648, 2147483655)], some (0, 2147483648, 4294967295), ([], [], []))], ([], [], []))
set_option maxRecDepth 100000 in
theorem te_c229 : tj_chk tj_Lam te_s229.2.2.1 [] zx_d_X10_liked te_s229.2.1 te_s229.2.2.2.1 te_s229.2.2.2.2 [] [] 3000 = true := by decide +kernel
theorem te_p229 : tj_KS1 (zx_Cl zx_mt zx_rc zx_mx' 1) tj_Lam te_s229 := tj_method te_so (d := 0) (by rw [← zx_q_X10_liked]; rfl) (fun _ h => absurd h List.not_mem_nil) (by decide +kernel) (by decide +kernel) te_c229
/-! Pairings.likesHis -/
def te_s230 : tj_C := (248, [(1, 65, 0), (0, 2147483648, 2147483653)], ([], []), [([(1, 65, 0), (0, 2147483648, 2147483653)], some (0, 2147483647, 2147483647), ([], [], [])), ([(1, 65, 0), (0, 2147483648, 2147483653)], some (0, 2147483648, 4294967295), ([], [], []))], ([], [], []))
set_option maxRecDepth 100000 in
theorem te_c230 : tj_chk tj_Lam te_s230.2.2.1 [te_s4, te_s229] zx_d_X3_likesHis te_s230.2.1 te_s230.2.2.2.1 te_s230.2.2.2.2 [] [] 3000 = true := by decide +kernel
theorem te_p230 : tj_KS1 (zx_Cl zx_mt zx_rc zx_mx' 2) tj_Lam te_s230 := tj_method te_so (d := 1) (by rw [← zx_q_X3_likesHis]; rfl) (List.forall_mem_cons.mpr ⟨tj_KS1_le (by decide) te_p4, List.forall_mem_cons.mpr ⟨tj_KS1_le (by decide) te_p229, fun _ h => absurd h List.not_mem_nil⟩⟩) (by decide +kernel) (by decide +kernel) te_c230
/-! Told.liked -/
def te_s231 : tj_C := (33, [(1, 13, 0), (0, 2147483649, 2147483654), (0, 2147483648, 2147483653)], ([], []), [([(1, 13, 0), (0, 2147483649, 2147483654), (0, 2147483648, 2147483653)], some (0, 2147483648, 4294967295), ([], [], []))], ([], [], []))
set_option maxRecDepth 100000 in
theorem te_c231 : tj_chk tj_Lam te_s231.2.2.1 [] zx_d_X10_liked te_s231.2.1 te_s231.2.2.2.1 te_s231.2.2.2.2 [] [] 3000 = true := by decide +kernel
theorem te_p231 : tj_KS1 (zx_Cl zx_mt zx_rc zx_mx' 1) tj_Lam te_s231 := tj_method te_so (d := 0) (by rw [← zx_q_X10_liked]; rfl) (fun _ h => absurd h List.not_mem_nil) (by decide +kernel) (by decide +kernel) te_c231
/-! Told.liked -/
def te_s232 : tj_C := (33, [(1, 13, 0), (0, 2147483649, 2147483654), (0, 2147483648, 2147483655)], ([], []), [([(1, 13, 0), (0, 2147483649, 2147483654), (0, 2147483648, 2147483655)], some (0, 2147483648, 4294967295), ([], [], []))], ([], [], []))
set_option maxRecDepth 100000 in
theorem te_c232 : tj_chk tj_Lam te_s232.2.2.1 [] zx_d_X10_liked te_s232.2.1 te_s232.2.2.2.1 te_s232.2.2.2.2 [] [] 3000 = true := by decide +kernel
theorem te_p232 : tj_KS1 (zx_Cl zx_mt zx_rc zx_mx' 1) tj_Lam te_s232 := tj_method te_so (d := 0) (by rw [← zx_q_X10_liked]; rfl) (fun _ h => absurd h List.not_mem_nil) (by decide +kernel) (by decide +kernel) te_c232
