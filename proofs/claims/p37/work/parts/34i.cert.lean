/-! Pairings.likesHis -/
def te_s160 : tj_C := (248, [(1, 65, 0), (0, 2147483649, 2147483651)], ([], []), [([(1, 65, 0), (0, 2147483649, 2147483651)], some (0, 2147483647, 2147483647), ([], [], [])), ([(1, 65, 0), (0, 2147483649, 2147483651)], some (0, 2147483648, 4294967295), ([], [], []))], ([], [], []))
set_option maxRecDepth 100000 in
theorem te_c160 : tj_chk tj_Lam te_s160.2.2.1 [te_s4, te_s159] zx_d_X3_likesHis te_s160.2.1 te_s160.2.2.2.1 te_s160.2.2.2.2 [] [] 3000 = true := by decide +kernel
theorem te_p160 : tj_KS1 (zx_Cl zx_mt zx_rc zx_mx' 2) tj_Lam te_s160 := tj_method te_so (d := 1) (by rw [← zx_q_X3_likesHis]; rfl) (List.forall_mem_cons.mpr ⟨tj_KS1_le (by decide) te_p4, List.forall_mem_cons.mpr ⟨tj_KS1_le (by decide) te_p159, fun _ h => absurd h List.not_mem_nil⟩⟩) (by decide +kernel) (by decide +kernel) te_c160
/-! Told.liked -/
def te_s161 : tj_C := (33, [(1, 13, 0), (0, 2147483648, 2147483651), (0, 2147483649, 2147483652)], ([], []), [([(1, 13, 0), (0, 2147483648, 2147483651), (0, 2147483649, 2147483652)], some (0, 2147483648, 4294967295), ([], [], []))], ([], [], []))
set_option maxRecDepth 100000 in
theorem te_c161 : tj_chk tj_Lam te_s161.2.2.1 [] zx_d_X10_liked te_s161.2.1 te_s161.2.2.2.1 te_s161.2.2.2.2 [] [] 3000 = true := by decide +kernel
theorem te_p161 : tj_KS1 (zx_Cl zx_mt zx_rc zx_mx' 1) tj_Lam te_s161 := tj_method te_so (d := 0) (by rw [← zx_q_X10_liked]; rfl) (fun _ h => absurd h List.not_mem_nil) (by decide +kernel) (by decide +kernel) te_c161
/-! Told.liked -/
def te_s162 : tj_C := (33, [(1, 13, 0), (0, 2147483648, 2147483651), (0, 2147483648, 2147483655)], ([], []), [([(1, 13, 0), (0, 2147483648, 2147483651), (0, 2147483648, 2147483655)], some (0, 2147483648, 4294967295), ([], [], []))], ([], [], []))
set_option maxRecDepth 100000 in
theorem te_c162 : tj_chk tj_Lam te_s162.2.2.1 [] zx_d_X10_liked te_s162.2.1 te_s162.2.2.2.1 te_s162.2.2.2.2 [] [] 3000 = true := by decide +kernel
theorem te_p162 : tj_KS1 (zx_Cl zx_mt zx_rc zx_mx' 1) tj_Lam te_s162 := tj_method te_so (d := 0) (by rw [← zx_q_X10_liked]; rfl) (fun _ h => absurd h List.not_mem_nil) (by decide +kernel) (by decide +kernel) te_c162
/-! Pairings.likesHis -/
def te_s163 : tj_C := (248, [(1, 65, 0), (0, 2147483648, 2147483651)], ([], []), [([(1, 65, 0), (0, 2147483648, 2147483651)], some (0, 2147483647, 2147483647), ([], [], [])), ([(1, 65, 0), (0, 2147483648, 2147483651)], some (0, 2147483648, 4294967295), ([], [], []))], ([], [], []))
set_option maxRecDepth 100000 in
theorem te_c163 : tj_chk tj_Lam te_s163.2.2.1 [te_s4, te_s162] zx_d_X3_likesHis te_s163.2.1 te_s163.2.2.2.1 te_s163.2.2.2.2 [] [] 3000 = true := by decide +kernel
theorem te_p163 : tj_KS1 (zx_Cl zx_mt zx_rc zx_mx' 2) tj_Lam te_s163 := tj_method te_so (d := 1) (by rw [← zx_q_X3_likesHis]; rfl) (List.forall_mem_cons.mpr ⟨tj_KS1_le (by decide) te_p4, List.forall_mem_cons.mpr ⟨tj_KS1_le (by decide) te_p162, fun _ h => absurd h List.not_mem_nil⟩⟩) (by decide +kernel) (by decide +kernel) te_c163
/-! Told.liked -/
def te_s164 : tj_C := (33, [(1, 13, 0), (0, 2147483649, 2147483652), (0, 2147483648, 2147483651)], ([], []), [([(1, 13, 0), (0, 2147483649, 2147483652), (0, 2147483648, 2147483651)], some (0, 2147483648, 4294967295), ([], [], []))], ([], [], []))
set_option maxRecDepth 100000 in
theorem te_c164 : tj_chk tj_Lam te_s164.2.2.1 [] zx_d_X10_liked te_s164.2.1 te_s164.2.2.2.1 te_s164.2.2.2.2 [] [] 3000 = true := by decide +kernel
theorem te_p164 : tj_KS1 (zx_Cl zx_mt zx_rc zx_mx' 1) tj_Lam te_s164 := tj_method te_so (d := 0) (by rw [← zx_q_X10_liked]; rfl) (fun _ h => absurd h List.not_mem_nil) (by decide +kernel) (by decide +kernel) te_c164
/-! Told.liked -/
def te_s165 : tj_C := (33, [(1, 13, 0), (0, 2147483649, 2147483652), (0, 2147483648, 2147483655)], ([], []), [([(1, 13, 0), (0, 2147483649, 2147483652), (0, 2147483648, 2147483655)], some (0, 2147483648, 4294967295), ([], [], []))], ([], [], []))
set_option maxRecDepth 100000 in
theorem te_c165 : tj_chk tj_Lam te_s165.2.2.1 [] zx_d_X10_liked te_s165.2.1 te_s165.2.2.2.1 te_s165.2.2.2.2 [] [] 3000 = true := by decide +kernel
theorem te_p165 : tj_KS1 (zx_Cl zx_mt zx_rc zx_mx' 1) tj_Lam te_s165 := tj_method te_so (d := 0) (by rw [← zx_q_X10_liked]; rfl) (fun _ h => absurd h List.not_mem_nil) (by decide +kernel) (by decide +kernel) te_c165
/-! Pairings.likesHis -/
def te_s166 : tj_C := (248, [(1, 65, 0), (0, 2147483649, 2147483652)], ([], []), [([(1, 65, 0), (0, 2147483649, 2147483652)], some (0, 2147483647, 2147483647), ([], [], [])), ([(1, 65, 0), (0, 2147483649, 2147483652)], some (0, 2147483648, 4294967295), ([], [], []))], ([], [], []))
set_option maxRecDepth 100000 in
theorem te_c166 : tj_chk tj_Lam te_s166.2.2.1 [te_s4, te_s165] zx_d_X3_likesHis te_s166.2.1 te_s166.2.2.2.1 te_s166.2.2.2.2 [] [] 3000 = true := by decide +kernel
theorem te_p166 : tj_KS1 (zx_Cl zx_mt zx_rc zx_mx' 2) tj_Lam te_s166 := tj_method te_so (d := 1) (by rw [← zx_q_X3_likesHis]; rfl) (List.forall_mem_cons.mpr ⟨tj_KS1_le (by decide) te_p4, List.forall_mem_cons.mpr ⟨tj_KS1_le (by decide) te_p165, fun _ h => absurd h List.not_mem_nil⟩⟩) (by decide +kernel) (by decide +kernel) te_c166
/-! Told.liked -/
def te_s167 : tj_C := (33, [(1, 13, 0), (0, 2147483648, 2147483652), (0, 2147483649, 2147483653)], ([], []), [([(1, 13, 0), (0, 2147483648, 2147483652), (0, 2147483649, 2147483653)], some (0, 2147483648, 4294967295), ([], [], []))], ([], [], []))
set_option maxRecDepth 100000 in
theorem te_c167 : tj_chk tj_Lam te_s167.2.2.1 [] zx_d_X10_liked te_s167.2.1 te_s167.2.2.2.1 te_s167.2.2.2.2 [] [] 3000 = true := by decide +kernel
theorem te_p167 : tj_KS1 (zx_Cl zx_mt zx_rc zx_mx' 1) tj_Lam te_s167 := tj_method te_so (d := 0) (by rw [← zx_q_X10_liked]; rfl) (fun _ h => absurd h List.not_mem_nil) (by decide +kernel) (by decide +kernel) te_c167
/-! Told.liked -/
def te_s168 : tj_C := (33, [(1, 13, 0), (0, 2147483648, 2147483652), (0, 2147483648, 2147483655)], ([], []), [([(1, 13, 0), (0, 2147483648, 2147483652), (0, 2147483648, 2147483655)], some (0, 2147483648, 4294967295), ([], [], []))], ([], [], []))
set_option maxRecDepth 100000 in
theorem te_c168 : tj_chk tj_Lam te_s168.2.2.1 [] zx_d_X10_liked te_s168.2.1 te_s168.2.2.2.1 te_s168.2.2.2.2 [] [] 3000 = true := by decide +kernel
theorem te_p168 : tj_KS1 (zx_Cl zx_mt zx_rc zx_mx' 1) tj_Lam te_s168 := tj_method te_so (d := 0) (by rw [← zx_q_X10_liked]; rfl) (fun _ h => absurd h List.not_mem_nil) (by decide +kernel) (by decide +kernel) te_c168
/-! Pairings.likesHis -/
def te_s169 : tj_C := (248, [(1, 65, 0), (0, 2147483648, 2147483652)], ([], []), [([(1, 65, 0), (0, 2147483648, 2147483652)], some (0, 2147483647, 2147483647), ([], [], [])), ([(1, 65, 0), (0, 2147483648, 2147483652)], some (0, 2147483648, 4294967295), ([], [], []))], ([], [], []))
set_option maxRecDepth 100000 in
theorem te_c169 : tj_chk tj_Lam te_s169.2.2.1 [te_s4, te_s168] zx_d_X3_likesHis te_s169.2.1 te_s169.2.2.2.1 te_s169.2.2.2.2 [] [] 3000 = true := by decide +kernel
theorem te_p169 : tj_KS1 (zx_Cl zx_mt zx_rc zx_mx' 2) tj_Lam te_s169 := tj_method te_so (d := 1) (by rw [← zx_q_X3_likesHis]; rfl) (List.forall_mem_cons.mpr ⟨tj_KS1_le (by decide) te_p4, List.forall_mem_cons.mpr ⟨tj_KS1_le (by decide) te_p168, fun _ h => absurd h List.not_mem_nil⟩⟩) (by decide +kernel) (by decide +kernel) te_c169
/-! Told.liked -/
def te_s170 : tj_C := (33, [(1, 13, 0), (0, 2147483649, 2147483653), (0, 2147483648, 2147483652)], ([], []), [([(1, 13, 0), (0, 2147483649, 2147483653), (0, 2147483648, 2147483652)], some (0, 2147483648, 4294967295), ([], [], []))], ([], [], []))
set_option maxRecDepth 100000 in
theorem te_c170 : tj_chk tj_Lam te_s170.2.2.1 [] zx_d_X10_liked te_s170.2.1 te_s170.2.2.2.1 te_s170.2.2.2.2 [] [] 3000 = true := by decide +kernel
theorem te_p170 : tj_KS1 (zx_Cl zx_mt zx_rc zx_mx' 1) tj_Lam te_s170 := tj_method te_so (d := 0) (by rw [← zx_q_X10_liked]; rfl) (fun _ h => absurd h List.not_mem_nil) (by decide +kernel) (by decide +kernel) te_c170
/-! Told.liked -/
def te_s171 : tj_C := (33, [(1, 13, 0), (0, 2147483649, 2147483653), (0, 2147483648, 2147483655)], ([], []), [([(1, 13, 0), (0, 2147483649, 2147483653), (0, 2147483648, 2147483655)], some (0, 2147483648, 4294967295), ([], [], []))], ([], [], []))
set_option maxRecDepth 100000 in
theorem te_c171 : tj_chk tj_Lam te_s171.2.2.1 [] zx_d_X10_liked te_s171.2.1 te_s171.2.2.2.1 te_s171.2.2.2.2 [] [] 3000 = true := by decide +kernel
theorem te_p171 : tj_KS1 (zx_Cl zx_mt zx_rc zx_mx' 1) tj_Lam te_s171 := tj_method te_so (d := 0) (by rw [← zx_q_X10_liked]; rfl) (fun _ h => absurd h List.not_mem_nil) (by decide +kernel) (by decide +kernel) te_c171
/-! Pairings.likesHis -/
def te_s172 : tj_C := (248, [(1, 65, 0), (0, 2147483649, 2147483653)], ([], []), [([(1, 65, 0), (0, 2147483649, 2147483653)], some (0, 2147483647, 2147483647), ([], [], [])), ([(1, 65, 0), (0, 2147483649, 2147483653)], some (0, 2147483648, 4294967295), ([], [], []))], ([], [], []))
set_option maxRecDepth 100000 in
theorem te_c172 : tj_chk tj_Lam te_s172.2.2.1 [te_s4, te_s171] zx_d_X3_likesHis te_s172.2.1 te_s172.2.2.2.1 te_s172.2.2.2.2 [] [] 3000 = true := by decide +kernel
theorem te_p172 : tj_KS1 (zx_Cl zx_mt zx_rc zx_mx' 2) tj_Lam te_s172 := tj_method te_so (d := 1) (by rw [← zx_q_X3_likesHis]; rfl) (List.forall_mem_cons.mpr ⟨tj_KS1_le (by decide) te_p4, List.forall_mem_cons.mpr ⟨tj_KS1_le (by decide) te_p171, fun _ h => absurd h List.not_mem_nil⟩⟩) (by decide +kernel) (by decide +kernel) te_c172
/-! Told.liked -/
def te_s173 : tj_C := (33, [(1, 13, 0), (0, 2147483648, 2147483653), (0, 2147483649, 2147483654)], ([], []), [([(1, 13, 0), (0, 2147483648, 2147483653), (0, 2147483649, 2147483654)], some (0, 2147483648, 4294967295), ([], [], []))], ([], [], []))
set_option maxRecDepth 100000 in
theorem te_c173 : tj_chk tj_Lam te_s173.2.2.1 [] zx_d_X10_liked te_s173.2.1 te_s173.2.2.2.1 te_s173.2.2.2.2 [] [] 3000 = true := by decide +kernel
theorem te_p173 : tj_KS1 (zx_Cl zx_mt zx_rc zx_mx' 1) tj_Lam te_s173 := tj_method te_so (d := 0) (by rw [← zx_q_X10_liked]; rfl) (fun _ h => absurd h List.not_mem_nil) (by decide +kernel) (by decide +kernel) te_c173
/-! Told.liked -/
def te_s174 : tj_C := (33, [(1, 13, 0), (0, 2147483648, 2147483653), (0, 2147483648, 2147483655)], ([], []), [([(1, 13, 0), (0, 2147483648, 2147483653), (0, 2147483648, 2147483655)], some (0, 2147483648, 4294967295), ([], [], []))], ([], [], []))
set_option maxRecDepth 100000 in
theorem te_c174 : tj_chk tj_Lam te_s174.2.2.1 [] zx_d_X10_liked te_s174.2.1 te_s174.2.2.2.1 te_s174.2.2.2.2 [] [] 3000 = true := by decide +kernel
theorem te_p174 : tj_KS1 (zx_Cl zx_mt zx_rc zx_mx' 1) tj_Lam te_s174 := tj_method te_so (d := 0) (by rw [← zx_q_X10_liked]; rfl) (fun _ h => absurd h List.not_mem_nil) (by decide +kernel) (by decide +kernel) te_c174
/-! Pairings.likesHis -/
def te_s175 : tj_C := (248, [(1, 65, 0), (0, 2147483648, 2147483653)], ([], []), [([(1, 65, 0), (0, 2147483648, 2147483653)], some (0, 2147483647, 2147483647), ([], [], [])), ([(1, 65, 0), (0, 2147483648, 2147483653)], some (0, 2147483648, 4294967295), ([], [], []))], ([], [], []))
set_option maxRecDepth 100000 in
theorem te_c175 : tj_chk tj_Lam te_s175.2.2.1 [te_s4, te_s174] zx_d_X3_likesHis te_s175.2.1 te_s175.2.2.2.1 te_s175.2.2.2.2 [] [] 3000 = true := by decide +kernel
theorem te_p175 : tj_KS1 (zx_Cl zx_mt zx_rc zx_mx' 2) tj_Lam te_s175 := tj_method te_so (d := 1) (by rw [← zx_q_X3_likesHis]; rfl) (List.forall_mem_cons.mpr ⟨tj_KS1_le (by decide) te_p4, List.forall_mem_cons.mpr ⟨tj_KS1_le (by decide) te_p174, fun _ h => absurd h List.not_mem_nil⟩⟩) (by decide +kernel) (by decide +kernel) te_c175
/-! Told.liked -/
def te_s176 : tj_C := (33, [(1, 13, 0), (0, 2147483649, 2147483654), (0, 2147483648, 2147483653)], ([], []), [([(1, 13, 0), (0, 2147483649, 2147483654), (0, 2147483648, 2147483653)], some (0, 2147483648, 4294967295), ([], [], []))], ([], [], []))
set_option maxRecDepth 100000 in
theorem te_c176 : tj_chk tj_Lam te_s176.2.2.1 [] zx_d_X10_liked te_s176.2.1 te_s176.2.2.2.1 te_s176.2.2.2.2 [] [] 3000 = true := by decide +kernel
theorem te_p176 : tj_KS1 (zx_Cl zx_mt zx_rc zx_mx' 1) tj_Lam te_s176 := tj_method te_so (d := 0) (by rw [← zx_q_X10_liked]; rfl) (fun _ h => absurd h List.not_mem_nil) (by decide +kernel) (by decide +kernel) te_c176
/-! Told.liked -/
def te_s177 : tj_C := (33, [(1, 13, 0), (0, 2147483649, 2147483654), (0, 2147483648, 2147483655)], ([], []), [([(1, 13, 0), (0, 2147483649, 2147483654), (0, 2147483648, 2147483655)], some (0, 2147483648, 4294967295), ([], [], []))], ([], [], []))
set_option maxRecDepth 100000 in
theorem te_c177 : tj_chk tj_Lam te_s177.2.2.1 [] zx_d_X10_liked te_s177.2.1 te_s177.2.2.2.1 te_s177.2.2.2.2 [] [] 3000 = true := by decide +kernel
theorem te_p177 : tj_KS1 (zx_Cl zx_mt zx_rc zx_mx' 1) tj_Lam te_s177 := tj_method te_so (d := 0) (by rw [← zx_q_X10_liked]; rfl) (fun _ h => absurd h List.not_mem_nil) (by decide +kernel) (by decide +kernel) te_c177
/-! Pairings.likesHis -/
def te_s178 : tj_C := (248, [(1, 65, 0), (0, 2147483649, 2147483654)], ([], []), [([(1, 65, 0), (0, 2147483649, 2147483654)], some (0, 2147483647, 2147483647), ([], [], [])), ([(1, 65, 0), (0, 2147483649, 2147483654)], some (0, 2147483648, 4294967295), ([], [], []))], ([], [], []))
set_option maxRecDepth 100000 in
theorem te_c178 : tj_chk tj_Lam te_s178.2.2.1 [te_s4, te_s177] zx_d_X3_likesHis te_s178.2.1 te_s178.2.2.2.1 te_s178.2.2.2.2 [] [] 3000 = true := by decide +kernel
theorem te_p178 : tj_KS1 (zx_Cl zx_mt zx_rc zx_mx' 2) tj_Lam te_s178 := tj_method te_so (d := 1) (by rw [← zx_q_X3_likesHis]; rfl) (List.forall_mem_cons.mpr ⟨tj_KS1_le (by decide) te_p4, List.forall_mem_cons.mpr ⟨tj_KS1_le (by decide) te_p177, fun _ h => absurd h List.not_mem_nil⟩⟩) (by decide +kernel) (by decide +kernel) te_c178
/-! Told.liked -/
def te_s179 : tj_C := (33, [(1, 13, 0), (0, 2147483648, 2147483654), (0, 2147483649, 2147483655)], ([], []), [([(1, 13, 0), (0, 2147483648, 2147483654), (0, 2147483649, 2147483655)], some (0, 2147483648, 4294967295), ([], [], []))], ([], [], []))
set_option maxRecDepth 100000 in
theorem te_c179 : tj_chk tj_Lam te_s179.2.2.1 [] zx_d_X10_liked te_s179.2.1 te_s179.2.2.2.1 te_s179.2.2.2.2 [] [] 3000 = true := by decide +kernel
theorem te_p179 : tj_KS1 (zx_Cl zx_mt zx_rc zx_mx' 1) tj_Lam te_s179 := tj_method te_so (d := 0) (by rw [← zx_q_X10_liked]; rfl) (fun _ h => absurd h List.not_mem_nil) (by decide +kernel) (by decide +kernel) te_c179
/-! Told.liked -/
def te_s180 : tj_C := (33, [(1, 13, 0), (0, 2147483648, 2147483654), (0, 2147483648, 2147483655)], ([], []), [([(1, 13, 0), (0, 2147483648, 2147483654), (0, 2147483648, 2147483655)], some (0, 2147483648, 4294967295), ([], [], []))], ([], [], []))
set_option maxRecDepth 100000 in
theorem te_c180 : tj_chk tj_Lam te_s180.2.2.1 [] zx_d_X10_liked te_s180.2.1 te_s180.2.2.2.1 te_s180.2.2.2.2 [] [] 3000 = true := by decide +kernel
theorem te_p180 : tj_KS1 (zx_Cl zx_mt zx_rc zx_mx' 1) tj_Lam te_s180 := tj_method te_so (d := 0) (by rw [← zx_q_X10_liked]; rfl) (fun _ h => absurd h List.not_mem_nil) (by decide +kernel) (by decide +kernel) te_c180
/-! Pairings.likesHis -/
def te_s181 : tj_C := (248, [(1, 65, 0), (0, 2147483648, 2147483654)], ([], []), [([(1, 65, 0), (0, 2147483648, 2147483654)], some (0, 2147483647, 2147483647), ([], [], [])), ([(1, 65, 0), (0, 2147483648, 2147483654)], some (0, 2147483648, 4294967295), ([], [], []))], ([], [], []))
set_option maxRecDepth 100000 in
theorem te_c181 : tj_chk tj_Lam te_s181.2.2.1 [te_s4, te_s180] zx_d_X3_likesHis te_s181.2.1 te_s181.2.2.2.1 te_s181.2.2.2.2 [] [] 3000 = true := by decide +kernel
theorem te_p181 : tj_KS1 (zx_Cl zx_mt zx_rc zx_mx' 2) tj_Lam te_s181 := tj_method te_so (d := 1) (by rw [← zx_q_X3_likesHis]; rfl) (List.forall_mem_cons.mpr ⟨tj_KS1_le (by decide) te_p4, List.forall_mem_cons.mpr ⟨tj_KS1_le (by decide) te_p180, fun _ h => absurd h List.not_mem_nil⟩⟩) (by decide +kernel) (by decide +kernel) te_c181
/-! Told.liked -/
def te_s182 : tj_C := (33, [(1, 13, 0), (0, 2147483649, 2147483655), (0, 2147483648, 2147483654)], ([], []), [([(1, 13, 0), (0, 2147483649, 2147483655), (0, 2147483648, 2147483654)], some (0, 2147483648, 4294967295), ([], [], []))], ([], [], []))
set_option maxRecDepth 100000 in
theorem te_c182 : tj_chk tj_Lam te_s182.2.2.1 [] zx_d_X10_liked te_s182.2.1 te_s182.2.2.2.1 te_s182.2.2.2.2 [] [] 3000 = true := by decide +kernel
theorem te_p182 : tj_KS1 (zx_Cl zx_mt zx_rc zx_mx' 1) tj_Lam te_s182 := tj_method te_so (d := 0) (by rw [← zx_q_X10_liked]; rfl) (fun _ h => absurd h List.not_mem_nil) (by decide +kernel) (by decide +kernel) te_c182
/-! Told.liked -/
def te_s183 : tj_C := (33, [(1, 13, 0), (0, 2147483649, 2147483655), (0, 2147483648, 2147483655)], ([], []), [([(1, 13, 0), (0, 2147483649, 2147483655), (0, 2147483648, 2147483655)], some (0, 2147483648, 4294967295), ([], [], []))], ([], [], []))
set_option maxRecDepth 100000 in
theorem te_c183 : tj_chk tj_Lam te_s183.2.2.1 [] zx_d_X10_liked te_s183.2.1 te_s183.2.2.2.1 te_s183.2.2.2.2 [] [] 3000 = true := by decide +kernel
theorem te_p183 : tj_KS1 (zx_Cl zx_mt zx_rc zx_mx' 1) tj_Lam te_s183 := tj_method te_so (d := 0) (by rw [← zx_q_X10_liked]; rfl) (fun _ h => absurd h List.not_mem_nil) (by decide +kernel) (by decide +kernel) te_c183
/-! Pairings.likesHis -/
def te_s184 : tj_C := (248, [(1, 65, 0), (0, 2147483649, 2147483655)], ([], []), [([(1, 65, 0), (0, 2147483649, 2147483655)], some (0, 2147483647, 2147483647), ([], [], [])), ([(1, 65, 0), (0, 2147483649, 2147483655)], some (0, 2147483648, 4294967295), ([], [], []))], ([], [], []))
set_option maxRecDepth 100000 in
theorem te_c184 : tj_chk tj_Lam te_s184.2.2.1 [te_s4, te_s183] zx_d_X3_likesHis te_s184.2.1 te_s184.2.2.2.1 te_s184.2.2.2.2 [] [] 3000 = true := by decide +kernel
theorem te_p184 : tj_KS1 (zx_Cl zx_mt zx_rc zx_mx' 2) tj_Lam te_s184 := tj_method te_so (d := 1) (by rw [← zx_q_X3_likesHis]; rfl) (List.forall_mem_cons.mpr ⟨tj_KS1_le (by decide) te_p4, List.forall_mem_cons.mpr ⟨tj_KS1_le (by decide) te_p183, fun _ h => absurd h List.not_mem_nil⟩⟩) (by decide +kernel) (by decide +kernel) te_c184
/-! Told.liked -/
def te_s185 : tj_C := (33, [(1, 13, 0), (0, 2147483648, 2147483655), (0, 2147483649, 2147483655)], ([], []), [([(1, 13, 0), (0, 2147483648, 2147483655), (0, 2147483649, 2147483655)], some (0, 2147483648, 4294967295), ([], [], []))], ([], [], []))
set_option maxRecDepth 100000 in
theorem te_c185 : tj_chk tj_Lam te_s185.2.2.1 [] zx_d_X10_liked te_s185.2.1 te_s185.2.2.2.1 te_s185.2.2.2.2 [] [] 3000 = true := by decide +kernel
theorem te_p185 : tj_KS1 (zx_Cl zx_mt zx_rc zx_mx' 1) tj_Lam te_s185 := tj_method te_so (d := 0) (by rw [← zx_q_X10_liked]; rfl) (fun _ h => absurd h List.not_mem_nil) (by decide +kernel) (by decide +kernel) te_c185
/-! Told.liked -/
def te_s186 : tj_C := (33, [(1, 13, 0), (0, 2147483648, 2147483655), (0, 2147483648, 2147483655)], ([], []), [([(1, 13, 0), (0, 2147483648, 2147483655), (0, 2147483648, 2147483655)], some (0, 2147483648, 4294967295), ([], [], []))], ([], [], []))
set_option maxRecDepth 100000 in
theorem te_c186 : tj_chk tj_Lam te_s186.2.2.1 [] zx_d_X10_liked te_s186.2.1 te_s186.2.2.2.1 te_s186.2.2.2.2 [] [] 3000 = true := by decide +kernel
theorem te_p186 : tj_KS1 (zx_Cl zx_mt zx_rc zx_mx' 1) tj_Lam te_s186 := tj_method te_so (d := 0) (by rw [← zx_q_X10_liked]; rfl) (fun _ h => absurd h List.not_mem_nil) (by decide +kernel) (by decide +kernel) te_c186
/-! Pairings.likesHis -/
def te_s187 : tj_C := (248, [(1, 65, 0), (0, 2147483648, 2147483655)], ([], []), [([(1, 65, 0), (0, 2147483648, 2147483655)], some (0, 2147483647, 2147483647), ([], [], [])), ([(1, 65, 0), (0, 2147483648, 2147483655)], some (0, 2147483648, 4294967295), ([], [], []))], ([], [], []))
set_option maxRecDepth 100000 in
theorem te_c187 : tj_chk tj_Lam te_s187.2.2.1 [te_s4, te_s186] zx_d_X3_likesHis te_s187.2.1 te_s187.2.2.2.1 te_s187.2.2.2.2 [] [] 3000 = true := by decide +kernel
theorem te_p187 : tj_KS1 (zx_Cl zx_mt zx_rc zx_mx' 2) tj_Lam te_s187 := tj_method te_so (d := 1) (by rw [← zx_q_X3_likesHis]; rfl) (List.forall_mem_cons.mpr ⟨tj_KS1_le (by decide) te_p4, List.forall_mem_cons.mpr ⟨tj_KS1_le (by decide) te_p186, fun _ h => absurd h List.not_mem_nil⟩⟩) (by decide +kernel) (by decide +kernel) te_c187
/-! Pairings.isFast -/
def te_s188 : tj_C := (245, [(1, 65, 0)], ([], []), [([(1, 65, 0)], some (0, 2147483648, 2147483648), ([], [], [])), ([(1, 65, 0)], some (0, 2147483649, 2147483649), ([], [], []))], ([], [], []))
set_option maxRecDepth 100000 in
theorem te_c188 : tj_chk tj_Lam te_s188.2.2.1 [te_s143, te_s145, te_s146, te_s148, te_s149, te_s151, te_s152, te_s154, te_s155, te_s157, te_s158, te_s160, te_s161, te_s163, te_s164, te_s166, te_s167, te_s169, te_s170, te_s172, te_s173, te_s175, te_s176, te_s178, te_s179, te_s181, te_s182, te_s183, te_s184, te_s185, te_s187] zx_d_X3_isFast te_s188.2.1 te_s188.2.2.2.1 te_s188.2.2.2.2 [((17, [(0, .inr 0), (1, .inr 1), (2, .inr 2)], [], [(1, 65, 0), (0, 2147483648, 2147483655), (0, 2147483649, 2147483656), (1, 13, 0), (0, 2147483649, 2147483656)], [(0, .inr 0, .inl 0, .inr 3), (0, .inr 3, .inl 0, .inr 4)]), [.inl 1, .inl 2, .inr (0, 0), .inr (3, 0)], [(0, 0), (1, 1), (0, 0), (1, 2), (0, 0)]), ((2, [(0, .inr 0), (1, .inr 1)], [], [(1, 65, 0), (0, 2147483648, 2147483656)], []), [.inl 1], [(0, 0), (1, 1), (0, 1), (0, 0), (0, 0)])] [2, 17] 3000 = true := by decide +kernel
theorem te_p188 : tj_KS1 (zx_Cl zx_mt zx_rc zx_mx' 3) tj_Lam te_s188 := tj_method te_so (d := 2) (by rw [← zx_q_X3_isFast]; rfl) (List.forall_mem_cons.mpr ⟨tj_KS1_le (by decide) te_p143, List.forall_mem_cons.mpr ⟨tj_KS1_le (by decide) te_p145, List.forall_mem_cons.mpr ⟨tj_KS1_le (by decide) te_p146, List.forall_mem_cons.mpr ⟨tj_KS1_le (by decide) te_p148, List.forall_mem_cons.mpr ⟨tj_KS1_le (by decide) te_p149, List.forall_mem_cons.mpr ⟨tj_KS1_le (by decide) te_p151, List.forall_mem_cons.mpr ⟨tj_KS1_le (by decide) te_p152, List.forall_mem_cons.mpr ⟨tj_KS1_le (by decide) te_p154, List.forall_mem_cons.mpr ⟨tj_KS1_le (by decide) te_p155, List.forall_mem_cons.mpr ⟨tj_KS1_le (by decide) te_p157, List.forall_mem_cons.mpr ⟨tj_KS1_le (by decide) te_p158, List.forall_mem_cons.mpr ⟨tj_KS1_le (by decide) te_p160, List.forall_mem_cons.mpr ⟨tj_KS1_le (by decide) te_p161, List.forall_mem_cons.mpr ⟨tj_KS1_le (by decide) te_p163, List.forall_mem_cons.mpr ⟨tj_KS1_le (by decide) te_p164, List.forall_mem_cons.mpr ⟨tj_KS1_le (by decide) te_p166, List.forall_mem_cons.mpr ⟨tj_KS1_le (by decide) te_p167, List.forall_mem_cons.mpr ⟨tj_KS1_le (by decide) te_p169, List.forall_mem_cons.mpr ⟨tj_KS1_le (by decide) te_p170, List.forall_mem_cons.mpr ⟨tj_KS1_le (by decide) te_p172, List.forall_mem_cons.mpr ⟨tj_KS1_le (by decide) te_p173, List.forall_mem_cons.mpr ⟨tj_KS1_le (by decide) te_p175, List.forall_mem_cons.mpr ⟨tj_KS1_le (by decide) te_p176, List.forall_mem_cons.mpr ⟨tj_KS1_le (by decide) te_p178, List.forall_mem_cons.mpr ⟨tj_KS1_le (by decide) te_p179, List.forall_mem_cons.mpr ⟨tj_KS1_le (by decide) te_p181, List.forall_mem_cons.mpr ⟨tj_KS1_le (by decide) te_p182, List.forall_mem_cons.mpr ⟨tj_KS1_le (by decide) te_p183, List.forall_mem_cons.mpr ⟨tj_KS1_le (by decide) te_p184, List.forall_mem_cons.mpr ⟨tj_KS1_le (by decide) te_p185, List.forall_mem_cons.mpr ⟨tj_KS1_le (by decide) te_p187, fun _ h => absurd h List.not_mem_nil⟩⟩⟩⟩⟩⟩⟩⟩⟩⟩⟩⟩⟩⟩⟩⟩⟩⟩⟩⟩⟩⟩⟩⟩⟩⟩⟩⟩⟩⟩⟩) (by decide +kernel) (by decide +kernel) te_c188
/-! Pairings.judge -/
def te_s189 : tj_C := (247, [(1, 65, 0)], ([(65, 5), (65, 6), (65, 7), (65, 8)], [64, 63]), [([(1, 65, 0)], none, ([.inr (0, 5)], [(0, 2147483649, 2147483649)], [(0, .inr 0, .inl 5, .inr 1)]))], ([], [], []))
set_option maxRecDepth 100000 in
theorem te_c189 : tj_chk tj_Lam te_s189.2.2.1 [te_s145, te_s151, te_s157, te_s163, te_s169, te_s175, te_s181, te_s187, te_s188] zx_d_X3_judge te_s189.2.1 te_s189.2.2.2.1 te_s189.2.2.2.2 [((4, [(0, .inr 0), (1, .inr 1), (2, .inr 2)], [], [(1, 65, 0), (0, 0, 4294967295), (0, 2147483648, 2147483656), (0, 2147483648, 2147483649), (0, 0, 4294967295), (0, 0, 4294967295), (0, 0, 4294967295)], [(0, .inr 0, .inl 5, .inr 3), (0, .inr 0, .inl 6, .inr 4), (0, .inr 0, .inl 7, .inr 5), (0, .inr 0, .inl 8, .inr 6)]), [.inl 1, .inl 2, .inr (0, 5), .inr (0, 6), .inr (0, 7), .inr (0, 8)], [(0, 0), (1, 2), (0, 0)])] [4] 3000 = true := by decide +kernel
theorem te_p189 : tj_KS1 (zx_Cl zx_mt zx_rc zx_mx' 4) tj_Lam te_s189 := tj_method te_so (d := 3) (by rw [← zx_q_X3_judge]; rfl) (List.forall_mem_cons.mpr ⟨tj_KS1_le (by decide) te_p145, List.forall_mem_cons.mpr ⟨tj_KS1_le (by decide) te_p151, List.forall_mem_cons.mpr ⟨tj_KS1_le (by decide) te_p157, List.forall_mem_cons.mpr ⟨tj_KS1_le (by decide) te_p163, List.forall_mem_cons.mpr ⟨tj_KS1_le (by decide) te_p169, List.forall_mem_cons.mpr ⟨tj_KS1_le (by decide) te_p175, List.forall_mem_cons.mpr ⟨tj_KS1_le (by decide) te_p181, List.forall_mem_cons.mpr ⟨tj_KS1_le (by decide) te_p187, List.forall_mem_cons.mpr ⟨tj_KS1_le (by decide) te_p188, fun _ h => absurd h List.not_mem_nil⟩⟩⟩⟩⟩⟩⟩⟩⟩) (by decide +kernel) (by decide +kernel) te_c189
/-! Pairings.isOpen -/
def te_s190 : tj_C := (246, [(1, 65, 0), (0, 2147483648, 2147483648)], ([], []), [([(1, 65, 0), (0, 2147483648, 2147483648)], some (0, 2147483648, 2147483648), ([], [], [])), ([(1, 65, 0), (0, 2147483648, 2147483648)], some (0, 2147483649, 2147483649), ([], [], []))], ([], [], []))
set_option maxRecDepth 100000 in
theorem te_c190 : tj_chk tj_Lam te_s190.2.2.1 [] zx_d_X3_isOpen te_s190.2.1 te_s190.2.2.2.1 te_s190.2.2.2.2 [] [] 3000 = true := by decide +kernel
theorem te_p190 : tj_KS1 (zx_Cl zx_mt zx_rc zx_mx' 1) tj_Lam te_s190 := tj_method te_so (d := 0) (by rw [← zx_q_X3_isOpen]; rfl) (fun _ h => absurd h List.not_mem_nil) (by decide +kernel) (by decide +kernel) te_c190
/-! Pairings.isOpen -/
def te_s191 : tj_C := (246, [(1, 65, 0), (0, 2147483648, 2147483649)], ([], []), [([(1, 65, 0), (0, 2147483648, 2147483649)], some (0, 2147483648, 2147483648), ([], [], [])), ([(1, 65, 0), (0, 2147483648, 2147483649)], some (0, 2147483649, 2147483649), ([], [], []))], ([], [], []))
set_option maxRecDepth 100000 in
theorem te_c191 : tj_chk tj_Lam te_s191.2.2.1 [] zx_d_X3_isOpen te_s191.2.1 te_s191.2.2.2.1 te_s191.2.2.2.2 [] [] 3000 = true := by decide +kernel
theorem te_p191 : tj_KS1 (zx_Cl zx_mt zx_rc zx_mx' 1) tj_Lam te_s191 := tj_method te_so (d := 0) (by rw [← zx_q_X3_isOpen]; rfl) (fun _ h => absurd h List.not_mem_nil) (by decide +kernel) (by decide +kernel) te_c191
/-! Pairings.isOpen -/
def te_s192 : tj_C := (246, [(1, 65, 0), (0, 2147483649, 2147483650)], ([], []), [([(1, 65, 0), (0, 2147483649, 2147483650)], some (0, 2147483648, 2147483648), ([], [], [])), ([(1, 65, 0), (0, 2147483649, 2147483650)], some (0, 2147483649, 2147483649), ([], [], []))], ([], [], []))
set_option maxRecDepth 100000 in
theorem te_c192 : tj_chk tj_Lam te_s192.2.2.1 [] zx_d_X3_isOpen te_s192.2.1 te_s192.2.2.2.1 te_s192.2.2.2.2 [] [] 3000 = true := by decide +kernel
theorem te_p192 : tj_KS1 (zx_Cl zx_mt zx_rc zx_mx' 1) tj_Lam te_s192 := tj_method te_so (d := 0) (by rw [← zx_q_X3_isOpen]; rfl) (fun _ h => absurd h List.not_mem_nil) (by decide +kernel) (by decide +kernel) te_c192
/-! Pairings.isOpen -/
def te_s193 : tj_C := (246, [(1, 65, 0), (0, 2147483650, 2147483651)], ([], []), [([(1, 65, 0), (0, 2147483650, 2147483651)], some (0, 2147483648, 2147483648), ([], [], [])), ([(1, 65, 0), (0, 2147483650, 2147483651)], some (0, 2147483649, 2147483649), ([], [], []))], ([], [], []))
set_option maxRecDepth 100000 in
theorem te_c193 : tj_chk tj_Lam te_s193.2.2.1 [] zx_d_X3_isOpen te_s193.2.1 te_s193.2.2.2.1 te_s193.2.2.2.2 [] [] 3000 = true := by decide +kernel
theorem te_p193 : tj_KS1 (zx_Cl zx_mt zx_rc zx_mx' 1) tj_Lam te_s193 := tj_method te_so (d := 0) (by rw [← zx_q_X3_isOpen]; rfl) (fun _ h => absurd h List.not_mem_nil) (by decide +kernel) (by decide +kernel) te_c193
/-! Pairings.isOpen -/
def te_s194 : tj_C := (246, [(1, 65, 0), (0, 2147483651, 2147483652)], ([], []), [([(1, 65, 0), (0, 2147483651, 2147483652)], some (0, 2147483648, 2147483648), ([], [], [])), ([(1, 65, 0), (0, 2147483651, 2147483652)], some (0, 2147483649, 2147483649), ([], [], []))], ([], [], []))
set_option maxRecDepth 100000 in
theorem te_c194 : tj_chk tj_Lam te_s194.2.2.1 [] zx_d_X3_isOpen te_s194.2.1 te_s194.2.2.2.1 te_s194.2.2.2.2 [] [] 3000 = true := by decide +kernel
theorem te_p194 : tj_KS1 (zx_Cl zx_mt zx_rc zx_mx' 1) tj_Lam te_s194 := tj_method te_so (d := 0) (by rw [← zx_q_X3_isOpen]; rfl) (fun _ h => absurd h List.not_mem_nil) (by decide +kernel) (by decide +kernel) te_c194
/-! Pairings.isOpen -/
def te_s195 : tj_C := (246, [(1, 65, 0), (0, 2147483652, 2147483653)], ([], []), [([(1, 65, 0), (0, 2147483652, 2147483653)], some (0, 2147483648, 2147483648), ([], [], [])), ([(1, 65, 0), (0, 2147483652, 2147483653)], some (0, 2147483649, 2147483649), ([], [], []))], ([], [], []))
set_option maxRecDepth 100000 in
theorem te_c195 : tj_chk tj_Lam te_s195.2.2.1 [] zx_d_X3_isOpen te_s195.2.1 te_s195.2.2.2.1 te_s195.2.2.2.2 [] [] 3000 = true := by decide +kernel
theorem te_p195 : tj_KS1 (zx_Cl zx_mt zx_rc zx_mx' 1) tj_Lam te_s195 := tj_method te_so (d := 0) (by rw [← zx_q_X3_isOpen]; rfl) (fun _ h => absurd h List.not_mem_nil) (by decide +kernel) (by decide +kernel) te_c195
/-! Pairings.isOpen -/
def te_s196 : tj_C := (246, [(1, 65, 0), (0, 2147483653, 2147483654)], ([], []), [([(1, 65, 0), (0, 2147483653, 2147483654)], some (0, 2147483648, 2147483648), ([], [], [])), ([(1, 65, 0), (0, 2147483653, 2147483654)], some (0, 2147483649, 2147483649), ([], [], []))], ([], [], []))
set_option maxRecDepth 100000 in
theorem te_c196 : tj_chk tj_Lam te_s196.2.2.1 [] zx_d_X3_isOpen te_s196.2.1 te_s196.2.2.2.1 te_s196.2.2.2.2 [] [] 3000 = true := by decide +kernel
theorem te_p196 : tj_KS1 (zx_Cl zx_mt zx_rc zx_mx' 1) tj_Lam te_s196 := tj_method te_so (d := 0) (by rw [← zx_q_X3_isOpen]; rfl) (fun _ h => absurd h List.not_mem_nil) (by decide +kernel) (by decide +kernel) te_c196
/-! Pairings.isOpen -/
def te_s197 : tj_C := (246, [(1, 65, 0), (0, 2147483654, 2147483655)], ([], []), [([(1, 65, 0), (0, 2147483654, 2147483655)], some (0, 2147483648, 2147483648), ([], [], [])), ([(1, 65, 0), (0, 2147483654, 2147483655)], some (0, 2147483649, 2147483649), ([], [], []))], ([], [], []))
set_option maxRecDepth 100000 in
theorem te_c197 : tj_chk tj_Lam te_s197.2.2.1 [] zx_d_X3_isOpen te_s197.2.1 te_s197.2.2.2.1 te_s197.2.2.2.2 [] [] 3000 = true := by decide +kernel
theorem te_p197 : tj_KS1 (zx_Cl zx_mt zx_rc zx_mx' 1) tj_Lam te_s197 := tj_method te_so (d := 0) (by rw [← zx_q_X3_isOpen]; rfl) (fun _ h => absurd h List.not_mem_nil) (by decide +kernel) (by decide +kernel) te_c197
/-! Pairings.extend -/
def te_s198 : tj_C := (243, [(1, 65, 0), (0, 2147483655, 2147483656), (0, 2147483648, 2147483648)], ([(65, 5), (65, 6), (65, 7), (65, 8)], [64, 63]), [([(1, 65, 0), (0, 2147483655, 2147483656), (0, 2147483648, 2147483648)], none, ([], [], []))], ([], [], []))
set_option maxRecDepth 100000 in
theorem te_c198 : tj_chk tj_Lam te_s198.2.2.1 [te_s189, te_s197] zx_d_X3_extend te_s198.2.1 te_s198.2.2.2.1 te_s198.2.2.2.2 [((2, [(0, .inr 0), (1, .inr 1), (2, .inr 2), (3, .inr 3)], [], [(1, 65, 0), (0, 2147483655, 2147483656), (0, 2147483648, 2147483648), (0, 2147483655, 2147483656)], []), [.inl 3], [(0, 1), (1, 3), (0, 0)]), ((75, [(0, .inr 0), (1, .inr 1), (2, .inr 2), (3, .inr 3), (4, .inr 4)], [], [(1, 65, 0), (0, 2147483655, 2147483656), (0, 2147483648, 2147483648), (0, 2147483655, 2147483655), (0, 2147483656, 2147483656), (1, 13, 0), (0, 2147483656, 2147483656)], [(0, .inr 0, .inl 0, .inr 5), (0, .inr 5, .inl 0, .inr 6)]), [.inl 3, .inl 4, .inr (0, 0), .inr (5, 0)], [(0, 0), (0, 0), (0, 0)])] [2, 75] 3000 = true := by decide +kernel
theorem te_p198 : tj_KS1 (zx_Cl zx_mt zx_rc zx_mx' 5) tj_Lam te_s198 := tj_method te_so (d := 4) (by rw [← zx_q_X3_extend]; rfl) (List.forall_mem_cons.mpr ⟨tj_KS1_le (by decide) te_p189, List.forall_mem_cons.mpr ⟨tj_KS1_le (by decide) te_p197, fun _ h => absurd h List.not_mem_nil⟩⟩) (by decide +kernel) (by decide +kernel) te_c198
/-! Pairings.extend -/
def te_s199 : tj_C := (243, [(1, 65, 0), (0, 2147483654, 2147483655), (0, 2147483648, 2147483648)], ([(65, 5), (65, 6), (65, 7), (65, 8)], [64, 63, 62]), [([(1, 65, 0), (0, 2147483654, 2147483655), (0, 2147483648, 2147483648)], none, ([], [], []))], ([], [], []))
set_option maxRecDepth 100000 in
theorem te_c199 : tj_chk tj_Lam te_s199.2.2.1 [te_s189, te_s197, te_s198] zx_d_X3_extend te_s199.2.1 te_s199.2.2.2.1 te_s199.2.2.2.2 [((2, [(0, .inr 0), (1, .inr 1), (2, .inr 2), (3, .inr 3)], [], [(1, 65, 0), (0, 2147483654, 2147483655), (0, 2147483648, 2147483648), (0, 2147483654, 2147483656)], []), [.inl 3], [(0, 1), (1, 3), (0, 0)]), ((75, [(0, .inr 0), (1, .inr 1), (2, .inr 2), (3, .inr 3), (4, .inr 4)], [], [(1, 65, 0), (0, 2147483654, 2147483655), (0, 2147483648, 2147483648), (0, 2147483654, 2147483655), (0, 2147483655, 2147483656), (1, 13, 0), (0, 2147483655, 2147483656)], [(0, .inr 0, .inl 0, .inr 5), (0, .inr 5, .inl 0, .inr 6)]), [.inl 3, .inl 4, .inr (0, 0), .inr (5, 0)], [(0, 0), (1, 4), (0, 0)])] [2, 75] 3000 = true := by decide +kernel
theorem te_p199 : tj_KS1 (zx_Cl zx_mt zx_rc zx_mx' 6) tj_Lam te_s199 := tj_method te_so (d := 5) (by rw [← zx_q_X3_extend]; rfl) (List.forall_mem_cons.mpr ⟨tj_KS1_le (by decide) te_p189, List.forall_mem_cons.mpr ⟨tj_KS1_le (by decide) te_p197, List.forall_mem_cons.mpr ⟨tj_KS1_le (by decide) te_p198, fun _ h => absurd h List.not_mem_nil⟩⟩⟩) (by decide +kernel) (by decide +kernel) te_c199
