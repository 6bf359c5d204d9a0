/-! TwoInOne.about -/
def te_s0 : tj_C := (34, [(1, 100, 0), (0, 0, 4294967295)], ([], []), [([(1, 100, 0), (0, 0, 4294967295)], some (0, 2147483647, 2147483647), ([], [], [])), ([(1, 100, 0), (0, 2147483648, 2147483661)], some (0, 0, 4294967295), ([], [], []))], ([], [], []))
set_option maxRecDepth 100000 in
theorem te_c0 : tj_chk tj_Lam te_s0.2.2.1 [] zx_d_X11_about te_s0.2.1 te_s0.2.2.2.1 te_s0.2.2.2.2 [] [] 3000 = true := by decide +kernel
theorem te_p0 (hh : te_HH) : tj_KS1 (zx_Cl zx_mt zx_rc zx_mx' 1) tj_Lam te_s0 := tj_method te_so (d := 0) (by rw [← zx_q_X11_about]; rfl) (fun _ h => absurd h List.not_mem_nil) (by decide +kernel) (by decide +kernel) te_c0
/-! Row.clear -/
def te_s1 : tj_C := (281, [(1, 42, 0)], ([(42, 1)], []), [([(1, 42, 0)], none, ([.inr (0, 1)], [(0, 2147483648, 2147483648)], [(0, .inr 0, .inl 1, .inr 1)]))], ([], [], []))
set_option maxRecDepth 100000 in
theorem te_c1 : tj_chk tj_Lam te_s1.2.2.1 [] zx_d_X5_clear te_s1.2.1 te_s1.2.2.2.1 te_s1.2.2.2.2 [] [] 3000 = true := by decide +kernel
theorem te_p1 (hh : te_HH) : tj_KS1 (zx_Cl zx_mt zx_rc zx_mx' 1) tj_Lam te_s1 := tj_method te_so (d := 0) (by rw [← zx_q_X5_clear]; rfl) (fun _ h => absurd h List.not_mem_nil) (by decide +kernel) (by decide +kernel) te_c1
/-! Told.hasPerson -/
def te_s2 : tj_C := (29, [(1, 13, 0), (0, 0, 4294967295)], ([], []), [([(1, 13, 0), (0, 0, 4294967295)], some (0, 2147483648, 2147483648), ([], [], [])), ([(1, 13, 0), (0, 2147483648, 2147483651)], some (0, 2147483649, 2147483649), ([.inr (0, 1)], [(0, 2147483649, 2147483652)], [(0, .inr 0, .inl 1, .inr 3)]))], ([], [], []))
set_option maxRecDepth 100000 in
theorem te_c2 : tj_chk tj_Lam te_s2.2.2.1 [] zx_d_X10_hasPerson te_s2.2.1 te_s2.2.2.2.1 te_s2.2.2.2.2 [] [] 3000 = true := by decide +kernel
theorem te_p2 (hh : te_HH) : tj_KS1 (zx_Cl zx_mt zx_rc zx_mx' 1) tj_Lam te_s2 := tj_method te_so (d := 0) (by rw [← zx_q_X10_hasPerson]; rfl) (fun _ h => absurd h List.not_mem_nil) (by decide +kernel) (by decide +kernel) te_c2
/-! java/util/Arrays.fill -/
def te_s3 : tj_C := (1, [(1, 71, 0), (0, 2147483647, 2147483647)], ([], [71]), [([(1, 71, 0), (0, 2147483647, 2147483647)], none, ([], [], []))], ([], [], []))
set_option maxRecDepth 100000 in
theorem te_c3 : tj_chk tj_Lam te_s3.2.2.1 [] zx_d_J7_fill_53178 te_s3.2.1 te_s3.2.2.2.1 te_s3.2.2.2.2 [((5, [(0, .inr 0), (1, .inr 1), (2, .inr 2), (3, .inr 3)], [], [(1, 71, 0), (0, 2147483647, 2147483647), (0, 2147483648, 2147483662), (0, 2147483662, 2147483662)], []), [.inl 2, .inl 3], [(0, 0), (1, 2), (0, 0)])] [5] 3000 = true := by decide +kernel
theorem te_p3 (hh : te_HH) : tj_KS1 (zx_Cl zx_mt zx_rc zx_mx' 1) tj_Lam te_s3 := tj_method te_so (d := 0) (by rw [← zx_q_J7_fill_53178]; rfl) (fun _ h => absurd h List.not_mem_nil) (by decide +kernel) (by decide +kernel) te_c3
/-! Told.hasHalf -/
def te_s4 : tj_C := (28, [(1, 13, 0), (0, 0, 4294967295)], ([], []), [([(1, 13, 0), (0, 0, 4294967295)], some (0, 2147483648, 2147483648), ([], [], [])), ([(1, 13, 0), (0, 2147483648, 2147483655)], some (0, 2147483649, 2147483649), ([.inr (0, 0)], [(0, 2147483649, 2147483656)], [(0, .inr 0, .inl 0, .inr 3)]))], ([], [], []))
set_option maxRecDepth 100000 in
theorem te_c4 : tj_chk tj_Lam te_s4.2.2.1 [] zx_d_X10_hasHalf te_s4.2.1 te_s4.2.2.2.1 te_s4.2.2.2.2 [] [] 3000 = true := by decide +kernel
theorem te_p4 (hh : te_HH) : tj_KS1 (zx_Cl zx_mt zx_rc zx_mx' 1) tj_Lam te_s4 := tj_method te_so (d := 0) (by rw [← zx_q_X10_hasHalf]; rfl) (fun _ h => absurd h List.not_mem_nil) (by decide +kernel) (by decide +kernel) te_c4
/-! Told.isMember -/
def te_s5 : tj_C := (32, [(1, 13, 0), (0, 2147483648, 2147483651), (0, 0, 4294967295)], ([], []), [([(1, 13, 0), (0, 2147483648, 2147483651), (0, 0, 4294967295)], some (0, 2147483648, 2147483648), ([], [], [])), ([(1, 13, 0), (0, 2147483648, 2147483651), (0, 2147483648, 2147483655)], some (0, 2147483649, 2147483649), ([.inr (0, 0), .inr (0, 1)], [(0, 2147483649, 2147483656), (0, 2147483649, 2147483652)], [(0, .inr 0, .inl 0, .inr 4), (0, .inr 0, .inl 1, .inr 5)]))], ([], [], []))
set_option maxRecDepth 100000 in
theorem te_c5 : tj_chk tj_Lam te_s5.2.2.1 [te_s4, te_s2] zx_d_X10_isMember te_s5.2.1 te_s5.2.2.2.1 te_s5.2.2.2.2 [] [] 3000 = true := by decide +kernel
theorem te_p5 (hh : te_HH) : tj_KS1 (zx_Cl zx_mt zx_rc zx_mx' 2) tj_Lam te_s5 := tj_method te_so (d := 1) (by rw [← zx_q_X10_isMember]; rfl) (List.forall_mem_cons.mpr ⟨tj_KS1_le (by decide) (te_p4 hh), List.forall_mem_cons.mpr ⟨tj_KS1_le (by decide) (te_p2 hh), fun _ h => absurd h List.not_mem_nil⟩⟩) (by decide +kernel) (by decide +kernel) te_c5
/-! Sights.counts -/
def te_s6 : tj_C := (312, [(1, 73, 0), (0, 2147483648, 2147483648), (0, 0, 4294967295)], ([], []), [([(1, 73, 0), (0, 2147483648, 2147483648), (0, 0, 4294967295)], some (0, 2147483648, 2147483648), ([], [], [])), ([(1, 73, 0), (0, 2147483648, 2147483648), (0, 0, 4294967295)], some (0, 2147483649, 2147483649), ([], [], []))], ([], [], []))
set_option maxRecDepth 100000 in
theorem te_c6 : tj_chk tj_Lam te_s6.2.2.1 [] zx_d_X7_counts te_s6.2.1 te_s6.2.2.2.1 te_s6.2.2.2.2 [] [] 3000 = true := by decide +kernel
theorem te_p6 (hh : te_HH) : tj_KS1 (zx_Cl zx_mt zx_rc zx_mx' 1) tj_Lam te_s6 := tj_method te_so (d := 0) (by rw [← zx_q_X7_counts]; rfl) (fun _ h => absurd h List.not_mem_nil) (by decide +kernel) (by decide +kernel) te_c6
/-! Sights.counts -/
def te_s7 : tj_C := (312, [(1, 73, 0), (0, 2147483648, 2147483649), (0, 0, 4294967295)], ([], []), [([(1, 73, 0), (0, 2147483648, 2147483649), (0, 0, 4294967295)], some (0, 2147483648, 2147483648), ([], [], [])), ([(1, 73, 0), (0, 2147483648, 2147483649), (0, 0, 4294967295)], some (0, 2147483649, 2147483649), ([], [], []))], ([], [], []))
set_option maxRecDepth 100000 in
theorem te_c7 : tj_chk tj_Lam te_s7.2.2.1 [] zx_d_X7_counts te_s7.2.1 te_s7.2.2.2.1 te_s7.2.2.2.2 [] [] 3000 = true := by decide +kernel
theorem te_p7 (hh : te_HH) : tj_KS1 (zx_Cl zx_mt zx_rc zx_mx' 1) tj_Lam te_s7 := tj_method te_so (d := 0) (by rw [← zx_q_X7_counts]; rfl) (fun _ h => absurd h List.not_mem_nil) (by decide +kernel) (by decide +kernel) te_c7
/-! Sights.counts -/
def te_s8 : tj_C := (312, [(1, 73, 0), (0, 2147483648, 2147483650), (0, 0, 4294967295)], ([], []), [([(1, 73, 0), (0, 2147483648, 2147483650), (0, 0, 4294967295)], some (0, 2147483648, 2147483648), ([], [], [])), ([(1, 73, 0), (0, 2147483648, 2147483650), (0, 0, 4294967295)], some (0, 2147483649, 2147483649), ([], [], []))], ([], [], []))
set_option maxRecDepth 100000 in
theorem te_c8 : tj_chk tj_Lam te_s8.2.2.1 [] zx_d_X7_counts te_s8.2.1 te_s8.2.2.2.1 te_s8.2.2.2.2 [] [] 3000 = true := by decide +kernel
theorem te_p8 (hh : te_HH) : tj_KS1 (zx_Cl zx_mt zx_rc zx_mx' 1) tj_Lam te_s8 := tj_method te_so (d := 0) (by rw [← zx_q_X7_counts]; rfl) (fun _ h => absurd h List.not_mem_nil) (by decide +kernel) (by decide +kernel) te_c8
/-! Sights.counts -/
def te_s9 : tj_C := (312, [(1, 73, 0), (0, 2147483648, 2147483651), (0, 0, 4294967295)], ([], []), [([(1, 73, 0), (0, 2147483648, 2147483651), (0, 0, 4294967295)], some (0, 2147483648, 2147483648), ([], [], [])), ([(1, 73, 0), (0, 2147483648, 2147483651), (0, 0, 4294967295)], some (0, 2147483649, 2147483649), ([], [], []))], ([], [], []))
set_option maxRecDepth 100000 in
theorem te_c9 : tj_chk tj_Lam te_s9.2.2.1 [] zx_d_X7_counts te_s9.2.1 te_s9.2.2.2.1 te_s9.2.2.2.2 [] [] 3000 = true := by decide +kernel
theorem te_p9 (hh : te_HH) : tj_KS1 (zx_Cl zx_mt zx_rc zx_mx' 1) tj_Lam te_s9 := tj_method te_so (d := 0) (by rw [← zx_q_X7_counts]; rfl) (fun _ h => absurd h List.not_mem_nil) (by decide +kernel) (by decide +kernel) te_c9
/-! Sights.counts -/
def te_s10 : tj_C := (312, [(1, 73, 0), (0, 2147483648, 2147483652), (0, 0, 4294967295)], ([], []), [([(1, 73, 0), (0, 2147483648, 2147483652), (0, 0, 4294967295)], some (0, 2147483648, 2147483648), ([], [], [])), ([(1, 73, 0), (0, 2147483648, 2147483652), (0, 0, 4294967295)], some (0, 2147483649, 2147483649), ([], [], []))], ([], [], []))
set_option maxRecDepth 100000 in
theorem te_c10 : tj_chk tj_Lam te_s10.2.2.1 [] zx_d_X7_counts te_s10.2.1 te_s10.2.2.2.1 te_s10.2.2.2.2 [] [] 3000 = true := by decide +kernel
theorem te_p10 (hh : te_HH) : tj_KS1 (zx_Cl zx_mt zx_rc zx_mx' 1) tj_Lam te_s10 := tj_method te_so (d := 0) (by rw [← zx_q_X7_counts]; rfl) (fun _ h => absurd h List.not_mem_nil) (by decide +kernel) (by decide +kernel) te_c10
/-! Sights.counts -/
def te_s11 : tj_C := (312, [(1, 73, 0), (0, 2147483648, 2147483653), (0, 0, 4294967295)], ([], []), [([(1, 73, 0), (0, 2147483648, 2147483653), (0, 0, 4294967295)], some (0, 2147483648, 2147483648), ([], [], [])), ([(1, 73, 0), (0, 2147483648, 2147483653), (0, 0, 4294967295)], some (0, 2147483649, 2147483649), ([], [], []))], ([], [], []))
set_option maxRecDepth 100000 in
theorem te_c11 : tj_chk tj_Lam te_s11.2.2.1 [] zx_d_X7_counts te_s11.2.1 te_s11.2.2.2.1 te_s11.2.2.2.2 [] [] 3000 = true := by decide +kernel
theorem te_p11 (hh : te_HH) : tj_KS1 (zx_Cl zx_mt zx_rc zx_mx' 1) tj_Lam te_s11 := tj_method te_so (d := 0) (by rw [← zx_q_X7_counts]; rfl) (fun _ h => absurd h List.not_mem_nil) (by decide +kernel) (by decide +kernel) te_c11
/-! Sights.counts -/
def te_s12 : tj_C := (312, [(1, 73, 0), (0, 2147483648, 2147483654), (0, 0, 4294967295)], ([], []), [([(1, 73, 0), (0, 2147483648, 2147483654), (0, 0, 4294967295)], some (0, 2147483648, 2147483648), ([], [], [])), ([(1, 73, 0), (0, 2147483648, 2147483654), (0, 0, 4294967295)], some (0, 2147483649, 2147483649), ([], [], []))], ([], [], []))
set_option maxRecDepth 100000 in
theorem te_c12 : tj_chk tj_Lam te_s12.2.2.1 [] zx_d_X7_counts te_s12.2.1 te_s12.2.2.2.1 te_s12.2.2.2.2 [] [] 3000 = true := by decide +kernel
theorem te_p12 (hh : te_HH) : tj_KS1 (zx_Cl zx_mt zx_rc zx_mx' 1) tj_Lam te_s12 := tj_method te_so (d := 0) (by rw [← zx_q_X7_counts]; rfl) (fun _ h => absurd h List.not_mem_nil) (by decide +kernel) (by decide +kernel) te_c12
/-! Sights.counts -/
def te_s13 : tj_C := (312, [(1, 73, 0), (0, 2147483648, 2147483655), (0, 0, 4294967295)], ([], []), [([(1, 73, 0), (0, 2147483648, 2147483655), (0, 0, 4294967295)], some (0, 2147483648, 2147483648), ([], [], [])), ([(1, 73, 0), (0, 2147483648, 2147483655), (0, 0, 4294967295)], some (0, 2147483649, 2147483649), ([], [], []))], ([], [], []))
set_option maxRecDepth 100000 in
theorem te_c13 : tj_chk tj_Lam te_s13.2.2.1 [] zx_d_X7_counts te_s13.2.1 te_s13.2.2.2.1 te_s13.2.2.2.2 [] [] 3000 = true := by decide +kernel
theorem te_p13 (hh : te_HH) : tj_KS1 (zx_Cl zx_mt zx_rc zx_mx' 1) tj_Lam te_s13 := tj_method te_so (d := 0) (by rw [← zx_q_X7_counts]; rfl) (fun _ h => absurd h List.not_mem_nil) (by decide +kernel) (by decide +kernel) te_c13
/-! Sights.counts -/
def te_s14 : tj_C := (312, [(1, 73, 0), (0, 2147483648, 2147483656), (0, 0, 4294967295)], ([], []), [([(1, 73, 0), (0, 2147483648, 2147483656), (0, 0, 4294967295)], some (0, 2147483648, 2147483648), ([], [], [])), ([(1, 73, 0), (0, 2147483648, 2147483656), (0, 0, 4294967295)], some (0, 2147483649, 2147483649), ([], [], []))], ([], [], []))
set_option maxRecDepth 100000 in
theorem te_c14 : tj_chk tj_Lam te_s14.2.2.1 [] zx_d_X7_counts te_s14.2.1 te_s14.2.2.2.1 te_s14.2.2.2.2 [] [] 3000 = true := by decide +kernel
theorem te_p14 (hh : te_HH) : tj_KS1 (zx_Cl zx_mt zx_rc zx_mx' 1) tj_Lam te_s14 := tj_method te_so (d := 0) (by rw [← zx_q_X7_counts]; rfl) (fun _ h => absurd h List.not_mem_nil) (by decide +kernel) (by decide +kernel) te_c14
/-! Sights.counts -/
def te_s15 : tj_C := (312, [(1, 73, 0), (0, 2147483648, 2147483657), (0, 0, 4294967295)], ([], []), [([(1, 73, 0), (0, 2147483648, 2147483657), (0, 0, 4294967295)], some (0, 2147483648, 2147483648), ([], [], [])), ([(1, 73, 0), (0, 2147483648, 2147483657), (0, 0, 4294967295)], some (0, 2147483649, 2147483649), ([], [], []))], ([], [], []))
set_option maxRecDepth 100000 in
theorem te_c15 : tj_chk tj_Lam te_s15.2.2.1 [] zx_d_X7_counts te_s15.2.1 te_s15.2.2.2.1 te_s15.2.2.2.2 [] [] 3000 = true := by decide +kernel
theorem te_p15 (hh : te_HH) : tj_KS1 (zx_Cl zx_mt zx_rc zx_mx' 1) tj_Lam te_s15 := tj_method te_so (d := 0) (by rw [← zx_q_X7_counts]; rfl) (fun _ h => absurd h List.not_mem_nil) (by decide +kernel) (by decide +kernel) te_c15
/-! Sights.counts -/
def te_s16 : tj_C := (312, [(1, 73, 0), (0, 2147483648, 2147483658), (0, 0, 4294967295)], ([], []), [([(1, 73, 0), (0, 2147483648, 2147483658), (0, 0, 4294967295)], some (0, 2147483648, 2147483648), ([], [], [])), ([(1, 73, 0), (0, 2147483648, 2147483658), (0, 0, 4294967295)], some (0, 2147483649, 2147483649), ([], [], []))], ([], [], []))
set_option maxRecDepth 100000 in
theorem te_c16 : tj_chk tj_Lam te_s16.2.2.1 [] zx_d_X7_counts te_s16.2.1 te_s16.2.2.2.1 te_s16.2.2.2.2 [] [] 3000 = true := by decide +kernel
theorem te_p16 (hh : te_HH) : tj_KS1 (zx_Cl zx_mt zx_rc zx_mx' 1) tj_Lam te_s16 := tj_method te_so (d := 0) (by rw [← zx_q_X7_counts]; rfl) (fun _ h => absurd h List.not_mem_nil) (by decide +kernel) (by decide +kernel) te_c16
/-! Sights.counts -/
def te_s17 : tj_C := (312, [(1, 73, 0), (0, 2147483648, 2147483661), (0, 0, 4294967295)], ([], []), [([(1, 73, 0), (0, 2147483648, 2147483661), (0, 0, 4294967295)], some (0, 2147483648, 2147483648), ([], [], [])), ([(1, 73, 0), (0, 2147483648, 2147483661), (0, 0, 4294967295)], some (0, 2147483649, 2147483649), ([], [], []))], ([], [], []))
set_option maxRecDepth 100000 in
theorem te_c17 : tj_chk tj_Lam te_s17.2.2.1 [] zx_d_X7_counts te_s17.2.1 te_s17.2.2.2.1 te_s17.2.2.2.2 [] [] 3000 = true := by decide +kernel
theorem te_p17 (hh : te_HH) : tj_KS1 (zx_Cl zx_mt zx_rc zx_mx' 1) tj_Lam te_s17 := tj_method te_so (d := 0) (by rw [← zx_q_X7_counts]; rfl) (fun _ h => absurd h List.not_mem_nil) (by decide +kernel) (by decide +kernel) te_c17
/-! Sights.counts -/
def te_s18 : tj_C := (312, [(1, 73, 0), (0, 2147483648, 2147483662), (0, 0, 4294967295)], ([], []), [([(1, 73, 0), (0, 2147483648, 2147483662), (0, 0, 4294967295)], some (0, 2147483648, 2147483648), ([], [], [])), ([(1, 73, 0), (0, 2147483648, 2147483662), (0, 0, 4294967295)], some (0, 2147483649, 2147483649), ([], [], []))], ([], [], []))
set_option maxRecDepth 100000 in
theorem te_c18 : tj_chk tj_Lam te_s18.2.2.1 [] zx_d_X7_counts te_s18.2.1 te_s18.2.2.2.1 te_s18.2.2.2.2 [] [] 3000 = true := by decide +kernel
theorem te_p18 (hh : te_HH) : tj_KS1 (zx_Cl zx_mt zx_rc zx_mx' 1) tj_Lam te_s18 := tj_method te_so (d := 0) (by rw [← zx_q_X7_counts]; rfl) (fun _ h => absurd h List.not_mem_nil) (by decide +kernel) (by decide +kernel) te_c18
/-! Sights.counts -/
def te_s19 : tj_C := (312, [(1, 73, 0), (0, 2147483648, 2147483663), (0, 0, 4294967295)], ([], []), [([(1, 73, 0), (0, 2147483648, 2147483663), (0, 0, 4294967295)], some (0, 2147483648, 2147483648), ([], [], [])), ([(1, 73, 0), (0, 2147483648, 2147483663), (0, 0, 4294967295)], some (0, 2147483649, 2147483649), ([], [], []))], ([], [], []))
set_option maxRecDepth 100000 in
theorem te_c19 : tj_chk tj_Lam te_s19.2.2.1 [] zx_d_X7_counts te_s19.2.1 te_s19.2.2.2.1 te_s19.2.2.2.2 [] [] 3000 = true := by decide +kernel
theorem te_p19 (hh : te_HH) : tj_KS1 (zx_Cl zx_mt zx_rc zx_mx' 1) tj_Lam te_s19 := tj_method te_so (d := 0) (by rw [← zx_q_X7_counts]; rfl) (fun _ h => absurd h List.not_mem_nil) (by decide +kernel) (by decide +kernel) te_c19
/-! Sights.counts -/
def te_s20 : tj_C := (312, [(1, 73, 0), (0, 2147483648, 2147483667), (0, 0, 4294967295)], ([], []), [([(1, 73, 0), (0, 2147483648, 2147483667), (0, 0, 4294967295)], some (0, 2147483648, 2147483648), ([], [], [])), ([(1, 73, 0), (0, 2147483648, 2147483667), (0, 0, 4294967295)], some (0, 2147483649, 2147483649), ([], [], []))], ([], [], []))
set_option maxRecDepth 100000 in
theorem te_c20 : tj_chk tj_Lam te_s20.2.2.1 [] zx_d_X7_counts te_s20.2.1 te_s20.2.2.2.1 te_s20.2.2.2.2 [] [] 3000 = true := by decide +kernel
theorem te_p20 (hh : te_HH) : tj_KS1 (zx_Cl zx_mt zx_rc zx_mx' 1) tj_Lam te_s20 := tj_method te_so (d := 0) (by rw [← zx_q_X7_counts]; rfl) (fun _ h => absurd h List.not_mem_nil) (by decide +kernel) (by decide +kernel) te_c20
/-! Sights.counts -/
def te_s21 : tj_C := (312, [(1, 73, 0), (0, 2147483648, 2147483668), (0, 0, 4294967295)], ([], []), [([(1, 73, 0), (0, 2147483648, 2147483668), (0, 0, 4294967295)], some (0, 2147483648, 2147483648), ([], [], [])), ([(1, 73, 0), (0, 2147483648, 2147483668), (0, 0, 4294967295)], some (0, 2147483649, 2147483649), ([], [], []))], ([], [], []))
set_option maxRecDepth 100000 in
theorem te_c21 : tj_chk tj_Lam te_s21.2.2.1 [] zx_d_X7_counts te_s21.2.1 te_s21.2.2.2.1 te_s21.2.2.2.2 [] [] 3000 = true := by decide +kernel
theorem te_p21 (hh : te_HH) : tj_KS1 (zx_Cl zx_mt zx_rc zx_mx' 1) tj_Lam te_s21 := tj_method te_so (d := 0) (by rw [← zx_q_X7_counts]; rfl) (fun _ h => absurd h List.not_mem_nil) (by decide +kernel) (by decide +kernel) te_c21
/-! Sights.counts -/
def te_s22 : tj_C := (312, [(1, 73, 0), (0, 2147483648, 2147483669), (0, 0, 4294967295)], ([], []), [([(1, 73, 0), (0, 2147483648, 2147483669), (0, 0, 4294967295)], some (0, 2147483648, 2147483648), ([], [], [])), ([(1, 73, 0), (0, 2147483648, 2147483669), (0, 0, 4294967295)], some (0, 2147483649, 2147483649), ([], [], []))], ([], [], []))
set_option maxRecDepth 100000 in
theorem te_c22 : tj_chk tj_Lam te_s22.2.2.1 [] zx_d_X7_counts te_s22.2.1 te_s22.2.2.2.1 te_s22.2.2.2.2 [] [] 3000 = true := by decide +kernel
theorem te_p22 (hh : te_HH) : tj_KS1 (zx_Cl zx_mt zx_rc zx_mx' 1) tj_Lam te_s22 := tj_method te_so (d := 0) (by rw [← zx_q_X7_counts]; rfl) (fun _ h => absurd h List.not_mem_nil) (by decide +kernel) (by decide +kernel) te_c22
/-! Sights.counts -/
def te_s23 : tj_C := (312, [(1, 73, 0), (0, 2147483648, 2147483677), (0, 0, 4294967295)], ([], []), [([(1, 73, 0), (0, 2147483648, 2147483677), (0, 0, 4294967295)], some (0, 2147483648, 2147483648), ([], [], [])), ([(1, 73, 0), (0, 2147483648, 2147483677), (0, 0, 4294967295)], some (0, 2147483649, 2147483649), ([], [], []))], ([], [], []))
set_option maxRecDepth 100000 in
theorem te_c23 : tj_chk tj_Lam te_s23.2.2.1 [] zx_d_X7_counts te_s23.2.1 te_s23.2.2.2.1 te_s23.2.2.2.2 [] [] 3000 = true := by decide +kernel
theorem te_p23 (hh : te_HH) : tj_KS1 (zx_Cl zx_mt zx_rc zx_mx' 1) tj_Lam te_s23 := tj_method te_so (d := 0) (by rw [← zx_q_X7_counts]; rfl) (fun _ h => absurd h List.not_mem_nil) (by decide +kernel) (by decide +kernel) te_c23
/-! Sights.gatherSeen -/
def te_s24 : tj_C := (315, [(1, 73, 0), (0, 2147483648, 2147483651), (0, 0, 4294967295)], ([], [71]), [([(1, 73, 0), (0, 2147483648, 2147483651), (0, 0, 4294967295)], some (0, 2147483648, 2147483648), ([], [], [])), ([(1, 73, 0), (0, 2147483648, 2147483651), (0, 0, 4294967295)], some (0, 2147483649, 2147483649), ([], [], []))], ([], [], []))
set_option maxRecDepth 100000 in
theorem te_c24 : tj_chk tj_Lam te_s24.2.2.1 [te_s3, te_s5, te_s6, te_s7, te_s8, te_s9, te_s10, te_s11, te_s12, te_s13, te_s14, te_s15, te_s16, te_s17, te_s18, te_s19, te_s20, te_s21, te_s22, te_s23] zx_d_X7_gatherSeen te_s24.2.1 te_s24.2.2.2.1 te_s24.2.2.2.2 [((24, [(0, .inr 0), (1, .inr 1), (2, .inr 2), (3, .inr 3), (4, .inr 4), (5, .inr 5)], [], [(1, 73, 0), (0, 2147483648, 2147483651), (0, 0, 4294967295), (0, 2147483648, 2147483662), (0, 2147483648, 2147483649), (0, 2147483648, 2147483678), (1, 13, 0), (1, 71, 0), (1, 7, 0)], [(0, .inr 0, .inl 0, .inr 6), (0, .inr 0, .inl 8, .inr 7), (0, .inr 6, .inl 13, .inr 8)]), [.inl 3, .inl 4, .inl 5, .inr (0, 0), .inr (0, 8), .inr (6, 13)], [(0, 0), (1, 5), (0, 0)])] [24] 3000 = true := by decide +kernel
theorem te_p24 (hh : te_HH) : tj_KS1 (zx_Cl zx_mt zx_rc zx_mx' 3) tj_Lam te_s24 := tj_method te_so (d := 2) (by rw [← zx_q_X7_gatherSeen]; rfl) (List.forall_mem_cons.mpr ⟨tj_KS1_le (by decide) (te_p3 hh), List.forall_mem_cons.mpr ⟨tj_KS1_le (by decide) (te_p5 hh), List.forall_mem_cons.mpr ⟨tj_KS1_le (by decide) (te_p6 hh), List.forall_mem_cons.mpr ⟨tj_KS1_le (by decide) (te_p7 hh), List.forall_mem_cons.mpr ⟨tj_KS1_le (by decide) (te_p8 hh), List.forall_mem_cons.mpr ⟨tj_KS1_le (by decide) (te_p9 hh), List.forall_mem_cons.mpr ⟨tj_KS1_le (by decide) (te_p10 hh), List.forall_mem_cons.mpr ⟨tj_KS1_le (by decide) (te_p11 hh), List.forall_mem_cons.mpr ⟨tj_KS1_le (by decide) (te_p12 hh), List.forall_mem_cons.mpr ⟨tj_KS1_le (by decide) (te_p13 hh), List.forall_mem_cons.mpr ⟨tj_KS1_le (by decide) (te_p14 hh), List.forall_mem_cons.mpr ⟨tj_KS1_le (by decide) (te_p15 hh), List.forall_mem_cons.mpr ⟨tj_KS1_le (by decide) (te_p16 hh), List.forall_mem_cons.mpr ⟨tj_KS1_le (by decide) (te_p17 hh), List.forall_mem_cons.mpr ⟨tj_KS1_le (by decide) (te_p18 hh), List.forall_mem_cons.mpr ⟨tj_KS1_le (by decide) (te_p19 hh), List.forall_mem_cons.mpr ⟨tj_KS1_le (by decide) (te_p20 hh), List.forall_mem_cons.mpr ⟨tj_KS1_le (by decide) (te_p21 hh), List.forall_mem_cons.mpr ⟨tj_KS1_le (by decide) (te_p22 hh), List.forall_mem_cons.mpr ⟨tj_KS1_le (by decide) (te_p23 hh), fun _ h => absurd h List.not_mem_nil⟩⟩⟩⟩⟩⟩⟩⟩⟩⟩⟩⟩⟩⟩⟩⟩⟩⟩⟩⟩) (by decide +kernel) (by decide +kernel) te_c24
/-! Sights.exchanged -/
def te_s25 : tj_C := (313, [(0, 2147483648, 2147483661), (0, 2147483647, 2147483647), (0, 2147483647, 2147483647)], ([], []), [([(0, 2147483648, 2147483661), (0, 2147483647, 2147483647), (0, 2147483647, 2147483647)], some (0, 2147483648, 2147483661), ([], [], []))], ([], [], []))
set_option maxRecDepth 100000 in
theorem te_c25 : tj_chk tj_Lam te_s25.2.2.1 [] zx_d_X7_exchanged te_s25.2.1 te_s25.2.2.2.1 te_s25.2.2.2.2 [] [] 3000 = true := by decide +kernel
theorem te_p25 (hh : te_HH) : tj_KS1 (zx_Cl zx_mt zx_rc zx_mx' 1) tj_Lam te_s25 := tj_method te_so (d := 0) (by rw [← zx_q_X7_exchanged]; rfl) (fun _ h => absurd h List.not_mem_nil) (by decide +kernel) (by decide +kernel) te_c25
/-! Sights.wouldBeIn -/
def te_s26 : tj_C := (323, [(1, 73, 0), (0, 2147483648, 2147483651), (0, 2147483648, 2147483661), (0, 2147483648, 2147483661)], ([], []), [([(1, 73, 0), (0, 2147483648, 2147483651), (0, 2147483648, 2147483661), (0, 2147483648, 2147483661)], some (0, 2147483647, 2147483647), ([], [], [])), ([(1, 73, 0), (0, 2147483648, 2147483651), (0, 2147483648, 2147483661), (0, 2147483648, 2147483661)], some (0, 2147483648, 2147483655), ([], [], []))], ([], [], []))
set_option maxRecDepth 100000 in
theorem te_c26 : tj_chk tj_Lam te_s26.2.2.1 [] zx_d_X7_wouldBeIn te_s26.2.1 te_s26.2.2.2.1 te_s26.2.2.2.2 [] [] 3000 = true := by decide +kernel
theorem te_p26 (hh : te_HH) : tj_KS1 (zx_Cl zx_mt zx_rc zx_mx' 1) tj_Lam te_s26 := tj_method te_so (d := 0) (by rw [← zx_q_X7_wouldBeIn]; rfl) (fun _ h => absurd h List.not_mem_nil) (by decide +kernel) (by decide +kernel) te_c26
/-! Sights.tryAlibi -/
def te_s27 : tj_C := (322, [(1, 73, 0), (0, 2147483648, 2147483651), (0, 2147483648, 2147483661), (0, 2147483647, 2147483647), (0, 2147483647, 2147483647), (0, 2147483648, 2147483661)], ([(73, 10), (73, 11), (73, 12), (73, 13), (73, 14)], []), [([(1, 73, 0), (0, 2147483648, 2147483651), (0, 2147483648, 2147483661), (0, 2147483647, 2147483647), (0, 2147483647, 2147483647), (0, 2147483648, 2147483661)], none, ([], [], []))], ([], [], []))
set_option maxRecDepth 100000 in
theorem te_c27 : tj_chk tj_Lam te_s27.2.2.1 [te_s25, te_s26] zx_d_X7_tryAlibi te_s27.2.1 te_s27.2.2.2.1 te_s27.2.2.2.2 [((14, [(0, .inr 0), (1, .inr 1), (2, .inr 2), (3, .inr 3), (4, .inr 4), (5, .inr 5), (6, .inr 6), (7, .inr 7)], [], [(1, 73, 0), (0, 2147483648, 2147483651), (0, 2147483648, 2147483661), (0, 2147483647, 2147483647), (0, 2147483647, 2147483647), (0, 2147483648, 2147483661), (0, 2147483648, 2147483662), (0, 2147483648, 2147483662), (1, 13, 0), (0, 0, 4294967295), (0, 0, 4294967295), (0, 0, 4294967295), (0, 0, 4294967295), (0, 0, 4294967295), (1, 7, 0)], [(0, .inr 0, .inl 0, .inr 8), (0, .inr 0, .inl 10, .inr 9), (0, .inr 0, .inl 11, .inr 10), (0, .inr 0, .inl 12, .inr 11), (0, .inr 0, .inl 13, .inr 12), (0, .inr 0, .inl 14, .inr 13), (0, .inr 8, .inl 13, .inr 14)]), [.inl 6, .inl 7, .inr (0, 0), .inr (0, 10), .inr (0, 11), .inr (0, 12), .inr (0, 13), .inr (0, 14), .inr (8, 13)], [(0, 0), (1, 7), (0, 0)])] [14] 3000 = true := by decide +kernel
theorem te_p27 (hh : te_HH) : tj_KS1 (zx_Cl zx_mt zx_rc zx_mx' 2) tj_Lam te_s27 := tj_method te_so (d := 1) (by rw [← zx_q_X7_tryAlibi]; rfl) (List.forall_mem_cons.mpr ⟨tj_KS1_le (by decide) (te_p25 hh), List.forall_mem_cons.mpr ⟨tj_KS1_le (by decide) (te_p26 hh), fun _ h => absurd h List.not_mem_nil⟩⟩) (by decide +kernel) (by decide +kernel) te_c27
/-! Sights.exchanged -/
def te_s28 : tj_C := (313, [(0, 2147483648, 2147483661), (0, 2147483648, 2147483661), (0, 2147483648, 2147483661)], ([], []), [([(0, 2147483648, 2147483661), (0, 2147483648, 2147483661), (0, 2147483648, 2147483661)], some (0, 2147483648, 2147483661), ([], [], []))], ([], [], []))
set_option maxRecDepth 100000 in
theorem te_c28 : tj_chk tj_Lam te_s28.2.2.1 [] zx_d_X7_exchanged te_s28.2.1 te_s28.2.2.2.1 te_s28.2.2.2.2 [] [] 3000 = true := by decide +kernel
theorem te_p28 (hh : te_HH) : tj_KS1 (zx_Cl zx_mt zx_rc zx_mx' 1) tj_Lam te_s28 := tj_method te_so (d := 0) (by rw [← zx_q_X7_exchanged]; rfl) (fun _ h => absurd h List.not_mem_nil) (by decide +kernel) (by decide +kernel) te_c28
/-! Sights.tryAlibi -/
def te_s29 : tj_C := (322, [(1, 73, 0), (0, 2147483648, 2147483651), (0, 2147483648, 2147483661), (0, 2147483648, 2147483661), (0, 2147483648, 2147483661), (0, 2147483648, 2147483661)], ([(73, 10), (73, 11), (73, 12), (73, 13), (73, 14)], []), [([(1, 73, 0), (0, 2147483648, 2147483651), (0, 2147483648, 2147483661), (0, 2147483648, 2147483661), (0, 2147483648, 2147483661), (0, 2147483648, 2147483661)], none, ([], [], []))], ([], [], []))
set_option maxRecDepth 100000 in
theorem te_c29 : tj_chk tj_Lam te_s29.2.2.1 [te_s28, te_s26] zx_d_X7_tryAlibi te_s29.2.1 te_s29.2.2.2.1 te_s29.2.2.2.2 [((14, [(0, .inr 0), (1, .inr 1), (2, .inr 2), (3, .inr 3), (4, .inr 4), (5, .inr 5), (6, .inr 6), (7, .inr 7)], [], [(1, 73, 0), (0, 2147483648, 2147483651), (0, 2147483648, 2147483661), (0, 2147483648, 2147483661), (0, 2147483648, 2147483661), (0, 2147483648, 2147483661), (0, 2147483648, 2147483662), (0, 2147483648, 2147483662), (1, 13, 0), (0, 0, 4294967295), (0, 0, 4294967295), (0, 0, 4294967295), (0, 0, 4294967295), (0, 0, 4294967295), (1, 7, 0)], [(0, .inr 0, .inl 0, .inr 8), (0, .inr 0, .inl 10, .inr 9), (0, .inr 0, .inl 11, .inr 10), (0, .inr 0, .inl 12, .inr 11), (0, .inr 0, .inl 13, .inr 12), (0, .inr 0, .inl 14, .inr 13), (0, .inr 8, .inl 13, .inr 14)]), [.inl 6, .inl 7, .inr (0, 0), .inr (0, 10), .inr (0, 11), .inr (0, 12), .inr (0, 13), .inr (0, 14), .inr (8, 13)], [(0, 0), (1, 7), (0, 0)])] [14] 3000 = true := by decide +kernel
theorem te_p29 (hh : te_HH) : tj_KS1 (zx_Cl zx_mt zx_rc zx_mx' 2) tj_Lam te_s29 := tj_method te_so (d := 1) (by rw [← zx_q_X7_tryAlibi]; rfl) (List.forall_mem_cons.mpr ⟨tj_KS1_le (by decide) (te_p28 hh), List.forall_mem_cons.mpr ⟨tj_KS1_le (by decide) (te_p26 hh), fun _ h => absurd h List.not_mem_nil⟩⟩) (by decide +kernel) (by decide +kernel) te_c29
/-! Row.add -/
def te_s30 : tj_C := (279, [(1, 42, 0), (0, 0, 4294967295)], ([(42, 1)], [40]), [([(1, 42, 0), (0, 0, 4294967295)], none, ([.inr (0, 1)], [(0, 2147483649, 2147483668)], [(0, .inr 0, .inl 1, .inr 2)]))], ([], [], []))
set_option maxRecDepth 100000 in
theorem te_c30 : tj_chk tj_Lam te_s30.2.2.1 [] zx_d_X5_add te_s30.2.1 te_s30.2.2.2.1 te_s30.2.2.2.2 [] [] 3000 = true := by decide +kernel
theorem te_p30 (hh : te_HH) : tj_KS1 (zx_Cl zx_mt zx_rc zx_mx' 1) tj_Lam te_s30 := tj_method te_so (d := 0) (by rw [← zx_q_X5_add]; rfl) (fun _ h => absurd h List.not_mem_nil) (by decide +kernel) (by decide +kernel) te_c30
/-! State.copyFrom -/
def te_s31 : tj_C := (325, [(1, 33, 0), (1, 39, 0)], ([(33, 0), (33, 1)], [30, 31, 32, 28, 29]), [([(1, 33, 0), (1, 39, 0)], none, ([], [], []))], ([], [], []))
set_option maxRecDepth 100000 in
theorem te_c31 : tj_chk tj_Lam te_s31.2.2.1 [] zx_d_X8_copyFrom te_s31.2.1 te_s31.2.2.2.1 te_s31.2.2.2.2 [] [] 3000 = true := by decide +kernel
theorem te_p31 (hh : te_HH) : tj_KS1 (zx_Cl zx_mt zx_rc zx_mx' 1) tj_Lam te_s31 := tj_method te_so (d := 0) (by rw [← zx_q_X8_copyFrom]; rfl) (fun _ h => absurd h List.not_mem_nil) (by decide +kernel) (by decide +kernel) te_c31
/-! History.takeFromBox -/
def te_s32 : tj_C := (242, [(1, 53, 0), (0, 2147483648, 2147483650), (1, 33, 0)], ([(33, 0), (33, 1)], [30, 31, 32, 28, 29]), [([(1, 53, 0), (0, 2147483648, 2147483650), (1, 33, 0)], some (0, 2147483648, 2147483648), ([], [], [])), ([(1, 53, 0), (0, 2147483648, 2147483650), (1, 33, 0)], some (0, 2147483649, 2147483649), ([], [], []))], ([], [], []))
set_option maxRecDepth 100000 in
theorem te_c32 : tj_chk tj_Lam te_s32.2.2.1 [te_s31] zx_d_X2_takeFromBox te_s32.2.1 te_s32.2.2.2.1 te_s32.2.2.2.2 [] [] 3000 = true := by decide +kernel
theorem te_p32 (hh : te_HH) : tj_KS1 (zx_Cl zx_mt zx_rc zx_mx' 2) tj_Lam te_s32 := tj_method te_so (d := 1) (by rw [← zx_q_X2_takeFromBox]; rfl) (List.forall_mem_cons.mpr ⟨tj_KS1_le (by decide) (te_p31 hh), fun _ h => absurd h List.not_mem_nil⟩) (by decide +kernel) (by decide +kernel) te_c32
/-! TwoInOne.back -/
def te_s33 : tj_C := (36, [(1, 100, 0), (0, 0, 4294967295)], ([(53, 3), (53, 4), (53, 5), (39, 0), (39, 1), (33, 0), (33, 1)], [50, 36, 37, 38, 34, 35, 30, 31, 32, 28, 29]), [([(1, 100, 0), (0, 0, 4294967295)], some (0, 2147483647, 2147483647), ([], [], [])), ([(1, 100, 0), (0, 2147483648, 2147483650)], some (0, 0, 4294967295), ([], [], []))], ([], [], []))
set_option maxRecDepth 100000 in
theorem te_c33 : tj_chk tj_Lam te_s33.2.2.1 [te_h0, te_s32] zx_d_X11_back te_s33.2.1 te_s33.2.2.2.1 te_s33.2.2.2.2 [] [] 3000 = true := by decide +kernel
theorem te_p33 (hh : te_HH) : tj_KS1 (zx_Cl zx_mt zx_rc zx_mx' 101) tj_Lam te_s33 := tj_method te_so (d := 100) (by rw [← zx_q_X11_back]; rfl) (List.forall_mem_cons.mpr ⟨tj_KS1_le (by decide) (te_hh0 hh), List.forall_mem_cons.mpr ⟨tj_KS1_le (by decide) (te_p32 hh), fun _ h => absurd h List.not_mem_nil⟩⟩) (by decide +kernel) (by decide +kernel) te_c33
/-! TwoInOne.isAskedFor -/
def te_s34 : tj_C := (57, [(0, 0, 4294967295)], ([], []), [([(0, 0, 4294967295)], some (0, 2147483648, 2147483648), ([], [], [])), ([(0, 2147483649, 2147483668)], some (0, 2147483649, 2147483649), ([], [], []))], ([], [], []))
set_option maxRecDepth 100000 in
theorem te_c34 : tj_chk tj_Lam te_s34.2.2.1 [] zx_d_X11_isAskedFor te_s34.2.1 te_s34.2.2.2.1 te_s34.2.2.2.2 [] [] 3000 = true := by decide +kernel
theorem te_p34 (hh : te_HH) : tj_KS1 (zx_Cl zx_mt zx_rc zx_mx' 1) tj_Lam te_s34 := tj_method te_so (d := 0) (by rw [← zx_q_X11_isAskedFor]; rfl) (fun _ h => absurd h List.not_mem_nil) (by decide +kernel) (by decide +kernel) te_c34
/-! Course.whoIn -/
def te_s35 : tj_C := (21, [(1, 56, 0), (0, 0, 4294967295), (0, 0, 4294967295)], ([], []), [([(1, 56, 0), (0, 0, 4294967295), (0, 0, 4294967295)], some (0, 2147483647, 2147483647), ([], [], [])), ([(1, 56, 0), (0, 2147483648, 2147483651), (0, 2147483648, 4294967295)], some (0, 2147483648, 2147483655), ([], [], []))], ([], [], []))
set_option maxRecDepth 100000 in
theorem te_c35 : tj_chk tj_Lam te_s35.2.2.1 [te_s4, te_s2] zx_d_X0_whoIn te_s35.2.1 te_s35.2.2.2.1 te_s35.2.2.2.2 [] [] 3000 = true := by decide +kernel
theorem te_p35 (hh : te_HH) : tj_KS1 (zx_Cl zx_mt zx_rc zx_mx' 2) tj_Lam te_s35 := tj_method te_so (d := 1) (by rw [← zx_q_X0_whoIn]; rfl) (List.forall_mem_cons.mpr ⟨tj_KS1_le (by decide) (te_p4 hh), List.forall_mem_cons.mpr ⟨tj_KS1_le (by decide) (te_p2 hh), fun _ h => absurd h List.not_mem_nil⟩⟩) (by decide +kernel) (by decide +kernel) te_c35
/-! Course.stand -/
def te_s36 : tj_C := (19, [(1, 56, 0), (0, 0, 4294967295), (0, 0, 4294967295)], ([(56, 4), (56, 5), (56, 6)], []), [([(1, 56, 0), (0, 0, 4294967295), (0, 0, 4294967295)], some (0, 2147483647, 2147483647), ([.inr (0, 5), .inr (0, 6)], [(0, 2147483648, 2147483648), (0, 2147483648, 2147483648)], [(0, .inr 0, .inl 5, .inr 4), (0, .inr 0, .inl 6, .inr 5)])), ([(1, 56, 0), (0, 2147483648, 2147483651), (0, 2147483648, 4294967295)], some (0, 2147483648, 2147483655), ([.inr (0, 4), .inr (0, 6)], [(0, 2147483648, 4294967295), (0, 2147483648, 2147483649)], [(0, .inr 0, .inl 4, .inr 4), (0, .inr 0, .inl 6, .inr 5)]))], ([], [], []))
set_option maxRecDepth 100000 in
theorem te_c36 : tj_chk tj_Lam te_s36.2.2.1 [te_s35, te_s4] zx_d_X0_stand te_s36.2.1 te_s36.2.2.2.1 te_s36.2.2.2.2 [] [] 3000 = true := by decide +kernel
theorem te_p36 (hh : te_HH) : tj_KS1 (zx_Cl zx_mt zx_rc zx_mx' 3) tj_Lam te_s36 := tj_method te_so (d := 2) (by rw [← zx_q_X0_stand]; rfl) (List.forall_mem_cons.mpr ⟨tj_KS1_le (by decide) (te_p35 hh), List.forall_mem_cons.mpr ⟨tj_KS1_le (by decide) (te_p4 hh), fun _ h => absurd h List.not_mem_nil⟩⟩) (by decide +kernel) (by decide +kernel) te_c36
/-! Row.at -/
def te_s37 : tj_C := (280, [(1, 43, 0), (0, 2147483648, 2147483648)], ([], []), [([(1, 43, 0), (0, 2147483648, 2147483648)], some (0, 2147483647, 2147483647), ([.inr (0, 1)], [(0, 2147483648, 2147483648)], [(0, .inr 0, .inl 1, .inr 3)])), ([(1, 43, 0), (0, 2147483648, 2147483648)], some (0, 0, 4294967295), ([.inr (0, 1)], [(0, 2147483649, 2147483662)], [(0, .inr 0, .inl 1, .inr 3)]))], ([], [], []))
set_option maxRecDepth 100000 in
theorem te_c37 : tj_chk tj_Lam te_s37.2.2.1 [] zx_d_X5_at te_s37.2.1 te_s37.2.2.2.1 te_s37.2.2.2.2 [] [] 3000 = true := by decide +kernel
theorem te_p37 (hh : te_HH) : tj_KS1 (zx_Cl zx_mt zx_rc zx_mx' 1) tj_Lam te_s37 := tj_method te_so (d := 0) (by rw [← zx_q_X5_at]; rfl) (fun _ h => absurd h List.not_mem_nil) (by decide +kernel) (by decide +kernel) te_c37
/-! Game.deedOn -/
def te_s38 : tj_C := (218, [(1, 61, 0), (0, 2147483648, 2147483648)], ([], []), [([(1, 61, 0), (0, 2147483648, 2147483648)], some (0, 2147483647, 2147483647), ([], [], [])), ([(1, 61, 0), (0, 2147483648, 2147483648)], some (0, 0, 4294967295), ([], [], []))], ([], [], []))
set_option maxRecDepth 100000 in
theorem te_c38 : tj_chk tj_Lam te_s38.2.2.1 [te_s37] zx_d_X1_deedOn te_s38.2.1 te_s38.2.2.2.1 te_s38.2.2.2.2 [] [] 3000 = true := by decide +kernel
theorem te_p38 (hh : te_HH) : tj_KS1 (zx_Cl zx_mt zx_rc zx_mx' 2) tj_Lam te_s38 := tj_method te_so (d := 1) (by rw [← zx_q_X1_deedOn]; rfl) (List.forall_mem_cons.mpr ⟨tj_KS1_le (by decide) (te_p37 hh), fun _ h => absurd h List.not_mem_nil⟩) (by decide +kernel) (by decide +kernel) te_c38
/-! Told.hasDeed -/
def te_s39 : tj_C := (27, [(1, 13, 0), (0, 0, 4294967295)], ([], []), [([(1, 13, 0), (0, 0, 4294967295)], some (0, 2147483648, 2147483648), ([], [], [])), ([(1, 13, 0), (0, 2147483648, 2147483653)], some (0, 2147483649, 2147483649), ([.inr (0, 2)], [(0, 2147483649, 2147483654)], [(0, .inr 0, .inl 2, .inr 3)]))], ([], [], []))
set_option maxRecDepth 100000 in
theorem te_c39 : tj_chk tj_Lam te_s39.2.2.1 [] zx_d_X10_hasDeed te_s39.2.1 te_s39.2.2.2.1 te_s39.2.2.2.2 [] [] 3000 = true := by decide +kernel
theorem te_p39 (hh : te_HH) : tj_KS1 (zx_Cl zx_mt zx_rc zx_mx' 1) tj_Lam te_s39 := tj_method te_so (d := 0) (by rw [← zx_q_X10_hasDeed]; rfl) (fun _ h => absurd h List.not_mem_nil) (by decide +kernel) (by decide +kernel) te_c39
/-! Course.isOperand -/
def te_s40 : tj_C := (13, [(0, 0, 4294967295)], ([], []), [([(0, 0, 2147483647)], some (0, 2147483648, 2147483648), ([], [], [])), ([(0, 2147483431, 4294967295)], some (0, 2147483649, 2147483649), ([], [], []))], ([], [], []))
set_option maxRecDepth 100000 in
theorem te_c40 : tj_chk tj_Lam te_s40.2.2.1 [] zx_d_X0_isOperand te_s40.2.1 te_s40.2.2.2.1 te_s40.2.2.2.2 [] [] 3000 = true := by decide +kernel
theorem te_p40 (hh : te_HH) : tj_KS1 (zx_Cl zx_mt zx_rc zx_mx' 1) tj_Lam te_s40 := tj_method te_so (d := 0) (by rw [← zx_q_X0_isOperand]; rfl) (fun _ h => absurd h List.not_mem_nil) (by decide +kernel) (by decide +kernel) te_c40
/-! Course.standing -/
def te_s41 : tj_C := (20, [(1, 56, 0), (0, 2147483649, 2147483865), (0, 2147483648, 2147483747)], ([], []), [([(1, 56, 0), (0, 2147483649, 2147483865), (0, 2147483648, 2147483747)], some (0, 0, 4294967295), ([], [], []))], ([], [], []))
set_option maxRecDepth 100000 in
theorem te_c41 : tj_chk tj_Lam te_s41.2.2.1 [] zx_d_X0_standing te_s41.2.1 te_s41.2.2.2.1 te_s41.2.2.2.2 [] [] 3000 = true := by decide +kernel
theorem te_p41 (hh : te_HH) : tj_KS1 (zx_Cl zx_mt zx_rc zx_mx' 1) tj_Lam te_s41 := tj_method te_so (d := 0) (by rw [← zx_q_X0_standing]; rfl) (fun _ h => absurd h List.not_mem_nil) (by decide +kernel) (by decide +kernel) te_c41
/-! Course.join -/
def te_s42 : tj_C := (14, [(0, 0, 4294967295), (0, 0, 4294967295), (0, 0, 4294967295)], ([], []), [([(0, 0, 4294967295), (0, 0, 4294967295), (0, 0, 4294967295)], some (0, 0, 4294967295), ([], [], []))], ([], [], []))
set_option maxRecDepth 100000 in
theorem te_c42 : tj_chk tj_Lam te_s42.2.2.1 [] zx_d_X0_join te_s42.2.1 te_s42.2.2.2.1 te_s42.2.2.2.2 [] [] 3000 = true := by decide +kernel
theorem te_p42 (hh : te_HH) : tj_KS1 (zx_Cl zx_mt zx_rc zx_mx' 1) tj_Lam te_s42 := tj_method te_so (d := 0) (by rw [← zx_q_X0_join]; rfl) (fun _ h => absurd h List.not_mem_nil) (by decide +kernel) (by decide +kernel) te_c42
/-! Course.evaluate -/
def te_s43 : tj_C := (9, [(1, 56, 0), (0, 2147483648, 2147484288), (0, 2147483648, 2147484288), (0, 2147483648, 2147483747)], ([], [54]), [([(1, 56, 0), (0, 2147483648, 2147484288), (0, 2147483648, 2147484288), (0, 2147483648, 2147483747)], some (0, 0, 4294967295), ([], [], []))], ([], [], []))
set_option maxRecDepth 100000 in
theorem te_c43 : tj_chk tj_Lam te_s43.2.2.1 [te_s40, te_s42, te_s41] zx_d_X0_evaluate te_s43.2.1 te_s43.2.2.2.1 te_s43.2.2.2.2 [((10, [(0, .inr 0), (1, .inr 1), (2, .inr 2), (3, .inr 3), (4, .inr 4), (5, .inr 5)], [], [(1, 56, 0), (0, 2147483648, 2147484288), (0, 2147483648, 2147484288), (0, 2147483648, 2147483747), (0, 2147483648, 2147483678), (0, 2147483648, 2147484288)], []), [.inl 4, .inl 5], [(0, 0), (1, 5), (0, 0)])] [10] 3000 = true := by decide +kernel
theorem te_p43 (hh : te_HH) : tj_KS1 (zx_Cl zx_mt zx_rc zx_mx' 2) tj_Lam te_s43 := tj_method te_so (d := 1) (by rw [← zx_q_X0_evaluate]; rfl) (List.forall_mem_cons.mpr ⟨tj_KS1_le (by decide) (te_p40 hh), List.forall_mem_cons.mpr ⟨tj_KS1_le (by decide) (te_p42 hh), List.forall_mem_cons.mpr ⟨tj_KS1_le (by decide) (te_p41 hh), fun _ h => absurd h List.not_mem_nil⟩⟩⟩) (by decide +kernel) (by decide +kernel) te_c43
/-! Course.loadAfter -/
def te_s44 : tj_C := (16, [(1, 56, 0), (0, 0, 4294967295), (0, 2147483648, 2147483747)], ([], [54]), [([(1, 56, 0), (0, 0, 4294967295), (0, 2147483648, 2147483747)], some (0, 2147483648, 2147483747), ([], [], []))], ([], [], []))
set_option maxRecDepth 100000 in
theorem te_c44 : tj_chk tj_Lam te_s44.2.2.1 [te_s43, te_s39] zx_d_X0_loadAfter te_s44.2.1 te_s44.2.2.2.1 te_s44.2.2.2.2 [] [] 3000 = true := by decide +kernel
theorem te_p44 (hh : te_HH) : tj_KS1 (zx_Cl zx_mt zx_rc zx_mx' 3) tj_Lam te_s44 := tj_method te_so (d := 2) (by rw [← zx_q_X0_loadAfter]; rfl) (List.forall_mem_cons.mpr ⟨tj_KS1_le (by decide) (te_p43 hh), List.forall_mem_cons.mpr ⟨tj_KS1_le (by decide) (te_p39 hh), fun _ h => absurd h List.not_mem_nil⟩⟩) (by decide +kernel) (by decide +kernel) te_c44
/-! Row.at -/
def te_s45 : tj_C := (280, [(1, 43, 0), (0, 2147483648, 2147483649)], ([], []), [([(1, 43, 0), (0, 2147483648, 2147483649)], some (0, 2147483647, 2147483647), ([.inr (0, 1)], [(0, 2147483648, 2147483649)], [(0, .inr 0, .inl 1, .inr 3)])), ([(1, 43, 0), (0, 2147483648, 2147483649)], some (0, 0, 4294967295), ([.inr (0, 1)], [(0, 2147483649, 2147483662)], [(0, .inr 0, .inl 1, .inr 3)]))], ([], [], []))
set_option maxRecDepth 100000 in
theorem te_c45 : tj_chk tj_Lam te_s45.2.2.1 [] zx_d_X5_at te_s45.2.1 te_s45.2.2.2.1 te_s45.2.2.2.2 [] [] 3000 = true := by decide +kernel
theorem te_p45 (hh : te_HH) : tj_KS1 (zx_Cl zx_mt zx_rc zx_mx' 1) tj_Lam te_s45 := tj_method te_so (d := 0) (by rw [← zx_q_X5_at]; rfl) (fun _ h => absurd h List.not_mem_nil) (by decide +kernel) (by decide +kernel) te_c45
/-! Game.deedOn -/
def te_s46 : tj_C := (218, [(1, 61, 0), (0, 2147483648, 2147483649)], ([], []), [([(1, 61, 0), (0, 2147483648, 2147483649)], some (0, 2147483647, 2147483647), ([], [], [])), ([(1, 61, 0), (0, 2147483648, 2147483649)], some (0, 0, 4294967295), ([], [], []))], ([], [], []))
set_option maxRecDepth 100000 in
theorem te_c46 : tj_chk tj_Lam te_s46.2.2.1 [te_s45] zx_d_X1_deedOn te_s46.2.1 te_s46.2.2.2.1 te_s46.2.2.2.2 [] [] 3000 = true := by decide +kernel
theorem te_p46 (hh : te_HH) : tj_KS1 (zx_Cl zx_mt zx_rc zx_mx' 2) tj_Lam te_s46 := tj_method te_so (d := 1) (by rw [← zx_q_X1_deedOn]; rfl) (List.forall_mem_cons.mpr ⟨tj_KS1_le (by decide) (te_p45 hh), fun _ h => absurd h List.not_mem_nil⟩) (by decide +kernel) (by decide +kernel) te_c46
/-! Row.at -/
def te_s47 : tj_C := (280, [(1, 43, 0), (0, 2147483648, 2147483650)], ([], []), [([(1, 43, 0), (0, 2147483648, 2147483650)], some (0, 2147483647, 2147483647), ([.inr (0, 1)], [(0, 2147483648, 2147483650)], [(0, .inr 0, .inl 1, .inr 3)])), ([(1, 43, 0), (0, 2147483648, 2147483650)], some (0, 0, 4294967295), ([.inr (0, 1)], [(0, 2147483649, 2147483662)], [(0, .inr 0, .inl 1, .inr 3)]))], ([], [], []))
set_option maxRecDepth 100000 in
theorem te_c47 : tj_chk tj_Lam te_s47.2.2.1 [] zx_d_X5_at te_s47.2.1 te_s47.2.2.2.1 te_s47.2.2.2.2 [] [] 3000 = true := by decide +kernel
theorem te_p47 (hh : te_HH) : tj_KS1 (zx_Cl zx_mt zx_rc zx_mx' 1) tj_Lam te_s47 := tj_method te_so (d := 0) (by rw [← zx_q_X5_at]; rfl) (fun _ h => absurd h List.not_mem_nil) (by decide +kernel) (by decide +kernel) te_c47
/-! Game.deedOn -/
def te_s48 : tj_C := (218, [(1, 61, 0), (0, 2147483648, 2147483650)], ([], []), [([(1, 61, 0), (0, 2147483648, 2147483650)], some (0, 2147483647, 2147483647), ([], [], [])), ([(1, 61, 0), (0, 2147483648, 2147483650)], some (0, 0, 4294967295), ([], [], []))], ([], [], []))
set_option maxRecDepth 100000 in
theorem te_c48 : tj_chk tj_Lam te_s48.2.2.1 [te_s47] zx_d_X1_deedOn te_s48.2.1 te_s48.2.2.2.1 te_s48.2.2.2.2 [] [] 3000 = true := by decide +kernel
theorem te_p48 (hh : te_HH) : tj_KS1 (zx_Cl zx_mt zx_rc zx_mx' 2) tj_Lam te_s48 := tj_method te_so (d := 1) (by rw [← zx_q_X1_deedOn]; rfl) (List.forall_mem_cons.mpr ⟨tj_KS1_le (by decide) (te_p47 hh), fun _ h => absurd h List.not_mem_nil⟩) (by decide +kernel) (by decide +kernel) te_c48
/-! Row.at -/
def te_s49 : tj_C := (280, [(1, 43, 0), (0, 2147483648, 2147483651)], ([], []), [([(1, 43, 0), (0, 2147483648, 2147483651)], some (0, 2147483647, 2147483647), ([.inr (0, 1)], [(0, 2147483648, 2147483651)], [(0, .inr 0, .inl 1, .inr 3)])), ([(1, 43, 0), (0, 2147483648, 2147483651)], some (0, 0, 4294967295), ([.inr (0, 1)], [(0, 2147483649, 2147483662)], [(0, .inr 0, .inl 1, .inr 3)]))], ([], [], []))
set_option maxRecDepth 100000 in
theorem te_c49 : tj_chk tj_Lam te_s49.2.2.1 [] zx_d_X5_at te_s49.2.1 te_s49.2.2.2.1 te_s49.2.2.2.2 [] [] 3000 = true := by decide +kernel
theorem te_p49 (hh : te_HH) : tj_KS1 (zx_Cl zx_mt zx_rc zx_mx' 1) tj_Lam te_s49 := tj_method te_so (d := 0) (by rw [← zx_q_X5_at]; rfl) (fun _ h => absurd h List.not_mem_nil) (by decide +kernel) (by decide +kernel) te_c49
/-! Game.deedOn -/
def te_s50 : tj_C := (218, [(1, 61, 0), (0, 2147483648, 2147483651)], ([], []), [([(1, 61, 0), (0, 2147483648, 2147483651)], some (0, 2147483647, 2147483647), ([], [], [])), ([(1, 61, 0), (0, 2147483648, 2147483651)], some (0, 0, 4294967295), ([], [], []))], ([], [], []))
set_option maxRecDepth 100000 in
theorem te_c50 : tj_chk tj_Lam te_s50.2.2.1 [te_s49] zx_d_X1_deedOn te_s50.2.1 te_s50.2.2.2.1 te_s50.2.2.2.2 [] [] 3000 = true := by decide +kernel
theorem te_p50 (hh : te_HH) : tj_KS1 (zx_Cl zx_mt zx_rc zx_mx' 2) tj_Lam te_s50 := tj_method te_so (d := 1) (by rw [← zx_q_X1_deedOn]; rfl) (List.forall_mem_cons.mpr ⟨tj_KS1_le (by decide) (te_p49 hh), fun _ h => absurd h List.not_mem_nil⟩) (by decide +kernel) (by decide +kernel) te_c50
/-! Row.at -/
def te_s51 : tj_C := (280, [(1, 43, 0), (0, 2147483648, 2147483652)], ([], []), [([(1, 43, 0), (0, 2147483648, 2147483652)], some (0, 2147483647, 2147483647), ([.inr (0, 1)], [(0, 2147483648, 2147483652)], [(0, .inr 0, .inl 1, .inr 3)])), ([(1, 43, 0), (0, 2147483648, 2147483652)], some (0, 0, 4294967295), ([.inr (0, 1)], [(0, 2147483649, 2147483662)], [(0, .inr 0, .inl 1, .inr 3)]))], ([], [], []))
set_option maxRecDepth 100000 in
theorem te_c51 : tj_chk tj_Lam te_s51.2.2.1 [] zx_d_X5_at te_s51.2.1 te_s51.2.2.2.1 te_s51.2.2.2.2 [] [] 3000 = true := by decide +kernel
theorem te_p51 (hh : te_HH) : tj_KS1 (zx_Cl zx_mt zx_rc zx_mx' 1) tj_Lam te_s51 := tj_method te_so (d := 0) (by rw [← zx_q_X5_at]; rfl) (fun _ h => absurd h List.not_mem_nil) (by decide +kernel) (by decide +kernel) te_c51
/-! Game.deedOn -/
def te_s52 : tj_C := (218, [(1, 61, 0), (0, 2147483648, 2147483652)], ([], []), [([(1, 61, 0), (0, 2147483648, 2147483652)], some (0, 2147483647, 2147483647), ([], [], [])), ([(1, 61, 0), (0, 2147483648, 2147483652)], some (0, 0, 4294967295), ([], [], []))], ([], [], []))
set_option maxRecDepth 100000 in
theorem te_c52 : tj_chk tj_Lam te_s52.2.2.1 [te_s51] zx_d_X1_deedOn te_s52.2.1 te_s52.2.2.2.1 te_s52.2.2.2.2 [] [] 3000 = true := by decide +kernel
theorem te_p52 (hh : te_HH) : tj_KS1 (zx_Cl zx_mt zx_rc zx_mx' 2) tj_Lam te_s52 := tj_method te_so (d := 1) (by rw [← zx_q_X1_deedOn]; rfl) (List.forall_mem_cons.mpr ⟨tj_KS1_le (by decide) (te_p51 hh), fun _ h => absurd h List.not_mem_nil⟩) (by decide +kernel) (by decide +kernel) te_c52
/-! Row.at -/
def te_s53 : tj_C := (280, [(1, 43, 0), (0, 2147483648, 2147483653)], ([], []), [([(1, 43, 0), (0, 2147483648, 2147483653)], some (0, 2147483647, 2147483647), ([.inr (0, 1)], [(0, 2147483648, 2147483653)], [(0, .inr 0, .inl 1, .inr 3)])), ([(1, 43, 0), (0, 2147483648, 2147483653)], some (0, 0, 4294967295), ([.inr (0, 1)], [(0, 2147483649, 2147483662)], [(0, .inr 0, .inl 1, .inr 3)]))], ([], [], []))
set_option maxRecDepth 100000 in
theorem te_c53 : tj_chk tj_Lam te_s53.2.2.1 [] zx_d_X5_at te_s53.2.1 te_s53.2.2.2.1 te_s53.2.2.2.2 [] [] 3000 = true := by decide +kernel
theorem te_p53 (hh : te_HH) : tj_KS1 (zx_Cl zx_mt zx_rc zx_mx' 1) tj_Lam te_s53 := tj_method te_so (d := 0) (by rw [← zx_q_X5_at]; rfl) (fun _ h => absurd h List.not_mem_nil) (by decide +kernel) (by decide +kernel) te_c53
/-! Game.deedOn -/
def te_s54 : tj_C := (218, [(1, 61, 0), (0, 2147483648, 2147483653)], ([], []), [([(1, 61, 0), (0, 2147483648, 2147483653)], some (0, 2147483647, 2147483647), ([], [], [])), ([(1, 61, 0), (0, 2147483648, 2147483653)], some (0, 0, 4294967295), ([], [], []))], ([], [], []))
set_option maxRecDepth 100000 in
theorem te_c54 : tj_chk tj_Lam te_s54.2.2.1 [te_s53] zx_d_X1_deedOn te_s54.2.1 te_s54.2.2.2.1 te_s54.2.2.2.2 [] [] 3000 = true := by decide +kernel
theorem te_p54 (hh : te_HH) : tj_KS1 (zx_Cl zx_mt zx_rc zx_mx' 2) tj_Lam te_s54 := tj_method te_so (d := 1) (by rw [← zx_q_X1_deedOn]; rfl) (List.forall_mem_cons.mpr ⟨tj_KS1_le (by decide) (te_p53 hh), fun _ h => absurd h List.not_mem_nil⟩) (by decide +kernel) (by decide +kernel) te_c54
/-! Row.at -/
def te_s55 : tj_C := (280, [(1, 43, 0), (0, 2147483648, 2147483654)], ([], []), [([(1, 43, 0), (0, 2147483648, 2147483654)], some (0, 2147483647, 2147483647), ([.inr (0, 1)], [(0, 2147483648, 2147483654)], [(0, .inr 0, .inl 1, .inr 3)])), ([(1, 43, 0), (0, 2147483648, 2147483654)], some (0, 0, 4294967295), ([.inr (0, 1)], [(0, 2147483649, 2147483662)], [(0, .inr 0, .inl 1, .inr 3)]))], ([], [], []))
set_option maxRecDepth 100000 in
theorem te_c55 : tj_chk tj_Lam te_s55.2.2.1 [] zx_d_X5_at te_s55.2.1 te_s55.2.2.2.1 te_s55.2.2.2.2 [] [] 3000 = true := by decide +kernel
theorem te_p55 (hh : te_HH) : tj_KS1 (zx_Cl zx_mt zx_rc zx_mx' 1) tj_Lam te_s55 := tj_method te_so (d := 0) (by rw [← zx_q_X5_at]; rfl) (fun _ h => absurd h List.not_mem_nil) (by decide +kernel) (by decide +kernel) te_c55
/-! Game.deedOn -/
def te_s56 : tj_C := (218, [(1, 61, 0), (0, 2147483648, 2147483654)], ([], []), [([(1, 61, 0), (0, 2147483648, 2147483654)], some (0, 2147483647, 2147483647), ([], [], [])), ([(1, 61, 0), (0, 2147483648, 2147483654)], some (0, 0, 4294967295), ([], [], []))], ([], [], []))
set_option maxRecDepth 100000 in
theorem te_c56 : tj_chk tj_Lam te_s56.2.2.1 [te_s55] zx_d_X1_deedOn te_s56.2.1 te_s56.2.2.2.1 te_s56.2.2.2.2 [] [] 3000 = true := by decide +kernel
theorem te_p56 (hh : te_HH) : tj_KS1 (zx_Cl zx_mt zx_rc zx_mx' 2) tj_Lam te_s56 := tj_method te_so (d := 1) (by rw [← zx_q_X1_deedOn]; rfl) (List.forall_mem_cons.mpr ⟨tj_KS1_le (by decide) (te_p55 hh), fun _ h => absurd h List.not_mem_nil⟩) (by decide +kernel) (by decide +kernel) te_c56
/-! Row.at -/
def te_s57 : tj_C := (280, [(1, 43, 0), (0, 2147483648, 2147483655)], ([], []), [([(1, 43, 0), (0, 2147483648, 2147483655)], some (0, 2147483647, 2147483647), ([.inr (0, 1)], [(0, 2147483648, 2147483655)], [(0, .inr 0, .inl 1, .inr 3)])), ([(1, 43, 0), (0, 2147483648, 2147483655)], some (0, 0, 4294967295), ([.inr (0, 1)], [(0, 2147483649, 2147483662)], [(0, .inr 0, .inl 1, .inr 3)]))], ([], [], []))
set_option maxRecDepth 100000 in
theorem te_c57 : tj_chk tj_Lam te_s57.2.2.1 [] zx_d_X5_at te_s57.2.1 te_s57.2.2.2.1 te_s57.2.2.2.2 [] [] 3000 = true := by decide +kernel
theorem te_p57 (hh : te_HH) : tj_KS1 (zx_Cl zx_mt zx_rc zx_mx' 1) tj_Lam te_s57 := tj_method te_so (d := 0) (by rw [← zx_q_X5_at]; rfl) (fun _ h => absurd h List.not_mem_nil) (by decide +kernel) (by decide +kernel) te_c57
/-! Game.deedOn -/
def te_s58 : tj_C := (218, [(1, 61, 0), (0, 2147483648, 2147483655)], ([], []), [([(1, 61, 0), (0, 2147483648, 2147483655)], some (0, 2147483647, 2147483647), ([], [], [])), ([(1, 61, 0), (0, 2147483648, 2147483655)], some (0, 0, 4294967295), ([], [], []))], ([], [], []))
set_option maxRecDepth 100000 in
theorem te_c58 : tj_chk tj_Lam te_s58.2.2.1 [te_s57] zx_d_X1_deedOn te_s58.2.1 te_s58.2.2.2.1 te_s58.2.2.2.2 [] [] 3000 = true := by decide +kernel
theorem te_p58 (hh : te_HH) : tj_KS1 (zx_Cl zx_mt zx_rc zx_mx' 2) tj_Lam te_s58 := tj_method te_so (d := 1) (by rw [← zx_q_X1_deedOn]; rfl) (List.forall_mem_cons.mpr ⟨tj_KS1_le (by decide) (te_p57 hh), fun _ h => absurd h List.not_mem_nil⟩) (by decide +kernel) (by decide +kernel) te_c58
/-! Row.at -/
def te_s59 : tj_C := (280, [(1, 43, 0), (0, 2147483648, 2147483656)], ([], []), [([(1, 43, 0), (0, 2147483648, 2147483656)], some (0, 2147483647, 2147483647), ([.inr (0, 1)], [(0, 2147483648, 2147483656)], [(0, .inr 0, .inl 1, .inr 3)])), ([(1, 43, 0), (0, 2147483648, 2147483656)], some (0, 0, 4294967295), ([.inr (0, 1)], [(0, 2147483649, 2147483662)], [(0, .inr 0, .inl 1, .inr 3)]))], ([], [], []))
set_option maxRecDepth 100000 in
theorem te_c59 : tj_chk tj_Lam te_s59.2.2.1 [] zx_d_X5_at te_s59.2.1 te_s59.2.2.2.1 te_s59.2.2.2.2 [] [] 3000 = true := by decide +kernel
theorem te_p59 (hh : te_HH) : tj_KS1 (zx_Cl zx_mt zx_rc zx_mx' 1) tj_Lam te_s59 := tj_method te_so (d := 0) (by rw [← zx_q_X5_at]; rfl) (fun _ h => absurd h List.not_mem_nil) (by decide +kernel) (by decide +kernel) te_c59
