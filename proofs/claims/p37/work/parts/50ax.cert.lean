/-! Sums.isReached -/
def tg_s262 : tj_C := (339, [(1, 83, 0), (0, 2147483648, 2147483667), (0, 0, 4294967295)], ([], []), [([(1, 83, 0), (0, 2147483648, 2147483667), (0, 0, 4294967295)], some (0, 2147483648, 2147483648), ([], [], [])), ([(1, 83, 0), (0, 2147483648, 2147483667), (0, 0, 4294967295)], some (0, 2147483649, 2147483649), ([], [], []))], ([], [], []))
set_option maxRecDepth 100000 in
theorem tg_c262 : tj_chk tj_Lam tg_s262.2.2.1 [tg_h1] zx_d_X9_isReached tg_s262.2.1 tg_s262.2.2.2.1 tg_s262.2.2.2.2 [] [] 3000 = true := by decide +kernel
theorem tg_p262 : tj_KS1 (zx_Cl zx_mt zx_rc zx_mx' 2) tj_Lam tg_s262 := tj_method te_so (d := 1) (by rw [← zx_q_X9_isReached]; rfl) (List.forall_mem_cons.mpr ⟨tj_KS1_le (by decide) tg_hh1, fun _ h => absurd h List.not_mem_nil⟩) (by decide +kernel) (by decide +kernel) tg_c262
