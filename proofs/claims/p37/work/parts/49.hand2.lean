/-! the second phase: what is to be proved by hand -/
/-- Game.cell -/
def tg_h0 : tj_C := (217, [(0, 2147483648, 2147483668), (0, 0, 4294967295)], ([], []), [([(0, 2147483648, 2147483668), (0, 0, 4294967295)], some (0, 2147483648, 2147485747), ([], [], [(105, .inr 2, .inr 0, .inr 1)]))], ([], [], []))
/-- Game.cell -/
def tg_h1 : tj_C := (217, [(0, 2147483648, 2147483667), (0, 0, 4294967295)], ([], []), [([(0, 2147483648, 2147483667), (0, 0, 4294967295)], some (0, 2147483648, 2147485647), ([], [], [(105, .inr 2, .inr 0, .inr 1)]))], ([], [], []))
/-- Sums.isKnown -/
def tg_h2 : tj_C := (337, [(1, 83, 0), (0, 2147483648, 2147483668), (0, 0, 4294967295)], ([], []), [([(1, 83, 0), (0, 2147483648, 2147483668), (0, 0, 4294967295)], some (0, 2147483648, 2147483649), ([], [], []))], ([], [], []))
def tg_HH : Prop := ∀ C ∈ ([tg_h0, tg_h1, tg_h2] : List tj_C), tj_KS1 (zx_Cl zx_mt zx_rc zx_mx' 400) tj_Lam C
theorem tg_hh0 (hh : tg_HH) : tj_KS1 (zx_Cl zx_mt zx_rc zx_mx' 400) tj_Lam tg_h0 := hh _ (by simp)
theorem tg_hh1 (hh : tg_HH) : tj_KS1 (zx_Cl zx_mt zx_rc zx_mx' 400) tj_Lam tg_h1 := hh _ (by simp)
theorem tg_hh2 (hh : tg_HH) : tj_KS1 (zx_Cl zx_mt zx_rc zx_mx' 400) tj_Lam tg_h2 := hh _ (by simp)
