/-! the second phase: what is to be proved by hand -/
/-- Game.cell -/
def tg_h0 : tj_C := (217, [(0, 2147483648, 2147483668), (0, 0, 4294967295)], ([], []), [([(0, 2147483648, 2147483668), (0, 0, 4294967295)], some (0, 2147483648, 2147485747), ([], [], [(105, .inr 2, .inr 0, .inr 1)]))], ([], [], []))
/-- Game.cell -/
def tg_h1 : tj_C := (217, [(0, 2147483648, 2147483667), (0, 0, 4294967295)], ([], []), [([(0, 2147483648, 2147483667), (0, 0, 4294967295)], some (0, 2147483648, 2147485647), ([], [], [(105, .inr 2, .inr 0, .inr 1)]))], ([], [], []))
/-- Sums.beginSieve -/
def tg_h2 : tj_C := (331, [(1, 93, 0), (3, 0, 0), (3, 0, 0)], ([(93, 14), (93, 15)], [91]), [([(1, 93, 0), (3, 0, 0), (3, 0, 0)], none, ([], [], []))], ([], [], []))
/-- Sums.isKnown -/
def tg_h3 : tj_C := (337, [(1, 93, 0), (0, 2147483648, 2147483668), (0, 0, 4294967295)], ([], []), [([(1, 93, 0), (0, 2147483648, 2147483668), (0, 0, 4294967295)], some (0, 2147483648, 2147483648), ([.inr (0, 1), .inr (4, 9)], [(1, 61, 0), (0, 2147483648, 2147483668)], [(0, .inr 0, .inl 1, .inr 4), (0, .inr 4, .inl 9, .inr 5), (9932525098444199596950291534, .inr 1, .inr 5, .inl 0)])), ([(1, 93, 0), (0, 2147483648, 2147483668), (0, 0, 4294967295)], some (0, 2147483649, 2147483649), ([], [], [(108, .inr 0, .inr 1, .inr 2)]))], ([.inr (0, 1), .inr (3, 9)], [(1, 61, 0), (0, 2147483648, 2147483668)], [(0, .inr 0, .inl 1, .inr 3), (0, .inr 3, .inl 9, .inr 4), (107, .inr 0, .inr 0, .inr 0), (9932525098444199596950291535, .inr 1, .inr 4, .inl 0)]))
def tg_HH : Prop := ∀ C ∈ ([tg_h2] : List tj_C), tj_KS1 (zx_Cl zx_mt zx_rc zx_mx' 400) tj_Lam C
theorem tg_hh0 : tj_KS1 (zx_Cl zx_mt zx_rc zx_mx' 400) tj_Lam tg_h0 := tj_KS1_le (by decide) (tg_cell (hi := 2147483668) (hr := 2147485747) (by decide) (by decide))
theorem tg_hh1 : tj_KS1 (zx_Cl zx_mt zx_rc zx_mx' 400) tj_Lam tg_h1 := tj_KS1_le (by decide) (tg_cell (hi := 2147483667) (hr := 2147485647) (by decide) (by decide))
theorem tg_hh2 (hh : tg_HH) : tj_KS1 (zx_Cl zx_mt zx_rc zx_mx' 400) tj_Lam tg_h2 := hh _ (by simp)
theorem tg_hh3 : tj_KS1 (zx_Cl zx_mt zx_rc zx_mx' 400) tj_Lam tg_h3 := tj_KS1_le (by decide) (tg_known)
