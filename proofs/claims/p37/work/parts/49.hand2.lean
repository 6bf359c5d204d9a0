/-! the second phase: what is to be proved by hand -/
/-- Game.cell -/
def tg_h0 : tj_C := (217, [(0, 2147483648, 2147483668), (0, 0, 4294967295)], ([], []), [([(0, 2147483648, 2147483668), (0, 0, 4294967295)], some (0, 2147483648, 2147485747), ([], [], [(105, .inr 2, .inr 0, .inr 1)]))], ([], [], []))
/-- Game.cell -/
def tg_h1 : tj_C := (217, [(0, 2147483648, 2147483667), (0, 0, 4294967295)], ([], []), [([(0, 2147483648, 2147483667), (0, 0, 4294967295)], some (0, 2147483648, 2147485647), ([], [], [(105, .inr 2, .inr 0, .inr 1)]))], ([], [], []))
/-- Sums.beginSieve -/
def tg_h2 : tj_C := (331, [(1, 93, 0), (3, 0, 0), (3, 0, 0)], ([(93, 14), (93, 15)], [91]), [([(1, 93, 0), (3, 0, 0), (3, 0, 0)], none, ([], [], []))], ([], [], []))
/-- Sums.isKnown -/
def tg_h3 : tj_C := (337, [(1, 93, 0), (0, 2147483648, 2147483668), (0, 0, 4294967295)], ([], []), [([(1, 93, 0), (0, 2147483648, 2147483668), (0, 0, 4294967295)], some (0, 2147483648, 2147483648), ([.inr (0, 1), .inr (4, 9)], [(1, 61, 0), (0, 2147483648, 2147483668)], [(0, .inr 0, .inl 1, .inr 4), (0, .inr 4, .inl 9, .inr 5), (9932525098444199596950291534, .inr 1, .inr 5, .inl 0)])), ([(1, 93, 0), (0, 2147483648, 2147483668), (0, 0, 4294967295)], some (0, 2147483649, 2147483649), ([], [], [(108, .inr 0, .inr 1, .inr 2)]))], ([.inr (0, 1), .inr (3, 9)], [(1, 61, 0), (0, 2147483648, 2147483668)], [(0, .inr 0, .inl 1, .inr 3), (0, .inr 3, .inl 9, .inr 4), (107, .inr 0, .inr 0, .inr 0), (9932525098444199596950291535, .inr 1, .inr 4, .inl 0)]))
/-- Sums.begin -/
def tg_h4 : tj_C := (330, [(1, 93, 0)], ([(56, 4), (56, 5), (56, 6), (93, 14), (93, 7)], [54, 88, 84, 86, 85, 90, 89, 87]), [([(1, 93, 0)], none, ([], [], [(106, .inr 0, .inl 262144, .inr 0), (107, .inr 0, .inr 0, .inr 0)]))], ([], [], [(106, .inr 0, .inl 262144, .inr 0)]))
/-- Search.sweepTo -/
def tg_h5 : tj_C := (307, [(1, 99, 0), (0, 2147483648, 2147483747)], ([(99, 13), (99, 14), (99, 15), (99, 16), (99, 17), (93, 10), (93, 11), (93, 12), (93, 14), (93, 15)], [98, 90, 89, 91]), [([(1, 99, 0), (0, 2147483648, 2147483747)], none, ([], [], []))], ([.inr (0, 1)], [(1, 93, 0)], [(0, .inr 0, .inl 1, .inr 2), (106, .inr 2, .inl 262144, .inr 2), (107, .inr 2, .inr 2, .inr 2), (109, .inr 0, .inr 1, .inl 0)]))
def tg_HH : Prop := ∀ C ∈ ([(tg_h4, zx_Cl zx_mt zx_rc zx_mx' 260), (tg_h5, zx_Cl zx_mt zx_rc zx_mx' 360)] : List (tj_C × zx_K)), tj_KS1 C.2 tj_Lam C.1
theorem tg_hh0 : tj_KS1 (zx_Cl zx_mt zx_rc zx_mx' 1) tj_Lam tg_h0 := tj_KS1_le (by decide) (tg_cell (hi := 2147483668) (hr := 2147485747) (by decide) (by decide))
theorem tg_hh1 : tj_KS1 (zx_Cl zx_mt zx_rc zx_mx' 1) tj_Lam tg_h1 := tj_KS1_le (by decide) (tg_cell (hi := 2147483667) (hr := 2147485647) (by decide) (by decide))
theorem tg_hh2 : tj_KS1 (zx_Cl zx_mt zx_rc zx_mx' 8) tj_Lam tg_h2 := tj_KS1_le (by decide) (tg_sieve te_p565)
theorem tg_hh3 : tj_KS1 (zx_Cl zx_mt zx_rc zx_mx' 2) tj_Lam tg_h3 := tj_KS1_le (by decide) (tg_known)
theorem tg_hh4 (hh : tg_HH) : tj_KS1 (zx_Cl zx_mt zx_rc zx_mx' 260) tj_Lam tg_h4 := hh (tg_h4, zx_Cl zx_mt zx_rc zx_mx' 260) (List.mem_cons_self)
theorem tg_hh5 (hh : tg_HH) : tj_KS1 (zx_Cl zx_mt zx_rc zx_mx' 360) tj_Lam tg_h5 := hh (tg_h5, zx_Cl zx_mt zx_rc zx_mx' 360) (List.mem_cons_of_mem _ (List.mem_cons_self))
