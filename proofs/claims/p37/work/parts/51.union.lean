/-! summaries of all days in one -/
/-- merge ('r', 'SumsF'), up to day 19 -/
def tg_u0 (k : Nat) : tj_C := (345, [(1, 83, 0), (0, 2147483648 + k, 2147483648 + k), (0, 0, 4294967295), (0, 0, 4294967295), (3, 0, 0), (0, 2147483648, 2147491840)], ([], [80, 79]), [([(1, 83, 0), (0, 2147483648 + k, 2147483648 + k), (0, 0, 4294967295), (0, 0, 4294967295), (3, 0, 0), (0, 2147483648, 2147491840)], some (0, 2147483647, 2147483647), ([], [], [(9932562877376062554112009294, .inr 6, .inr 5, .inl 0)])), ([(1, 83, 0), (0, 2147483648 + k, 2147483648 + k), (0, 0, 4294967295), (0, 0, 4294967295), (3, 0, 0), (0, 2147483648, 2147491840)], some (0, 2147483648, 2147491840), ([], [], [(9932562877376062554112009295, .inr 6, .inr 5, .inl 0)]))], ([], [], [(106, .inr 0, .inl 32768, .inr 0)]))
theorem tg_up0 : ∀ k : Nat, k ≤ 19 → tj_KS1 (zx_Cl zx_mt zx_rc zx_mx' 23) tj_Lam (tg_u0 k)
  | 0, _ => tj_KS1_le (by decide) tg_p48
  | 1, _ => tj_KS1_le (by decide) tg_p46
  | 2, _ => tj_KS1_le (by decide) tg_p44
  | 3, _ => tj_KS1_le (by decide) tg_p42
  | 4, _ => tj_KS1_le (by decide) tg_p40
  | 5, _ => tj_KS1_le (by decide) tg_p38
  | 6, _ => tj_KS1_le (by decide) tg_p36
  | 7, _ => tj_KS1_le (by decide) tg_p34
  | 8, _ => tj_KS1_le (by decide) tg_p32
  | 9, _ => tj_KS1_le (by decide) tg_p30
  | 10, _ => tj_KS1_le (by decide) tg_p28
  | 11, _ => tj_KS1_le (by decide) tg_p26
  | 12, _ => tj_KS1_le (by decide) tg_p24
  | 13, _ => tj_KS1_le (by decide) tg_p22
  | 14, _ => tj_KS1_le (by decide) tg_p20
  | 15, _ => tj_KS1_le (by decide) tg_p18
  | 16, _ => tj_KS1_le (by decide) tg_p16
  | 17, _ => tj_KS1_le (by decide) tg_p14
  | 18, _ => tj_KS1_le (by decide) tg_p12
  | 19, _ => tj_KS1_le (by decide) tg_p10
  | k + 20, h => absurd h (by omega)
/-- merge ('r', 'SumsM'), up to day 19 -/
def tg_u1 (k : Nat) : tj_C := (345, [(1, 93, 0), (0, 2147483648 + k, 2147483648 + k), (0, 0, 4294967295), (0, 0, 4294967295), (3, 0, 0), (0, 2147483648, 2147549184)], ([], [90, 89]), [([(1, 93, 0), (0, 2147483648 + k, 2147483648 + k), (0, 0, 4294967295), (0, 0, 4294967295), (3, 0, 0), (0, 2147483648, 2147549184)], some (0, 2147483647, 2147483647), ([], [], [(9932562877376062554112066638, .inr 6, .inr 5, .inl 0)])), ([(1, 93, 0), (0, 2147483648 + k, 2147483648 + k), (0, 0, 4294967295), (0, 0, 4294967295), (3, 0, 0), (0, 2147483648, 2147549184)], some (0, 2147483648, 2147549184), ([], [], [(9932562877376062554112066639, .inr 6, .inr 5, .inl 0)]))], ([], [], [(106, .inr 0, .inl 262144, .inr 0)]))
theorem tg_up1 : ∀ k : Nat, k ≤ 19 → tj_KS1 (zx_Cl zx_mt zx_rc zx_mx' 23) tj_Lam (tg_u1 k)
  | 0, _ => tj_KS1_le (by decide) tg_p108
  | 1, _ => tj_KS1_le (by decide) tg_p106
  | 2, _ => tj_KS1_le (by decide) tg_p104
  | 3, _ => tj_KS1_le (by decide) tg_p102
  | 4, _ => tj_KS1_le (by decide) tg_p100
  | 5, _ => tj_KS1_le (by decide) tg_p98
  | 6, _ => tj_KS1_le (by decide) tg_p96
  | 7, _ => tj_KS1_le (by decide) tg_p94
  | 8, _ => tj_KS1_le (by decide) tg_p92
  | 9, _ => tj_KS1_le (by decide) tg_p90
  | 10, _ => tj_KS1_le (by decide) tg_p88
  | 11, _ => tj_KS1_le (by decide) tg_p86
  | 12, _ => tj_KS1_le (by decide) tg_p84
  | 13, _ => tj_KS1_le (by decide) tg_p82
  | 14, _ => tj_KS1_le (by decide) tg_p80
  | 15, _ => tj_KS1_le (by decide) tg_p78
  | 16, _ => tj_KS1_le (by decide) tg_p76
  | 17, _ => tj_KS1_le (by decide) tg_p74
  | 18, _ => tj_KS1_le (by decide) tg_p72
  | 19, _ => tj_KS1_le (by decide) tg_p70
  | k + 20, h => absurd h (by omega)
/-- walk ('r', 'Search'), up to day 20 -/
def tg_u2 (k : Nat) : tj_C := (309, [(1, 99, 0), (0, 2147483648 + k, 2147483648 + k), (0, 2147483648, 2147483747), (0, 0, 4294967295), (0, 2147483648, 2147483747), (3, 0, 0)], ([(99, 15), (99, 16), (99, 17)], [91]), [([(1, 99, 0), (0, 2147483648 + k, 2147483648 + k), (0, 2147483648, 2147483747), (0, 0, 4294967295), (0, 2147483648, 2147483747), (3, 0, 0)], none, ([], [], []))], ([], [], []))
theorem tg_up2 : ∀ k : Nat, k ≤ 20 → tj_KS1 (zx_Cl zx_mt zx_rc zx_mx' 24) tj_Lam (tg_u2 k)
  | 0, _ => tj_KS1_le (by decide) tg_p167
  | 1, _ => tj_KS1_le (by decide) tg_p166
  | 2, _ => tj_KS1_le (by decide) tg_p165
  | 3, _ => tj_KS1_le (by decide) tg_p164
  | 4, _ => tj_KS1_le (by decide) tg_p163
  | 5, _ => tj_KS1_le (by decide) tg_p162
  | 6, _ => tj_KS1_le (by decide) tg_p161
  | 7, _ => tj_KS1_le (by decide) tg_p160
  | 8, _ => tj_KS1_le (by decide) tg_p159
  | 9, _ => tj_KS1_le (by decide) tg_p158
  | 10, _ => tj_KS1_le (by decide) tg_p157
  | 11, _ => tj_KS1_le (by decide) tg_p156
  | 12, _ => tj_KS1_le (by decide) tg_p155
  | 13, _ => tj_KS1_le (by decide) tg_p154
  | 14, _ => tj_KS1_le (by decide) tg_p153
  | 15, _ => tj_KS1_le (by decide) tg_p152
  | 16, _ => tj_KS1_le (by decide) tg_p151
  | 17, _ => tj_KS1_le (by decide) tg_p150
  | 18, _ => tj_KS1_le (by decide) tg_p149
  | 19, _ => tj_KS1_le (by decide) tg_p148
  | 20, _ => tj_KS1_le (by decide) tg_p147
  | k + 21, h => absurd h (by omega)
