/-! what was to be proved by hand of the class (but Sums, Search, together): all of it is -/
theorem te_hands : te_HH := by
  intro C hC
  simp only [List.mem_cons, List.not_mem_nil, or_false] at hC
  rcases hC with rfl | rfl | rfl | rfl | rfl | rfl | rfl | rfl | rfl
  · exact tj_KS1_le (by decide) (te_b0 te_bk)
  · exact tj_KS1_le (by decide) (te_b1 te_bk)
  · exact tj_KS1_le (by decide) te_b2
  · exact tj_KS1_le (by decide) te_b3
  · exact tj_KS1_le (by decide) te_b4
  · exact tj_KS1_le (by decide) te_b5
  · exact tj_KS1_le (by decide) te_b6
  · exact tj_KS1_le (by decide) te_b7
  · exact tj_KS1_le (by decide) te_b8
