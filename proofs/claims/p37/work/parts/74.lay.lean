/-! by hand: layPlace, layGame, layRow -/
def tr_EL : tj_Ef := ([(149, 45), (149, 46), (149, 47), (149, 48)], [124, 123, 122])
/-- ahead of wouldBring -/
theorem tr_preW {Ψ : List Nat} {w : List zx_E} {q : Nat} {bk p d t l s f : Int32} {hv pv dv tm ho pe cd rf rt al : Nat → Int32} (hw : tj_wt tj_Lam Ψ w) (hq : Ψ[q]? = some 149) (hR : tr_R w q bk hv pv dv tm ho pe cd rf rt) (h49 : tj_fa w q 12 49 119 al) (ty : tj_typed Ψ [(.inr (.inr (.inl q))), (.inl p), (.inl d), (.inl t), (.inl l), (.inl s), (.inl f)] [(1, 149, 0), (0, 2147483648, 2147483651), (0, 2147483648, 2147483653), (0, 2147483648, 2147483667), (0, 2147483648, 2147483747), (0, 2147483648, 2147483650), (0, 2147483648, 2147483649)]) (ht : 0 ≤ t.toInt ∧ t.toInt ≤ 19) (hp : p.toInt < (pv bk.toInt.toNat).toInt) (hd : d.toInt < (dv bk.toInt.toNat).toInt) (hA : tj_sm16 (.inr (.inr (.inl q))) (.inl p) (.inl (al 0 + t)) w) : ∃ ρ : Nat → zx_V, (∀ i v, [(.inr (.inr (.inl q))), (.inl p), (.inl d), (.inl t), (.inl l), (.inl s), (.inl f)][i]? = some v → ρ i = v) ∧ tj_env Ψ ([(1, 149, 0), (0, 2147483648, 2147483651), (0, 2147483648, 2147483653), (0, 2147483648, 2147483667), (0, 2147483648, 2147483747), (0, 2147483648, 2147483650), (0, 2147483648, 2147483649)] ++ [(1, 105, 0), (0, 2147483648, 2147483649), (0, 2147483648, 2147483652), (1, 106, 0), (0, 2147483648, 2147483654), (1, 139, 0), (0, 2147483648, 2147484548), (0, 2147483648, 2147484567)]) ρ ∧ ∀ f ∈ [((0 : Nat), (.inr 0 : tj_a), (.inl 13 : tj_a), (.inr 7 : tj_a)), (0, .inr 0, .inl 39, .inr 8), (1, .inr 7, .inr 8, .inr 9), (0, .inr 0, .inl 14, .inr 10), (1, .inr 10, .inr 8, .inr 11), (0, .inr 0, .inl 49, .inr 12), (1, .inr 12, .inl 0, .inr 13), (3, .inr 13, .inr 3, .inr 14), (110, .inr 0, .inr 0, .inr 0), (119, .inr 0, .inr 1, .inr 14), (9932525098444199596950291534, .inr 1, .inr 9, .inl 0), (9932525098444199596950291534, .inr 2, .inr 11, .inl 0)], tj_fd ρ w f := by
  have hR7 := hR
  obtain ⟨h39, h11, h13, h14, h24, h23, h19, h34, h26, h27, hb, hro⟩ := hR
  obtain ⟨fs, k0, k39⟩ := id h39
  obtain ⟨a, b, k13, ha, k14, hb'⟩ := tr_ct hw hq k0
  have p4 := tr_b4 hw hq h13 (j := bk.toInt.toNat) (by omega)
  have p6 := tr_b6 hw hq h14 (j := bk.toInt.toNat) (by omega)
  obtain ⟨fs', a', k0', k13', ka⟩ := id h13
  rw [k0] at k0'
  cases k0'
  rw [k13] at k13'
  cases k13'
  obtain ⟨fs', a', k0', k14', kb⟩ := id h14
  rw [k0] at k0'
  cases k0'
  rw [k14] at k14'
  cases k14'
  obtain ⟨fs', c, k0', k49, kc, hc, t1, t2⟩ := tr_al0 hw hq h49
  rw [k0] at k0'
  cases k0'
  have i1 := zx_b_int bk
  have i2 := zx_b_int (pv bk.toInt.toNat)
  have i3 := zx_b_int (dv bk.toInt.toNat)
  have i4 := zx_b_int (al 0)
  have es : (al 0 + t).toInt = (al 0).toInt + t.toInt := tr_add (by omega) (by omega)
  have i5 := zx_b_int (al 0 + t)
  refine zy_pre ty (vs := [(.inr (.inr (.inl a))), (.inl bk), (.inl (pv bk.toInt.toNat)), (.inr (.inr (.inl b))), (.inl (dv bk.toInt.toNat)), (.inr (.inr (.inl c))), (.inl (al 0)), (.inl (al 0 + t))]) ⟨⟨a, rfl, ha⟩, ⟨bk, rfl, by omega, by omega⟩, ⟨_, rfl, by omega, by omega⟩, ⟨b, rfl, hb'⟩, ⟨_, rfl, by omega, by omega⟩, ⟨c, rfl, hc⟩, ⟨_, rfl, t1, t2⟩, ⟨_, rfl, by omega, by omega⟩, trivial⟩ ?_
  refine List.forall_mem_cons.mpr ⟨⟨q, 12, fs, rfl, k0, k13⟩, List.forall_mem_cons.mpr ⟨⟨q, 12, fs, rfl, k0, k39⟩, List.forall_mem_cons.mpr ⟨⟨a, bk, rfl, rfl, Or.inl ⟨0, 2, pv, ka, rfl⟩⟩, List.forall_mem_cons.mpr ⟨⟨q, 12, fs, rfl, k0, k14⟩, List.forall_mem_cons.mpr ⟨⟨b, bk, rfl, rfl, Or.inl ⟨0, 2, dv, kb, rfl⟩⟩, List.forall_mem_cons.mpr ⟨⟨q, 12, fs, rfl, k0, k49⟩, List.forall_mem_cons.mpr ⟨⟨c, Int32.ofNat 0, rfl, rfl, Or.inl ⟨0, 119, al, kc, rfl⟩⟩, List.forall_mem_cons.mpr ⟨⟨al 0, t, rfl, rfl, rfl⟩, List.forall_mem_cons.mpr ⟨?_, List.forall_mem_cons.mpr ⟨hA, List.forall_mem_cons.mpr ⟨tr_lin1 rfl rfl hp, List.forall_mem_cons.mpr ⟨tr_lin1 rfl rfl hd, fun f hf => absurd hf List.not_mem_nil⟩⟩⟩⟩⟩⟩⟩⟩⟩⟩⟩⟩
  exact ⟨q, bk, hv, pv, dv, tm, ho, pe, cd, rf, rt, rfl, hR7⟩
set_option maxRecDepth 20000 in
theorem tr_deedK {w : List zx_E} {q : Nat} {bk : Int32} {dv : Nat → Int32} (h39 : tj_fi w q 12 39 bk) (h14 : tj_fa w q 12 14 2 dv) (hb : bk.toInt = 0 ∨ bk.toInt = 1) : zx_Cl zx_mt zx_rc zx_mx' 1 105 [(.inr (.inr (.inl q)))] w (0, 0) (some (.inl (dv bk.toInt.toNat)), w) := by
  obtain ⟨fs, k0, k39⟩ := id h39
  obtain ⟨fs', a, k0', k14, ka⟩ := id h14
  rw [k0] at k0'
  cases k0'
  refine zy_fun (d := 0) (dt := zx_d_X12_deedMany) (by rw [← zx_q_X12_deedMany]; rfl) (by rw [(by decide +kernel : zx_rc 105 = 13)]; exact ⟨q, _, fs, rfl, k0⟩) (by decide +kernel : 1 ≤ zx_mx' 105) ?_
  show zx_wp _ none _ _ _ (0, [(0, (.inr (.inr (.inl q))))], [], w, 0, 0)
  refine zy_la (k := 0) rfl rfl (Or.inl ⟨_, rfl⟩) ?_
  refine zy_get rfl k0 k14 ?_
  refine zy_la (k := 0) rfl rfl (Or.inl ⟨_, rfl⟩) ?_
  refine zy_get rfl k0 k39 ?_
  refine zy_ld rfl ka (tr_in (by omega) (by omega)) ?_
  exact zx_wp_done ⟨Nat.le_refl _, Nat.le_refl _, rfl, ⟨_, rfl, rfl⟩⟩
/-- the arrays of games -/
theorem tr_gm {Ψ : List Nat} {w : List zx_E} {q : Nat} {fs : List zx_V} (hw : tj_wt tj_Lam Ψ w) (hq : Ψ[q]? = some 149) (k0 : w[q]? = some (.inl (12, fs))) : ∃ a b pay gd, fs[53]? = some (.inr (.inr (.inl a))) ∧ Ψ[a]? = some 123 ∧ w[a]? = some (.inr (0, 6300, .inl pay)) ∧ fs[54]? = some (.inr (.inr (.inl b))) ∧ Ψ[b]? = some 124 ∧ w[b]? = some (.inr (0, 2000, .inl gd)) := by
  obtain ⟨fsT, f1, -, -, f3⟩ := tj_obj hw hq tr_hd
  rw [k0] at f1
  cases f1
  obtain ⟨v, g, a, y, ha⟩ := f3 53 (1, 123, 0) rfl
  subst y
  obtain ⟨v, g', b, y, hb⟩ := f3 54 (1, 124, 0) rfl
  subst y
  obtain ⟨pay, ka, -⟩ := tj_iarr (kd := 0) (n := 6300) (s := [(6300, 0, 4294967295)]) hw ha rfl (Or.inl rfl)
  obtain ⟨gd, kb, -⟩ := tj_iarr (kd := 0) (n := 2000) (s := [(2000, 2147483647, 2147483653)]) hw hb rfl (Or.inl rfl)
  exact ⟨a, b, pay, gd, g, ha, ka, g', hb, kb⟩
