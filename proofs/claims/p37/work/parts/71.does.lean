/-! by hand: does -/
theorem zy_dup2 {K : zx_K} {X : zx_X} {cap : Nat × Nat} {tab : Nat → Option zx_Q} {Q : zx_S → Prop} {pc mc ms q : Nat} {ls : List (Nat × zx_V)} {st : List zx_V} {w : List zx_E} {x : Int32} (ht : tab pc = some zx_o_dup2) (kk : zx_wp K X cap tab Q (pc + 1, ls, (.inl x) :: (.inr (.inr (.inl q))) :: (.inl x) :: (.inr (.inr (.inl q))) :: st, w, mc, ms)) : zx_wp K X cap tab Q (pc, ls, (.inl x) :: (.inr (.inr (.inl q))) :: st, w, mc, ms) := zx_wp_pure (μ := (pc + 1, ls, (.inl x) :: (.inr (.inr (.inl q))) :: (.inl x) :: (.inr (.inr (.inl q))) :: st, w, mc, ms)) ht rfl kk
theorem tr_R_fr {Ψ : List Nat} {w w' : List zx_E} {e : tj_Ef} {q : Nat} {bk : Int32} {hv pv dv tm ho pe cd rf rt : Nat → Int32} (hw : tj_wt tj_Lam Ψ w) (hfr : tj_fr e Ψ w w') (hd : tj_dj (tj_dep 7) e = true) (h : tr_R w q bk hv pv dv tm ho pe cd rf rt) : tr_R w' q bk hv pv dv tm ho pe cd rf rt := by
  obtain ⟨h2, h3, h4, h5, h6, h7, h8, h9, h10, h11, h12⟩ := h
  exact ⟨te_fi hw hfr hd (by decide +kernel) h2, te_fa hw hfr hd (by decide +kernel) h3, te_fa hw hfr hd (by decide +kernel) h4, te_fa hw hfr hd (by decide +kernel) h5, te_fa hw hfr hd (by decide +kernel) h6, te_fa hw hfr hd (by decide +kernel) h7, te_fa hw hfr hd (by decide +kernel) h8, te_fa hw hfr hd (by decide +kernel) h9, te_fa hw hfr hd (by decide +kernel) h10, te_fa hw hfr hd (by decide +kernel) h11, h12⟩
/-- persons: at most 4 -/
theorem tr_b4 {Ψ : List Nat} {w : List zx_E} {q : Nat} {pv : Nat → Int32} (hw : tj_wt tj_Lam Ψ w) (hq : Ψ[q]? = some 149) (h13 : tj_fa w q 12 13 2 pv) {j : Nat} (hj : j < 2) : 0 ≤ (pv j).toInt ∧ (pv j).toInt ≤ 4 := by
  obtain ⟨fs, a, k0, k13, ka⟩ := h13
  obtain ⟨fsT, f1, -, -, f3⟩ := tj_obj hw hq tr_hd
  rw [k0] at f1
  cases f1
  obtain ⟨v, g, p, y, hp⟩ := f3 13 (1, 105, 0) rfl
  rw [k13] at g
  cases g
  cases y
  obtain ⟨g', kg, bg⟩ := tj_iarr (kd := 0) (n := 2) (s := [(2, 2147483648, 2147483652)]) hw hp rfl (Or.inl rfl)
  rw [ka] at kg
  cases kg
  have h := bg j hj 2147483648 2147483652 (by
    unfold tj_sel
    rw [show Nat.blt j 2 = true from Nat.ble_eq_true_of_le hj])
  have b := zx_b_int (pv j)
  omega
/-- the arrays of counts -/
theorem tr_ct {Ψ : List Nat} {w : List zx_E} {q : Nat} {fs : List zx_V} (hw : tj_wt tj_Lam Ψ w) (hq : Ψ[q]? = some 149) (k0 : w[q]? = some (.inl (12, fs))) : ∃ a b, fs[13]? = some (.inr (.inr (.inl a))) ∧ Ψ[a]? = some 105 ∧ fs[14]? = some (.inr (.inr (.inl b))) ∧ Ψ[b]? = some 106 := by
  obtain ⟨fsT, f1, -, -, f3⟩ := tj_obj hw hq tr_hd
  rw [k0] at f1
  cases f1
  obtain ⟨v, g, a, y, ha⟩ := f3 13 (1, 105, 0) rfl
  subst y
  obtain ⟨v, g', b, y, hb⟩ := f3 14 (1, 106, 0) rfl
  subst y
  exact ⟨a, b, g, ha, g', hb⟩
theorem tr_lin1 {ρ : Nat → zx_V} {w : List zx_E} {a b : tj_a} {x y : Int32} (hx : tj_v ρ a = (.inl x)) (hy : tj_v ρ b = (.inl y)) (h : x.toInt < y.toInt) : tj_fd ρ w (9932525098444199596950291534, a, b, .inl 0) := by
  refine tl_fd_lin (n := 9932525098444199596950290431) (by decide +kernel) ⟨x, y, Int32.ofNat 0, hx, hy, rfl, ?_⟩
  obtain ⟨c1, c2, c3, c4⟩ := tl_k1
  rw [c1, c2, c3, c4]
  omega
/-- ahead of joyOf and loadBehind -/
theorem tr_preJ {Ψ : List Nat} {w : List zx_E} {q : Nat} {bk p d t l : Int32} {hv pv dv tm ho pe cd rf rt : Nat → Int32} (hw : tj_wt tj_Lam Ψ w) (hq : Ψ[q]? = some 149) (hR : tr_R w q bk hv pv dv tm ho pe cd rf rt) (ty : tj_typed Ψ [(.inr (.inr (.inl q))), (.inl p), (.inl d), (.inl t), (.inl l)] [(1, 149, 0), (0, 2147483648, 2147483651), (0, 2147483648, 2147483653), (0, 2147483648, 2147485648), (0, 2147483648, 2147483747)]) (hp : p.toInt < (pv bk.toInt.toNat).toInt) (hd : d.toInt < (dv bk.toInt.toNat).toInt) (hA : tj_sm16 (.inr (.inr (.inl q))) (.inl p) (.inl t) w) : ∃ ρ : Nat → zx_V, (∀ i v, [(.inr (.inr (.inl q))), (.inl p), (.inl d), (.inl t), (.inl l)][i]? = some v → ρ i = v) ∧ tj_env Ψ ([(1, 149, 0), (0, 2147483648, 2147483651), (0, 2147483648, 2147483653), (0, 2147483648, 2147485648), (0, 2147483648, 2147483747)] ++ [(1, 105, 0), (0, 2147483648, 2147483649), (0, 2147483648, 2147483652), (1, 106, 0), (0, 2147483648, 2147483654)]) ρ ∧ ∀ f ∈ [((0 : Nat), (.inr 0 : tj_a), (.inl 13 : tj_a), (.inr 5 : tj_a)), (0, .inr 0, .inl 39, .inr 6), (1, .inr 5, .inr 6, .inr 7), (0, .inr 0, .inl 14, .inr 8), (1, .inr 8, .inr 6, .inr 9), (110, .inr 0, .inr 0, .inr 0), (119, .inr 0, .inr 1, .inr 3), (9932525098444199596950291534, .inr 1, .inr 7, .inl 0), (9932525098444199596950291534, .inr 2, .inr 9, .inl 0)], tj_fd ρ w f := by
  have hR7 := hR
  obtain ⟨h39, h11, h13, h14, h24, h23, h19, h34, h26, h27, hb, hro⟩ := hR
  obtain ⟨fs, k0, k39⟩ := id h39
  obtain ⟨a, b, k13, ha, k14, hb'⟩ := tr_ct hw hq k0
  have p4 := tr_b4 hw hq h13 (j := bk.toInt.toNat) (by omega)
  have p6 := tr_b6 hw hq h14 (j := bk.toInt.toNat) (by omega)
  obtain ⟨fs', a', k0', k13', ka⟩ := id h13
  rw [k0] at k0'
  cases k0'
  rw [k13] at k13'
  cases k13'
  obtain ⟨fs', a', k0', k14', kb⟩ := id h14
  rw [k0] at k0'
  cases k0'
  rw [k14] at k14'
  cases k14'
  have i1 := zx_b_int bk
  have i2 := zx_b_int (pv bk.toInt.toNat)
  have i3 := zx_b_int (dv bk.toInt.toNat)
  refine zy_pre ty (vs := [(.inr (.inr (.inl a))), (.inl bk), (.inl (pv bk.toInt.toNat)), (.inr (.inr (.inl b))), (.inl (dv bk.toInt.toNat))]) ⟨⟨a, rfl, ha⟩, ⟨bk, rfl, by omega, by omega⟩, ⟨_, rfl, by omega, by omega⟩, ⟨b, rfl, hb'⟩, ⟨_, rfl, by omega, by omega⟩, trivial⟩ ?_
  refine List.forall_mem_cons.mpr ⟨⟨q, 12, fs, rfl, k0, k13⟩, List.forall_mem_cons.mpr ⟨⟨q, 12, fs, rfl, k0, k39⟩, List.forall_mem_cons.mpr ⟨⟨a, bk, rfl, rfl, Or.inl ⟨0, 2, pv, ka, rfl⟩⟩, List.forall_mem_cons.mpr ⟨⟨q, 12, fs, rfl, k0, k14⟩, List.forall_mem_cons.mpr ⟨⟨b, bk, rfl, rfl, Or.inl ⟨0, 2, dv, kb, rfl⟩⟩, List.forall_mem_cons.mpr ⟨?_, List.forall_mem_cons.mpr ⟨hA, List.forall_mem_cons.mpr ⟨tr_lin1 rfl rfl hp, List.forall_mem_cons.mpr ⟨tr_lin1 rfl rfl hd, fun f hf => absurd hf List.not_mem_nil⟩⟩⟩⟩⟩⟩⟩⟩⟩
  exact ⟨q, bk, hv, pv, dv, tm, ho, pe, cd, rf, rt, rfl, hR7⟩
def tr_ED : tj_Ef := ([(149, 45), (149, 46), (149, 47), (149, 48)], [122, 139])
/-- what of `all` a deed leaves as it was -/
def tr_Kp (j : Nat) : Prop := j = 0 ∨ j = 2 ∨ (7 ≤ j ∧ j ≤ 62)
theorem tr_all3 : tj_wr 2147483648 2147483747 (tr_seg 139) 3 6 = true := by decide +kernel
theorem tr_all3r : tj_rd (tr_seg 139) 3 6 = some (2147483648, 2147483747) := by decide +kernel
theorem tr_all63 : tj_wr 0 4294967295 (tr_seg 139) 63 118 = true := by decide +kernel
theorem tr_ok63 {i : Nat} {x : Int32} (h1 : 63 ≤ i) (h2 : i ≤ 118) : tr_ok 139 i x := fun a b hs => by
  obtain ⟨e1, e2⟩ := tj_wr_ok tr_all63 i h1 h2 a b hs
  have := tj_b_lt x
  omega
set_option maxRecDepth 20000 in
theorem tr_does {Ψ : List Nat} {w : List zx_E} {q : Nat} {bk p d : Int32} {hv pv dv tm ho pe cd rf rt al : Nat → Int32} (hw : tj_wt tj_Lam Ψ w) (hq : Ψ[q]? = some 149) (hR : tr_R w q bk hv pv dv tm ho pe cd rf rt) (h49 : tj_fa w q 12 49 119 al) (hp : 0 ≤ p.toInt) (hlt : p.toInt < (pv bk.toInt.toNat).toInt) (hd : d.toInt < 0 ∨ (d.toInt < (dv bk.toInt.toNat).toInt ∧ tj_alv al (tj_who bk al tm ho p (al 0)))) : ∃ (r : zx_R) (cy : Nat × Nat), zx_Cl zx_mt zx_rc zx_mx' (30 + 1) 107 [(.inr (.inr (.inl q))), (.inl p), (.inl d)] w cy r ∧ (cy.1 + tj_P tj_c1 r.2 ≤ tj_P tj_c1 w ∧ cy.2 + tj_P tj_c2 r.2 ≤ tj_P tj_c2 w) ∧ ((∃ v, r.1 = some (.inl v)) ∧ ∃ Ψ' : List Nat, tj_le Ψ Ψ' ∧ tj_wt tj_Lam Ψ' r.2 ∧ tj_fr tr_ED Ψ w r.2 ∧ ∃ al', tj_fa r.2 q 12 49 119 al' ∧ ∀ j, tr_Kp j → al' j = al j) := by
  have hR7 := hR
  obtain ⟨h39, h11, h13, h14, h24, h23, h19, h34, h26, h27, hb, hro⟩ := hR
  have p4 := tr_b4 hw hq h13 (j := bk.toInt.toNat) (by omega)
  have p6 := tr_b6 hw hq h14 (j := bk.toInt.toNat) (by omega)
  obtain ⟨fs, a, k0, k49, ka⟩ := id h49
  obtain ⟨fsT, f1, -, -, f3⟩ := tj_obj hw hq tr_hd
  rw [k0] at f1
  cases f1
  obtain ⟨v, g, a', y, ha⟩ := f3 49 (1, 139, 0) rfl
  rw [k49] at g
  cases g
  cases y
  obtain ⟨al', ka', tA⟩ := tj_iarr hw ha tr_segA (Or.inl rfl)
  rw [ka] at ka'
  cases ka'
  have hlq : q < w.length := (List.getElem?_eq_some_iff.mp k0).1
  have hla : a < w.length := (List.getElem?_eq_some_iff.mp ka).1
  have hqa := tm_ne hq ha (by decide)
  have ip := zx_b_int p
  have id' := zx_b_int d
  refine zy_meth (dt := zx_d_X12_does) (by rw [← zx_q_X12_does]; rfl) (by rw [(by decide +kernel : zx_rc 107 = 13)]; exact ⟨q, _, fs, rfl, k0⟩) (by decide +kernel : 3 ≤ zx_mx' 107) ?_
  show zx_wp _ none _ _ _ (0, [(0, (.inr (.inr (.inl q)))), (1, (.inl p)), (2, (.inl d))], [], w, 0, 0)
  have hW0 := tm_W0 (E := tr_ED) hw
  refine zy_li (k := 2) rfl rfl ?_
  refine zy_j0 rfl (fun h => ?_) (fun h => ?_)
  rotate_left
  · refine zy_ci (n := 1) (c := 0) rfl ?_
    exact zx_wp_done ⟨(some (.inl (Int32.ofNat 0)), w), ⟨Nat.le_refl _, Nat.le_refl _, rfl, ⟨_, rfl, rfl⟩⟩, hW0.2.1, ⟨_, rfl⟩, Ψ, hW0.2.2.1, hW0.1, hW0.2.2.2, al, h49, fun j _ => rfl⟩
  have h : 2147483648 ≤ zx_b d := h
  obtain ⟨hd, hal⟩ := hd.resolve_left (by omega)
  have e0n : (Int32.ofNat 0).toNatClampNeg = 0 := by decide
  have t0 := tA 0 (by decide) _ _ tr_all0
  have i0 := zx_b_int (al 0)
  have hpp : 0 ≤ p.toInt ∧ p.toInt ≤ 3 := ⟨hp, by omega⟩
  obtain ⟨v, hK, hv'⟩ := tr_whoK (d := al 0) hw hq h39 h24 h23 h49 hb hpp (by omega) (hro.1 p.toInt.toNat (by omega))
  have hv2 : 0 ≤ v.toInt ∧ v.toInt ≤ 7 := by
    rcases hv' with ⟨-, -, v1, v2, -⟩ | ⟨-, hn⟩
    · exact ⟨v1, v2⟩
    · exact absurd hal hn
  have h16 : tj_sm16 (.inr (.inr (.inl q))) (.inl p) (.inl (al 0)) w := ⟨q, bk, p, al 0, al, tm, ho, rfl, rfl, rfl, h39, h49, h24, h23, hal⟩
  clear hK hv'
  obtain ⟨v', hK, hv'⟩ := tr_whoK (d := al 0) hw hq h39 h24 h23 h49 hb hpp (by omega) (hro.1 p.toInt.toNat (by omega))
  have hv2 : 0 ≤ v'.toInt ∧ v'.toInt ≤ 7 := by
    rcases hv' with ⟨-, -, v1, v2, -⟩ | ⟨-, hn⟩
    · exact ⟨v1, v2⟩
    · exact absurd hal hn
  clear hv'
  have iv := zx_b_int v'
  have e3 : (Int32.ofNat 3).toInt = 3 := by decide
  have e63 : (Int32.ofNat 63).toInt = 63 := by decide
  have e111 : (Int32.ofNat 111).toInt = 111 := by decide
  have ei3 : (Int32.ofNat 3 + p).toInt = 3 + p.toInt := by rw [tr_add (by omega) (by omega), e3]
  have ei6 : (Int32.ofNat 6 * v').toInt = 6 * v'.toInt := tr_mul (c := 6) (by decide) rfl (by omega) (by omega)
  have ei63 : (Int32.ofNat 63 + Int32.ofNat 6 * v').toInt = 63 + 6 * v'.toInt := by rw [tr_add (by omega) (by omega), e63, ei6]
  have ei69 : (Int32.ofNat 63 + Int32.ofNat 6 * v' + d).toInt = 63 + 6 * v'.toInt + d.toInt := by rw [tr_add (by omega) (by omega), ei63]
  have ei111 : (Int32.ofNat 111 + v').toInt = 111 + v'.toInt := by rw [tr_add (by omega) (by omega), e111]
  generalize hi3 : Int32.ofNat 3 + p = i3 at ei3
  generalize hi69 : Int32.ofNat 63 + Int32.ofNat 6 * v' + d = i69 at ei69
  generalize hi111 : Int32.ofNat 111 + v' = i111 at ei111
  have n3 : i3.toNatClampNeg = i3.toInt.toNat := rfl
  have n69 : i69.toNatClampNeg = i69.toInt.toNat := rfl
  have n111 : i111.toNatClampNeg = i111.toInt.toNat := rfl
  obtain ⟨A3, B3, s3, s4, s5⟩ := tj_rd_ok tr_all3r i3.toNatClampNeg (by omega) (by omega)
  have t3 := tA i3.toNatClampNeg (by omega) A3 B3 s3
  refine zy_la (k := 0) rfl rfl (Or.inl ⟨_, rfl⟩) ?_
  refine zy_li (k := 1) rfl rfl ?_
  refine zy_la (k := 0) rfl rfl (Or.inl ⟨_, rfl⟩) ?_
  refine zy_get rfl k0 k49 ?_
  refine zy_ci (n := 1) (c := 0) rfl ?_
  refine zy_ld rfl ka (by decide) ?_
  rw [e0n]
  refine zx_wp_call (a := 0) (n := 3) (y := 212) (g := zx_no) (av := [(.inr (.inr (.inl q))), (.inl p), (.inl (al 0))]) (st' := []) (cy := (0, 0)) (r := (some (.inl v'), w)) rfl rfl (Nat.le_of_ble_eq_true rfl) (tm_lim hlq rfl) rfl (Nat.zero_le _) (Nat.zero_le _) (zx_Cl_le (by decide) hK) ?_
  refine zy_si (k := 3) rfl ?_
  show zx_wp _ none _ _ _ (18, [(3, (.inl v')), (0, (.inr (.inr (.inl q)))), (1, (.inl p)), (2, (.inl d))], [], w, 0, 0)
  refine zy_la (k := 0) rfl rfl (Or.inl ⟨_, rfl⟩) ?_
  refine zy_li (k := 1) rfl rfl ?_
  refine zy_li (k := 2) rfl rfl ?_
  refine zy_la (k := 0) rfl rfl (Or.inl ⟨_, rfl⟩) ?_
  refine zy_get rfl k0 k49 ?_
  refine zy_ci (n := 1) (c := 0) rfl ?_
  refine zy_ld rfl ka (by decide) ?_
  rw [e0n]
  refine zy_la (k := 0) rfl rfl (Or.inl ⟨_, rfl⟩) ?_
  refine zy_get rfl k0 k49 ?_
  refine zy_ci (n := 1) (c := 3) rfl ?_
  refine zy_li (k := 1) rfl rfl ?_
  refine zy_add rfl ?_
  rw [hi3]
  refine zy_ld rfl ka (tr_in (by omega) (by omega)) ?_
  have ty : tj_typed Ψ [(.inr (.inr (.inl q))), (.inl p), (.inl d), (.inl (al 0)), (.inl (al i3.toNatClampNeg))] [(1, 149, 0), (0, 2147483648, 2147483651), (0, 2147483648, 2147483653), (0, 2147483648, 2147485648), (0, 2147483648, 2147483747)] := ⟨⟨q, rfl, hq⟩, ⟨p, rfl, by omega, by omega⟩, ⟨d, rfl, by omega, by omega⟩, ⟨_, rfl, by omega, by omega⟩, ⟨_, rfl, by omega, by omega⟩, trivial⟩
  have hls : zx_limP w.length [(3, (.inl v')), (0, (.inr (.inr (.inl q)))), (1, (.inl p)), (2, (.inl d))] = true := tm_lim (k := 0) hlq rfl
  refine zy_call (tj_KS1_le (by decide) tr1_p15) (n := 5) (av := [(.inr (.inr (.inl q))), (.inl p), (.inl d), (.inl (al 0)), (.inl (al i3.toNatClampNeg))]) (st := []) rfl rfl (by decide) hls rfl hW0 ty (tr_preJ hw hq hR7 ty hlt hd h16) (by decide +kernel) (by decide +kernel) ?_
  intro r cy Ψ1 o hW1 hle1 hfr1 hls1 ho hto hro1 hho
  obtain ⟨joy, ej⟩ := zy_retI (by decide +kernel) ho hro1
  rw [ej]
  have hR1 := tr_R_fr hw hfr1 (by decide +kernel) hR7
  have h161 := te_so16 hw hfr1 (by decide +kernel) h16
  obtain ⟨fs1, m0, mm⟩ := (hfr1 q 149 hq).1 12 fs k0
  have m49 := (mm 49 (by decide +kernel)).trans k49
  obtain ⟨f', ma, ef⟩ := (hfr1 a 139 ha).2 0 119 (.inl al) ka
  rw [ef (by decide +kernel)] at ma
  have hq1 := hle1 _ _ hq
  have ha1 := hle1 _ _ ha
  clear hho hro1 hto ho hfr1 mm ef ej
  generalize r.2 = w1 at hW1 hls1 hR1 h161 m0 ma ⊢
  generalize 0 + cy.1 = mc1 at hW1 ⊢
  generalize 0 + cy.2 = ms1 at hW1 ⊢
  refine zy_si (k := 4) rfl ?_
  show zx_wp _ none _ _ _ (40, [(4, (.inl joy)), (3, (.inl v')), (0, (.inr (.inr (.inl q)))), (1, (.inl p)), (2, (.inl d))], [], w1, mc1, ms1)
  have hlq1 : q < w1.length := (List.getElem?_eq_some_iff.mp m0).1
  have hla1 : a < w1.length := (List.getElem?_eq_some_iff.mp ma).1
  refine zy_la (k := 0) rfl rfl (Or.inl ⟨_, rfl⟩) ?_
  refine zy_get rfl m0 m49 ?_
  refine zy_ci (n := 1) (c := 3) rfl ?_
  refine zy_li (k := 1) rfl rfl ?_
  refine zy_add rfl ?_
  rw [hi3]
  refine zy_la (k := 0) rfl rfl (Or.inl ⟨_, rfl⟩) ?_
  refine zy_li (k := 1) rfl rfl ?_
  refine zy_li (k := 2) rfl rfl ?_
  refine zy_la (k := 0) rfl rfl (Or.inl ⟨_, rfl⟩) ?_
  refine zy_get rfl m0 m49 ?_
  refine zy_ci (n := 1) (c := 0) rfl ?_
  refine zy_ld rfl ma (by decide) ?_
  rw [e0n]
  refine zy_la (k := 0) rfl rfl (Or.inl ⟨_, rfl⟩) ?_
  refine zy_get rfl m0 m49 ?_
  refine zy_ci (n := 1) (c := 3) rfl ?_
  refine zy_li (k := 1) rfl rfl ?_
  refine zy_add rfl ?_
  rw [hi3]
  refine zy_ld rfl ma (tr_in (by omega) (by omega)) ?_
  have ty1 : tj_typed Ψ1 [(.inr (.inr (.inl q))), (.inl p), (.inl d), (.inl (al 0)), (.inl (al i3.toNatClampNeg))] [(1, 149, 0), (0, 2147483648, 2147483651), (0, 2147483648, 2147483653), (0, 2147483648, 2147485648), (0, 2147483648, 2147483747)] := ⟨⟨q, rfl, hq1⟩, ⟨p, rfl, by omega, by omega⟩, ⟨d, rfl, by omega, by omega⟩, ⟨_, rfl, by omega, by omega⟩, ⟨_, rfl, by omega, by omega⟩, trivial⟩
  have hls2 : zx_limP w1.length [(4, (.inl joy)), (3, (.inl v')), (0, (.inr (.inr (.inl q)))), (1, (.inl p)), (2, (.inl d))] = true := tm_lim (k := 0) hlq1 rfl
  refine zy_call (tj_KS1_le (by decide) tr1_p17) (n := 5) (av := [(.inr (.inr (.inl q))), (.inl p), (.inl d), (.inl (al 0)), (.inl (al i3.toNatClampNeg))]) (st := [(.inl i3), (.inr (.inr (.inl a)))]) rfl rfl (Nat.le_of_ble_eq_true rfl) hls2 (tr_lim2 (tr_lim1 hla1 rfl)) hW1 ty1 (tr_preJ hW1.1 hq1 hR1 ty1 hlt hd h161) (by decide +kernel) (by decide +kernel) ?_
  intro r cy Ψ2 o hW2 hle2 hfr2 hls3 ho hto hro2 hho
  have hx : ∃ x, r.1 = some (.inl x) ∧ 2147483648 ≤ zx_b x ∧ zx_b x ≤ 2147483747 := by
    have e := List.mem_singleton.mp ho
    subst e
    obtain ⟨v, e1, x, e2, x1, x2⟩ := hro2
    exact ⟨x, by rw [e1, e2], x1, x2⟩
  obtain ⟨x, ex, hx1, hx2⟩ := hx
  rw [ex]
  obtain ⟨fs2, n0, nn⟩ := (hfr2 q 149 hq1).1 12 fs1 m0
  have n49 := (nn 49 (by decide +kernel)).trans m49
  obtain ⟨f', na, ef⟩ := (hfr2 a 139 ha1).2 0 119 (.inl al) ma
  rw [ef (by decide +kernel)] at na
  have hq2 := hle2 _ _ hq1
  have ha2 := hle2 _ _ ha1
  clear hho hro2 hto ho hfr2 nn ef ex hR1 h161
  generalize r.2 = w2 at hW2 n0 na ⊢
  generalize mc1 + cy.1 = mc2 at hW2 ⊢
  generalize ms1 + cy.2 = ms2 at hW2 ⊢
  refine zy_ai rfl na (tr_in (by omega) (by omega)) ?_
  have hW3 := tr_setA (i := i3.toNatClampNeg) (x := x) hW2 ha2 tr_segA na (fun A B hs => by
    obtain ⟨e1, e2⟩ := tj_wr_ok tr_all3 i3.toNatClampNeg (by omega) (by omega) A B hs
    omega) (by decide +kernel)
  have n0' : (w2.set a (.inr (0, 119, .inl (upd al i3.toNatClampNeg x))))[q]? = some (.inl (12, fs2)) := by rw [List.getElem?_set_ne (Ne.symm hqa)]; exact n0
  have na' : (w2.set a (.inr (0, 119, .inl (upd al i3.toNatClampNeg x))))[a]? = some (.inr (0, 119, .inl (upd al i3.toNatClampNeg x))) := List.getElem?_set_self (List.getElem?_eq_some_iff.mp na).1
  have hk1 : ∀ j, tr_Kp j → upd al i3.toNatClampNeg x j = al j := fun j hj => tg_upd_ne (fun e => by
    rcases hj with h | h | h <;> omega)
  generalize upd al i3.toNatClampNeg x = al1 at hW3 n0' na' hk1 ⊢
  generalize w2.set a (.inr (0, 119, .inl al1)) = w3 at hW3 n0' na' ⊢
  clear n0 na
  show zx_wp _ none _ _ _ (68, [(4, (.inl joy)), (3, (.inl v')), (0, (.inr (.inr (.inl q)))), (1, (.inl p)), (2, (.inl d))], [], w3, mc2, ms2)
  refine zy_la (k := 0) rfl rfl (Or.inl ⟨_, rfl⟩) ?_
  refine zy_get rfl n0' n49 ?_
  refine zy_ci (n := 2) (c := 63) rfl ?_
  refine zy_ci (n := 2) (c := 6) rfl ?_
  refine zy_li (k := 3) rfl rfl ?_
  refine zy_mul rfl ?_
  refine zy_add rfl ?_
  refine zy_li (k := 2) rfl rfl ?_
  refine zy_add rfl ?_
  rw [hi69]
  refine zy_dup2 rfl ?_
  refine zy_ld rfl na' (tr_in (by omega) (by omega)) ?_
  refine zy_ci (n := 1) (c := 1) rfl ?_
  refine zy_add rfl ?_
  refine zy_ai rfl na' (tr_in (by omega) (by omega)) ?_
  generalize al1 i69.toNatClampNeg + Int32.ofNat 1 = y
  have hW4 := tr_setA (i := i69.toNatClampNeg) (x := y) hW3 ha2 tr_segA na' (tr_ok63 (by omega) (by omega)) (by decide +kernel)
  have n1 : (w3.set a (.inr (0, 119, .inl (upd al1 i69.toNatClampNeg y))))[q]? = some (.inl (12, fs2)) := by rw [List.getElem?_set_ne (Ne.symm hqa)]; exact n0'
  have n2 : (w3.set a (.inr (0, 119, .inl (upd al1 i69.toNatClampNeg y))))[a]? = some (.inr (0, 119, .inl (upd al1 i69.toNatClampNeg y))) := List.getElem?_set_self (List.getElem?_eq_some_iff.mp na').1
  have hk2 : ∀ j, tr_Kp j → upd al1 i69.toNatClampNeg y j = al j := fun j hj => (tg_upd_ne (fun e => by
    rcases hj with h | h | h <;> omega)).trans (hk1 j hj)
  generalize upd al1 i69.toNatClampNeg y = al2 at hW4 n1 n2 hk2 ⊢
  generalize w3.set a (.inr (0, 119, .inl al2)) = w4 at hW4 n1 n2 ⊢
  clear n0' na' hk1 hW3
  refine zy_la (k := 0) rfl rfl (Or.inl ⟨_, rfl⟩) ?_
  refine zy_get rfl n1 n49 ?_
  refine zy_ci (n := 2) (c := 111) rfl ?_
  refine zy_li (k := 3) rfl rfl ?_
  refine zy_add rfl ?_
  rw [hi111]
  refine zy_dup2 rfl ?_
  refine zy_ld rfl n2 (tr_in (by omega) (by omega)) ?_
  refine zy_li (k := 4) rfl rfl ?_
  refine zy_add rfl ?_
  refine zy_ai rfl n2 (tr_in (by omega) (by omega)) ?_
  generalize al2 i111.toNatClampNeg + joy = y2
  have hW5 := tr_setA (i := i111.toNatClampNeg) (x := y2) hW4 ha2 tr_segA n2 (tr_ok63 (by omega) (by omega)) (by decide +kernel)
  refine zy_li (k := 4) rfl rfl ?_
  have n1' : (w4.set a (.inr (0, 119, .inl (upd al2 i111.toNatClampNeg y2))))[q]? = some (.inl (12, fs2)) := by rw [List.getElem?_set_ne (Ne.symm hqa)]; exact n1
  have n2' : (w4.set a (.inr (0, 119, .inl (upd al2 i111.toNatClampNeg y2))))[a]? = some (.inr (0, 119, .inl (upd al2 i111.toNatClampNeg y2))) := List.getElem?_set_self (List.getElem?_eq_some_iff.mp n2).1
  exact zx_wp_done ⟨(some (.inl joy), _), ⟨Nat.le_refl _, Nat.le_refl _, rfl, ⟨_, rfl, rfl⟩⟩, hW5.2.1, ⟨_, rfl⟩, Ψ2, hW5.2.2.1, hW5.1, hW5.2.2.2, _, ⟨fs2, a, n1', n49, n2'⟩, fun j hj => (tg_upd_ne (fun e => by
    rcases hj with h | h | h <;> omega)).trans (hk2 j hj)⟩
