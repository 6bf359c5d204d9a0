/-! by hand: days, decree -/
set_option maxRecDepth 20000 in
theorem tr_isPersonK {Ψ : List Nat} {w : List zx_E} {q : Nat} {bk h : Int32} {hv : Nat → Int32} (h39 : tj_fi w q 12 39 bk) (h13 : tj_fa w q 12 13 2 hv) (hb : bk.toInt = 0 ∨ bk.toInt = 1) (h8 : 0 ≤ (hv bk.toInt.toNat).toInt ∧ (hv bk.toInt.toNat).toInt ≤ 4) : ∃ v, zx_Cl zx_mt zx_rc zx_mx' 2 150 [(.inr (.inr (.inl q))), (.inl h)] w (0, 0) (some (.inl v), w) ∧ ((v = Int32.ofNat 1 ∧ 0 ≤ h.toInt ∧ h.toInt < (hv bk.toInt.toNat).toInt) ∨ (v = Int32.ofNat 0 ∧ ¬ (0 ≤ h.toInt ∧ h.toInt < (hv bk.toInt.toNat).toInt))) := by
  obtain ⟨fs, k0, k39⟩ := id h39
  obtain ⟨fs', a, k0', k13, ka⟩ := id h13
  rw [k0] at k0'
  cases k0'
  have hlw : q < w.length := (List.getElem?_eq_some_iff.mp k0).1
  have eb : bk.toNatClampNeg = bk.toInt.toNat := rfl
  have e1 : (Int32.ofNat 1).toInt = 1 := by decide
  have e0 : (Int32.ofNat 0).toInt = 0 := by decide
  have es : (hv bk.toInt.toNat - Int32.ofNat 1).toInt = (hv bk.toInt.toNat).toInt - 1 := by rw [tr_sub (by omega) (by omega), e1]
  obtain ⟨v, hK, hv'⟩ := tr_isInK (w := w) (x := h) (a := Int32.ofNat 0) (b := hv bk.toInt.toNat - Int32.ofNat 1)
  rw [es, e0] at hv'
  refine ⟨v, ?_, ?_⟩
  · refine zy_fun (d := 1) (dt := zx_d_X12_isPerson) (by rw [← zx_q_X12_isPerson]; rfl) (by rw [(by decide +kernel : zx_rc 150 = 13)]; exact ⟨q, _, fs, rfl, k0⟩) (by decide +kernel : 2 ≤ zx_mx' 150) ?_
    show zx_wp _ none _ _ _ (0, [(0, (.inr (.inr (.inl q)))), (1, (.inl h))], [], w, 0, 0)
    refine zy_li (k := 1) rfl rfl ?_
    refine zy_ci (n := 1) (c := 0) rfl ?_
    refine zy_la (k := 0) rfl rfl (Or.inl ⟨_, rfl⟩) ?_
    refine zy_get rfl k0 k13 ?_
    refine zy_la (k := 0) rfl rfl (Or.inl ⟨_, rfl⟩) ?_
    refine zy_get rfl k0 k39 ?_
    refine zy_ld rfl ka (tr_in (by omega) (by omega)) ?_
    rw [eb]
    refine zy_ci (n := 1) (c := 1) rfl ?_
    refine zy_sub rfl ?_
    refine zx_wp_call (a := 0) (n := 3) (y := 146) (g := zx_no) (av := [(.inl h), (.inl (Int32.ofNat 0)), (.inl (hv bk.toInt.toNat - Int32.ofNat 1))]) (st' := []) (cy := (0, 0)) (r := (some (.inl v), w)) rfl rfl (Nat.le_of_ble_eq_true rfl) (tm_lim hlw rfl) rfl (Nat.le_refl _) (Nat.le_refl _) hK ?_
    refine zx_wp_done ⟨Nat.le_refl _, Nat.le_refl _, rfl, ⟨v, rfl, ?_, rfl⟩⟩
    rcases hv' with ⟨e, -⟩ | ⟨e, -⟩
    · exact Or.inr e
    · exact Or.inl e
  · rcases hv' with ⟨e, h1, h2⟩ | ⟨e, hn⟩
    · exact Or.inl ⟨e, h1, by omega⟩
    · exact Or.inr ⟨e, fun hh => hn ⟨hh.1, by omega⟩⟩

section zyCX
variable {K : zx_K} {cap : Nat × Nat} {tab : Nat → Option zx_Q} {Q : zx_S → Prop} {E E' : tj_Ef} {Ψ0 Ψ Ψ' : List Nat} {w0 w : List zx_E} {pc mc ms n y : Nat} {g : zx_F} {ls : List (Nat × zx_V)} {st0 av st : List zx_V} {Λ : List tj_D}
/-- a call of which more is known -/
theorem zy_callX {r : zx_R} {cy : Nat × Nat} (hK : K y av w cy r) (hroom : cy.1 + tj_P tj_c1 r.2 ≤ tj_P tj_c1 w ∧ cy.2 + tj_P tj_c2 r.2 ≤ tj_P tj_c2 w) (hle : tj_le Ψ Ψ') (hwt : tj_wt Λ Ψ' r.2) (hfr : tj_fr E' Ψ w r.2) (ht : tab pc = some (3, y, n, g)) (htk : zx_take n [] st0 = some (av, st)) (h8 : zx_words st ≤ 8) (hls : zx_limP w.length ls = true) (hst : zx_limL w.length st = true) (hW : tj_W Λ cap E Ψ0 w0 Ψ w mc ms) (h2 : tj_sub2 E'.1 E.1 = true) (h1 : tj_sub1 E'.2 E.2 = true)
    (k : tj_W Λ cap E Ψ0 w0 Ψ' r.2 (mc + cy.1) (ms + cy.2) → zx_limP r.2.length ls = true → zx_wp K none cap tab Q (pc + 3, ls, r.1.toList ++ st, r.2, mc + cy.1, ms + cy.2)) : zx_wp K none cap tab Q (pc, ls, st0, w, mc, ms) := by
  have hlen : w.length ≤ r.2.length := by
    rw [← hW.1.1, ← hwt.1]
    exact tj_len_le hle
  refine zx_wp_call (a := 0) (g := g) (y := y) (n := n) ht htk h8 hls hst (cy := cy) (by have := hW.2.1; omega) (by have := hW.2.1; omega) hK ?_
  exact k ⟨hwt, by have := hW.2.1; omega, tj_le_tr hW.2.2.1 hle, tj_fr_tr hW.2.2.2 hfr hW.2.2.1 h2 h1⟩ (tj_limP_le hlen hls)
end zyCX
/-- ahead of what wants a person -/
theorem tr_preP {Ψ : List Nat} {w : List zx_E} {q : Nat} {bk p : Int32} {hv pv dv tm ho pe cd rf rt : Nat → Int32} (hw : tj_wt tj_Lam Ψ w) (hq : Ψ[q]? = some 149) (hR : tr_R w q bk hv pv dv tm ho pe cd rf rt) (ty : tj_typed Ψ [(.inr (.inr (.inl q))), (.inl p)] [(1, 149, 0), (0, 2147483648, 2147483651)]) (hp : p.toInt < (pv bk.toInt.toNat).toInt) : ∃ ρ : Nat → zx_V, (∀ i v, [(.inr (.inr (.inl q))), (.inl p)][i]? = some v → ρ i = v) ∧ tj_env Ψ ([(1, 149, 0), (0, 2147483648, 2147483651)] ++ [(1, 105, 0), (0, 2147483648, 2147483649), (0, 2147483648, 2147483652)]) ρ ∧ ∀ f ∈ [((0 : Nat), (.inr 0 : tj_a), (.inl 13 : tj_a), (.inr 2 : tj_a)), (0, .inr 0, .inl 39, .inr 3), (1, .inr 2, .inr 3, .inr 4), (110, .inr 0, .inr 0, .inr 0), (9932525098444199596950291534, .inr 1, .inr 4, .inl 0)], tj_fd ρ w f := by
  have hR7 := hR
  obtain ⟨h39, h11, h13, h14, h24, h23, h19, h34, h26, h27, hb, hro⟩ := hR
  obtain ⟨fs, k0, k39⟩ := id h39
  obtain ⟨a, b, k13, ha, k14, hb'⟩ := tr_ct hw hq k0
  have p4 := tr_b4 hw hq h13 (j := bk.toInt.toNat) (by omega)
  obtain ⟨fs', a', k0', k13', ka⟩ := id h13
  rw [k0] at k0'
  cases k0'
  rw [k13] at k13'
  cases k13'
  have i1 := zx_b_int bk
  have i2 := zx_b_int (pv bk.toInt.toNat)
  refine zy_pre ty (vs := [(.inr (.inr (.inl a))), (.inl bk), (.inl (pv bk.toInt.toNat))]) ⟨⟨a, rfl, ha⟩, ⟨bk, rfl, by omega, by omega⟩, ⟨_, rfl, by omega, by omega⟩, trivial⟩ ?_
  refine List.forall_mem_cons.mpr ⟨⟨q, 12, fs, rfl, k0, k13⟩, List.forall_mem_cons.mpr ⟨⟨q, 12, fs, rfl, k0, k39⟩, List.forall_mem_cons.mpr ⟨⟨a, bk, rfl, rfl, Or.inl ⟨0, 2, pv, ka, rfl⟩⟩, List.forall_mem_cons.mpr ⟨?_, List.forall_mem_cons.mpr ⟨tr_lin1 rfl rfl hp, fun f hf => absurd hf List.not_mem_nil⟩⟩⟩⟩⟩
  exact ⟨q, bk, hv, pv, dv, tm, ho, pe, cd, rf, rt, rfl, hR7⟩
theorem tr_at0 {ρ : Nat → zx_V} {w : List zx_E} {q k n a c : Nat} {g : Nat → Int32} (e0 : ρ 0 = (.inr (.inr (.inl q)))) (hg : tj_fa w q 12 k n g) (F1 : tj_fd ρ w (0, .inr 0, .inl k, .inr a)) (F3 : tj_fd ρ w (1, .inr a, .inl 0, .inr c)) : ρ c = (.inl (g 0)) := by
  obtain ⟨q1, c1, fs1, a1, a2, a3⟩ := F1
  obtain ⟨q3, x, d1, d2, d3⟩ := F3
  obtain ⟨fs, p, g1, g2, g3⟩ := hg
  have a1 : ρ 0 = (.inr (.inr (.inl q1))) := a1
  rw [e0] at a1
  cases a1
  rw [g1] at a2
  cases a2
  have a3 : some (.inr (.inr (.inl p))) = some (ρ a) := g2.symm.trans a3
  have d1 : ρ a = (.inr (.inr (.inl q3))) := d1
  have d2 : (Sum.inl (Int32.ofNat 0) : zx_V) = (.inl x) := d2
  rw [← Option.some.inj a3] at d1
  cases d1
  cases d2
  rcases d3 with ⟨kd, m, g', u1, u2⟩ | ⟨m, l, o, u1, u2, u3⟩
  · rw [g3] at u1
    cases u1
    exact u2
  · rw [g3] at u1
    cases u1
theorem tr_limL_le {n m : Nat} (h : n ≤ m) {st : List zx_V} (hl : zx_limL n st = true) : zx_limL m st = true := by
  induction st with
  | nil => rfl
  | cons v st ih =>
    have hl : (zx_lim n v && zx_limL n st) = true := hl
    rw [Bool.and_eq_true] at hl
    show (zx_lim m v && zx_limL m st) = true
    rw [ih hl.2, Bool.and_true]
    match v, hl.1 with
    | .inl _, _ => rfl
    | .inr (.inl _), _ => rfl
    | .inr (.inr (.inl q)), h1 =>
      have h1 : Nat.blt q n = true := h1
      exact Nat.ble_eq_true_of_le (Nat.le_trans (Nat.le_of_ble_eq_true h1) h)
    | .inr (.inr (.inr _)), _ => rfl
theorem tr_al0 {Ψ : List Nat} {w : List zx_E} {q : Nat} {al : Nat → Int32} (hw : tj_wt tj_Lam Ψ w) (hq : Ψ[q]? = some 149) (h49 : tj_fa w q 12 49 119 al) : ∃ fs a, w[q]? = some (.inl (12, fs)) ∧ fs[49]? = some (.inr (.inr (.inl a))) ∧ w[a]? = some (.inr (0, 119, .inl al)) ∧ Ψ[a]? = some 139 ∧ 2147483648 ≤ zx_b (al 0) ∧ zx_b (al 0) ≤ 2147484548 := by
  obtain ⟨fs, a, k0, k49, ka⟩ := h49
  obtain ⟨fsT, f1, -, -, f3⟩ := tj_obj hw hq tr_hd
  rw [k0] at f1
  cases f1
  obtain ⟨v, g, a', y, ha⟩ := f3 49 (1, 139, 0) rfl
  rw [k49] at g
  cases g
  cases y
  obtain ⟨al', ka', tA⟩ := tj_iarr hw ha tr_segA (Or.inl rfl)
  rw [ka] at ka'
  cases ka'
  have t0 := tA 0 (by decide) _ _ tr_all0
  exact ⟨fs, a, k0, k49, ka, ha, t0.1, t0.2⟩
/-- what ownChoice gives -/
theorem tr_ownK {Ψ : List Nat} {w : List zx_E} {q : Nat} {bk p d : Int32} {hv pv dv tm ho pe cd rf rt al : Nat → Int32} {o : tj_O} (hR : tr_R w q bk hv pv dv tm ho pe cd rf rt) (h49 : tj_fa w q 12 49 119 al) (ho' : o ∈ tr1_s189.2.2.2.1) (hro : tj_retT Ψ o.2.1 (some (.inl d))) (hho : tj_Ho Ψ w [(.inr (.inr (.inl q))), (.inl p)] (some (.inl d)) o) : d.toInt < 0 ∨ (d.toInt < (dv bk.toInt.toNat).toInt ∧ tj_alv al (tj_who bk al tm ho p (al 0))) := by
  obtain ⟨h39, h11, h13, h14, h24, h23, h19, h34, h26, h27, hb, hro'⟩ := hR
  rcases List.mem_cons.mp ho' with e | ho'
  · subst e
    obtain ⟨v, e1, x, e2, x1, x2⟩ := hro
    cases e1
    cases e2
    have := zx_b_int d
    exact Or.inl (by omega)
  · have e := List.mem_singleton.mp ho'
    subst e
    obtain ⟨ρ, r1, r2, r3⟩ := hho
    have e0 : ρ 0 = (.inr (.inr (.inl q))) := r1 0 _ rfl
    have e1 : ρ 1 = (.inl p) := r1 1 _ rfl
    have e2 : ρ 2 = (.inl d) := r1 2 _ rfl
    have F14 := r3 (0, .inr 0, .inl 14, .inr 3) List.mem_cons_self
    have F39 := r3 (0, .inr 0, .inl 39, .inr 4) (List.mem_cons_of_mem _ List.mem_cons_self)
    have F49 := r3 (0, .inr 0, .inl 49, .inr 5) (List.mem_cons_of_mem _ (List.mem_cons_of_mem _ List.mem_cons_self))
    have E6 := r3 (1, .inr 5, .inl 0, .inr 6) (List.mem_cons_of_mem _ (List.mem_cons_of_mem _ (List.mem_cons_of_mem _ List.mem_cons_self)))
    have E7 := r3 (1, .inr 3, .inr 4, .inr 7) (List.mem_cons_of_mem _ (List.mem_cons_of_mem _ (List.mem_cons_of_mem _ (List.mem_cons_of_mem _ List.mem_cons_self))))
    have F16 : tj_sm16 (ρ 0) (ρ 1) (ρ 6) w := r3 (119, .inr 0, .inr 1, .inr 6) (List.mem_cons_of_mem _ (List.mem_cons_of_mem _ (List.mem_cons_of_mem _ (List.mem_cons_of_mem _ (List.mem_cons_of_mem _ List.mem_cons_self)))))
    have FL := r3 (9932525098444199596950291534, .inr 2, .inr 7, .inl 0) (List.mem_cons_of_mem _ (List.mem_cons_of_mem _ (List.mem_cons_of_mem _ (List.mem_cons_of_mem _ (List.mem_cons_of_mem _ (List.mem_cons_of_mem _ List.mem_cons_self))))))
    have e6 := tr_at0 e0 h49 F49 E6
    have e7 := tr_cnt e0 h14 h39 F14 F39 E7
    rw [e0, e1, e6] at F16
    obtain ⟨q', bk', p', d', al', tm', ho2, x1, x2, x3, y39, y49, y24, y23, yA⟩ := F16
    cases x1
    cases x2
    cases x3
    rw [tr_fi_eq y39 h39, tr_fa_eq y24 h24, tr_fa_eq y23 h23, tr_fa_eq y49 h49] at yA
    obtain ⟨x, y, z, h1, h2, h3, h4⟩ := tl_lin_fd (n := 9932525098444199596950290431) (by decide +kernel) FL
    have h1 : ρ 2 = (.inl x) := h1
    have h2 : ρ 7 = (.inl y) := h2
    rw [e2] at h1
    cases h1
    rw [e7] at h2
    cases h2
    obtain ⟨c1, c2, c3, c4⟩ := tl_k1
    rw [c1, c2, c3, c4] at h4
    exact Or.inr ⟨by omega, yA⟩
/-- a world in which the reference is as it was told, and its acts -/
def tr_St (E : tj_Ef) (Ψ : List Nat) (w : List zx_E) (q : Nat) (bk : Int32) (hv pv dv tm ho pe cd rf rt : Nat → Int32) (Ψ' : List Nat) (w' : List zx_E) (mc ms : Nat) (al : Nat → Int32) : Prop := tj_W tj_Lam (tj_P tj_c1 w, tj_P tj_c2 w) E Ψ w Ψ' w' mc ms ∧ tr_R w' q bk hv pv dv tm ho pe cd rf rt ∧ tj_fa w' q 12 49 119 al
set_option maxRecDepth 20000 in
/-- one person's deed -/
theorem tr_own {E : tj_Ef} {Ψ : List Nat} {w : List zx_E} {q : Nat} {bk : Int32} {hv pv dv tm ho pe cd rf rt : Nat → Int32} {D : Nat} {dt : List (List (Nat × zx_I))} {Q : zx_S → Prop} (hD : 31 ≤ D) (hq : Ψ[q]? = some 149) {Ψ1 : List Nat} {w1 : List zx_E} {mc ms pc : Nat} {al : Nat → Int32} {ls : List (Nat × zx_V)} {p : Int32} {st : List zx_V} (hS : tr_St E Ψ w q bk hv pv dv tm ho pe cd rf rt Ψ1 w1 mc ms al) (hls : zx_limP w1.length ls = true) (hst : zx_limL w1.length st = true) (hp : 0 ≤ p.toInt) (hlt : p.toInt < (pv bk.toInt.toNat).toInt) (h8 : zx_words st ≤ 8) (ht : ∃ g, zx_find (zx_cT dt) pc = some (3, 177, 2, g)) (h2 : tj_sub2 [(149, 45), (149, 46), (149, 47), (149, 48)] E.1 = true) (h1 : tj_sub1 [122] E.2 = true)
    (k : ∀ (d : Int32) (Ψ2 : List Nat) (w2 : List zx_E) (mc2 ms2 : Nat), tr_St E Ψ w q bk hv pv dv tm ho pe cd rf rt Ψ2 w2 mc2 ms2 al → zx_limP w2.length ls = true → zx_limL w2.length st = true → (d.toInt < 0 ∨ (d.toInt < (dv bk.toInt.toNat).toInt ∧ tj_alv al (tj_who bk al tm ho p (al 0)))) → zx_wp (zx_Cl zx_mt zx_rc zx_mx' D) none (tj_P tj_c1 w, tj_P tj_c2 w) (zx_find (zx_cT dt)) Q (pc + 3, ls, (.inl d) :: st, w2, mc2, ms2)) : zx_wp (zx_Cl zx_mt zx_rc zx_mx' D) none (tj_P tj_c1 w, tj_P tj_c2 w) (zx_find (zx_cT dt)) Q (pc, ls, (.inl p) :: (.inr (.inr (.inl q))) :: st, w1, mc, ms) := by
  obtain ⟨hW, hR, h49⟩ := hS
  obtain ⟨g, ht⟩ := ht
  have hq1 := hW.2.2.1 _ _ hq
  have p4 := tr_b4 hW.1 hq1 hR.2.2.1 (j := bk.toInt.toNat) (by have := hR.2.2.2.2.2.2.2.2.2.2.1; omega)
  have ip := zx_b_int p
  have ty : tj_typed Ψ1 [(.inr (.inr (.inl q))), (.inl p)] [(1, 149, 0), (0, 2147483648, 2147483651)] := ⟨⟨q, rfl, hq1⟩, ⟨p, rfl, by omega, by omega⟩, trivial⟩
  refine zy_call (tj_KS1_le (Nat.le_trans (by decide) hD) tr1_p189) (n := 2) (av := [(.inr (.inr (.inl q))), (.inl p)]) (st := st) ht rfl h8 hls hst hW ty (tr_preP hW.1 hq1 hR ty hlt) h2 h1 ?_
  intro r cy Ψ2 o hW2 hle2 hfr2 hls2 ho hto hro hho
  obtain ⟨d, ed⟩ := zy_retI (by decide +kernel) ho hro
  rw [ed] at hro hho ⊢
  have hR2 := tr_R_fr hW.1 hfr2 (by decide +kernel) hR
  have h492 := te_fa hW.1 hfr2 (d := tj_dep 16) (by decide +kernel) (by decide +kernel) h49
  have hlen : w1.length ≤ r.2.length := by
    rw [← hW.1.1, ← hW2.1.1]
    exact tj_len_le hle2
  exact k d Ψ2 r.2 _ _ ⟨hW2, hR2, h492⟩ hls2 (tr_limL_le hlen hst) (tr_ownK hR2 h492 ho hro hho)
set_option maxRecDepth 20000 in
/-- a deed done, in a run -/
theorem tr_doesC {E : tj_Ef} {Ψ : List Nat} {w : List zx_E} {q : Nat} {bk : Int32} {hv pv dv tm ho pe cd rf rt : Nat → Int32} {D : Nat} {dt : List (List (Nat × zx_I))} {Q : zx_S → Prop} (hD : 31 ≤ D) (hq : Ψ[q]? = some 149) {Ψ1 : List Nat} {w1 : List zx_E} {mc ms pc : Nat} {al : Nat → Int32} {ls : List (Nat × zx_V)} {p d : Int32} (hS : tr_St E Ψ w q bk hv pv dv tm ho pe cd rf rt Ψ1 w1 mc ms al) (hls : zx_limP w1.length ls = true) (hp : 0 ≤ p.toInt) (hlt : p.toInt < (pv bk.toInt.toNat).toInt) (hd : d.toInt < 0 ∨ (d.toInt < (dv bk.toInt.toNat).toInt ∧ tj_alv al (tj_who bk al tm ho p (al 0)))) (ht : ∃ g, zx_find (zx_cT dt) pc = some (3, 107, 3, g)) (h2 : tj_sub2 tr_ED.1 E.1 = true) (h1 : tj_sub1 tr_ED.2 E.2 = true)
    (k : ∀ (x : Int32) (Ψ2 : List Nat) (w2 : List zx_E) (mc2 ms2 : Nat) (al2 : Nat → Int32), tr_St E Ψ w q bk hv pv dv tm ho pe cd rf rt Ψ2 w2 mc2 ms2 al2 → zx_limP w2.length ls = true → (∀ j, tr_Kp j → al2 j = al j) → zx_wp (zx_Cl zx_mt zx_rc zx_mx' D) none (tj_P tj_c1 w, tj_P tj_c2 w) (zx_find (zx_cT dt)) Q (pc + 3, ls, [(.inl x)], w2, mc2, ms2)) : zx_wp (zx_Cl zx_mt zx_rc zx_mx' D) none (tj_P tj_c1 w, tj_P tj_c2 w) (zx_find (zx_cT dt)) Q (pc, ls, [(.inl d), (.inl p), (.inr (.inr (.inl q)))], w1, mc, ms) := by
  obtain ⟨hW, hR, h49⟩ := hS
  obtain ⟨g, ht⟩ := ht
  have hq1 := hW.2.2.1 _ _ hq
  obtain ⟨r, cy, hK, hroom, ⟨x, ex⟩, Ψ2, hle, hwt, hfr, al2, hal, hkp⟩ := tr_does hW.1 hq1 hR h49 hp hlt hd
  refine zy_callX (zx_Cl_le hD hK) hroom hle hwt hfr (n := 3) (st := []) ht rfl (Nat.zero_le _) hls rfl hW h2 h1 ?_
  intro hW2 hls2
  rw [ex]
  exact k x Ψ2 r.2 _ _ al2 ⟨hW2, tr_R_fr hW.1 hfr (by decide +kernel) hR, hal⟩ hls2 hkp
/-- a person's number against how many there are: the loops' head -/
theorem tr_hd13 {w : List zx_E} {q : Nat} {bk : Int32} {hv pv dv tm ho pe cd rf rt : Nat → Int32} (hR : tr_R w q bk hv pv dv tm ho pe cd rf rt) : ∃ fs a, w[q]? = some (.inl (12, fs)) ∧ fs[13]? = some (.inr (.inr (.inl a))) ∧ fs[39]? = some (.inl bk) ∧ w[a]? = some (.inr (0, 2, .inl pv)) ∧ zx_in bk 2 = true ∧ q < w.length := by
  obtain ⟨h39, h11, h13, h14, h24, h23, h19, h34, h26, h27, hb, hro⟩ := hR
  obtain ⟨fs, k0, k39⟩ := h39
  obtain ⟨fs', a, k0', k13, ka⟩ := h13
  rw [k0] at k0'
  cases k0'
  exact ⟨fs, a, k0, k13, k39, ka, tr_in (by omega) (by omega), (List.getElem?_eq_some_iff.mp k0).1⟩
theorem tr_k900 : zx_b (Int32.ofNat 900) = 2147484548 := by decide
set_option maxRecDepth 20000 in
theorem tr_b_days0 : tj_KS1 (zx_Cl zx_mt zx_rc zx_mx' 60) tj_Lam tr_h_days0 := by
  refine zy_method (d := 59) (dt := zx_d_X12_days) (by rw [← zx_q_X12_days]; rfl) (by decide +kernel) (by decide +kernel) ?_
  intro Ψ av w hw hty hp
  match av, hty with
  | [v0, v1], ⟨⟨q, hv0, hq⟩, ⟨n, hv1, _⟩, _⟩ =>
    subst hv0
    subst hv1
    obtain ⟨ρ, r1, r2, r3⟩ := hp
    have e0 : ρ 0 = (.inr (.inr (.inl q))) := r1 0 _ rfl
    have F7 : tj_sm7 (ρ 0) w := r3 (110, .inr 0, .inr 0, .inr 0) List.mem_cons_self
    obtain ⟨bk, hv, pv, dv, tm, ho, pe, cd, rf, rt, hR⟩ := tr_sm7 e0 F7
    obtain ⟨al0, h49⟩ := tr_all hw hq
    have in' := zx_b_int n
    have z0 : (Int32.ofNat 0).toInt = 0 := by decide
    have e0n : (Int32.ofNat 0).toNatClampNeg = 0 := by decide
    have ebn : bk.toNatClampNeg = bk.toInt.toNat := rfl
    have hty2 : ∀ {Ψ'}, tj_le Ψ Ψ' → tj_typed Ψ' [(.inr (.inr (.inl q))), (.inl n)] [(1, 149, 0), (0, 0, 4294967295)] := fun h => ⟨⟨q, rfl, h _ _ hq⟩, tr_full n, trivial⟩
    let WP : zx_S → Prop := fun σ => zx_wp (zx_Cl zx_mt zx_rc zx_mx' 59) none (tj_P tj_c1 w, tj_P tj_c2 w) (zx_find (zx_cT zx_d_X12_days)) (tj_Post tj_Lam tr_h_days0.2.2.1 Ψ w zx_d_X12_days tr_h_days0.2.2.2.1 [(.inr (.inr (.inl q))), (.inl n)]) σ
    let J : List Nat → List zx_E → Nat → Nat → (Nat → Int32) → Prop := fun Ψ' w' mc ms al => tr_St tr_h_days0.2.2.1 Ψ w q bk hv pv dv tm ho pe cd rf rt Ψ' w' mc ms al
    have outer : ∀ (m : Nat) (i : Int32) (Ψ' : List Nat) (w' : List zx_E) (mc ms : Nat) (al : Nat → Int32) (ls : List (Nat × zx_V)), i.toInt + m = n.toInt → 0 ≤ i.toInt → (al 0).toInt + m ≤ 900 → J Ψ' w' mc ms al → zx_limP w'.length ls = true → zx_look 0 ls = some (.inr (.inr (.inl q))) → zx_look 1 ls = some (.inl n) → zx_look 2 ls = some (.inl i) → WP (32, ls, [], w', mc, ms) := by
      intro m
      induction m with
      | zero =>
        intro i Ψ' w' mc ms al ls hm hi hal hJ hls l0 l1 l2
        have bi := zx_b_int i
        have hq1 := hJ.1.2.2.1 _ _ hq
        obtain ⟨fs, a, m0, m49, ma, ha, t1, t2⟩ := tr_al0 hJ.1.1 hq1 hJ.2.2
        refine zy_li rfl l2 ?_
        refine zy_li rfl l1 ?_
        refine zy_jt rfl (fun _ => ?_) (fun h => ?_)
        · refine zy_la rfl l0 (Or.inl ⟨_, rfl⟩) ?_
          refine zy_get rfl m0 m49 ?_
          refine zy_ci (n := 1) (c := 0) rfl ?_
          refine zy_ld rfl ma (by decide) ?_
          rw [e0n]
          exact tr_retI ⟨_, _, _, rfl⟩ hJ.1 (by omega) (by omega) (hty2 hJ.1.2.2.1) (fun f hf => absurd hf List.not_mem_nil)
        · have h : zx_b i < zx_b n := h
          omega
      | succ m ih =>
        intro i Ψ' w' mc ms al ls hm hi hal hJ hls l0 l1 l2
        have bi := zx_b_int i
        have inner : ∀ (k : Nat) (p : Int32) (Ψ' : List Nat) (w' : List zx_E) (mc ms : Nat) (al2 : Nat → Int32) (ls : List (Nat × zx_V)), p.toInt + k = (pv bk.toInt.toNat).toInt → 0 ≤ p.toInt → al2 0 = al 0 → J Ψ' w' mc ms al2 → zx_limP w'.length ls = true → zx_look 0 ls = some (.inr (.inr (.inl q))) → zx_look 1 ls = some (.inl n) → zx_look 2 ls = some (.inl i) → zx_look 3 ls = some (.inl p) → WP (39, ls, [], w', mc, ms) := by
          intro k
          induction k with
          | zero =>
            intro p Ψ' w' mc ms al2 ls hk hp0 he hJ hls l0 l1 l2 l3
            have bp := zx_b_int p
            have bv := zx_b_int (pv bk.toInt.toNat)
            have hq1 := hJ.1.2.2.1 _ _ hq
            have p4 := tr_b4 hJ.1.1 hq1 hJ.2.1.2.2.1 (j := bk.toInt.toNat) (by have := hJ.2.1.2.2.2.2.2.2.2.2.2.2.1; omega)
            obtain ⟨fs, a13, m0, m13, m39, mp, hin, hlq⟩ := tr_hd13 hJ.2.1
            refine zy_li rfl l3 ?_
            refine zy_la rfl l0 (Or.inl ⟨_, rfl⟩) ?_
            refine zy_get rfl m0 m13 ?_
            refine zy_la rfl l0 (Or.inl ⟨_, rfl⟩) ?_
            refine zy_get rfl m0 m39 ?_
            refine zy_ld rfl mp hin ?_
            rw [ebn]
            refine zy_jt rfl (fun _ => ?_) (fun h => ?_)
            · clear m0 m13 m39 mp
              clear fs
              obtain ⟨fs, a, m0, m49, ma, ha, t1, t2⟩ := tr_al0 hJ.1.1 hq1 hJ.2.2
              have b0 := zx_b_int (al2 0)
              have hqa := tm_ne hq1 ha (by decide)
              refine zy_la rfl l0 (Or.inl ⟨_, rfl⟩) ?_
              refine zy_get rfl m0 m49 ?_
              refine zy_ci (n := 1) (c := 0) rfl ?_
              refine zy_dup2 rfl ?_
              refine zy_ld rfl ma (by decide) ?_
              rw [e0n]
              refine zy_ci (n := 1) (c := 1) rfl ?_
              refine zy_add rfl ?_
              refine zy_ai rfl ma (by decide) ?_
              rw [e0n]
              rw [he] at b0 t1 t2 ⊢
              have ex : (al 0 + Int32.ofNat 1).toInt = (al 0).toInt + 1 := tm_inc tm_k1 (by omega)
              have bx := zx_b_int (al 0 + Int32.ofNat 1)
              have hW3 := tr_setA (i := 0) (x := al 0 + Int32.ofNat 1) hJ.1 ha tr_segA ma (fun A B hs => by
                rw [tr_all0] at hs
                cases hs
                omega) (by decide +kernel)
              have hfr : tj_fr ([], [139]) Ψ' w' (w'.set a (.inr (0, 119, .inl (upd al2 0 (al 0 + Int32.ofNat 1))))) := (tr_setA (i := 0) (x := al 0 + Int32.ofNat 1) (tm_W0 (E := ([], [139])) hJ.1.1) ha tr_segA ma (fun A B hs => by
                rw [tr_all0] at hs
                cases hs
                omega) (by decide +kernel)).2.2.2
              have hR3 := tr_R_fr hJ.1.1 hfr (by decide +kernel) hJ.2.1
              have n0 : (w'.set a (.inr (0, 119, .inl (upd al2 0 (al 0 + Int32.ofNat 1)))))[q]? = some (.inl (12, fs)) := by rw [List.getElem?_set_ne (Ne.symm hqa)]; exact m0
              have n2 : (w'.set a (.inr (0, 119, .inl (upd al2 0 (al 0 + Int32.ofNat 1)))))[a]? = some (.inr (0, 119, .inl (upd al2 0 (al 0 + Int32.ofNat 1)))) := List.getElem?_set_self (List.getElem?_eq_some_iff.mp ma).1
              refine zy_ik (k := 2) (n := 1) rfl l2 ?_
              refine zy_goto rfl ?_
              have ei : (i + Int32.ofNat 1).toInt = i.toInt + 1 := tm_inc tm_k1 (by omega)
              exact ih (i + Int32.ofNat 1) Ψ' _ mc ms (upd al2 0 (al 0 + Int32.ofNat 1)) _ (by omega) (by omega) (by rw [tg_upd_eq]; omega) ⟨hW3, hR3, ⟨fs, a, n0, m49, n2⟩⟩ (zy_limP_put (by rw [List.length_set]; exact hls) rfl) (zy_look_ne (by decide) rfl l0) (zy_look_ne (by decide) rfl l1) zy_look_put
            · have h : zx_b p < zx_b (pv bk.toInt.toNat) := h
              omega
          | succ k ihk =>
            intro p Ψ' w' mc ms al2 ls hk hp0 he hJ hls l0 l1 l2 l3
            have bp := zx_b_int p
            have bv := zx_b_int (pv bk.toInt.toNat)
            have hq1 := hJ.1.2.2.1 _ _ hq
            have p4 := tr_b4 hJ.1.1 hq1 hJ.2.1.2.2.1 (j := bk.toInt.toNat) (by have := hJ.2.1.2.2.2.2.2.2.2.2.2.2.1; omega)
            obtain ⟨fs, a13, m0, m13, m39, mp, hin, hlq⟩ := tr_hd13 hJ.2.1
            refine zy_li rfl l3 ?_
            refine zy_la rfl l0 (Or.inl ⟨_, rfl⟩) ?_
            refine zy_get rfl m0 m13 ?_
            refine zy_la rfl l0 (Or.inl ⟨_, rfl⟩) ?_
            refine zy_get rfl m0 m39 ?_
            refine zy_ld rfl mp hin ?_
            rw [ebn]
            refine zy_jt rfl (fun h => ?_) (fun _ => ?_)
            · have h : zx_b (pv bk.toInt.toNat) ≤ zx_b p := h
              omega
            · refine zy_la rfl l0 (Or.inl ⟨_, rfl⟩) ?_
              refine zy_li rfl l3 ?_
              refine zy_la rfl l0 (Or.inl ⟨_, rfl⟩) ?_
              refine zy_li rfl l3 ?_
              refine tr_own (by decide) hq hJ hls (tr_lim2 (tr_lim1 hlq rfl)) hp0 (by omega) (Nat.le_of_ble_eq_true rfl) ⟨_, rfl⟩ (by decide +kernel) (by decide +kernel) ?_
              intro d Ψ2 w2 mc2 ms2 hJ2 hls2 hst2 hd
              refine tr_doesC (by decide) hq hJ2 hls2 hp0 (by omega) hd ⟨_, rfl⟩ (by decide +kernel) (by decide +kernel) ?_
              intro x Ψ3 w3 mc3 ms3 al3 hJ3 hls3 hkp
              refine zy_popI rfl ?_
              refine zy_ik (k := 3) (n := 1) rfl l3 ?_
              refine zy_goto rfl ?_
              have ep : (p + Int32.ofNat 1).toInt = p.toInt + 1 := tm_inc tm_k1 (by omega)
              exact ihk (p + Int32.ofNat 1) Ψ3 w3 mc3 ms3 al3 _ (by omega) (by omega) ((hkp 0 (Or.inl rfl)).trans he) hJ3 (zy_limP_put hls3 rfl) (zy_look_ne (by decide) rfl l0) (zy_look_ne (by decide) rfl l1) (zy_look_ne (by decide) rfl l2) zy_look_put
        refine zy_li rfl l2 ?_
        refine zy_li rfl l1 ?_
        refine zy_jt rfl (fun h => ?_) (fun _ => ?_)
        · have h : zx_b n ≤ zx_b i := h
          omega
        · refine zy_ci (n := 1) (c := 0) rfl ?_
          refine zy_si (k := 3) rfl ?_
          have p4 := tr_b4 hJ.1.1 (hJ.1.2.2.1 _ _ hq) hJ.2.1.2.2.1 (j := bk.toInt.toNat) (by have := hJ.2.1.2.2.2.2.2.2.2.2.2.2.1; omega)
          exact inner (pv bk.toInt.toNat).toInt.toNat (Int32.ofNat 0) Ψ' w' mc ms al _ (by omega) (by omega) rfl hJ (zy_limP_put hls rfl) (zy_look_ne (by decide) rfl l0) (zy_look_ne (by decide) rfl l1) (zy_look_ne (by decide) rfl l2) zy_look_put
    obtain ⟨fs, a, k0, k49, ka, ha, t1, t2⟩ := tr_al0 hw hq h49
    have b0 := zx_b_int (al0 0)
    have hlq : q < w.length := (List.getElem?_eq_some_iff.mp k0).1
    have hW0 := tm_W0 (E := tr_h_days0.2.2.1) hw
    have no : ∀ pc', pc' = 24 → WP (pc', [(0, (.inr (.inr (.inl q)))), (1, (.inl n))], [], w, 0, 0) := by
      intro pc' e
      subst e
      refine zy_ci (n := 1) (c := 4294967295) rfl ?_
      exact tr_retI ⟨_, _, _, rfl⟩ hW0 (by decide) (by decide) (hty2 tj_le_rf) (fun f hf => absurd hf List.not_mem_nil)
    obtain ⟨v, hK, hv'⟩ := tr_isInK (w := w) (x := n) (a := Int32.ofNat 0) (b := Int32.ofNat 60)
    rw [z0, (by decide : (Int32.ofNat 60).toInt = 60)] at hv'
    show WP (0, [(0, (.inr (.inr (.inl q)))), (1, (.inl n))], [], w, 0, 0)
    refine zy_li (k := 1) rfl rfl ?_
    refine zy_ci (n := 1) (c := 0) rfl ?_
    refine zy_ci (n := 2) (c := 60) rfl ?_
    refine zx_wp_call (a := 0) (n := 3) (y := 146) (g := zx_no) (av := [(.inl n), (.inl (Int32.ofNat 0)), (.inl (Int32.ofNat 60))]) (st' := []) (cy := (0, 0)) (r := (some (.inl v), w)) rfl rfl (Nat.le_of_ble_eq_true rfl) (tm_lim hlq rfl) rfl (Nat.zero_le _) (Nat.zero_le _) (zx_Cl_le (by decide) hK) ?_
    rcases hv' with ⟨ev, h1, h2⟩ | ⟨ev, -⟩
    · subst ev
      refine zy_j0 rfl (fun e => absurd e (by decide : ¬ zx_b (Int32.ofNat 1) = 2147483648)) (fun _ => ?_)
      refine zy_la (k := 0) rfl rfl (Or.inl ⟨_, rfl⟩) ?_
      refine zy_get rfl k0 k49 ?_
      refine zy_ci (n := 1) (c := 0) rfl ?_
      refine zy_ld rfl ka (by decide) ?_
      rw [e0n]
      refine zy_li (k := 1) rfl rfl ?_
      refine zy_add rfl ?_
      refine zy_ci (n := 3) (c := 900) rfl ?_
      have es : (al0 0 + n).toInt = (al0 0).toInt + n.toInt := tr_add (by omega) (by omega)
      have bs := zx_b_int (al0 0 + n)
      refine zy_jt rfl (fun h => ?_) (fun _ => no _ rfl)
      have h : zx_b (al0 0 + n) ≤ zx_b (Int32.ofNat 900) := h
      rw [tr_k900] at h
      have ty : tj_typed Ψ [(.inr (.inr (.inl q)))] [(1, 149, 0)] := ⟨⟨q, rfl, hq⟩, trivial⟩
      refine zy_la (k := 0) rfl rfl (Or.inl ⟨_, rfl⟩) ?_
      refine zy_call (tj_KS1_le (by decide) tr_b_keepAct0) (n := 1) (av := [(.inr (.inr (.inl q)))]) (st := []) rfl rfl (by decide) (tm_lim hlq rfl) rfl hW0 ty (zy_nopre ty) (by decide +kernel) (by decide +kernel) ?_
      intro r cy Ψ1 o hW1 hle1 hfr1 hls1 ho hto hro hho
      rw [zy_retN (by decide +kernel) ho hro]
      refine zy_ci (n := 1) (c := 0) rfl ?_
      refine zy_si (k := 2) rfl ?_
      exact outer n.toInt.toNat (Int32.ofNat 0) Ψ1 r.2 _ _ al0 _ (by omega) (by omega) (by omega) ⟨hW1, tr_R_fr hw hfr1 (by decide +kernel) hR, te_fa hw hfr1 (d := tj_dep 16) (by decide +kernel) (by decide +kernel) h49⟩ (zy_limP_put hls1 rfl) rfl rfl rfl
    · subst ev
      refine zy_j0 rfl (fun _ => no _ rfl) (fun e => absurd (by decide : zx_b (Int32.ofNat 0) = 2147483648) e)
