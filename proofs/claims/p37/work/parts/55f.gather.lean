/-! by hand: Sums.gather (SumsF) -/
def tm_EGF : tj_Ef := ([(83, 7)], [76, 77, 78, 79, 80])
theorem tm_getF {Ψ : List Nat} {w : List zx_E} {q : Nat} (hw : tj_wt tj_Lam Ψ w) (hq : Ψ[q]? = some 83) : ∃ g0 kn s c p L u sF cF, tm_HL 83 76 77 78 79 Ψ q g0 kn s c p ∧ tm_Pk q g0 kn s c p L u sF cF w ∧ (2147483648 ≤ zx_b L ∧ zx_b L ≤ 2147483668) ∧ (2147483648 ≤ zx_b u ∧ zx_b u ≤ 2147483648 + 32768) ∧ (∀ j, j < 2100 → 2147483648 ≤ zx_b (sF j) ∧ zx_b (sF j) ≤ 2147483648 + 32768) ∧ (∀ j, j < 2100 → 2147483647 ≤ zx_b (cF j) ∧ zx_b (cF j) ≤ 2147483648 + 32768) := by
  have hd : ∃ fts, tj_Lam[83]? = some (.inl (9, 0, fts)) ∧ fts[1]? = some (1, 61, 0) ∧ fts[4]? = some (1, 76, 0) ∧ fts[5]? = some (1, 77, 0) ∧ fts[6]? = some (1, 78, 0) ∧ fts[7]? = some (0, 2147483648, 2147483648 + 32768) ∧ fts[8]? = some (1, 79, 0) := ⟨_, rfl, rfl, rfl, rfl, rfl, rfl, rfl⟩
  obtain ⟨fts, hd, t1, t4, t5, t6, t7, t8⟩ := hd
  have hdg : ∃ gts, tj_Lam[61]? = some (.inl (1, 0, gts)) ∧ gts[9]? = some (0, 2147483648, 2147483668) := ⟨_, rfl, rfl⟩
  obtain ⟨gts, hdg, u9⟩ := hdg
  obtain ⟨fs, hf, -, -, hty⟩ := tj_obj hw hq hd
  obtain ⟨v1, h1, g0, e1, p1⟩ := hty 1 _ t1
  obtain ⟨v4, h4, kn, e4, p4⟩ := hty 4 _ t4
  obtain ⟨v5, h5, s, e5, p5⟩ := hty 5 _ t5
  obtain ⟨v6, h6, c, e6, p6⟩ := hty 6 _ t6
  obtain ⟨v7, h7, u, e7, p7⟩ := hty 7 _ t7
  obtain ⟨v8, h8, p, e8, p8⟩ := hty 8 _ t8
  subst e1 e4 e5 e6 e7 e8
  obtain ⟨gs, hg, -, -, htg⟩ := tj_obj hw p1 hdg
  obtain ⟨v9, h9, L, e9, p9⟩ := htg 9 _ u9
  subst e9
  obtain ⟨sF, hs, bs⟩ := tj_iarr (kd := 0) (n := 2100) (s := [(2100, 2147483648, 2147483648 + 32768)]) hw p5 rfl (Or.inl rfl)
  obtain ⟨cF, hc, bc⟩ := tj_iarr (kd := 0) (n := 2100) (s := [(2100, 2147483647, 2147483648 + 32768)]) hw p6 rfl (Or.inl rfl)
  have hsel : ∀ (j a b : Nat), j < 2100 → tj_sel [(2100, a, b)] j = some (a, b) := fun j a b hj => by
    unfold tj_sel
    rw [show Nat.blt j 2100 = true from Nat.ble_eq_true_of_le hj]
  exact ⟨g0, kn, s, c, p, L, u, sF, cF, ⟨hq, p1, p4, p5, p6, p8⟩, ⟨fs, gs, hf, h1, h4, h5, h6, h7, h8, hg, h9, hs, hc⟩, p9, p7, fun j hj => bs j hj _ _ (hsel j _ _ hj), fun j hj => bc j hj _ _ (hsel j _ _ hj)⟩
set_option maxRecDepth 20000 in
theorem tm_gatherF {d : Nat} (hd : 23 ≤ d) {Ψ : List Nat} {w : List zx_E} {q g0 kn s c p : Nat} {L u t l : Int32} {sF cF : Nat → Int32} (hw : tj_wt tj_Lam Ψ w) (H : tm_HL 83 76 77 78 79 Ψ q g0 kn s c p) (hP : tm_Pk q g0 kn s c p L u sF cF w) (hL : 0 ≤ L.toInt ∧ L.toInt ≤ 20) (h1 : tm_S1 32768 sF cF) (h2 : tm_S2 L sF cF) (hu : 1 ≤ u.toInt ∧ u.toInt ≤ 32768) (ht : 0 ≤ t.toInt ∧ t.toInt < L.toInt) (hl : 0 ≤ l.toInt ∧ l.toInt ≤ 99) : ∃ (r : zx_R) (cy : Nat × Nat), zx_Cl zx_mt zx_rc zx_mx' (d + 1) 335 [(.inr (.inr (.inl q))), (.inl t), (.inl l)] w cy r ∧ (cy.1 + tj_P tj_c1 r.2 ≤ tj_P tj_c1 w ∧ cy.2 + tj_P tj_c2 r.2 ≤ tj_P tj_c2 w) ∧ (r.1 = none ∧ ∃ (Ψ' : List Nat) (u' : Int32) (sF' cF' : Nat → Int32), tj_le Ψ Ψ' ∧ tj_wt tj_Lam Ψ' r.2 ∧ tj_fr tm_EGF Ψ w r.2 ∧ tm_Pk q g0 kn s c p L u' sF' cF' r.2 ∧ tm_S1 32768 sF' cF' ∧ tm_S2 L sF' cF' ∧ 1 ≤ u'.toInt ∧ u'.toInt ≤ 32768) := by
  obtain ⟨fs, gs, k0, k1, k4, k5, k6, k7, k8, kg, k9, ks, kc⟩ := id hP
  refine zy_meth (dt := zx_d_X9_gather) (by rw [← zx_q_X9_gather]; rfl) (by rw [(by decide +kernel : zx_rc 335 = 10)]; exact ⟨q, _, fs, rfl, k0⟩) (by decide +kernel : 4 - 1 ≤ zx_mx' 335) ?_
  have bt := zx_b_int t
  have bl := zx_b_int l
  have bu := zx_b_int u
  have bL := zx_b_int L
  have hW0 := tm_W0 (E := tm_EGF) hw
  have hqw : q < w.length := (List.getElem?_eq_some_iff.mp k0).1
  obtain ⟨k, hk⟩ : ∃ k, zx_b t = 2147483648 + k := ⟨zx_b t - 2147483648, by omega⟩
  have hqg := tm_ne H.1 H.2.1 (by decide)
  have hqs := tm_ne H.1 H.2.2.2.1 (by decide)
  have hqc := tm_ne H.1 H.2.2.2.2.1 (by decide)
  have hsg := tm_ne H.2.2.2.1 H.2.1 (by decide)
  have hsc := tm_ne H.2.2.2.1 H.2.2.2.2.1 (by decide)
  have hcg := tm_ne H.2.2.2.2.1 H.2.1 (by decide)
  have hkq := tm_ne H.2.2.1 H.1 (by decide)
  have hkg := tm_ne H.2.2.1 H.2.1 (by decide)
  have hks := tm_ne H.2.2.1 H.2.2.2.1 (by decide)
  have hkc := tm_ne H.2.2.1 H.2.2.2.2.1 (by decide)
  have hpk := tm_ne H.2.2.2.2.2 H.2.2.1 (by decide)
  have hls : zx_limP w.length [(0, (.inr (.inr (.inl q)))), (1, (.inl t)), (2, (.inl l))] = true := tm_lim hqw rfl
  show zx_wp _ none _ _ _ (0, [(0, (.inr (.inr (.inl q)))), (1, (.inl t)), (2, (.inl l))], [], w, 0, 0)
  refine zy_la (k := 0) rfl rfl (Or.inl ⟨_, rfl⟩) ?_
  refine zy_li (k := 1) rfl rfl ?_
  refine zy_li (k := 2) rfl rfl ?_
  refine zy_ci (n := 2) (c := 2147483648) rfl ?_
  refine zy_cj (n := 3) (c := 4294967296) rfl ?_
  refine zy_ci (n := 1) (c := 0) rfl ?_
  have hty : tj_typed Ψ [(.inr (.inr (.inl q))), (.inl t), (.inl l), (.inl (Int32.ofNat 2147483648)), (.inr (.inl (Int64.ofNat 4294967296))), (.inl (Int32.ofNat 0))] [(1, 83, 0), (0, 2147483648 + k, 2147483648 + k), (0, 0, 4294967295), (0, 0, 4294967295), (3, 0, 0), (0, 2147483648, 2147483648 + 8192)] := ⟨⟨q, rfl, H.1⟩, ⟨t, rfl, by omega, by omega⟩, ⟨l, rfl, Nat.zero_le _, by have := tj_b_lt l; omega⟩, ⟨_, rfl, Nat.zero_le _, by decide⟩, ⟨_, rfl⟩, ⟨_, rfl, by decide, by decide⟩, trivial⟩
  refine zy_call (tj_KS1_le hd (tg_up0 k (by omega))) (n := 6) (av := [(.inr (.inr (.inl q))), (.inl t), (.inl l), (.inl (Int32.ofNat 2147483648)), (.inr (.inl (Int64.ofNat 4294967296))), (.inl (Int32.ofNat 0))]) (st := []) rfl rfl (by decide) hls rfl hW0 hty (zy_pre (vs := []) (us := []) hty trivial (fun f hf => ?_)) rfl rfl ?_
  · have e := List.mem_singleton.mp hf
    subst e
    exact tm_sm3 hP h1 (by decide)
  intro r cy Ψ1 o hW1 hle1 hfr1 hls1 ho hto hro hho
  have hr : ∃ x, r.1 = some (.inl x) ∧ 2147483647 ≤ zx_b x ∧ zx_b x ≤ 2147483648 + 8192 := by
    rcases List.mem_cons.mp ho with e | ho
    · subst e
      obtain ⟨v, e1, x, e2, b1, b2⟩ := hro
      subst e2
      exact ⟨x, e1, b1, Nat.le_trans b2 (by decide)⟩
    · have e := List.mem_singleton.mp ho
      subst e
      obtain ⟨v, e1, x, e2, b1, b2⟩ := hro
      subst e2
      exact ⟨x, e1, Nat.le_trans (by decide) b1, b2⟩
  obtain ⟨x, hr, x1, x2⟩ := hr
  rw [hr]
  have hP1 := tm_Pk_fr H hfr1 rfl hP
  have H1 := tm_HL_le H hle1
  clear hro hho hto ho hr
  generalize r.2 = w1 at hW1 hfr1 hls1 hP1 ⊢
  generalize 0 + cy.1 = mc at hW1 ⊢
  generalize 0 + cy.2 = ms at hW1 ⊢
  clear hW0 hfr1 hls hqw k0 k1 k4 k5 k6 k7 k8 kg k9 ks kc hty
  clear fs gs
  have bx := zx_b_int x
  have hend : ∀ (w2 : List zx_E) (ls : List (Nat × zx_V)) (u' : Int32) (sF' cF' : Nat → Int32), tj_W tj_Lam (tj_P tj_c1 w, tj_P tj_c2 w) tm_EGF Ψ w Ψ1 w2 mc ms → tm_Pk q g0 kn s c p L u' sF' cF' w2 → tm_S1 32768 sF' cF' → tm_S2 L sF' cF' → 1 ≤ u'.toInt → u'.toInt ≤ 32768 → zx_wp (zx_Cl zx_mt zx_rc zx_mx' d) none (tj_P tj_c1 w, tj_P tj_c2 w) (zx_find (zx_cT zx_d_X9_gather)) (fun τ => ∃ r : zx_R, zx_ret (zx_find (zx_cT zx_d_X9_gather)) τ.2.2.2.2 τ r ∧ (τ.2.2.2.2.1 + tj_P tj_c1 r.2 ≤ tj_P tj_c1 w ∧ τ.2.2.2.2.2 + tj_P tj_c2 r.2 ≤ tj_P tj_c2 w) ∧ (r.1 = none ∧ ∃ (Ψ' : List Nat) (u' : Int32) (sF' cF' : Nat → Int32), tj_le Ψ Ψ' ∧ tj_wt tj_Lam Ψ' r.2 ∧ tj_fr tm_EGF Ψ w r.2 ∧ tm_Pk q g0 kn s c p L u' sF' cF' r.2 ∧ tm_S1 32768 sF' cF' ∧ tm_S2 L sF' cF' ∧ 1 ≤ u'.toInt ∧ u'.toInt ≤ 32768)) (84, ls, [], w2, mc, ms) := fun w2 ls u' sF' cF' a1 a2 a3 a4 a5 a6 => zx_wp_done ⟨(none, w2), ⟨Nat.le_refl _, Nat.le_refl _, rfl, ⟨rfl, rfl⟩⟩, a1.2.1, rfl, Ψ1, u', sF', cF', a1.2.2.1, a1.1, a1.2.2.2, a2, a3, a4, a5, a6⟩
  show zx_wp _ none _ _ _ (12, [(0, (.inr (.inr (.inl q)))), (1, (.inl t)), (2, (.inl l))], [(.inl x)], w1, mc, ms)
  refine zy_si (k := 3) rfl ?_
  show zx_wp _ none _ _ _ (13, [(3, (.inl x)), (0, (.inr (.inr (.inl q)))), (1, (.inl t)), (2, (.inl l))], [], w1, mc, ms)
  refine zy_li (k := 3) rfl rfl ?_
  refine zy_ci (n := 1) (c := 4294967295) rfl ?_
  refine zy_jt rfl (fun _ => hend w1 _ u sF cF hW1 hP1 h1 h2 hu.1 hu.2) (fun h15 => ?_)
  have h15 : zx_b x ≠ zx_b (Int32.ofNat 4294967295) := h15
  rw [tg_m1] at h15
  obtain ⟨fs, gs, k0, k1, k4, k5, k6, k7, k8, kg, k9, ks, kc⟩ := id hP1
  obtain ⟨fk, hfk, -⟩ := tj_iarr (kd := 0) (n := 32768) (s := [(32768, 0, 4294967295)]) hW1.1 H1.2.2.1 rfl (Or.inl rfl)
  obtain ⟨fp, hfp, -⟩ := tj_iarr (kd := 0) (n := 8192) (s := [(8192, 0, 4294967295)]) hW1.1 H1.2.2.2.2.2 rfl (Or.inl rfl)
  have esum : zx_b (u + x) = zx_b u + zx_b x - 2147483648 := by
    have := tj_b_add u x
    omega
  refine zy_la (k := 0) rfl rfl (Or.inl ⟨_, rfl⟩) ?_
  refine zy_get rfl k0 k7 ?_
  refine zy_li (k := 3) rfl rfl ?_
  refine zy_add rfl ?_
  refine zy_la (k := 0) rfl rfl (Or.inl ⟨_, rfl⟩) ?_
  refine zy_get rfl k0 k4 ?_
  refine zy_al rfl hfk rfl ?_
  refine zy_jt rfl (fun _ => hend w1 _ u sF cF hW1 hP1 h1 h2 hu.1 hu.2) (fun h29 => ?_)
  have h29 : zx_b (u + x) ≤ zx_b (Int32.ofNat 32768) := h29
  rw [show zx_b (Int32.ofNat 32768) = 2147483648 + 32768 by decide] at h29
  refine zy_la (k := 0) rfl rfl (Or.inl ⟨_, rfl⟩) ?_
  refine zy_get rfl k0 k8 ?_
  refine zy_ci (n := 1) (c := 0) rfl ?_
  refine zy_la (k := 0) rfl rfl (Or.inl ⟨_, rfl⟩) ?_
  refine zy_get rfl k0 k4 ?_
  refine zy_la (k := 0) rfl rfl (Or.inl ⟨_, rfl⟩) ?_
  refine zy_get rfl k0 k7 ?_
  refine zy_li (k := 3) rfl rfl ?_
  obtain ⟨tn1, tn2⟩ := tj_nat (x := x) (by omega)
  obtain ⟨td1, td2⟩ := tj_nat (x := u) (by omega)
  obtain ⟨tz1, tz2⟩ := tj_nat (x := Int32.ofNat 0) (by decide)
  have z0 : (Int32.ofNat 0).toNatClampNeg = 0 := by decide
  have b1 : Nat.ble ((Int32.ofNat 0).toNatClampNeg + x.toNatClampNeg) 8192 = true := Nat.ble_eq_true_of_le (by omega)
  have b2 : Nat.ble (u.toNatClampNeg + x.toNatClampNeg) 32768 = true := Nat.ble_eq_true_of_le (by omega)
  have b3 : Nat.beq p kn = false := by
    cases hb : Nat.beq p kn with
    | false => rfl
    | true => exact absurd (Nat.eq_of_beq_eq_true hb) hpk
  have b4 : Nat.ble ([] : List zx_V).length 4 = true := rfl
  refine zy_cy (w' := w1.set kn (.inr (0, 32768, .inl (va_cpy fp fk (Int32.ofNat 0).toNatClampNeg u.toNatClampNeg x.toNatClampNeg)))) rfl (by simp only [zx_copy, hfp, hfk, tn1, td1, tz1, b1, b2, b3, b4, Bool.not_false, Bool.and_self]) ?_
  have hW2 := tj_W_arr hW1 H1.2.2.1 hfk (f' := .inl (va_cpy fp fk (Int32.ofNat 0).toNatClampNeg u.toNatClampNeg x.toNatClampNeg)) (tj_set hW1.1 H1.2.2.1 (d := .inr (0, 32768, [(32768, 0, 4294967295)])) rfl ⟨rfl, rfl, Or.inl rfl, fun j hj a b hs => by
    obtain ⟨e1, e2⟩ := tm_sel1 hs
    have := tj_b_lt (va_cpy fp fk (Int32.ofNat 0).toNatClampNeg u.toNatClampNeg x.toNatClampNeg j)
    omega⟩) (by decide) (by decide +kernel)
  have hP2 := tm_Pk_set (e := .inr (0, 32768, .inl (va_cpy fp fk (Int32.ofNat 0).toNatClampNeg u.toNatClampNeg x.toNatClampNeg))) hP1 hkq hkg hks hkc
  generalize w1.set kn (.inr (0, 32768, .inl (va_cpy fp fk (Int32.ofNat 0).toNatClampNeg u.toNatClampNeg x.toNatClampNeg))) = w2 at hW2 hP2 ⊢
  clear k0 k1 k4 k5 k6 k7 k8 kg k9 ks kc hfk hfp b1 b2 b3 b4 tz1 tz2 z0
  clear fs gs
  obtain ⟨fs, gs, k0, k1, k4, k5, k6, k7, k8, kg, k9, ks, kc⟩ := id hP2
  obtain ⟨v, hK, m1, m2⟩ := tg_cellK (w := w2) (x := t) (l := l) (by omega) (by omega)
  have mc1 := tj_cl_le l.toInt
  have bv := zx_b_int v
  obtain ⟨hin, hiv⟩ := tj_in (x := v) (n := 2100) (by omega) (by omega)
  have hlw : q < w2.length := (List.getElem?_eq_some_iff.mp k0).1
  have hsw : s < w2.length := (List.getElem?_eq_some_iff.mp ks).1
  refine zy_la (k := 0) rfl rfl (Or.inl ⟨_, rfl⟩) ?_
  refine zy_get rfl k0 k5 ?_
  refine zy_li (k := 1) rfl rfl ?_
  refine zy_li (k := 2) rfl rfl ?_
  have hst : zx_limL w2.length [(.inr (.inr (.inl s)))] = true := by
    show (Nat.blt s w2.length && true) = true
    rw [show Nat.blt s w2.length = true from Nat.ble_eq_true_of_le hsw]
    rfl
  refine zx_wp_call (a := 0) (n := 2) (y := 217) (g := zx_no) (av := [(.inl t), (.inl l)]) (st' := [(.inr (.inr (.inl s)))]) (cy := (0, 0)) (r := (some (.inl v), w2)) rfl rfl (Nat.le_of_ble_eq_true rfl) (tm_lim (k := 0) (ls := [(1, (.inl t)), (2, (.inl l))]) hlw rfl) hst (Nat.le_trans (Nat.le_add_right mc _) hW2.2.1.1) (Nat.le_trans (Nat.le_add_right ms _) hW2.2.1.2) (zx_Cl_le (by omega) hK) ?_
  show zx_wp _ none _ _ _ (58, [(3, (.inl x)), (0, (.inr (.inr (.inl q)))), (1, (.inl t)), (2, (.inl l))], [(.inl v), (.inr (.inr (.inl s)))], w2, mc, ms)
  refine zy_la (k := 0) rfl rfl (Or.inl ⟨_, rfl⟩) ?_
  refine zy_get rfl k0 k7 ?_
  refine zy_ai rfl ks hin ?_
  have hW3 := tg_setA hW2 H1.2.2.2.1 (i := v.toNatClampNeg) (x := u) (s := [(2100, 2147483648, 2147483648 + 32768)]) rfl ks (fun a b hs => by
    obtain ⟨e1, e2⟩ := tm_sel1 hs
    omega) (by decide +kernel)
  have hP3 := tm_Pk_s (sF' := upd sF v.toNatClampNeg u) hP2 (Ne.symm hqs) hsg hsc
  generalize w2.set s (.inr (0, 2100, .inl (upd sF v.toNatClampNeg u))) = w3 at hW3 hP3 ⊢
  clear k0 k1 k4 k5 k6 k7 k8 kg k9 ks kc hlw hsw hst hK
  clear fs gs
  obtain ⟨fs, gs, k0, k1, k4, k5, k6, k7, k8, kg, k9, ks, kc⟩ := id hP3
  obtain ⟨v', hK, m1', m2'⟩ := tg_cellK (w := w3) (x := t) (l := l) (by omega) (by omega)
  have bv' := zx_b_int v'
  have hvv : v'.toNatClampNeg = v.toNatClampNeg := by
    obtain ⟨-, e⟩ := tj_in (x := v') (n := 2100) (by omega) (by omega)
    omega
  obtain ⟨hin', -⟩ := tj_in (x := v') (n := 2100) (by omega) (by omega)
  have hlw : q < w3.length := (List.getElem?_eq_some_iff.mp k0).1
  have hsw : c < w3.length := (List.getElem?_eq_some_iff.mp kc).1
  refine zy_la (k := 0) rfl rfl (Or.inl ⟨_, rfl⟩) ?_
  refine zy_get rfl k0 k6 ?_
  refine zy_li (k := 1) rfl rfl ?_
  refine zy_li (k := 2) rfl rfl ?_
  have hst : zx_limL w3.length [(.inr (.inr (.inl c)))] = true := by
    show (Nat.blt c w3.length && true) = true
    rw [show Nat.blt c w3.length = true from Nat.ble_eq_true_of_le hsw]
    rfl
  refine zx_wp_call (a := 0) (n := 2) (y := 217) (g := zx_no) (av := [(.inl t), (.inl l)]) (st' := [(.inr (.inr (.inl c)))]) (cy := (0, 0)) (r := (some (.inl v'), w3)) rfl rfl (Nat.le_of_ble_eq_true rfl) (tm_lim (k := 0) (ls := [(1, (.inl t)), (2, (.inl l))]) hlw rfl) hst (Nat.le_trans (Nat.le_add_right mc _) hW3.2.1.1) (Nat.le_trans (Nat.le_add_right ms _) hW3.2.1.2) (zx_Cl_le (by omega) hK) ?_
  show zx_wp _ none _ _ _ (72, [(3, (.inl x)), (0, (.inr (.inr (.inl q)))), (1, (.inl t)), (2, (.inl l))], [(.inl v'), (.inr (.inr (.inl c)))], w3, mc, ms)
  refine zy_li (k := 3) rfl rfl ?_
  refine zy_ai rfl kc hin' ?_
  rw [hvv]
  have hW4 := tg_setA hW3 H1.2.2.2.2.1 (i := v.toNatClampNeg) (x := x) (s := [(2100, 2147483647, 2147483648 + 32768)]) rfl kc (fun a b hs => by
    obtain ⟨e1, e2⟩ := tm_sel1 hs
    omega) (by decide +kernel)
  have hP4 := tm_Pk_c (cF' := upd cF v.toNatClampNeg x) hP3 (Ne.symm hqc) hcg (Ne.symm hsc)
  generalize w3.set c (.inr (0, 2100, .inl (upd cF v.toNatClampNeg x))) = w4 at hW4 hP4 ⊢
  clear k0 k1 k4 k5 k6 k7 k8 kg k9 ks kc hlw hsw hst hK
  clear fs gs
  obtain ⟨fs, gs, k0, k1, k4, k5, k6, k7, k8, kg, k9, ks, kc⟩ := id hP4
  refine zy_la (k := 0) rfl rfl (Or.inl ⟨_, rfl⟩) ?_
  refine zy_dup rfl ?_
  refine zy_get rfl k0 k7 ?_
  refine zy_li (k := 3) rfl rfl ?_
  refine zy_add rfl ?_
  refine zy_put rfl k0 (List.getElem?_eq_some_iff.mp k7).1 rfl ?_
  have hd2 : ∃ fts, tj_Lam[83]? = some (.inl (9, 0, fts)) ∧ fts[7]? = some (0, 2147483648, 2147483648 + 32768) := ⟨_, rfl, rfl⟩
  obtain ⟨fts, hd2, t7⟩ := hd2
  have hW5 := tj_W_field hW4 H1.1 hd2 k0 t7 (v := (.inl (u + x))) ⟨_, rfl, by omega, by omega⟩ trivial rfl (by decide +kernel)
  have hP5 := tm_Pk_u (x := u + x) hP4 k0 hqg hqs hqc
  have hbs := zx_b_int (u + x)
  have hiv2 : v.toNatClampNeg < 100 * L.toInt.toNat := by omega
  refine hend _ _ (u + x) _ _ hW5 hP5 (tg_so1 h1 (by omega)) ⟨tg_so3 h2.1 hiv2, tg_so2 h2.2 (by omega)⟩ (by omega) (by omega)
