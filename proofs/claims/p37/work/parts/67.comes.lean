/-! by hand: comes -/
set_option maxRecDepth 20000 in
theorem tr_isLetterK {w : List zx_E} {x : Int32} : ∃ v, zx_Cl zx_mt zx_rc zx_mx' 1 148 [(.inl x)] w (0, 0) (some (.inl v), w) ∧ ((v = Int32.ofNat 1 ∧ 97 ≤ x.toInt ∧ x.toInt ≤ 122) ∨ (v = Int32.ofNat 0 ∧ ¬ (97 ≤ x.toInt ∧ x.toInt ≤ 122))) := by
  have key : ∀ v, zx_wp (zx_Cl zx_mt zx_rc zx_mx' 0) none (0, 0) (zx_find (zx_cT zx_d_X12_isLetter)) (fun σ => zx_ret (zx_find (zx_cT zx_d_X12_isLetter)) (0, 0) σ (some (.inl v), w)) (0, [(0, (.inl x))], [], w, 0, 0) → zx_Cl zx_mt zx_rc zx_mx' 1 148 [(.inl x)] w (0, 0) (some (.inl v), w) := fun v hv => zy_fun (d := 0) (dt := zx_d_X12_isLetter) (by rw [← zx_q_X12_isLetter]; rfl) (by rw [(by decide +kernel : zx_rc 148 = 0)]; trivial) (by decide +kernel : 1 ≤ zx_mx' 148) hv
  have bx := zx_b_int x
  have c1 : zx_b (Int32.ofNat 97) = 2147483745 := by decide
  have c2 : zx_b (Int32.ofNat 122) = 2147483770 := by decide
  by_cases hA : 97 ≤ x.toInt ∧ x.toInt ≤ 122
  · refine ⟨Int32.ofNat 1, key _ ?_, Or.inl ⟨rfl, hA⟩⟩
    refine zy_li (k := 0) rfl rfl ?_
    refine zy_ci (n := 2) (c := 97) rfl ?_
    refine zy_jt rfl (fun h1 => ?_) (fun _ => ?_)
    · have h1 : zx_b x < zx_b (Int32.ofNat 97) := h1
      omega
    refine zy_li (k := 0) rfl rfl ?_
    refine zy_ci (n := 2) (c := 122) rfl ?_
    refine zy_jt rfl (fun h1 => ?_) (fun _ => ?_)
    · have h1 : zx_b (Int32.ofNat 122) < zx_b x := h1
      omega
    refine zy_ci (n := 1) (c := 1) rfl ?_
    refine zy_goto rfl ?_
    exact zx_wp_done ⟨Nat.le_refl _, Nat.le_refl _, rfl, ⟨_, rfl, Or.inr rfl, rfl⟩⟩
  · refine ⟨Int32.ofNat 0, key _ ?_, Or.inr ⟨rfl, hA⟩⟩
    refine zy_li (k := 0) rfl rfl ?_
    refine zy_ci (n := 2) (c := 97) rfl ?_
    refine zy_jt rfl (fun _ => ?_) (fun h1 => ?_)
    · refine zy_ci (n := 1) (c := 0) rfl ?_
      exact zx_wp_done ⟨Nat.le_refl _, Nat.le_refl _, rfl, ⟨_, rfl, Or.inl rfl, rfl⟩⟩
    have h1 : zx_b (Int32.ofNat 97) ≤ zx_b x := h1
    refine zy_li (k := 0) rfl rfl ?_
    refine zy_ci (n := 2) (c := 122) rfl ?_
    refine zy_jt rfl (fun _ => ?_) (fun h2 => ?_)
    · refine zy_ci (n := 1) (c := 0) rfl ?_
      exact zx_wp_done ⟨Nat.le_refl _, Nat.le_refl _, rfl, ⟨_, rfl, Or.inl rfl, rfl⟩⟩
    · have h2 : zx_b x ≤ zx_b (Int32.ofNat 122) := h2
      exact absurd ⟨by omega, by omega⟩ hA
theorem tr_k2 : tj_l1 9932506208978268118369435647 = 1 ∧ tj_l2 9932506208978268118369435647 = -2 ∧ tj_l3 9932506208978268118369435647 = 0 ∧ tj_l0 9932506208978268118369435647 = -1 := by decide +kernel
/-- r is a deed's formula -/
theorem tr_ld {ρ : Nat → zx_V} {w : List zx_E} {q a b c j : Nat} {p : Int32} (e0 : ρ 0 = (.inr (.inr (.inl q)))) (ej : ρ j = (.inl p)) (F1 : tj_fd ρ w (0, .inr 0, .inl 14, .inr a)) (F2 : tj_fd ρ w (0, .inr 0, .inl 39, .inr b)) (F3 : tj_fd ρ w (1, .inr a, .inr b, .inr c)) (F7 : tj_sm7 (ρ 0) w) (FL : tj_fd ρ w (9932506208978268118369436750, .inr j, .inr c, .inl 0)) : ∃ bk hv pv dv tm ho pe cd rf rt, tr_R w q bk hv pv dv tm ho pe cd rf rt ∧ p.toInt < 2 * (dv bk.toInt.toNat).toInt := by
  obtain ⟨bk, hv, pv, dv, tm, ho, pe, cd, rf, rt, hR⟩ := tr_sm7 e0 F7
  refine ⟨bk, hv, pv, dv, tm, ho, pe, cd, rf, rt, hR, ?_⟩
  have ec := tr_cnt e0 hR.2.2.2.1 hR.1 F1 F2 F3
  obtain ⟨x, y, z, h1, h2, h3, h4⟩ := tl_lin_fd (n := 9932506208978268118369435647) (by decide +kernel) FL
  have h1 : ρ j = (.inl x) := h1
  have h2 : ρ c = (.inl y) := h2
  rw [ej] at h1
  cases h1
  rw [ec] at h2
  cases h2
  obtain ⟨c1, c2, c3, c4⟩ := tr_k2
  rw [c1, c2, c3, c4] at h4
  omega
theorem tr_lim1 {w : List zx_E} {a : Nat} (ha : a < w.length) {st : List zx_V} (h : zx_limL w.length st = true) : zx_limL w.length ((.inr (.inr (.inl a))) :: st) = true := by
  show (Nat.blt a w.length && _) = true
  rw [show Nat.blt a w.length = true from Nat.ble_eq_true_of_le ha]
  exact h
theorem tr_lim2 {w : List zx_E} {x : Int32} {st : List zx_V} (h : zx_limL w.length st = true) : zx_limL w.length ((.inl x) :: st) = true := h
theorem tr_km1 : zx_b (Int32.ofNat 4294967295) = 2147483647 := by decide
set_option maxRecDepth 20000 in
theorem tr_b_comes0 : tj_KS1 (zx_Cl zx_mt zx_rc zx_mx' 12) tj_Lam tr_h_comes0 := by
  refine zy_method (d := 11) (dt := zx_d_X12_comes) (by rw [← zx_q_X12_comes]; rfl) (by decide +kernel) (by decide +kernel) ?_
  intro Ψ av w hw hty hp
  match av, hty with
  | [v0, v1], ⟨⟨q, hv0, hq⟩, ⟨r, hv1, b1, b2⟩, _⟩ =>
    subst hv0
    subst hv1
    obtain ⟨ρ, r1, r2, r3⟩ := hp
    have e0 : ρ 0 = (.inr (.inr (.inl q))) := r1 0 _ rfl
    have e1 : ρ 1 = (.inl r) := r1 1 _ rfl
    obtain ⟨bk, hv, pv, dv, tm, ho, pe, cd, rf, rt, hR, hlt⟩ := tr_ld (j := 1) (a := 2) (b := 3) (c := 4) e0 e1 (r3 (0, .inr 0, .inl 14, .inr 2) List.mem_cons_self) (r3 (0, .inr 0, .inl 39, .inr 3) (List.mem_cons_of_mem _ List.mem_cons_self)) (r3 (1, .inr 2, .inr 3, .inr 4) (List.mem_cons_of_mem _ (List.mem_cons_of_mem _ List.mem_cons_self))) (r3 (110, .inr 0, .inr 0, .inr 0) (List.mem_cons_of_mem _ (List.mem_cons_of_mem _ (List.mem_cons_of_mem _ List.mem_cons_self)))) (r3 (9932506208978268118369436750, .inr 1, .inr 4, .inl 0) (List.mem_cons_of_mem _ (List.mem_cons_of_mem _ (List.mem_cons_of_mem _ (List.mem_cons_of_mem _ List.mem_cons_self)))))
    obtain ⟨h39, h11, h13, h14, h24, h23, h19, h34, h26, h27, hb, hro⟩ := hR
    have br := zx_b_int r
    obtain ⟨g1, g2, g3⟩ := hro.2.2 r.toInt.toNat (by omega)
    clear h11 h13 h14 h24 h23 h19 hro
    obtain ⟨fs, k0, k39⟩ := id h39
    obtain ⟨fs', pf, k0', k26, kf⟩ := id h26
    rw [k0] at k0'
    cases k0'
    obtain ⟨fs', pt, k0', k27, kt⟩ := id h27
    rw [k0] at k0'
    cases k0'
    obtain ⟨fs', pc, k0', k34, kc⟩ := id h34
    rw [k0] at k0'
    cases k0'
    obtain ⟨fsT, f1, -, -, f3⟩ := tj_obj hw hq tr_hd
    rw [k0] at f1
    cases f1
    obtain ⟨v, g, p', y, hpf⟩ := f3 26 (1, 137, 0) rfl
    rw [k26] at g
    cases g
    cases y
    obtain ⟨v, g, p', y, hpt⟩ := f3 27 (1, 138, 0) rfl
    rw [k27] at g
    cases g
    cases y
    obtain ⟨v, g, p', y, hpc⟩ := f3 34 (1, 118, 0) rfl
    rw [k34] at g
    cases g
    cases y
    obtain ⟨v, k35, pn, y, hpn⟩ := f3 35 (1, 119, 0) rfl
    subst y
    obtain ⟨v, k38, pp, y, hpp⟩ := f3 38 (1, 122, 0) rfl
    subst y
    obtain ⟨cn, kn, -⟩ := tj_iarr (kd := 0) (n := 1280) (s := [(1280, 0, 4294967295)]) hw hpn rfl (Or.inl rfl)
    have hlq : q < w.length := (List.getElem?_eq_some_iff.mp k0).1
    have e12 : (Int32.ofNat 12 * bk).toInt = 12 * bk.toInt := tr_mul (c := 12) (by decide) rfl (by omega) (by omega)
    have eix : (Int32.ofNat 12 * bk + r).toInt = 12 * bk.toInt + r.toInt := by rw [tr_add (by omega) (by omega), e12]
    generalize hixd : Int32.ofNat 12 * bk + r = ix at eix
    have eixn : ix.toNatClampNeg = 12 * bk.toInt.toNat + r.toInt.toNat := by
      show ix.toInt.toNat = _
      omega
    rw [← eixn] at g1 g2 g3
    generalize hFd : rf ix.toNatClampNeg = F at g1 g3
    generalize hTd : rt ix.toNatClampNeg = T at g2 g3
    have hty2 : ∀ {Ψ'}, tj_le Ψ Ψ' → tj_typed Ψ' [(.inr (.inr (.inl q))), (.inl r)] [(1, 149, 0), (0, 2147483648, 2147483659)] := fun h => ⟨⟨q, rfl, h _ _ hq⟩, ⟨r, rfl, b1, b2⟩, trivial⟩
    let WP : zx_S → Prop := fun σ => zx_wp (zx_Cl zx_mt zx_rc zx_mx' 11) none (tj_P tj_c1 w, tj_P tj_c2 w) (zx_find (zx_cT zx_d_X12_comes)) (tj_Post tj_Lam tr_h_comes0.2.2.1 Ψ w zx_d_X12_comes tr_h_comes0.2.2.2.1 [(.inr (.inr (.inl q))), (.inl r)]) σ
    let J : List Nat → List zx_E → Nat → Nat → Prop := fun Ψ' w' mc ms => tj_W tj_Lam (tj_P tj_c1 w, tj_P tj_c2 w) tr_h_comes0.2.2.1 Ψ w Ψ' w' mc ms
    have hQ : ∀ {Ψ' w' mc ms}, J Ψ' w' mc ms → ∃ fs' : List zx_V, w'[q]? = some (.inl (12, fs')) ∧ ∀ k : Nat, fs'[k]? = fs[k]? := by
      intro Ψ' w' mc ms hJ
      obtain ⟨fs', m0, mm⟩ := (hJ.2.2.2 q 149 hq).1 12 fs k0
      exact ⟨fs', m0, fun k => mm k rfl⟩
    have hAr : ∀ {Ψ' w' mc ms} {p l n : Nat} {g : Nat → Int32}, J Ψ' w' mc ms → Ψ[p]? = some l → w[p]? = some (.inr (0, n, .inl g)) → tj_h1 l [122] = false → w'[p]? = some (.inr (0, n, .inl g)) := by
      intro Ψ' w' mc ms p l n g hJ hp kp hn
      obtain ⟨f', mf, ef⟩ := (hJ.2.2.2 p l hp).2 0 n (.inl g) kp
      rw [mf, ef hn]
    have hPl : ∀ {Ψ' w' mc ms}, J Ψ' w' mc ms → ∃ g, w'[pp]? = some (.inr (0, 60, .inl g)) := by
      intro Ψ' w' mc ms hJ
      obtain ⟨g, kg, -⟩ := tj_iarr (kd := 0) (n := 60) (s := [(60, 0, 4294967295)]) hJ.1 (hJ.2.2.1 _ _ hpp) rfl (Or.inl rfl)
      exact ⟨g, kg⟩
    have hSet : ∀ {Ψ' w' mc ms} {g : Nat → Int32} {i : Nat} {x : Int32}, J Ψ' w' mc ms → w'[pp]? = some (.inr (0, 60, .inl g)) → J Ψ' (w'.set pp (.inr (0, 60, .inl (upd g i x)))) mc ms := by
      intro Ψ' w' mc ms g i x hJ kg
      refine tg_setA (s := [(60, 0, 4294967295)]) hJ (hJ.2.2.1 _ _ hpp) rfl kg (fun a b hs => ?_) (by decide +kernel)
      obtain ⟨e1, e2⟩ := tm_sel1 hs
      have := tj_b_lt x
      omega
    have loop : ∀ (n : Nat) (k d c0 : Int32) (Ψ' : List Nat) (w' : List zx_E) (mc ms : Nat) (ls : List (Nat × zx_V)), (T.toInt - k.toInt).toNat = n → 0 ≤ k.toInt → 0 ≤ d.toInt → d.toInt ≤ 60 → tj_cd cd n k.toInt.toNat d.toInt.toNat → J Ψ' w' mc ms → zx_limP w'.length ls = true → zx_look 0 ls = some (.inr (.inr (.inl q))) → zx_look 1 ls = some (.inl r) → zx_look 2 ls = some (.inl d) → zx_look 3 ls = some (.inl k) → WP (17, ls, [], w', mc, ms) := by
      intro n
      induction n with
      | zero =>
        intro k d c0 Ψ' w' mc ms ls hn hk0 hd0 hd1 hcd hJ hls l0 l1 l2 l3
        obtain ⟨fs', m0, mm⟩ := hQ hJ
        have mt := hAr hJ hpt kt rfl
        obtain ⟨gp, kp⟩ := hPl hJ
        have bk' := zx_b_int k
        have bT := zx_b_int T
        refine zy_li rfl l3 ?_
        refine zy_la rfl l0 (Or.inl ⟨_, rfl⟩) ?_
        refine zy_get rfl m0 ((mm 27).trans k27) ?_
        refine zy_ci (n := 2) (c := 12) rfl ?_
        refine zy_la rfl l0 (Or.inl ⟨_, rfl⟩) ?_
        refine zy_get rfl m0 ((mm 39).trans k39) ?_
        refine zy_mul rfl ?_
        refine zy_li rfl l1 ?_
        refine zy_add rfl ?_
        rw [hixd]
        refine zy_ld rfl mt (tr_in (by omega) (by omega)) ?_
        rw [hTd]
        refine zy_jt rfl (fun _ => ?_) (fun h => ?_)
        · refine zy_la rfl l0 (Or.inl ⟨_, rfl⟩) ?_
          refine zy_get rfl m0 ((mm 38).trans k38) ?_
          refine zy_ci (n := 1) (c := 0) rfl ?_
          refine zy_ld rfl kp (by decide) ?_
          exact tr_retI ⟨_, _, _, rfl⟩ hJ (Nat.zero_le _) (by have := tj_b_lt (gp (Int32.ofNat 0).toNatClampNeg); omega) (hty2 hJ.2.2.1) (fun f hf => absurd hf List.not_mem_nil)
        · have h : zx_b k < zx_b T := h
          omega
      | succ n ih =>
        intro k d c0 Ψ' w' mc ms ls hn hk0 hd0 hd1 hcd hJ hls l0 l1 l2 l3
        obtain ⟨fs', m0, mm⟩ := hQ hJ
        have mt := hAr hJ hpt kt rfl
        have mcd := hAr hJ hpc kc rfl
        have mcn := hAr hJ hpn kn rfl
        obtain ⟨gp, kp⟩ := hPl hJ
        have bk' := zx_b_int k
        have bT := zx_b_int T
        have bd := zx_b_int d
        have ek : (k + Int32.ofNat 1).toInt = k.toInt + 1 := tm_inc tm_k1 (by omega)
        refine zy_li rfl l3 ?_
        refine zy_la rfl l0 (Or.inl ⟨_, rfl⟩) ?_
        refine zy_get rfl m0 ((mm 27).trans k27) ?_
        refine zy_ci (n := 2) (c := 12) rfl ?_
        refine zy_la rfl l0 (Or.inl ⟨_, rfl⟩) ?_
        refine zy_get rfl m0 ((mm 39).trans k39) ?_
        refine zy_mul rfl ?_
        refine zy_li rfl l1 ?_
        refine zy_add rfl ?_
        rw [hixd]
        refine zy_ld rfl mt (tr_in (by omega) (by omega)) ?_
        rw [hTd]
        refine zy_jt rfl (fun h => ?_) (fun _ => ?_)
        · have h : zx_b T ≤ zx_b k := h
          omega
        refine zy_la rfl l0 (Or.inl ⟨_, rfl⟩) ?_
        refine zy_get rfl m0 ((mm 34).trans k34) ?_
        refine zy_li rfl l3 ?_
        refine zy_ld rfl mcd (tr_in hk0 (by omega)) ?_
        have ekn : k.toNatClampNeg = k.toInt.toNat := rfl
        rw [ekn]
        have hcd : ((cd k.toInt.toNat).toInt = 126 ∧ 1 ≤ d.toInt.toNat ∧ tj_cd cd n (k.toInt.toNat + 1) d.toInt.toNat) ∨ ((cd k.toInt.toNat).toInt ≠ 126 ∧ 97 ≤ (cd k.toInt.toNat).toInt ∧ (cd k.toInt.toNat).toInt ≤ 122 ∧ d.toInt.toNat < 60 ∧ tj_cd cd n (k.toInt.toNat + 1) (d.toInt.toNat + 1)) ∨ ((cd k.toInt.toNat).toInt ≠ 126 ∧ ((cd k.toInt.toNat).toInt < 97 ∨ 122 < (cd k.toInt.toNat).toInt) ∧ 2 ≤ d.toInt.toNat ∧ tj_cd cd n (k.toInt.toNat + 1) (d.toInt.toNat - 1)) := hcd
        generalize cd k.toInt.toNat = c at hcd
        have bc := zx_b_int c
        refine zy_si (k := 4) rfl ?_
        have l0' : zx_look 0 (zx_put 4 (.inl c) ls) = some (.inr (.inr (.inl q))) := zy_look_ne (by decide) rfl l0
        have l1' : zx_look 1 (zx_put 4 (.inl c) ls) = some (.inl r) := zy_look_ne (by decide) rfl l1
        have l2' : zx_look 2 (zx_put 4 (.inl c) ls) = some (.inl d) := zy_look_ne (by decide) rfl l2
        have l3' : zx_look 3 (zx_put 4 (.inl c) ls) = some (.inl k) := zy_look_ne (by decide) rfl l3
        have l4' : zx_look 4 (zx_put 4 (.inl c) ls) = some (.inl c) := zy_look_put
        have hls' : zx_limP w'.length (zx_put 4 (.inl c) ls) = true := zy_limP_put hls rfl
        generalize zx_put 4 (.inl c) ls = ls2 at l0' l1' l2' l3' l4' hls' ⊢
        clear l0 l1 l2 l3 hls
        -- behind each of the three ways
        have nx : ∀ (d' : Int32) (Ψ2 : List Nat) (w2 : List zx_E) (mc2 ms2 : Nat) (ls3 : List (Nat × zx_V)), 0 ≤ d'.toInt → d'.toInt ≤ 60 → tj_cd cd n (k.toInt.toNat + 1) d'.toInt.toNat → J Ψ2 w2 mc2 ms2 → zx_limP w2.length ls3 = true → zx_look 0 ls3 = some (.inr (.inr (.inl q))) → zx_look 1 ls3 = some (.inl r) → zx_look 2 ls3 = some (.inl d') → zx_look 3 ls3 = some (.inl k) → WP (139, ls3, [], w2, mc2, ms2) := by
          intro d' Ψ2 w2 mc2 ms2 ls3 x1 x2 x3 x4 x5 x6 x7 x8 x9
          refine zy_ik (k := 3) (n := 1) rfl x9 ?_
          refine zy_goto rfl ?_
          exact ih (k + Int32.ofNat 1) d' c0 Ψ2 w2 mc2 ms2 _ (by omega) (by omega) x1 x2 (by rw [show (k + Int32.ofNat 1).toInt.toNat = k.toInt.toNat + 1 by omega]; exact x3) x4 (zy_limP_put x5 rfl) (zy_look_ne (by decide) rfl x6) (zy_look_ne (by decide) rfl x7) (zy_look_ne (by decide) rfl x8) zy_look_put
        have hlw : q < w'.length := (List.getElem?_eq_some_iff.mp m0).1
        have hlp : pp < w'.length := (List.getElem?_eq_some_iff.mp kp).1
        have n126 : zx_b (Int32.ofNat 126) = 2147483774 := by decide
        refine zy_li rfl l4' ?_
        refine zy_ci (n := 2) (c := 126) rfl ?_
        refine zy_jt rfl (fun hne => ?_) (fun he => ?_)
        · have hne : zx_b c ≠ zx_b (Int32.ofNat 126) := hne
          rw [n126] at hne
          obtain ⟨v, hK, hv⟩ := tr_isLetterK (w := w') (x := c)
          refine zy_li rfl l4' ?_
          refine zx_wp_call (a := 0) (n := 1) (y := 148) (g := zx_no) (av := [(.inl c)]) (st' := []) (cy := (0, 0)) (r := (some (.inl v), w')) rfl rfl (Nat.le_of_ble_eq_true rfl) hls' rfl (by have := hJ.2.1; omega) (by have := hJ.2.1; omega) (zx_Cl_le (by decide) hK) ?_
          rcases hv with ⟨ev, hc1, hc2⟩ | ⟨ev, hcn⟩
          · subst ev
            obtain ⟨-, -, -, hd60, hcd2⟩ : c.toInt ≠ 126 ∧ 97 ≤ c.toInt ∧ c.toInt ≤ 122 ∧ d.toInt.toNat < 60 ∧ tj_cd cd n (k.toInt.toNat + 1) (d.toInt.toNat + 1) := by
              rcases hcd with h | h | h
              · exact absurd h.1 (by omega)
              · exact h
              · exact absurd h.2.1 (by omega)
            refine zy_j0 rfl (fun e => absurd e (by decide : ¬ zx_b (Int32.ofNat 1) = 2147483648)) (fun _ => ?_)
            refine zy_la rfl l0' (Or.inl ⟨_, rfl⟩) ?_
            refine zy_get rfl m0 ((mm 38).trans k38) ?_
            refine zy_li rfl l2' ?_
            refine zy_la rfl l0' (Or.inl ⟨_, rfl⟩) ?_
            refine zy_li rfl l4' ?_
            refine zy_la rfl l0' (Or.inl ⟨_, rfl⟩) ?_
            refine zy_get rfl m0 ((mm 35).trans k35) ?_
            refine zy_li rfl l3' ?_
            refine zy_ld rfl mcn (tr_in hk0 (by omega)) ?_
            have ty : tj_typed Ψ' [(.inr (.inr (.inl q))), (.inl c), (.inl (cn k.toNatClampNeg))] [(1, 149, 0), (0, 0, 4294967295), (0, 0, 4294967295)] := ⟨⟨q, rfl, hJ.2.2.1 _ _ hq⟩, tr_full _, tr_full _, trivial⟩
            refine zy_call (tj_KS1_le (by decide) tr0_p2) (n := 3) (av := [(.inr (.inr (.inl q))), (.inl c), (.inl (cn k.toNatClampNeg))]) (st := [(.inl d), (.inr (.inr (.inl pp)))]) rfl rfl (Nat.le_of_ble_eq_true rfl) hls' (tr_lim2 (tr_lim1 hlp rfl)) hJ ty (zy_nopre ty) (by decide +kernel) (by decide +kernel) ?_
            intro r cy Ψ1 o hW1 hle1 hfr1 hls1 ho hto hro hho
            obtain ⟨x, ex⟩ := zy_retI (by decide +kernel) ho hro
            rw [ex]
            obtain ⟨gp1, kp1⟩ := hPl hW1
            have hls3 : zx_limP (r.2.set pp (.inr (0, 60, .inl (upd gp1 d.toNatClampNeg x)))).length ls2 = true := by rw [List.length_set]; exact hls1
            refine zy_ai rfl kp1 (tr_in hd0 (by omega)) ?_
            have hJ2 := hSet (i := d.toNatClampNeg) (x := x) hW1 kp1
            refine zy_ik (k := 2) (n := 1) rfl l2' ?_
            refine zy_goto rfl ?_
            have ed : (d + Int32.ofNat 1).toInt = d.toInt + 1 := tm_inc tm_k1 (by omega)
            exact nx (d + Int32.ofNat 1) _ _ _ _ _ (by omega) (by omega) (by rw [show (d + Int32.ofNat 1).toInt.toNat = d.toInt.toNat + 1 by omega]; exact hcd2) hJ2 (zy_limP_put hls3 rfl) (zy_look_ne (by decide) rfl l0') (zy_look_ne (by decide) rfl l1') zy_look_put (zy_look_ne (by decide) rfl l3')
          · subst ev
            obtain ⟨-, -, hd2, hcd2⟩ : c.toInt ≠ 126 ∧ (c.toInt < 97 ∨ 122 < c.toInt) ∧ 2 ≤ d.toInt.toNat ∧ tj_cd cd n (k.toInt.toNat + 1) (d.toInt.toNat - 1) := by
              rcases hcd with h | h | h
              · exact absurd h.1 (by omega)
              · exact absurd ⟨h.2.1, h.2.2.1⟩ hcn
              · exact h
            refine zy_j0 rfl (fun _ => ?_) (fun e => absurd (by decide : zx_b (Int32.ofNat 0) = 2147483648) e)
            refine zy_ik (k := 2) (n := 4294967295) rfl l2' ?_
            have ed : (d + Int32.ofNat 4294967295).toInt = d.toInt - 1 := tm_dec tr_km1 (by omega)
            generalize d + Int32.ofNat 4294967295 = d' at ed ⊢
            have m0' : zx_look 0 (zx_put 2 (.inl d') ls2) = some (.inr (.inr (.inl q))) := zy_look_ne (by decide) rfl l0'
            have m1' : zx_look 1 (zx_put 2 (.inl d') ls2) = some (.inl r) := zy_look_ne (by decide) rfl l1'
            have m2' : zx_look 2 (zx_put 2 (.inl d') ls2) = some (.inl d') := zy_look_put
            have m3' : zx_look 3 (zx_put 2 (.inl d') ls2) = some (.inl k) := zy_look_ne (by decide) rfl l3'
            have m4' : zx_look 4 (zx_put 2 (.inl d') ls2) = some (.inl c) := zy_look_ne (by decide) rfl l4'
            have hls3 : zx_limP w'.length (zx_put 2 (.inl d') ls2) = true := zy_limP_put hls' rfl
            generalize zx_put 2 (.inl d') ls2 = ls3 at m0' m1' m2' m3' m4' hls3 ⊢
            have ed1 : (d' - Int32.ofNat 1).toInt = d'.toInt - 1 := tm_sub1 tm_k1 (by omega)
            refine zy_la rfl m0' (Or.inl ⟨_, rfl⟩) ?_
            refine zy_get rfl m0 ((mm 38).trans k38) ?_
            refine zy_li rfl m2' ?_
            refine zy_ci (n := 1) (c := 1) rfl ?_
            refine zy_sub rfl ?_
            refine zy_li rfl m4' ?_
            refine zy_la rfl m0' (Or.inl ⟨_, rfl⟩) ?_
            refine zy_get rfl m0 ((mm 38).trans k38) ?_
            refine zy_li rfl m2' ?_
            refine zy_ci (n := 1) (c := 1) rfl ?_
            refine zy_sub rfl ?_
            refine zy_ld rfl kp (tr_in (by omega) (by omega)) ?_
            refine zy_la rfl m0' (Or.inl ⟨_, rfl⟩) ?_
            refine zy_get rfl m0 ((mm 38).trans k38) ?_
            refine zy_li rfl m2' ?_
            refine zy_ld rfl kp (tr_in (by omega) (by omega)) ?_
            generalize gp (d' - Int32.ofNat 1).toNatClampNeg = y1
            generalize gp d'.toNatClampNeg = y2
            have ty : tj_typed Ψ' [(.inl c), (.inl y1), (.inl y2)] [(0, 0, 4294967295), (0, 0, 4294967295), (0, 0, 4294967295)] := ⟨tr_full _, tr_full _, tr_full _, trivial⟩
            refine zy_call (tj_KS1_le (by decide) tr0_p3) (n := 3) (av := [(.inl c), (.inl y1), (.inl y2)]) (st := [(.inl (d' - Int32.ofNat 1)), (.inr (.inr (.inl pp)))]) rfl rfl (Nat.le_of_ble_eq_true rfl) hls3 (tr_lim2 (tr_lim1 hlp rfl)) hJ ty (zy_nopre ty) (by decide +kernel) (by decide +kernel) ?_
            intro r cy Ψ1 o hW1 hle1 hfr1 hls1 ho hto hro hho
            obtain ⟨x, ex⟩ := zy_retI (by decide +kernel) ho hro
            rw [ex]
            obtain ⟨gp1, kp1⟩ := hPl hW1
            have hls4 : zx_limP (r.2.set pp (.inr (0, 60, .inl (upd gp1 (d' - Int32.ofNat 1).toNatClampNeg x)))).length ls3 = true := by rw [List.length_set]; exact hls1
            refine zy_ai rfl kp1 (tr_in (by omega) (by omega)) ?_
            have hJ2 := hSet (i := (d' - Int32.ofNat 1).toNatClampNeg) (x := x) hW1 kp1
            exact nx d' _ _ _ _ _ (by omega) (by omega) (by rw [show d'.toInt.toNat = d.toInt.toNat - 1 by omega]; exact hcd2) hJ2 hls4 m0' m1' m2' m3'
        · have he : zx_b c = zx_b (Int32.ofNat 126) := he
          rw [n126] at he
          obtain ⟨-, hd1', hcd2⟩ : c.toInt = 126 ∧ 1 ≤ d.toInt.toNat ∧ tj_cd cd n (k.toInt.toNat + 1) d.toInt.toNat := by
            rcases hcd with h | h | h
            · exact h
            · exact absurd (by omega) h.1
            · exact absurd (by omega) h.1
          have ed1 : (d - Int32.ofNat 1).toInt = d.toInt - 1 := tm_sub1 tm_k1 (by omega)
          have fin : ∀ x : Int32, WP (73, ls2, [(.inl x), (.inl (d - Int32.ofNat 1)), (.inr (.inr (.inl pp)))], w', mc, ms) := by
            intro x
            refine zy_ai rfl kp (tr_in (by omega) (by omega)) ?_
            have hJ2 := hSet (i := (d - Int32.ofNat 1).toNatClampNeg) (x := x) hJ kp
            refine zy_goto rfl ?_
            exact nx d _ _ _ _ _ hd0 hd1 hcd2 hJ2 (by rw [List.length_set]; exact hls') l0' l1' l2' l3'
          refine zy_la rfl l0' (Or.inl ⟨_, rfl⟩) ?_
          refine zy_get rfl m0 ((mm 38).trans k38) ?_
          refine zy_li rfl l2' ?_
          refine zy_ci (n := 1) (c := 1) rfl ?_
          refine zy_sub rfl ?_
          refine zy_la rfl l0' (Or.inl ⟨_, rfl⟩) ?_
          refine zy_get rfl m0 ((mm 38).trans k38) ?_
          refine zy_li rfl l2' ?_
          refine zy_ci (n := 1) (c := 1) rfl ?_
          refine zy_sub rfl ?_
          refine zy_ld rfl kp (tr_in (by omega) (by omega)) ?_
          refine zy_j0 rfl (fun _ => ?_) (fun _ => ?_)
          · refine zy_ci (n := 1) (c := 0) rfl ?_
            exact fin _
          · refine zy_ci (n := 1) (c := 1) rfl ?_
            refine zy_goto rfl ?_
            exact fin _
    show WP (0, [(0, (.inr (.inr (.inl q)))), (1, (.inl r))], [], w, 0, 0)
    refine zy_ci (n := 1) (c := 0) rfl ?_
    refine zy_si (k := 2) rfl ?_
    refine zy_la (k := 0) rfl rfl (Or.inl ⟨_, rfl⟩) ?_
    refine zy_get rfl k0 k26 ?_
    refine zy_ci (n := 2) (c := 12) rfl ?_
    refine zy_la (k := 0) rfl rfl (Or.inl ⟨_, rfl⟩) ?_
    refine zy_get rfl k0 k39 ?_
    refine zy_mul rfl ?_
    refine zy_li (k := 1) rfl rfl ?_
    refine zy_add rfl ?_
    rw [hixd]
    refine zy_ld rfl kf (tr_in (by omega) (by omega)) ?_
    rw [hFd]
    refine zy_si (k := 3) rfl ?_
    have z0 : (Int32.ofNat 0).toInt = 0 := by decide
    exact loop _ F (Int32.ofNat 0) F _ w 0 0 _ rfl g1 (by omega) (by omega) (by rw [z0]; exact g3) (tm_W0 hw) (tm_lim (k := 0) (ls := [(1, (.inl r))]) hlq rfl) rfl rfl rfl rfl
