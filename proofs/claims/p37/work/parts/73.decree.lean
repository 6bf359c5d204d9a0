/-! by hand: decree -/
theorem tr_ix {bk p d : Int32} {tm : Nat → Int32} (hb : bk.toInt = 0 ∨ bk.toInt = 1) (hp : 0 ≤ p.toInt ∧ p.toInt ≤ 3) (hd : 0 ≤ d.toInt) (ht : 1 ≤ (tm (4 * bk.toInt.toNat + p.toInt.toNat)).toInt ∧ (tm (4 * bk.toInt.toNat + p.toInt.toNat)).toInt ≤ 14) : 7 ≤ (Int32.ofNat 7 + Int32.ofNat 14 * p + (d - d / tm (Int32.ofNat 4 * bk + p).toNatClampNeg * tm (Int32.ofNat 4 * bk + p).toNatClampNeg)).toNatClampNeg ∧ (Int32.ofNat 7 + Int32.ofNat 14 * p + (d - d / tm (Int32.ofNat 4 * bk + p).toNatClampNeg * tm (Int32.ofNat 4 * bk + p).toNatClampNeg)).toNatClampNeg ≤ 62 := by
  have e4 := tr_p4 hb hp
  generalize htd : tm (Int32.ofNat 4 * bk + p).toNatClampNeg = t
  have eti : (Int32.ofNat 4 * bk + p).toNatClampNeg = 4 * bk.toInt.toNat + p.toInt.toNat := by
    show (Int32.ofNat 4 * bk + p).toInt.toNat = _
    omega
  rw [eti] at htd
  rw [htd] at ht
  have btt := zx_b_int t
  have hrem := tj_b_rem (x := d) (y := t) (by omega)
  have brem := zx_b_int (d - d / t * t)
  have bd := zx_b_int d
  have h14 : (Int32.ofNat 14 * p).toInt = 14 * p.toInt := tr_mul (c := 14) (by decide) rfl (by omega) (by omega)
  have h7 : (Int32.ofNat 7).toInt = 7 := by decide
  have e7 : (Int32.ofNat 7 + Int32.ofNat 14 * p).toInt = 7 + 14 * p.toInt := by rw [tr_add (by omega) (by omega), h7, h14]
  have hr1 := hrem.2 (by omega)
  have hr2 := hrem.1.1
  have eix : (Int32.ofNat 7 + Int32.ofNat 14 * p + (d - d / t * t)).toInt = 7 + 14 * p.toInt + (d - d / t * t).toInt := by rw [tr_add (by omega) (by omega), e7]
  have en : (Int32.ofNat 7 + Int32.ofNat 14 * p + (d - d / t * t)).toNatClampNeg = (Int32.ofNat 7 + Int32.ofNat 14 * p + (d - d / t * t)).toInt.toNat := rfl
  omega
/-- a deed leaves alive who is -/
theorem tr_alvK {bk p d : Int32} {al al2 tm ho : Nat → Int32} (hb : bk.toInt = 0 ∨ bk.toInt = 1) (hp : 0 ≤ p.toInt ∧ p.toInt ≤ 3) (hd : 0 ≤ d.toInt) (ht : 1 ≤ (tm (4 * bk.toInt.toNat + p.toInt.toNat)).toInt ∧ (tm (4 * bk.toInt.toNat + p.toInt.toNat)).toInt ≤ 14) (hk : ∀ j, tr_Kp j → al2 j = al j) (h : tj_alv al (tj_who bk al tm ho p d)) : tj_alv al2 (tj_who bk al2 tm ho p d) := by
  have hi := tr_ix hb hp hd ht
  have e : tj_who bk al2 tm ho p d = tj_who bk al tm ho p d := by
    unfold tj_who
    rw [hk _ (Or.inr (Or.inr hi))]
  rw [e]
  unfold tj_alv at h ⊢
  rw [hk 2 (Or.inr (Or.inl rfl))]
  exact h
set_option maxRecDepth 20000 in
theorem tr_b_decree0 : tj_KS1 (zx_Cl zx_mt zx_rc zx_mx' 60) tj_Lam tr_h_decree0 := by
  refine zy_method (d := 59) (dt := zx_d_X12_decree) (by rw [← zx_q_X12_decree]; rfl) (by decide +kernel) (by decide +kernel) ?_
  intro Ψ av w hw hty hp
  match av, hty with
  | [v0, v1, v2], ⟨⟨q, hv0, hq⟩, ⟨p, hv1, _⟩, ⟨d, hv2, _⟩, _⟩ =>
    subst hv0
    subst hv1
    subst hv2
    obtain ⟨ρ, r1, r2, r3⟩ := hp
    have e0 : ρ 0 = (.inr (.inr (.inl q))) := r1 0 _ rfl
    have F7 : tj_sm7 (ρ 0) w := r3 (110, .inr 0, .inr 0, .inr 0) List.mem_cons_self
    obtain ⟨bk, hv, pv, dv, tm, ho, pe, cd, rf, rt, hR⟩ := tr_sm7 e0 F7
    obtain ⟨al0, h49⟩ := tr_all hw hq
    have hR7 := hR
    obtain ⟨h39, h11, h13, h14, h24, h23, h19, h34, h26, h27, hb, hro⟩ := hR
    have p4 := tr_b4 hw hq h13 (j := bk.toInt.toNat) (by omega)
    have p6 := tr_b6 hw hq h14 (j := bk.toInt.toNat) (by omega)
    have ip := zx_b_int p
    have id' := zx_b_int d
    have z0 : (Int32.ofNat 0).toInt = 0 := by decide
    have e0n : (Int32.ofNat 0).toNatClampNeg = 0 := by decide
    have ebn : bk.toNatClampNeg = bk.toInt.toNat := rfl
    have bv := zx_b_int (pv bk.toInt.toNat)
    have hty2 : ∀ {Ψ'}, tj_le Ψ Ψ' → tj_typed Ψ' [(.inr (.inr (.inl q))), (.inl p), (.inl d)] [(1, 149, 0), (0, 0, 4294967295), (0, 0, 4294967295)] := fun h => ⟨⟨q, rfl, h _ _ hq⟩, tr_full p, tr_full d, trivial⟩
    let WP : zx_S → Prop := fun σ => zx_wp (zx_Cl zx_mt zx_rc zx_mx' 59) none (tj_P tj_c1 w, tj_P tj_c2 w) (zx_find (zx_cT zx_d_X12_decree)) (tj_Post tj_Lam tr_h_decree0.2.2.1 Ψ w zx_d_X12_decree tr_h_decree0.2.2.2.1 [(.inr (.inr (.inl q))), (.inl p), (.inl d)]) σ
    let J : List Nat → List zx_E → Nat → Nat → (Nat → Int32) → Prop := fun Ψ' w' mc ms al => tr_St tr_h_decree0.2.2.1 Ψ w q bk hv pv dv tm ho pe cd rf rt Ψ' w' mc ms al
    obtain ⟨fs, a, k0, k49, ka, ha, t1, t2⟩ := tr_al0 hw hq h49
    have b0 := zx_b_int (al0 0)
    have loop : al0 0 ≠ Int32.ofNat 900 → (0 ≤ p.toInt ∧ p.toInt ≤ 3) → p.toInt < (pv bk.toInt.toNat).toInt → d.toInt < (dv bk.toInt.toNat).toInt → ∀ (k : Nat) (i y : Int32) (Ψ' : List Nat) (w' : List zx_E) (mc ms : Nat) (al2 : Nat → Int32) (ls : List (Nat × zx_V)), i.toInt + k = (pv bk.toInt.toNat).toInt → 0 ≤ i.toInt → al2 0 = al0 0 → tj_alv al2 (tj_who bk al2 tm ho p (al2 0)) → J Ψ' w' mc ms al2 → zx_limP w'.length ls = true → zx_look 0 ls = some (.inr (.inr (.inl q))) → zx_look 1 ls = some (.inl p) → zx_look 2 ls = some (.inl d) → zx_look 3 ls = some (.inl y) → zx_look 4 ls = some (.inl i) → WP (55, ls, [], w', mc, ms) := by
      intro h900 hpp hlt hdlt k
      have h899 : (al0 0).toInt ≤ 899 := by
        have h : (al0 0).toInt ≠ 900 := fun e => h900 (Int32.toInt_inj.mp (by rw [e]; decide))
        omega
      induction k with
      | zero =>
        intro i y Ψ' w' mc ms al2 ls hk hp0 he hA hJ hls l0 l1 l2 l3 l4
        have bp := zx_b_int i
        have hq1 := hJ.1.2.2.1 _ _ hq
        obtain ⟨fs, a13, m0, m13, m39, mp, hin, hlq⟩ := tr_hd13 hJ.2.1
        refine zy_li rfl l4 ?_
        refine zy_la rfl l0 (Or.inl ⟨_, rfl⟩) ?_
        refine zy_get rfl m0 m13 ?_
        refine zy_la rfl l0 (Or.inl ⟨_, rfl⟩) ?_
        refine zy_get rfl m0 m39 ?_
        refine zy_ld rfl mp hin ?_
        rw [ebn]
        refine zy_jt rfl (fun _ => ?_) (fun h => ?_)
        · clear m0 m13 m39 mp
          clear fs
          obtain ⟨fs, a, m0, m49, ma, ha, t1, t2⟩ := tr_al0 hJ.1.1 hq1 hJ.2.2
          have hqa := tm_ne hq1 ha (by decide)
          refine zy_la rfl l0 (Or.inl ⟨_, rfl⟩) ?_
          refine zy_get rfl m0 m49 ?_
          refine zy_ci (n := 1) (c := 0) rfl ?_
          refine zy_dup2 rfl ?_
          refine zy_ld rfl ma (by decide) ?_
          rw [e0n]
          refine zy_ci (n := 1) (c := 1) rfl ?_
          refine zy_add rfl ?_
          refine zy_ai rfl ma (by decide) ?_
          rw [e0n]
          rw [he] at t1 t2 ⊢
          have ex : (al0 0 + Int32.ofNat 1).toInt = (al0 0).toInt + 1 := tm_inc tm_k1 (by omega)
          have bx := zx_b_int (al0 0 + Int32.ofNat 1)
          have hW3 := tr_setA (i := 0) (x := al0 0 + Int32.ofNat 1) hJ.1 ha tr_segA ma (fun A B hs => by
            rw [tr_all0] at hs
            cases hs
            omega) (by decide +kernel)
          refine zy_li rfl l3 ?_
          exact tr_retI ⟨_, _, _, rfl⟩ hW3 (Nat.zero_le _) (by have := tj_b_lt y; omega) (hty2 hW3.2.2.1) (fun f hf => absurd hf List.not_mem_nil)
        · have h : zx_b i < zx_b (pv bk.toInt.toNat) := h
          omega
      | succ k ihk =>
        intro i y Ψ' w' mc ms al2 ls hk hp0 he hA hJ hls l0 l1 l2 l3 l4
        have bp := zx_b_int i
        have hq1 := hJ.1.2.2.1 _ _ hq
        obtain ⟨fs, a13, m0, m13, m39, mp, hin, hlq⟩ := tr_hd13 hJ.2.1
        -- behind the deed
        have after : ∀ (x : Int32) (Ψ3 : List Nat) (w3 : List zx_E) (mc3 ms3 : Nat) (al3 : Nat → Int32), J Ψ3 w3 mc3 ms3 al3 → zx_limP w3.length ls = true → (∀ j, tr_Kp j → al3 j = al2 j) → WP (91, ls, [(.inl x)], w3, mc3, ms3) := by
          intro x Ψ3 w3 mc3 ms3 al3 hJ3 hls3 hkp
          have he3 : al3 0 = al0 0 := (hkp 0 (Or.inl rfl)).trans he
          have hA3 : tj_alv al3 (tj_who bk al3 tm ho p (al3 0)) := by
            rw [he3]
            rw [he] at hA
            exact tr_alvK hb hpp (by omega) (hro.1 p.toInt.toNat (by omega)) hkp hA
          have nx : ∀ (y' : Int32) (ls' : List (Nat × zx_V)), zx_limP w3.length ls' = true → zx_look 0 ls' = some (.inr (.inr (.inl q))) → zx_look 1 ls' = some (.inl p) → zx_look 2 ls' = some (.inl d) → zx_look 3 ls' = some (.inl y') → zx_look 4 ls' = some (.inl i) → WP (102, ls', [], w3, mc3, ms3) := by
            intro y' ls' hl m0 m1 m2 m3 m4
            refine zy_ik (k := 4) (n := 1) rfl m4 ?_
            refine zy_goto rfl ?_
            have ei : (i + Int32.ofNat 1).toInt = i.toInt + 1 := tm_inc tm_k1 (by omega)
            exact ihk (i + Int32.ofNat 1) y' Ψ3 w3 mc3 ms3 al3 _ (by omega) (by omega) he3 hA3 hJ3 (zy_limP_put hl rfl) (zy_look_ne (by decide) rfl m0) (zy_look_ne (by decide) rfl m1) (zy_look_ne (by decide) rfl m2) (zy_look_ne (by decide) rfl m3) zy_look_put
          refine zy_si (k := 5) rfl ?_
          have m0 := zy_look_ne (v := (.inl x)) (k := 5) (by decide) rfl l0
          have m1 := zy_look_ne (v := (.inl x)) (k := 5) (by decide) rfl l1
          have m2 := zy_look_ne (v := (.inl x)) (k := 5) (by decide) rfl l2
          have m3 := zy_look_ne (v := (.inl x)) (k := 5) (by decide) rfl l3
          have m4 := zy_look_ne (v := (.inl x)) (k := 5) (by decide) rfl l4
          have m5 : zx_look 5 (zx_put 5 (.inl x) ls) = some (.inl x) := zy_look_put
          have hl5 := zy_limP_put (k := 5) (v := (.inl x)) hls3 rfl
          refine zy_li rfl m4 ?_
          refine zy_li rfl m1 ?_
          refine zy_jt rfl (fun _ => nx y _ hl5 m0 m1 m2 m3 m4) (fun _ => ?_)
          refine zy_li rfl m5 ?_
          refine zy_si (k := 3) rfl ?_
          exact nx x _ (zy_limP_put hl5 rfl) (zy_look_ne (by decide) rfl m0) (zy_look_ne (by decide) rfl m1) (zy_look_ne (by decide) rfl m2) zy_look_put (zy_look_ne (by decide) rfl m4)
        refine zy_li rfl l4 ?_
        refine zy_la rfl l0 (Or.inl ⟨_, rfl⟩) ?_
        refine zy_get rfl m0 m13 ?_
        refine zy_la rfl l0 (Or.inl ⟨_, rfl⟩) ?_
        refine zy_get rfl m0 m39 ?_
        refine zy_ld rfl mp hin ?_
        rw [ebn]
        refine zy_jt rfl (fun h => ?_) (fun _ => ?_)
        · have h : zx_b (pv bk.toInt.toNat) ≤ zx_b i := h
          omega
        · refine zy_la rfl l0 (Or.inl ⟨_, rfl⟩) ?_
          refine zy_li rfl l4 ?_
          refine zy_li rfl l4 ?_
          refine zy_li rfl l1 ?_
          refine zy_jt rfl (fun _ => ?_) (fun h => ?_)
          · refine zy_la rfl l0 (Or.inl ⟨_, rfl⟩) ?_
            refine zy_li rfl l4 ?_
            refine tr_own (by decide) hq hJ hls (tr_lim2 (tr_lim1 hlq rfl)) hp0 (by omega) (Nat.le_of_ble_eq_true rfl) ⟨_, rfl⟩ (by decide +kernel) (by decide +kernel) ?_
            intro d2 Ψ2 w2 mc2 ms2 hJ2 hls2 hst2 hd2
            refine tr_doesC (by decide) hq hJ2 hls2 hp0 (by omega) hd2 ⟨_, rfl⟩ (by decide +kernel) (by decide +kernel) ?_
            intro x Ψ3 w3 mc3 ms3 al3 hJ3 hls3 hkp
            exact after x Ψ3 w3 mc3 ms3 al3 hJ3 hls3 hkp
          · have h : zx_b i = zx_b p := h
            have h := tr_beq h
            subst h
            refine zy_li rfl l2 ?_
            refine zy_goto rfl ?_
            refine tr_doesC (by decide) hq hJ hls hp0 (by omega) (Or.inr ⟨hdlt, hA⟩) ⟨_, rfl⟩ (by decide +kernel) (by decide +kernel) ?_
            intro x Ψ3 w3 mc3 ms3 al3 hJ3 hls3 hkp
            exact after x Ψ3 w3 mc3 ms3 al3 hJ3 hls3 hkp
    have hlq : q < w.length := (List.getElem?_eq_some_iff.mp k0).1
    have hW0 := tm_W0 (E := tr_h_decree0.2.2.1) hw
    have hls : zx_limP w.length [(0, (.inr (.inr (.inl q)))), (1, (.inl p)), (2, (.inl d))] = true := tm_lim (k := 0) hlq rfl
    have no : ∀ pc', pc' = 42 → WP (pc', [(0, (.inr (.inr (.inl q)))), (1, (.inl p)), (2, (.inl d))], [], w, 0, 0) := by
      intro pc' e
      subst e
      refine zy_ci (n := 3) (c := 3294967296) rfl ?_
      exact tr_retI ⟨_, _, _, rfl⟩ hW0 (Nat.zero_le _) (by decide) (hty2 tj_le_rf) (fun f hf => absurd hf List.not_mem_nil)
    obtain ⟨v, hK, hv'⟩ := tr_isPersonK (Ψ := Ψ) (h := p) h39 h13 hb p4
    show WP (0, [(0, (.inr (.inr (.inl q)))), (1, (.inl p)), (2, (.inl d))], [], w, 0, 0)
    refine zy_la (k := 0) rfl rfl (Or.inl ⟨_, rfl⟩) ?_
    refine zy_li (k := 1) rfl rfl ?_
    refine zx_wp_call (a := 0) (n := 2) (y := 150) (g := zx_no) (av := [(.inr (.inr (.inl q))), (.inl p)]) (st' := []) (cy := (0, 0)) (r := (some (.inl v), w)) rfl rfl (Nat.le_of_ble_eq_true rfl) hls rfl (Nat.zero_le _) (Nat.zero_le _) (zx_Cl_le (by decide) hK) ?_
    rcases hv' with ⟨ev, q1, q2⟩ | ⟨ev, -⟩
    rotate_left
    · subst ev
      refine zy_j0 rfl (fun _ => no _ rfl) (fun e => absurd (by decide : zx_b (Int32.ofNat 0) = 2147483648) e)
    subst ev
    refine zy_j0 rfl (fun e => absurd e (by decide : ¬ zx_b (Int32.ofNat 1) = 2147483648)) (fun _ => ?_)
    obtain ⟨v, hK, hv'⟩ := tr_isDeedK (Ψ := Ψ) (h := d) h39 h14 hb p6
    refine zy_la (k := 0) rfl rfl (Or.inl ⟨_, rfl⟩) ?_
    refine zy_li (k := 2) rfl rfl ?_
    refine zx_wp_call (a := 0) (n := 2) (y := 140) (g := zx_no) (av := [(.inr (.inr (.inl q))), (.inl d)]) (st' := []) (cy := (0, 0)) (r := (some (.inl v), w)) rfl rfl (Nat.le_of_ble_eq_true rfl) hls rfl (Nat.zero_le _) (Nat.zero_le _) (zx_Cl_le (by decide) hK) ?_
    rcases hv' with ⟨ev, d1, d2⟩ | ⟨ev, -⟩
    rotate_left
    · subst ev
      refine zy_j0 rfl (fun _ => no _ rfl) (fun e => absurd (by decide : zx_b (Int32.ofNat 0) = 2147483648) e)
    subst ev
    refine zy_j0 rfl (fun e => absurd e (by decide : ¬ zx_b (Int32.ofNat 1) = 2147483648)) (fun _ => ?_)
    have hpp : 0 ≤ p.toInt ∧ p.toInt ≤ 3 := ⟨q1, by omega⟩
    obtain ⟨v, hK, hv'⟩ := tr_whoK (d := al0 0) hw hq h39 h24 h23 h49 hb hpp (by omega) (hro.1 p.toInt.toNat (by omega))
    refine zy_la (k := 0) rfl rfl (Or.inl ⟨_, rfl⟩) ?_
    refine zy_li (k := 1) rfl rfl ?_
    refine zy_la (k := 0) rfl rfl (Or.inl ⟨_, rfl⟩) ?_
    refine zy_get rfl k0 k49 ?_
    refine zy_ci (n := 1) (c := 0) rfl ?_
    refine zy_ld rfl ka (by decide) ?_
    rw [e0n]
    refine zx_wp_call (a := 0) (n := 3) (y := 212) (g := zx_no) (av := [(.inr (.inr (.inl q))), (.inl p), (.inl (al0 0))]) (st' := []) (cy := (0, 0)) (r := (some (.inl v), w)) rfl rfl (Nat.le_of_ble_eq_true rfl) hls rfl (Nat.zero_le _) (Nat.zero_le _) (zx_Cl_le (by decide) hK) ?_
    rcases hv' with ⟨ev, hA, v1, v2, -⟩ | ⟨ev, -⟩
    rotate_left
    · subst ev
      refine zy_j0 rfl (fun _ => no _ rfl) (fun e => absurd e (by decide : ¬ 2147483648 ≤ zx_b (Int32.ofNat 4294967295)))
    have iv := zx_b_int v
    refine zy_j0 rfl (fun e => ?_) (fun _ => ?_)
    · have e : zx_b v < 2147483648 := e
      omega
    refine zy_la (k := 0) rfl rfl (Or.inl ⟨_, rfl⟩) ?_
    refine zy_get rfl k0 k49 ?_
    refine zy_ci (n := 1) (c := 0) rfl ?_
    refine zy_ld rfl ka (by decide) ?_
    rw [e0n]
    refine zy_ci (n := 3) (c := 900) rfl ?_
    refine zy_jt rfl (fun hne => ?_) (fun _ => no _ rfl)
    have hne : zx_b (al0 0) ≠ zx_b (Int32.ofNat 900) := hne
    have ty : tj_typed Ψ [(.inr (.inr (.inl q)))] [(1, 149, 0)] := ⟨⟨q, rfl, hq⟩, trivial⟩
    refine zy_la (k := 0) rfl rfl (Or.inl ⟨_, rfl⟩) ?_
    refine zy_call (tj_KS1_le (by decide) tr_b_keepAct0) (n := 1) (av := [(.inr (.inr (.inl q)))]) (st := []) rfl rfl (by decide) hls rfl hW0 ty (zy_nopre ty) (by decide +kernel) (by decide +kernel) ?_
    intro r cy Ψ1 o hW1 hle1 hfr1 hls1 ho' hto hro1 hho
    rw [zy_retN (by decide +kernel) ho' hro1]
    refine zy_ci (n := 1) (c := 0) rfl ?_
    refine zy_si (k := 3) rfl ?_
    refine zy_ci (n := 1) (c := 0) rfl ?_
    refine zy_si (k := 4) rfl ?_
    exact loop (fun e => hne (congrArg zx_b e)) hpp q2 d2 (pv bk.toInt.toNat).toInt.toNat (Int32.ofNat 0) (Int32.ofNat 0) Ψ1 r.2 _ _ al0 _ (by omega) (by omega) rfl (by rw [← ev]; exact hA) ⟨hW1, tr_R_fr hw hfr1 (by decide +kernel) hR7, te_fa hw hfr1 (d := tj_dep 16) (by decide +kernel) (by decide +kernel) h49⟩ (zy_limP_put (zy_limP_put hls1 rfl) rfl) rfl rfl rfl rfl rfl
