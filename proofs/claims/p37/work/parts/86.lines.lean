/-! by hand: readLike, readFavour, readPerson -/
theorem tr_09 {v lo hi : Int32} {a b : Int} (h : v = lo ∨ (lo.toInt ≤ v.toInt ∧ v.toInt ≤ hi.toInt)) (h1 : a ≤ lo.toInt) (h2 : lo.toInt ≤ b) (h3 : hi.toInt ≤ b) : a ≤ v.toInt ∧ v.toInt ≤ b := by
  rcases h with e | e
  · rw [e]
    exact ⟨h1, h2⟩
  · omega
def tr_EK : tj_Ef := (tr_EM.1, [113, 144, 104])
set_option maxRecDepth 20000 in
theorem tr_readLike {Ψ : List Nat} {w : List zx_E} {q : Nat} {φ : Int} {fk bk rb : Int32} {Z : Nat → Nat → Int32} (hw : tj_wt tj_Lam Ψ w) (hq : Ψ[q]? = some 149) (hPS : tr_PS w q φ fk bk rb 0 Z) (hlt : ∀ lk, tj_fa w q 12 12 2 lk → (lk rb.toInt.toNat).toInt ≤ 29) : tr_Do 6 189 [(.inr (.inr (.inl q)))] tr_EK Ψ w (fun a _ w' => a = none ∧ tr_PD q φ bk rb 0 Z w') := by
  obtain ⟨fs, k0, -, -⟩ := tr_ob hw hq
  have hlq : q < w.length := (List.getElem?_eq_some_iff.mp k0).1
  obtain ⟨C, ua, hv, pv, dv, tm, ho, pe, cd, rf, rt, hR, hbb, hold, hnew⟩ := hPS
  have hb := hbb
  unfold tr_bb at hb
  have irb := zx_b_int rb
  have enb : rb.toNatClampNeg = rb.toInt.toNat := rfl
  have z0 : (Int32.ofNat 0).toInt = 0 := by decide
  have z9 : (Int32.ofNat 9).toInt = 9 := by decide
  obtain ⟨lk0, h12⟩ := tr_exA (k := 12) (l := 104) (n := 2) (s := [(2, 2147483648, 2147483678)]) hw hq rfl rfl
  have h29 := hlt lk0 h12
  have blk := tr_bd1 (l := 104) (n := 2) (lo := 2147483648) (hi := 2147483678) hw hq rfl rfl h12 (j := rb.toInt.toNat) (by omega)
  have ilk := zx_b_int (lk0 rb.toInt.toNat)
  let P : Option zx_V → List Nat → List zx_E → Prop := fun a _ w' => a = none ∧ tr_PD q φ bk rb 0 Z w'
  refine tr_meth (P := P) (d := 5) (dt := zx_d_X12_readLike) (by rw [← zx_q_X12_readLike]; rfl) (by rw [(by decide +kernel : zx_rc 189 = 13)]; exact ⟨q, _, fs, rfl, k0⟩) (by decide +kernel : 1 ≤ zx_mx' 189) ?_
  let WP : zx_S → Prop := fun σ => zx_wp (zx_Cl zx_mt zx_rc zx_mx' 5) none (tj_P tj_c1 w, tj_P tj_c2 w) (zx_find (zx_cT zx_d_X12_readLike)) (tr_end zx_d_X12_readLike tr_EK Ψ w P) σ
  let J : List Nat → List zx_E → Nat → Nat → Prop := fun Ψ' w' mc ms => tj_W tj_Lam (tj_P tj_c1 w, tj_P tj_c2 w) tr_EK Ψ w Ψ' w' mc ms
  let R : List zx_E → Int → Int32 → Prop := fun w' φ' fk' => tr_RB w' q bk rb C ua hv pv dv tm ho pe cd rf rt φ' fk' ∧ φ ≤ φ' ∧ (fk'.toInt = 0 → fk.toInt = 0) ∧ tj_fa w' q 12 12 2 lk0
  have Rtok : ∀ {Ψ1 : List Nat} {w1 w2 : List zx_E} {mc ms : Nat} {φ1 : Int} {fk1 : Int32}, J Ψ1 w1 mc ms → tj_fr tr_EM Ψ1 w1 w2 → R w1 φ1 fk1 → tr_PT q φ1 fk1 w2 → ∃ φ2 fk2, R w2 φ2 fk2 := by
    intro Ψ1 w1 w2 mc ms φ1 fk1 hJ hfr hR1 hP
    obtain ⟨φ2, fk2, g1, g2, hR2⟩ := tr_RB_tok hJ.1 hfr (by decide +kernel) hR1.1 hP
    exact ⟨φ2, fk2, hR2, Int.le_trans hR1.2.1 g1, fun h => hR1.2.2.1 (g2 h), te_fa hJ.1 hfr (d := ([(149, 12)], [104])) (by decide +kernel) (by decide +kernel) hR1.2.2.2⟩
  have Rgo : ∀ {Ψ1 : List Nat} {w1 w2 : List zx_E} {mc ms : Nat} {φ1 : Int} {fk1 : Int32}, J Ψ1 w1 mc ms → tj_fr tr_EG Ψ1 w1 w2 → R w1 φ1 fk1 → tr_PT q φ1 fk1 w2 → ∃ φ2 fk2, R w2 φ2 fk2 := by
    intro Ψ1 w1 w2 mc ms φ1 fk1 hJ hfr hR1 hP
    obtain ⟨φ2, fk2, g1, g2, hR2⟩ := tr_RB_tok hJ.1 hfr (by decide +kernel) hR1.1 hP
    exact ⟨φ2, fk2, hR2, Int.le_trans hR1.2.1 g1, fun h => hR1.2.2.1 (g2 h), te_fa hJ.1 hfr (d := ([(149, 12)], [104])) (by decide +kernel) (by decide +kernel) hR1.2.2.2⟩
  have PDof : ∀ {w' : List zx_E} {φ' : Int} {fk' : Int32}, tr_RB w' q bk rb C ua hv pv dv tm ho pe cd rf rt φ' fk' → φ ≤ φ' → (fk'.toInt = 0 → fk.toInt = 0) → tr_PD q φ bk rb 0 Z w' := fun {w' φ' fk'} h h1 h2 => ⟨φ', fk', h1, C, ua, hv, pv, dv, tm, ho, pe, cd, rf, rt, h, hbb, hold, fun h0 => by
    obtain ⟨n1, n2, n3⟩ := hnew (h2 h0)
    exact ⟨n1, n2, by omega⟩⟩
  -- the like written
  have at88 : ∀ (Ψ' : List Nat) (w' : List zx_E) (mc ms : Nat) (φ' : Int) (fk' k : Int32) (ls : List (Nat × zx_V)), J Ψ' w' mc ms → R w' φ' fk' → 0 ≤ k.toInt → k.toInt ≤ 127 → zx_limP w'.length ls = true → zx_look 0 ls = some (.inr (.inr (.inl q))) → zx_look 3 ls = some (.inl k) → WP (88, ls, [], w', mc, ms) := by
    intro Ψ' w' mc ms φ' fk' k ls hJ hR' hk0 hk1 hls l0 l3
    have hq1 := hJ.2.2.1 _ _ hq
    refine zy_la rfl l0 (Or.inl ⟨_, rfl⟩) ?_
    refine zy_ci (n := 1) (c := 0) rfl ?_
    refine zy_ci (n := 2) (c := 9) rfl ?_
    refine zy_callD (tr_Do_le (tr_numeral (lo := Int32.ofNat 0) (hi := Int32.ofNat 9) hJ.1 hq1 hR'.1.2.2.2.2 hR'.1.2.2.2.1) (by decide)) (n := 3) (st := []) rfl rfl (Nat.zero_le _) hls rfl hJ (by decide +kernel) (by decide +kernel) ?_
    intro a Ψ2 w2 mc2 ms2 hJ2 hle2 hfr2 hls2 hst2 hP
    obtain ⟨⟨v, ea, hv'⟩, hPT⟩ := hP
    subst ea
    obtain ⟨φ2, fk2, hR2⟩ := Rtok hJ hfr2 hR' hPT
    have hv9 := tr_09 (a := 0) (b := 9) hv' (by omega) (by omega) (by omega)
    have iv := zx_b_int v
    have hq2 := hJ2.2.2.1 _ _ hq
    refine zy_si (k := 4) rfl ?_
    have m0 : zx_look 0 (zx_put 4 (.inl v) ls) = some (.inr (.inr (.inl q))) := zy_look_ne (by decide) rfl l0
    have m3 : zx_look 3 (zx_put 4 (.inl v) ls) = some (.inl k) := zy_look_ne (by decide) rfl l3
    have m4 : zx_look 4 (zx_put 4 (.inl v) ls) = some (.inl v) := zy_look_put
    have hls3 : zx_limP w2.length (zx_put 4 (.inl v) ls) = true := zy_limP_put hls2 rfl
    generalize zx_put 4 (.inl v) ls = ls2 at m0 m3 m4 hls3 ⊢
    obtain ⟨u, hu, -⟩ := tr_isGoodK hR2.1.2.2.2.1
    refine zy_la rfl m0 (Or.inl ⟨_, rfl⟩) ?_
    refine zy_callK (a := 0) (n := 1) (st := []) (zx_Cl_le (by decide) hu) rfl rfl (Nat.le_of_ble_eq_true rfl) hls3 rfl (by have := hJ2.2.1; omega) (by have := hJ2.2.1; omega) ?_
    refine zy_j0 rfl (fun _ => ?_) (fun _ => tr_endN ⟨_, _, _, rfl⟩ hJ2 ⟨rfl, PDof hR2.1 hR2.2.1 hR2.2.2.1⟩)
    obtain ⟨li, h21⟩ := tr_exA (k := 21) (l := 113) (n := 128) (s := [(128, 2147483648, 2147483657)]) hJ2.1 hq2 rfl rfl
    refine zy_la rfl m0 (Or.inl ⟨_, rfl⟩) ?_
    refine zy_gA rfl h21 (fun p hp hpt hlp => ?_)
    refine zy_li rfl m3 ?_
    refine zy_li rfl m4 ?_
    refine zy_wA (k := 21) (n := 128) (lo := 2147483648) (hi := 2147483657) rfl hJ2 hq2 rfl rfl (by decide) hpt h21 hk0 (by omega) (by omega) (by omega) (by decide +kernel) ?_
    intro w3 hJ3 hfr3 hl3 _
    have hR3 := tr_RB_fr hJ2.1 hfr3 (by decide +kernel) hR2.1
    have h123 := te_fa hJ2.1 hfr3 (d := ([(149, 12)], [104])) (by decide +kernel) (by decide +kernel) hR2.2.2.2
    obtain ⟨iz, h30⟩ := tr_exY (k := 30) (kd := 2) (l := 144) (n := 128) (s := [(128, 2147483648, 2147483649)]) hJ3.1 hq2 rfl rfl (Or.inl rfl)
    refine zy_la rfl m0 (Or.inl ⟨_, rfl⟩) ?_
    refine zy_gY rfl h30 (fun p2 hp2 hpt2 hlp2 => ?_)
    refine zy_li rfl m3 ?_
    refine zy_ci (n := 1) (c := 1) rfl ?_
    refine zy_wZ (k := 30) (n := 128) rfl hJ3 hq2 rfl rfl (by decide) hpt2 h30 hk0 (by omega) (by decide +kernel) ?_
    intro w4 hJ4 hfr4 hl4
    have hR4 := tr_RB_fr hJ3.1 hfr4 (by decide +kernel) hR3
    have h124 := te_fa hJ3.1 hfr4 (d := ([(149, 12)], [104])) (by decide +kernel) (by decide +kernel) h123
    have e1 : (lk0 rb.toInt.toNat + Int32.ofNat 1).toInt = (lk0 rb.toInt.toNat).toInt + 1 := tm_inc tm_k1 (by omega)
    have i1' := zx_b_int (lk0 rb.toInt.toNat + Int32.ofNat 1)
    refine zy_la rfl m0 (Or.inl ⟨_, rfl⟩) ?_
    refine zy_gA rfl h124 (fun p3 hp3 hpt3 hlp3 => ?_)
    refine zy_la rfl m0 (Or.inl ⟨_, rfl⟩) ?_
    refine zy_gI rfl hR4.1.2.1 ?_
    refine zy_dup2 rfl ?_
    refine zy_ld rfl hp3 (tr_in (by omega) (by omega)) ?_
    rw [enb]
    refine zy_ci (n := 1) (c := 1) rfl ?_
    refine zy_add rfl ?_
    refine zy_wA (k := 12) (n := 2) (lo := 2147483648) (hi := 2147483678) rfl hJ4 hq2 rfl rfl (by decide) hpt3 h124 (by omega) (by omega) (by omega) (by omega) (by decide +kernel) ?_
    intro w5 hJ5 hfr5 hl5 _
    exact tr_endN ⟨_, _, _, rfl⟩ hJ5 ⟨rfl, PDof (tr_RB_fr hJ4.1 hfr5 (by decide +kernel) hR4) hR2.2.1 hR2.2.2.1⟩
  have at77 : ∀ (Ψ' : List Nat) (w' : List zx_E) (mc ms : Nat) (φ' : Int) (fk' k : Int32) (ls : List (Nat × zx_V)), J Ψ' w' mc ms → R w' φ' fk' → 0 ≤ k.toInt → k.toInt ≤ 127 → zx_limP w'.length ls = true → zx_look 0 ls = some (.inr (.inr (.inl q))) → zx_look 3 ls = some (.inl k) → WP (77, ls, [], w', mc, ms) := by
    intro Ψ' w' mc ms φ' fk' k ls hJ hR' hk0 hk1 hls l0 l3
    have hq1 := hJ.2.2.1 _ _ hq
    refine tr_ifGo (by decide) hJ hq1 hR'.1.2.2.2.2 hR'.1.2.2.2.1 hls l0 rfl rfl rfl rfl rfl (by decide +kernel) (by decide +kernel) ?_
    intro Ψ2 w2 mc2 ms2 hJ2 hle2 hfr2 hls2 hPT
    obtain ⟨φ2, fk2, hR2⟩ := Rgo hJ hfr2 hR' hPT
    exact at88 Ψ2 w2 mc2 ms2 φ2 fk2 k ls hJ2 hR2 hk0 hk1 hls2 l0 l3
  have at27 : ∀ (Ψ' : List Nat) (w' : List zx_E) (mc ms : Nat) (φ' : Int) (fk' a' : Int32) (ls : List (Nat × zx_V)), J Ψ' w' mc ms → R w' φ' fk' → 0 ≤ a'.toInt → a'.toInt ≤ 7 → zx_limP w'.length ls = true → zx_look 0 ls = some (.inr (.inr (.inl q))) → zx_look 1 ls = some (.inl a') → WP (27, ls, [], w', mc, ms) := by
    intro Ψ' w' mc ms φ' fk' a' ls hJ hR' ha0 ha1 hls l0 l1
    have hq1 := hJ.2.2.1 _ _ hq
    refine zy_la rfl l0 (Or.inl ⟨_, rfl⟩) ?_
    refine zy_callD (tr_Do_le (tr_known hJ.1 hq1 hR'.1.2.2.2.2 hR'.1.2.2.2.1) (by decide)) (n := 1) (st := []) rfl rfl (Nat.zero_le _) hls rfl hJ (by decide +kernel) (by decide +kernel) ?_
    intro a Ψ2 w2 mc2 ms2 hJ2 hle2 hfr2 hls2 hst2 hP
    obtain ⟨⟨b', ea, hb0, hb1⟩, hPT⟩ := hP
    subst ea
    obtain ⟨φ2, fk2, hR2⟩ := Rtok hJ hfr2 hR' hPT
    have hq2 := hJ2.2.2.1 _ _ hq
    have e64 : (Int32.ofNat 64 * rb).toInt = 64 * rb.toInt := tr_mul (c := 64) (by decide) rfl (by omega) (by omega)
    have e8 : (Int32.ofNat 8 * a').toInt = 8 * a'.toInt := tr_mul (c := 8) (by decide) rfl (by omega) (by omega)
    have ek1 : (Int32.ofNat 64 * rb + Int32.ofNat 8 * a').toInt = 64 * rb.toInt + 8 * a'.toInt := by rw [tr_add (by omega) (by omega), e64, e8]
    have ek : (Int32.ofNat 64 * rb + Int32.ofNat 8 * a' + b').toInt = 64 * rb.toInt + 8 * a'.toInt + b'.toInt := by rw [tr_add (by omega) (by omega), ek1]
    refine zy_si (k := 2) rfl ?_
    have m0 : zx_look 0 (zx_put 2 (.inl b') ls) = some (.inr (.inr (.inl q))) := zy_look_ne (by decide) rfl l0
    have m1 : zx_look 1 (zx_put 2 (.inl b') ls) = some (.inl a') := zy_look_ne (by decide) rfl l1
    have m2 : zx_look 2 (zx_put 2 (.inl b') ls) = some (.inl b') := zy_look_put
    have hls3 : zx_limP w2.length (zx_put 2 (.inl b') ls) = true := zy_limP_put hls2 rfl
    generalize zx_put 2 (.inl b') ls = ls2 at m0 m1 m2 hls3 ⊢
    refine zy_ci (n := 2) (c := 64) rfl ?_
    refine zy_la rfl m0 (Or.inl ⟨_, rfl⟩) ?_
    refine zy_gI rfl hR2.1.1.2.1 ?_
    refine zy_mul rfl ?_
    refine zy_ci (n := 2) (c := 8) rfl ?_
    refine zy_li rfl m1 ?_
    refine zy_mul rfl ?_
    refine zy_add rfl ?_
    refine zy_li rfl m2 ?_
    refine zy_add rfl ?_
    generalize Int32.ofNat 64 * rb + Int32.ofNat 8 * a' + b' = k at ek ⊢
    have hk0 : 0 ≤ k.toInt := by omega
    have hk1 : k.toInt ≤ 127 := by omega
    refine zy_si (k := 3) rfl ?_
    have n0 : zx_look 0 (zx_put 3 (.inl k) ls2) = some (.inr (.inr (.inl q))) := zy_look_ne (by decide) rfl m0
    have n1 : zx_look 1 (zx_put 3 (.inl k) ls2) = some (.inl a') := zy_look_ne (by decide) rfl m1
    have n2 : zx_look 2 (zx_put 3 (.inl k) ls2) = some (.inl b') := zy_look_ne (by decide) rfl m2
    have n3 : zx_look 3 (zx_put 3 (.inl k) ls2) = some (.inl k) := zy_look_put
    have hls4 : zx_limP w2.length (zx_put 3 (.inl k) ls2) = true := zy_limP_put hls3 rfl
    generalize zx_put 3 (.inl k) ls2 = ls3 at n0 n1 n2 n3 hls4 ⊢
    have hne := at77 Ψ2 w2 mc2 ms2 φ2 fk2 k ls3 hJ2 hR2 hk0 hk1 hls4 n0 n3
    obtain ⟨u, hu, -⟩ := tr_isGoodK hR2.1.2.2.2.1
    obtain ⟨at', h6, -, -⟩ := tr_exI (k := 6) (lo := 2147483648) (hi := 2147485248) hJ2.1 hq2 rfl
    have bad : WP (68, ls3, [], w2, mc2, ms2) := by
      refine zy_la rfl n0 (Or.inl ⟨_, rfl⟩) ?_
      refine zy_ci (n := 1) (c := 3) rfl ?_
      refine zy_la rfl n0 (Or.inl ⟨_, rfl⟩) ?_
      refine zy_gI rfl h6 ?_
      refine zy_callD (tr_Do_le (tr_fails (kd := Int32.ofNat 3) (pl := at') hJ2.1 hq2 (by decide)) (by decide)) (n := 3) (st := []) rfl rfl (Nat.zero_le _) hls4 rfl hJ2 (by decide +kernel) (by decide +kernel) ?_
      intro a Ψ3 w3 mc3 ms3 hJ3 hle3 hfr3 hls5 hst3 hP
      obtain ⟨ea, fk3, h43, hne3⟩ := hP
      subst ea
      obtain ⟨φ4, fk4, g1, g2, hR4⟩ := tr_RB_tok hJ2.1 hfr3 (by decide +kernel) hR2.1 ⟨φ2, fk3, tr_T_fr hJ2.1 hfr3 (by decide +kernel) hR2.1.2.2.2.2, Int.le_refl _, h43, fun h => absurd h hne3⟩
      exact at77 Ψ3 w3 mc3 ms3 φ4 fk4 k ls3 hJ3 ⟨hR4, Int.le_trans hR2.2.1 g1, fun h => hR2.2.2.1 (g2 h), te_fa hJ2.1 hfr3 (d := ([(149, 12)], [104])) (by decide +kernel) (by decide +kernel) hR2.2.2.2⟩ hk0 hk1 hls5 n0 n3
    refine zy_la rfl n0 (Or.inl ⟨_, rfl⟩) ?_
    refine zy_callK (a := 0) (n := 1) (st := []) (zx_Cl_le (by decide) hu) rfl rfl (Nat.le_of_ble_eq_true rfl) hls4 rfl (by have := hJ2.2.1; omega) (by have := hJ2.2.1; omega) ?_
    refine zy_j0 rfl (fun _ => hne) (fun _ => ?_)
    refine zy_li rfl n1 ?_
    refine zy_li rfl n2 ?_
    refine zy_jt rfl (fun _ => bad) (fun _ => ?_)
    obtain ⟨iz, h30⟩ := tr_exY (k := 30) (kd := 2) (l := 144) (n := 128) (s := [(128, 2147483648, 2147483649)]) hJ2.1 hq2 rfl rfl (Or.inl rfl)
    refine zy_la rfl n0 (Or.inl ⟨_, rfl⟩) ?_
    refine zy_gY rfl h30 (fun p2 hp2 hpt2 hlp2 => ?_)
    refine zy_li rfl n3 ?_
    refine zy_ldz rfl hp2 (tr_in hk0 (by omega)) ?_
    exact zy_j0 rfl (fun _ => hne) (fun _ => bad)
  have at16 : ∀ (Ψ' : List Nat) (w' : List zx_E) (mc ms : Nat) (φ' : Int) (fk' a' : Int32) (ls : List (Nat × zx_V)), J Ψ' w' mc ms → R w' φ' fk' → 0 ≤ a'.toInt → a'.toInt ≤ 7 → zx_limP w'.length ls = true → zx_look 0 ls = some (.inr (.inr (.inl q))) → zx_look 1 ls = some (.inl a') → WP (16, ls, [], w', mc, ms) := by
    intro Ψ' w' mc ms φ' fk' a' ls hJ hR' ha0 ha1 hls l0 l1
    have hq1 := hJ.2.2.1 _ _ hq
    obtain ⟨fs', k0', -, -⟩ := tr_ob hJ.1 hq1
    have hlq1 : q < w'.length := (List.getElem?_eq_some_iff.mp k0').1
    obtain ⟨tk, h8, -, -⟩ := tr_exI (k := 8) (lo := 0) (hi := 4294967295) hJ.1 hq1 rfl
    obtain ⟨nm, h10⟩ := tr_exJ (k := 10) (a := 0) (b := 0) hJ.1 hq1 rfl
    obtain ⟨y, hy, -⟩ := tr_isWordK (c := Int64.ofNat 29807) h8 h10
    refine zy_la rfl l0 (Or.inl ⟨_, rfl⟩) ?_
    refine zy_la rfl l0 (Or.inl ⟨_, rfl⟩) ?_
    refine zy_cj (n := 3) (c := 29807) rfl ?_
    refine zy_callK (a := 0) (n := 2) (st := [(.inr (.inr (.inl q)))]) (zx_Cl_le (by decide) hy) rfl rfl (Nat.le_of_ble_eq_true rfl) hls (tr_lim1 hlq1 rfl) (by have := hJ.2.1; omega) (by have := hJ.2.1; omega) ?_
    refine zy_callD (tr_Do_le (tr_must (b := y) hJ.1 hq1 hR'.1.2.2.2.2 hR'.1.2.2.2.1) (by decide)) (n := 2) (st := []) rfl rfl (Nat.zero_le _) hls rfl hJ (by decide +kernel) (by decide +kernel) ?_
    intro a Ψ2 w2 mc2 ms2 hJ2 hle2 hfr2 hls2 hst2 hP
    obtain ⟨ea, hPT⟩ := hP
    subst ea
    obtain ⟨φ2, fk2, hR2⟩ := Rtok hJ hfr2 hR' hPT
    exact at27 Ψ2 w2 mc2 ms2 φ2 fk2 a' ls hJ2 hR2 ha0 ha1 hls2 l0 l1
  show WP (0, [(0, (.inr (.inr (.inl q))))], [], w, 0, 0)
  refine zy_la (k := 0) rfl rfl (Or.inl ⟨_, rfl⟩) ?_
  refine zy_callD (tr_Do_le (tr_known hw hq hR.2.2.2.2 hR.2.2.2.1) (by decide)) (n := 1) (st := []) rfl rfl (Nat.zero_le _) (tm_lim hlq rfl) rfl (tm_W0 (E := tr_EK) hw) (by decide +kernel) (by decide +kernel) ?_
  intro a Ψ2 w2 mc2 ms2 hJ2 hle2 hfr2 hls2 hst2 hP
  obtain ⟨⟨a', ea, ha0, ha1⟩, hPT⟩ := hP
  subst ea
  obtain ⟨φ2, fk2, hR2⟩ := Rtok (tm_W0 (E := tr_EK) hw) hfr2 ⟨hR, Int.le_refl _, fun h => h, h12⟩ hPT
  have hq2 := hJ2.2.2.1 _ _ hq
  refine zy_si (k := 1) rfl ?_
  have m0 : zx_look 0 (zx_put 1 (.inl a') [(0, (.inr (.inr (.inl q))))]) = some (.inr (.inr (.inl q))) := rfl
  have m1 : zx_look 1 (zx_put 1 (.inl a') [(0, (.inr (.inr (.inl q))))]) = some (.inl a') := rfl
  have hls3 : zx_limP w2.length (zx_put 1 (.inl a') [(0, (.inr (.inr (.inl q))))]) = true := zy_limP_put hls2 rfl
  generalize zx_put 1 (.inl a') [(0, (.inr (.inr (.inl q))))] = ls2 at m0 m1 hls3 ⊢
  refine tr_ifGo (by decide) hJ2 hq2 hR2.1.2.2.2.2 hR2.1.2.2.2.1 hls3 m0 rfl rfl rfl rfl rfl (by decide +kernel) (by decide +kernel) ?_
  intro Ψ3 w3 mc3 ms3 hJ3 hle3 hfr3 hls4 hPT3
  obtain ⟨φ3, fk3, hR3⟩ := Rgo hJ2 hfr3 hR2 hPT3
  exact at16 Ψ3 w3 mc3 ms3 φ3 fk3 a' ls2 hJ3 hR3 ha0 ha1 hls4 m0 m1
def tr_EV : tj_Ef := (tr_EM.1, [112, 143])
set_option maxRecDepth 20000 in
theorem tr_readFavour {Ψ : List Nat} {w : List zx_E} {q : Nat} {φ : Int} {fk bk rb : Int32} {Z : Nat → Nat → Int32} (hw : tj_wt tj_Lam Ψ w) (hq : Ψ[q]? = some 149) (hPS : tr_PS w q φ fk bk rb 0 Z) : tr_Do 6 187 [(.inr (.inr (.inl q)))] tr_EV Ψ w (fun a _ w' => a = none ∧ tr_PD q φ bk rb 0 Z w') := by
  obtain ⟨fs, k0, -, -⟩ := tr_ob hw hq
  have hlq : q < w.length := (List.getElem?_eq_some_iff.mp k0).1
  obtain ⟨C, ua, hv, pv, dv, tm, ho, pe, cd, rf, rt, hR, hbb, hold, hnew⟩ := hPS
  have hb := hbb
  unfold tr_bb at hb
  have irb := zx_b_int rb
  have z0 : (Int32.ofNat 0).toInt = 0 := by decide
  have z2 : (Int32.ofNat 2).toInt = 2 := by decide
  let P : Option zx_V → List Nat → List zx_E → Prop := fun a _ w' => a = none ∧ tr_PD q φ bk rb 0 Z w'
  refine tr_meth (P := P) (d := 5) (dt := zx_d_X12_readFavour) (by rw [← zx_q_X12_readFavour]; rfl) (by rw [(by decide +kernel : zx_rc 187 = 13)]; exact ⟨q, _, fs, rfl, k0⟩) (by decide +kernel : 1 ≤ zx_mx' 187) ?_
  let WP : zx_S → Prop := fun σ => zx_wp (zx_Cl zx_mt zx_rc zx_mx' 5) none (tj_P tj_c1 w, tj_P tj_c2 w) (zx_find (zx_cT zx_d_X12_readFavour)) (tr_end zx_d_X12_readFavour tr_EV Ψ w P) σ
  let J : List Nat → List zx_E → Nat → Nat → Prop := fun Ψ' w' mc ms => tj_W tj_Lam (tj_P tj_c1 w, tj_P tj_c2 w) tr_EV Ψ w Ψ' w' mc ms
  let R : List zx_E → Int → Int32 → Prop := fun w' φ' fk' => tr_RB w' q bk rb C ua hv pv dv tm ho pe cd rf rt φ' fk' ∧ φ ≤ φ' ∧ (fk'.toInt = 0 → fk.toInt = 0)
  have Rtok : ∀ {Ψ1 : List Nat} {w1 w2 : List zx_E} {mc ms : Nat} {φ1 : Int} {fk1 : Int32} {e : tj_Ef}, J Ψ1 w1 mc ms → tj_fr e Ψ1 w1 w2 → tj_dj tr_dPS e = true → R w1 φ1 fk1 → tr_PT q φ1 fk1 w2 → ∃ φ2 fk2, R w2 φ2 fk2 := by
    intro Ψ1 w1 w2 mc ms φ1 fk1 e hJ hfr hd hR1 hP
    obtain ⟨φ2, fk2, g1, g2, hR2⟩ := tr_RB_tok hJ.1 hfr hd hR1.1 hP
    exact ⟨φ2, fk2, hR2, Int.le_trans hR1.2.1 g1, fun h => hR1.2.2 (g2 h)⟩
  have PDof : ∀ {w' : List zx_E} {φ' : Int} {fk' : Int32}, tr_RB w' q bk rb C ua hv pv dv tm ho pe cd rf rt φ' fk' → φ ≤ φ' → (fk'.toInt = 0 → fk.toInt = 0) → tr_PD q φ bk rb 0 Z w' := fun {w' φ' fk'} h h1 h2 => ⟨φ', fk', h1, C, ua, hv, pv, dv, tm, ho, pe, cd, rf, rt, h, hbb, hold, fun h0 => by
    obtain ⟨n1, n2, n3⟩ := hnew (h2 h0)
    exact ⟨n1, n2, by omega⟩⟩
  have at49 : ∀ (Ψ' : List Nat) (w' : List zx_E) (mc ms : Nat) (φ' : Int) (fk' k : Int32) (ls : List (Nat × zx_V)), J Ψ' w' mc ms → R w' φ' fk' → 0 ≤ k.toInt → k.toInt ≤ 15 → zx_limP w'.length ls = true → zx_look 0 ls = some (.inr (.inr (.inl q))) → zx_look 1 ls = some (.inl k) → WP (49, ls, [], w', mc, ms) := by
    intro Ψ' w' mc ms φ' fk' k ls hJ hR' hk0 hk1 hls l0 l1
    have hq1 := hJ.2.2.1 _ _ hq
    refine zy_la rfl l0 (Or.inl ⟨_, rfl⟩) ?_
    refine zy_ci (n := 1) (c := 0) rfl ?_
    refine zy_ci (n := 1) (c := 2) rfl ?_
    refine zy_callD (tr_Do_le (tr_numeral (lo := Int32.ofNat 0) (hi := Int32.ofNat 2) hJ.1 hq1 hR'.1.2.2.2.2 hR'.1.2.2.2.1) (by decide)) (n := 3) (st := []) rfl rfl (Nat.zero_le _) hls rfl hJ (by decide +kernel) (by decide +kernel) ?_
    intro a Ψ2 w2 mc2 ms2 hJ2 hle2 hfr2 hls2 hst2 hP
    obtain ⟨⟨v, ea, hv'⟩, hPT⟩ := hP
    subst ea
    obtain ⟨φ2, fk2, hR2⟩ := Rtok hJ hfr2 (by decide +kernel) hR' hPT
    have hv9 := tr_09 (a := 0) (b := 2) hv' (by omega) (by omega) (by omega)
    have iv := zx_b_int v
    have hq2 := hJ2.2.2.1 _ _ hq
    refine zy_si (k := 2) rfl ?_
    have m0 : zx_look 0 (zx_put 2 (.inl v) ls) = some (.inr (.inr (.inl q))) := zy_look_ne (by decide) rfl l0
    have m1 : zx_look 1 (zx_put 2 (.inl v) ls) = some (.inl k) := zy_look_ne (by decide) rfl l1
    have m2 : zx_look 2 (zx_put 2 (.inl v) ls) = some (.inl v) := zy_look_put
    have hls3 : zx_limP w2.length (zx_put 2 (.inl v) ls) = true := zy_limP_put hls2 rfl
    generalize zx_put 2 (.inl v) ls = ls2 at m0 m1 m2 hls3 ⊢
    obtain ⟨u, hu, -⟩ := tr_isGoodK hR2.1.2.2.2.1
    refine zy_la rfl m0 (Or.inl ⟨_, rfl⟩) ?_
    refine zy_callK (a := 0) (n := 1) (st := []) (zx_Cl_le (by decide) hu) rfl rfl (Nat.le_of_ble_eq_true rfl) hls3 rfl (by have := hJ2.2.1; omega) (by have := hJ2.2.1; omega) ?_
    refine zy_j0 rfl (fun _ => ?_) (fun _ => tr_endN ⟨_, _, _, rfl⟩ hJ2 ⟨rfl, PDof hR2.1 hR2.2.1 hR2.2.2⟩)
    obtain ⟨fa, h20⟩ := tr_exA (k := 20) (l := 112) (n := 16) (s := [(16, 2147483648, 2147483650)]) hJ2.1 hq2 rfl rfl
    refine zy_la rfl m0 (Or.inl ⟨_, rfl⟩) ?_
    refine zy_gA rfl h20 (fun p hp hpt hlp => ?_)
    refine zy_li rfl m1 ?_
    refine zy_li rfl m2 ?_
    refine zy_wA (k := 20) (n := 16) (lo := 2147483648) (hi := 2147483650) rfl hJ2 hq2 rfl rfl (by decide) hpt h20 hk0 (by omega) (by omega) (by omega) (by decide +kernel) ?_
    intro w3 hJ3 hfr3 hl3 _
    have hR3 := tr_RB_fr hJ2.1 hfr3 (by decide +kernel) hR2.1
    obtain ⟨fz, h29⟩ := tr_exY (k := 29) (kd := 2) (l := 143) (n := 16) (s := [(16, 2147483648, 2147483649)]) hJ3.1 hq2 rfl rfl (Or.inl rfl)
    refine zy_la rfl m0 (Or.inl ⟨_, rfl⟩) ?_
    refine zy_gY rfl h29 (fun p2 hp2 hpt2 hlp2 => ?_)
    refine zy_li rfl m1 ?_
    refine zy_ci (n := 1) (c := 1) rfl ?_
    refine zy_wZ (k := 29) (n := 16) rfl hJ3 hq2 rfl rfl (by decide) hpt2 h29 hk0 (by omega) (by decide +kernel) ?_
    intro w4 hJ4 hfr4 hl4
    exact tr_endN ⟨_, _, _, rfl⟩ hJ4 ⟨rfl, PDof (tr_RB_fr hJ3.1 hfr4 (by decide +kernel) hR3) hR2.2.1 hR2.2.2⟩
  have at38 : ∀ (Ψ' : List Nat) (w' : List zx_E) (mc ms : Nat) (φ' : Int) (fk' k : Int32) (ls : List (Nat × zx_V)), J Ψ' w' mc ms → R w' φ' fk' → 0 ≤ k.toInt → k.toInt ≤ 15 → zx_limP w'.length ls = true → zx_look 0 ls = some (.inr (.inr (.inl q))) → zx_look 1 ls = some (.inl k) → WP (38, ls, [], w', mc, ms) := by
    intro Ψ' w' mc ms φ' fk' k ls hJ hR' hk0 hk1 hls l0 l1
    have hq1 := hJ.2.2.1 _ _ hq
    refine tr_ifGo (by decide) hJ hq1 hR'.1.2.2.2.2 hR'.1.2.2.2.1 hls l0 rfl rfl rfl rfl rfl (by decide +kernel) (by decide +kernel) ?_
    intro Ψ2 w2 mc2 ms2 hJ2 hle2 hfr2 hls2 hPT
    obtain ⟨φ2, fk2, hR2⟩ := Rtok hJ hfr2 (by decide +kernel) hR' hPT
    exact at49 Ψ2 w2 mc2 ms2 φ2 fk2 k ls hJ2 hR2 hk0 hk1 hls2 l0 l1
  show WP (0, [(0, (.inr (.inr (.inl q))))], [], w, 0, 0)
  refine zy_ci (n := 2) (c := 8) rfl ?_
  refine zy_la (k := 0) rfl rfl (Or.inl ⟨_, rfl⟩) ?_
  refine zy_gI rfl hR.1.2.1 ?_
  refine zy_mul rfl ?_
  have e8 : (Int32.ofNat 8 * rb).toInt = 8 * rb.toInt := tr_mul (c := 8) (by decide) rfl (by omega) (by omega)
  refine zy_la (k := 0) rfl rfl (Or.inl ⟨_, rfl⟩) ?_
  refine zy_callD (tr_Do_le (tr_known hw hq hR.2.2.2.2 hR.2.2.2.1) (by decide)) (n := 1) (st := [(.inl (Int32.ofNat 8 * rb))]) rfl rfl (Nat.le_of_ble_eq_true rfl) (tm_lim hlq rfl) rfl (tm_W0 (E := tr_EV) hw) (by decide +kernel) (by decide +kernel) ?_
  intro a Ψ2 w2 mc2 ms2 hJ2 hle2 hfr2 hls2 hst2 hP
  obtain ⟨⟨a', ea, ha0, ha1⟩, hPT⟩ := hP
  subst ea
  obtain ⟨φ2, fk2, hR2⟩ := Rtok (tm_W0 (E := tr_EV) hw) hfr2 (by decide +kernel) ⟨hR, Int.le_refl _, fun h => h⟩ hPT
  have hq2 := hJ2.2.2.1 _ _ hq
  have ek : (Int32.ofNat 8 * rb + a').toInt = 8 * rb.toInt + a'.toInt := by rw [tr_add (by omega) (by omega), e8]
  refine zy_add rfl ?_
  generalize Int32.ofNat 8 * rb + a' = k at ek ⊢
  have hk0 : 0 ≤ k.toInt := by omega
  have hk1 : k.toInt ≤ 15 := by omega
  refine zy_si (k := 1) rfl ?_
  have m0 : zx_look 0 (zx_put 1 (.inl k) [(0, (.inr (.inr (.inl q))))]) = some (.inr (.inr (.inl q))) := rfl
  have m1 : zx_look 1 (zx_put 1 (.inl k) [(0, (.inr (.inr (.inl q))))]) = some (.inl k) := rfl
  have hls3 : zx_limP w2.length (zx_put 1 (.inl k) [(0, (.inr (.inr (.inl q))))]) = true := zy_limP_put hls2 rfl
  generalize zx_put 1 (.inl k) [(0, (.inr (.inr (.inl q))))] = ls2 at m0 m1 hls3 ⊢
  have hne := at38 Ψ2 w2 mc2 ms2 φ2 fk2 k ls2 hJ2 hR2 hk0 hk1 hls3 m0 m1
  obtain ⟨u, hu, -⟩ := tr_isGoodK hR2.1.2.2.2.1
  obtain ⟨at', h6, -, -⟩ := tr_exI (k := 6) (lo := 2147483648) (hi := 2147485248) hJ2.1 hq2 rfl
  refine zy_la rfl m0 (Or.inl ⟨_, rfl⟩) ?_
  refine zy_callK (a := 0) (n := 1) (st := []) (zx_Cl_le (by decide) hu) rfl rfl (Nat.le_of_ble_eq_true rfl) hls3 rfl (by have := hJ2.2.1; omega) (by have := hJ2.2.1; omega) ?_
  refine zy_j0 rfl (fun _ => hne) (fun _ => ?_)
  obtain ⟨fz, h29⟩ := tr_exY (k := 29) (kd := 2) (l := 143) (n := 16) (s := [(16, 2147483648, 2147483649)]) hJ2.1 hq2 rfl rfl (Or.inl rfl)
  refine zy_la rfl m0 (Or.inl ⟨_, rfl⟩) ?_
  refine zy_gY rfl h29 (fun p2 hp2 hpt2 hlp2 => ?_)
  refine zy_li rfl m1 ?_
  refine zy_ldz rfl hp2 (tr_in hk0 (by omega)) ?_
  refine zy_j0 rfl (fun _ => hne) (fun _ => ?_)
  refine zy_la rfl m0 (Or.inl ⟨_, rfl⟩) ?_
  refine zy_ci (n := 1) (c := 3) rfl ?_
  refine zy_la rfl m0 (Or.inl ⟨_, rfl⟩) ?_
  refine zy_gI rfl h6 ?_
  refine zy_callD (tr_Do_le (tr_fails (kd := Int32.ofNat 3) (pl := at') hJ2.1 hq2 (by decide)) (by decide)) (n := 3) (st := []) rfl rfl (Nat.zero_le _) hls3 rfl hJ2 (by decide +kernel) (by decide +kernel) ?_
  intro a Ψ3 w3 mc3 ms3 hJ3 hle3 hfr3 hls5 hst3 hP
  obtain ⟨ea, fk3, h43, hne3⟩ := hP
  subst ea
  obtain ⟨φ4, fk4, hR4⟩ := Rtok hJ2 hfr3 (by decide +kernel) hR2 ⟨φ2, fk3, tr_T_fr hJ2.1 hfr3 (by decide +kernel) hR2.1.2.2.2.2, Int.le_refl _, h43, fun h => absurd h hne3⟩
  exact at38 Ψ3 w3 mc3 ms3 φ4 fk4 k ls2 hJ3 hR4 hk0 hk1 hls5 m0 m1
