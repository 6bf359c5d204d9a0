/-! by hand: behindUnit -/
theorem tr_old_cd {bk rb C x : Int32} {hv pv dv tm ho pe cd rf rt hv0 pv0 dv0 tm0 ho0 pe0 cd0 rf0 rt0 : Nat → Int32} (hbb : tr_bb bk rb) (h1 : 640 * rb.toInt ≤ C.toInt) (h2 : C.toInt < 640 * rb.toInt + 640) (h : tr_old bk.toInt.toNat hv pv dv tm ho pe cd rf rt hv0 pv0 dv0 tm0 ho0 pe0 cd0 rf0 rt0) : tr_old bk.toInt.toNat hv pv dv tm ho pe (upd cd C.toInt.toNat x) rf rt hv0 pv0 dv0 tm0 ho0 pe0 cd0 rf0 rt0 := by
  unfold tr_bb at hbb
  obtain ⟨o1, o2, o3, o4, o5, o6, o7, o8, o9⟩ := h
  exact ⟨o1, o2, o3, o4, o5, o6, fun i hi => by rw [tg_upd_ne (by omega)]; exact o7 i hi, o8, o9⟩
theorem tr_nw_y1 {E : Nat → Int32} {n : Nat} (hn : 1 ≤ n) (h : (E (n - 1)).toInt = 3 ∨ (E (n - 1)).toInt = 7) : tr_nw E n = tr_nw E (n - 1) + 1 := by
  obtain ⟨m, rfl⟩ : ∃ m, n = m + 1 := ⟨n - 1, by omega⟩
  exact tr_nw_y h
theorem tr_nw_n1 {E : Nat → Int32} {n : Nat} (hn : 1 ≤ n) (h : ¬ ((E (n - 1)).toInt = 3 ∨ (E (n - 1)).toInt = 7)) : tr_nw E n = tr_nw E (n - 1) := by
  obtain ⟨m, rfl⟩ : ∃ m, n = m + 1 := ⟨n - 1, by omega⟩
  exact tr_nw_n h
set_option maxHeartbeats 8000000 in
set_option maxRecDepth 20000 in
theorem tr_behind {Ψ : List Nat} {w : List zx_E} {q : Nat} {φ : Int} {fk bk rb C pd wi u : Int32} {ua hv pv dv tm ho pe cd rf rt E S : Nat → Int32} {j m : Nat} {Z : Nat → Nat → Int32} {fm : Int} (hw : tj_wt tj_Lam Ψ w) (hq : Ψ[q]? = some 149) (hR : tr_RB w q bk rb C ua hv pv dv tm ho pe cd rf rt φ fk) (hbb : tr_bb bk rb) (hold : tr_old bk.toInt.toNat hv pv dv tm ho pe cd rf rt (Z 0) (Z 1) (Z 2) (Z 3) (Z 4) (Z 5) (Z 6) (Z 7) (Z 8)) (hE : tr_EW w q E S pd wi u) (hfk : fk.toInt = 0) (hnew : tr_new rb.toInt.toNat (2 * (dv rb.toInt.toNat).toInt.toNat + j) fm hv pv dv tm ho pe cd rf rt) (hEI : tr_EI rb.toInt.toNat fm C.toInt (ua rb.toInt.toNat).toInt φ cd E S pd wi u 1) (hpd1 : 1 ≤ pd.toInt) (hm : tr_me u wi pd 1 = m) : tr_Do 5 89 [(.inr (.inr (.inl q)))] tr_Ee Ψ w (fun a _ w' => tr_EO q φ bk rb j Z fm m a w') := by
  obtain ⟨fs, k0, -, -⟩ := tr_ob hw hq
  have hlq : q < w.length := (List.getElem?_eq_some_iff.mp k0).1
  have hb := hbb
  unfold tr_bb at hb
  have irb := zx_b_int rb
  have hφ := tr_T_le hR.2.2.2.2
  obtain ⟨tx, sz, en, at', tk, nm, hTV, eφ⟩ := hR.2.2.2.2
  obtain ⟨⟨t3, t7, t6, t8, t10, t1⟩, u1, u2, u3, u4, u5, u6, u7, u8⟩ := id hTV
  have bua := tr_bd1 (l := 107) (n := 2) (lo := 2147483648) (hi := 2147483738) hw hq rfl rfl hR.2.2.1 (j := rb.toInt.toNat) (by omega)
  have iua := zx_b_int (ua rb.toInt.toNat)
  have bu := tr_bdI (lo := 2147483648) (hi := 2147483678) hw hq rfl hE.2.2.2.2
  have iu := zx_b_int u
  have ipd0 := zx_b_int pd
  have z0 : (Int32.ofNat 0).toInt = 0 := by decide
  have z1 : (Int32.ofNat 1).toInt = 1 := by decide
  obtain ⟨r, hr, hr'⟩ := tr_rankHereK t8 t10 t3 t1 t6 u1 u4
  have ir := zx_b_int r
  have bpd0 := tr_bdI (lo := 2147483648) (hi := 2147483738) hw hq rfl hE.2.2.1
  obtain ⟨cv, hcv, -⟩ := tr_isComparedK hE.2.2.1 hE.1 hpd1 (by omega) (hEI.2.2.1.1 (by omega))
  let P : Option zx_V → List Nat → List zx_E → Prop := fun a _ w' => tr_EO q φ bk rb j Z fm m a w'
  refine tr_meth (P := P) (d := 4) (dt := zx_d_X12_behindUnit) (by rw [← zx_q_X12_behindUnit]; rfl) (by rw [(by decide +kernel : zx_rc 89 = 13)]; exact ⟨q, _, fs, rfl, k0⟩) (by decide +kernel : 1 ≤ zx_mx' 89) ?_
  let WP : zx_S → Prop := fun σ => zx_wp (zx_Cl zx_mt zx_rc zx_mx' 4) none (tj_P tj_c1 w, tj_P tj_c2 w) (zx_find (zx_cT zx_d_X12_behindUnit)) (tr_end zx_d_X12_behindUnit tr_Ee Ψ w P) σ
  let J : List Nat → List zx_E → Nat → Nat → Prop := fun Ψ' w' mc ms => tj_W tj_Lam (tj_P tj_c1 w, tj_P tj_c2 w) tr_Ee Ψ w Ψ' w' mc ms
  -- an operator, or an end
  have at104 : ∀ (Ψ' : List Nat) (w' : List zx_E) (mc ms : Nat) (C pd' wi : Int32) (cd : Nat → Int32) (ls : List (Nat × zx_V)), J Ψ' w' mc ms → tr_RB w' q bk rb C ua hv pv dv tm ho pe cd rf rt φ fk → tr_TV w' q tx sz en at' tk nm → tr_old bk.toInt.toNat hv pv dv tm ho pe cd rf rt (Z 0) (Z 1) (Z 2) (Z 3) (Z 4) (Z 5) (Z 6) (Z 7) (Z 8) → tr_EW w' q E S pd' wi u → tr_new rb.toInt.toNat (2 * (dv rb.toInt.toNat).toInt.toNat + j) fm hv pv dv tm ho pe cd rf rt → tr_EI rb.toInt.toNat fm C.toInt (ua rb.toInt.toNat).toInt φ cd E S pd' wi u 1 → 1 ≤ pd'.toInt → pd'.toInt ≤ pd.toInt → (6 < (E (pd'.toInt.toNat - 1)).toInt ∨ (E (pd'.toInt.toNat - 1)).toInt < r.toInt) → zx_limP w'.length ls = true → zx_look 0 ls = some (.inr (.inr (.inl q))) → zx_look 1 ls = some (.inl r) → WP (104, ls, [], w', mc, ms) := by
    intro Ψ' w' mc ms C pd' wi cd ls hJ hR' hTV' hold' hE' hnew' hEI' hp1 hp2 hex hls l0 l1
    have hq1 := hJ.2.2.1 _ _ hq
    obtain ⟨fs', k0', -, -⟩ := tr_ob hJ.1 hq1
    have hlq1 : q < w'.length := (List.getElem?_eq_some_iff.mp k0').1
    obtain ⟨h36, h37, h43, h42, h44⟩ := id hE'
    have bpd := tr_bdI (lo := 2147483648) (hi := 2147483738) hJ.1 hq1 rfl h43
    have ipd := zx_b_int pd'
    have bwi := tr_bdI (lo := 2147483648) (hi := 2147483655) hJ.1 hq1 rfl h42
    have iwi := zx_b_int wi
    obtain ⟨i1, i2, i3, i4, ⟨D, i5, i6, i7⟩, i8, i9⟩ := id hEI'
    have i7' := i7 hp1
    have e78 : ((1 : Nat) : Int) = 1 := by decide
    refine zy_li rfl l1 ?_
    refine zy_j0 rfl (fun hle => ?_) (fun hgt => ?_)
    · -- an end
      have hle : zx_b r ≤ 2147483648 := hle
      have er0 : r = Int32.ofNat 0 := by
        rcases hr' with e | e | e | ⟨e | e | e, -⟩
        · exact e
        · rw [e] at hle
          exact absurd hle (by decide)
        · rw [e] at hle
          exact absurd hle (by decide)
        · rw [e] at hle
          exact absurd hle (by decide)
        · rw [e] at hle
          exact absurd hle (by decide)
        · rw [e] at hle
          exact absurd hle (by decide)
      have bE := tr_bd1 (l := 120) (n := 90) (lo := 2147483648) (hi := 2147483656) hJ.1 hq1 rfl rfl h36 (j := pd'.toInt.toNat - 1) (by omega)
      have iE := zx_b_int (E (pd'.toInt.toNat - 1))
      have hE7 : 7 ≤ (E (pd'.toInt.toNat - 1)).toInt := by
        rw [er0, z0] at hex
        omega
      have ep1 : (pd' - Int32.ofNat 1).toInt = pd'.toInt - 1 := by rw [tr_sub (by omega) (by omega), z1]
      have ip1 := zx_b_int (pd' - Int32.ofNat 1)
      refine zy_la rfl l0 (Or.inl ⟨_, rfl⟩) ?_
      refine zy_dup rfl ?_
      refine zy_gI rfl h43 ?_
      refine zy_ci (n := 1) (c := 1) rfl ?_
      refine zy_sub rfl ?_
      refine zy_wI (k := 43) (lo := 2147483648) (hi := 2147483738) rfl hJ hq1 rfl (by omega) (by omega) rfl (by decide +kernel) ?_
      intro w2 hJ2 hfr2 hl2 h432
      generalize pd' - Int32.ofNat 1 = pd2 at ep1 ip1 h432
      have hR2 := tr_RB_fr hJ.1 hfr2 (by decide +kernel) hR'
      have h362 := te_fa hJ.1 hfr2 (d := ([(149, 36)], [120])) (by decide +kernel) (by decide +kernel) h36
      have h372 := te_fa hJ.1 hfr2 (d := ([(149, 37)], [121])) (by decide +kernel) (by decide +kernel) h37
      have h422 := te_fi hJ.1 hfr2 (d := ([(149, 42)], [])) (by decide +kernel) (by decide +kernel) h42
      have h442 := te_fi hJ.1 hfr2 (d := ([(149, 44)], [])) (by decide +kernel) (by decide +kernel) h44
      have hls2 : zx_limP w2.length ls = true := by rw [hl2]; exact hls
      have epn : pd2.toNatClampNeg = pd'.toInt.toNat - 1 := by
        show pd2.toInt.toNat = _
        omega
      have epn2 : pd2.toInt.toNat = pd'.toInt.toNat - 1 := epn
      -- the end
      have fin : ∀ (Ψ3 : List Nat) (w3 : List zx_E) (mc3 ms3 : Nat) (φ3 : Int) (fk3 wi3 : Int32), J Ψ3 w3 mc3 ms3 → tr_RB w3 q bk rb C ua hv pv dv tm ho pe cd rf rt φ3 fk3 → φ ≤ φ3 → tr_EW w3 q E S pd2 wi3 u → wi3.toInt = tr_nw E pd2.toInt.toNat → (1 ≤ pd2.toInt → (D : Int) + wi3.toInt + 1 = pd2.toInt + 1) → WP (191, ls, [], w3, mc3, ms3) := by
        intro Ψ3 w3 mc3 ms3 φ3 fk3 wi3 hJ3 hR3 hφ3 hE3 hw3 hD3
        refine zy_ci (n := 1) (c := 0) rfl ?_
        have e10 : ((1 - (Int32.ofNat 0).toInt.toNat : Nat) : Int) = 1 := by decide
        refine tr_endZ ⟨_, _, _, rfl⟩ (Or.inl rfl) hJ3 ⟨_, φ3, fk3, tr_me u wi3 pd2 1, rfl, Or.inl rfl, hφ3, ⟨C, ua, hv, pv, dv, tm, ho, pe, cd, rf, rt, E, S, pd2, wi3, u, hR3, hbb, hold', hE3, fun _ => ⟨hnew', ⟨i1, i2, tr_stk_pop i3 (by omega), hw3, ⟨D, i5, i6, fun h => ?_⟩, ?_, fun h => absurd h (by decide)⟩, rfl⟩⟩, fun _ => ?_⟩
        · rw [e10]
          exact hD3 h
        · rw [e10]
          omega
        · rw [← hm]
          unfold tr_me
          rw [if_neg (by decide), if_neg (by decide)]
          omega
      refine zy_la rfl l0 (Or.inl ⟨_, rfl⟩) ?_
      refine zy_gA rfl h362 (fun p hp hpt hlp => ?_)
      refine zy_la rfl l0 (Or.inl ⟨_, rfl⟩) ?_
      refine zy_gI rfl h432 ?_
      refine zy_ld rfl hp (tr_in (by omega) (by omega)) ?_
      rw [epn]
      refine zy_ci (n := 2) (c := 7) rfl ?_
      refine zy_jt rfl (fun hne => ?_) (fun he => ?_)
      · have hne : zx_b (E (pd'.toInt.toNat - 1)) ≠ zx_b (Int32.ofNat 7) := hne
        rw [show zx_b (Int32.ofNat 7) = 2147483655 by decide] at hne
        have ep0 : pd'.toInt.toNat = 1 := by
          refine Classical.byContradiction (fun hn => ?_)
          have := (i3.2 (pd'.toInt.toNat - 1) (by omega) (by omega)).2.1
          omega
        have ew0 : wi.toInt = 0 := by
          have e0 := i3.1 (by omega)
          rw [i4, ep0, tr_nw_n (n := 0) (by omega)]
          rfl
        exact fin Ψ' w2 mc ms φ fk wi hJ2 hR2 (Int.le_refl _) ⟨h362, h372, h432, h422, h442⟩ (by rw [epn2, ep0, ew0]; rfl) (fun h => by omega)
      · have he : zx_b (E (pd'.toInt.toNat - 1)) = zx_b (Int32.ofNat 7) := he
        rw [show zx_b (Int32.ofNat 7) = 2147483655 by decide] at he
        have hnw : tr_nw E pd'.toInt.toNat = tr_nw E (pd'.toInt.toNat - 1) + 1 := by
          exact tr_nw_y1 (by omega) (by omega)
        have ew1 : (wi - Int32.ofNat 1).toInt = wi.toInt - 1 := by rw [tr_sub (by omega) (by omega), z1]
        have iw1 := zx_b_int (wi - Int32.ofNat 1)
        refine zy_la rfl l0 (Or.inl ⟨_, rfl⟩) ?_
        refine zy_dup rfl ?_
        refine zy_gI rfl h422 ?_
        refine zy_ci (n := 1) (c := 1) rfl ?_
        refine zy_sub rfl ?_
        refine zy_wI (k := 42) (lo := 2147483648) (hi := 2147483655) rfl hJ2 hq1 rfl (by omega) (by omega) rfl (by decide +kernel) ?_
        intro w3 hJ3 hfr3 hl3 h423
        generalize wi - Int32.ofNat 1 = wi2 at ew1 iw1 h423
        have hR3 := tr_RB_fr hJ2.1 hfr3 (by decide +kernel) hR2
        have hE3 : tr_EW w3 q E S pd2 wi2 u := ⟨te_fa hJ2.1 hfr3 (d := ([(149, 36)], [120])) (by decide +kernel) (by decide +kernel) h362, te_fa hJ2.1 hfr3 (d := ([(149, 37)], [121])) (by decide +kernel) (by decide +kernel) h372, te_fi hJ2.1 hfr3 (d := ([(149, 43)], [])) (by decide +kernel) (by decide +kernel) h432, h423, te_fi hJ2.1 hfr3 (d := ([(149, 44)], [])) (by decide +kernel) (by decide +kernel) h442⟩
        have hls3 : zx_limP w3.length ls = true := by rw [hl3]; exact hls2
        have hlq3 : q < w3.length := by rw [hl3, hl2]; exact hlq1
        have hTV3 := tr_TV_fr hJ2.1 hfr3 (by decide +kernel) (tr_TV_fr hJ.1 hfr2 (by decide +kernel) hTV')
        obtain ⟨⟨s3, s7, s6, s8, s10, s1⟩, -⟩ := hTV3
        obtain ⟨y, hy, -⟩ := tr_isSignHereK (c := Int32.ofNat 41) s3 s1 s6 s8 u1 u4
        refine zy_la rfl l0 (Or.inl ⟨_, rfl⟩) ?_
        refine zy_la rfl l0 (Or.inl ⟨_, rfl⟩) ?_
        refine zy_ci (n := 2) (c := 41) rfl ?_
        refine zy_callK (a := 0) (n := 2) (st := [(.inr (.inr (.inl q)))]) (zx_Cl_le (by decide) hy) rfl rfl (Nat.le_of_ble_eq_true rfl) hls3 (tr_lim1 hlq3 rfl) (by have := hJ3.2.1; omega) (by have := hJ3.2.1; omega) ?_
        refine zy_callD (tr_Do_le (tr_must (b := y) hJ3.1 hq1 hR3.2.2.2.2 hR3.2.2.2.1) (by decide)) (n := 2) (st := []) rfl rfl (Nat.zero_le _) hls3 rfl hJ3 (by decide +kernel) (by decide +kernel) ?_
        intro a Ψ4 w4 mc4 ms4 hJ4 hle4 hfr4 hls4 hst4 hP4
        obtain ⟨ea, hPT⟩ := hP4
        subst ea
        obtain ⟨φ4, fk4, g1, g2, hR4⟩ := tr_RB_tok hJ3.1 hfr4 (by decide +kernel) hR3 hPT
        exact fin Ψ4 w4 mc4 ms4 φ4 fk4 wi2 hJ4 hR4 g1 (tr_EW_fr hJ3.1 hfr4 (by decide +kernel) hE3) (by rw [epn2]; omega) (fun _ => by omega)
    · -- an operator
      have hgt : 2147483648 < zx_b r := hgt
      have pushed : ∀ s : Int32, (s.toInt ≠ 126 ∧ (s.toInt < 97 ∨ 122 < s.toInt)) → WP (138, ls, [(.inl s), (.inl r), (.inr (.inr (.inl q)))], w', mc, ms) := by
        intro s hs
        have hr7 : 1 ≤ r.toInt ∧ r.toInt ≤ 6 ∧ r.toInt ≠ 3 := by
          rcases hr' with e | e | e | ⟨e | e | e, -⟩
          · rw [e] at hgt
            exact absurd hgt (by decide)
          · rw [e]
            decide
          · rw [e]
            decide
          · rw [e]
            decide
          · rw [e]
            decide
          · rw [e]
            decide
        have hpd37 : pd'.toInt ≤ 38 := by omega
        have epd : (pd' + Int32.ofNat 1).toInt = pd'.toInt + 1 := tm_inc tm_k1 (by omega)
        refine zy_callD (tr_Do_le (tr_pushE (c := r) (n := s) hJ.1 hq1 h43 h36 h37 (by omega) (by omega)) (by decide)) (n := 3) (st := []) rfl rfl (Nat.zero_le _) hls rfl hJ (by decide +kernel) (by decide +kernel) ?_
        intro a Ψ2 w2 mc2 ms2 hJ2 hle2 hfr2 hls2 hst2 hP2
        obtain ⟨ea, h432, h362, h372⟩ := hP2
        subst ea
        have hq2 := hle2 _ _ hq1
        have hR2 := tr_RB_fr hJ.1 hfr2 (by decide +kernel) hR'
        have h422 := te_fi hJ.1 hfr2 (d := ([(149, 42)], [])) (by decide +kernel) (by decide +kernel) h42
        have h442 := te_fi hJ.1 hfr2 (d := ([(149, 44)], [])) (by decide +kernel) (by decide +kernel) h44
        generalize pd' + Int32.ofNat 1 = pd2 at epd h432
        refine zy_la rfl l0 (Or.inl ⟨_, rfl⟩) ?_
        refine zy_callD (tr_Do_le (tr_goOnT hJ2.1 hq2 hR2.2.2.2.2) (by decide)) (n := 1) (st := []) rfl rfl (Nat.zero_le _) hls2 rfl hJ2 (by decide +kernel) (by decide +kernel) ?_
        intro a Ψ3 w3 mc3 ms3 hJ3 hle3 hfr3 hls3 hst3 hP3
        obtain ⟨ea, φ3, hT3, hφ3⟩ := hP3
        subst ea
        refine zy_ci (n := 1) (c := 1) rfl ?_
        have hR3 : tr_RB w3 q bk rb C ua hv pv dv tm ho pe cd rf rt φ3 fk := ⟨tr_B_fr hJ2.1 hfr3 (by decide +kernel) hR2.1, te_fi hJ2.1 hfr3 (d := ([(149, 41)], [])) (by decide +kernel) (by decide +kernel) hR2.2.1, te_fa hJ2.1 hfr3 (d := ([(149, 15)], [107])) (by decide +kernel) (by decide +kernel) hR2.2.2.1, te_fi hJ2.1 hfr3 (d := ([(149, 4)], [])) (by decide +kernel) (by decide +kernel) hR2.2.2.2.1, hT3⟩
        have hE3 : tr_EW w3 q (upd E pd'.toInt.toNat r) (upd S pd'.toInt.toNat s) pd2 wi u := tr_EW_fr hJ2.1 hfr3 (by decide +kernel) ⟨h362, h372, h432, h422, h442⟩
        have epn : pd2.toInt.toNat = pd'.toInt.toNat + 1 := by omega
        have hnw : tr_nw (upd E pd'.toInt.toNat r) (pd'.toInt.toNat + 1) = tr_nw E pd'.toInt.toNat := by
          rw [tr_nw_n (by rw [tg_upd_eq]; omega)]
          rw [tr_nw_eq (E := upd E pd'.toInt.toNat r) (E' := E) (fun k hk => tg_upd_ne (by omega))]
        have e10 : ((1 - (Int32.ofNat 1).toInt.toNat : Nat) : Int) = 0 := by decide
        refine tr_endZ ⟨_, _, _, rfl⟩ (Or.inr rfl) hJ3 ⟨_, φ3, fk, tr_me u wi pd2 0, rfl, Or.inr rfl, hφ3, ⟨C, ua, hv, pv, dv, tm, ho, pe, cd, rf, rt, _, _, pd2, wi, u, hR3, hbb, hold', hE3, fun _ => ⟨hnew', ⟨i1, i2, ?_, ?_, ⟨D, i5, i6, fun _ => ?_⟩, ?_, fun _ => by omega⟩, rfl⟩⟩, fun _ => ?_⟩
        · rw [epn]
          exact tr_stk_push (by omega) i3 (by omega) (by omega) (fun h => absurd h hr7.2.2) (fun _ _ => hs)
        · rw [epn, hnw]
          exact i4
        · rw [e10]
          omega
        · rw [e10]
          omega
        · rw [← hm]
          unfold tr_me
          rw [if_pos rfl, if_neg (by decide)]
          omega
      refine zy_la rfl l0 (Or.inl ⟨_, rfl⟩) ?_
      refine zy_li rfl l1 ?_
      refine zy_li rfl l1 ?_
      refine zy_ci (n := 1) (c := 2) rfl ?_
      refine zy_jt rfl (fun hn2 => ?_) (fun _ => ?_)
      rotate_left
      · refine zy_ci (n := 2) (c := 38) rfl ?_
        refine zy_goto rfl ?_
        exact pushed _ (by decide)
      have hn2 : zx_b r ≠ zx_b (Int32.ofNat 2) := hn2
      refine zy_li rfl l1 ?_
      refine zy_ci (n := 1) (c := 1) rfl ?_
      refine zy_jt rfl (fun hn1 => ?_) (fun _ => ?_)
      rotate_left
      · refine zy_ci (n := 2) (c := 124) rfl ?_
        refine zy_goto rfl ?_
        exact pushed _ (by decide)
      have hn1 : zx_b r ≠ zx_b (Int32.ofNat 1) := hn1
      obtain ⟨⟨s3, s7, s6, s8, s10, s1⟩, -⟩ := hTV'
      obtain ⟨y, hy, ey⟩ := tr_signK (k := at') s3 s1 u1 u4
      refine zy_la rfl l0 (Or.inl ⟨_, rfl⟩) ?_
      refine zy_la rfl l0 (Or.inl ⟨_, rfl⟩) ?_
      refine zy_gI rfl s6 ?_
      refine zy_callK (a := 0) (n := 2) (st := [(.inl r), (.inr (.inr (.inl q)))]) (zx_Cl_le (by decide) hy) rfl rfl (Nat.le_of_ble_eq_true rfl) hls (tr_lim2 (tr_lim1 hlq1 rfl)) (by have := hJ.2.1; omega) (by have := hJ.2.1; omega) ?_
      refine pushed y ?_
      rw [ey]
      rcases hr' with e | e | e | ⟨-, e1, e2⟩
      · rw [e] at hgt
        exact absurd hgt (by decide)
      · exact absurd (congrArg zx_b e) hn1
      · exact absurd (congrArg zx_b e) hn2
      · exact ⟨by omega, Or.inl e2⟩
  -- operators taken down
  have loop : ∀ (n : Nat) (Ψ' : List Nat) (w' : List zx_E) (mc ms : Nat) (C pd' wi : Int32) (cd : Nat → Int32) (ls : List (Nat × zx_V)), pd'.toInt = n → J Ψ' w' mc ms → tr_RB w' q bk rb C ua hv pv dv tm ho pe cd rf rt φ fk → tr_TV w' q tx sz en at' tk nm → tr_old bk.toInt.toNat hv pv dv tm ho pe cd rf rt (Z 0) (Z 1) (Z 2) (Z 3) (Z 4) (Z 5) (Z 6) (Z 7) (Z 8) → tr_EW w' q E S pd' wi u → tr_new rb.toInt.toNat (2 * (dv rb.toInt.toNat).toInt.toNat + j) fm hv pv dv tm ho pe cd rf rt → tr_EI rb.toInt.toNat fm C.toInt (ua rb.toInt.toNat).toInt φ cd E S pd' wi u 1 → 1 ≤ pd'.toInt → pd'.toInt ≤ pd.toInt → zx_limP w'.length ls = true → zx_look 0 ls = some (.inr (.inr (.inl q))) → zx_look 1 ls = some (.inl r) → WP (23, ls, [], w', mc, ms) := by
    intro n
    induction n with
    | zero =>
      intro Ψ' w' mc ms C pd' wi cd ls hn hJ hR' hTV' hold' hE' hnew' hEI' hp1 hp2 hls l0 l1
      omega
    | succ n ih =>
      intro Ψ' w' mc ms C pd' wi cd ls hn hJ hR' hTV' hold' hE' hnew' hEI' hp1 hp2 hls l0 l1
      have hq1 := hJ.2.2.1 _ _ hq
      obtain ⟨h36, h37, h43, h42, h44⟩ := id hE'
      have bpd := tr_bdI (lo := 2147483648) (hi := 2147483738) hJ.1 hq1 rfl h43
      have ipd := zx_b_int pd'
      have bwi := tr_bdI (lo := 2147483648) (hi := 2147483655) hJ.1 hq1 rfl h42
      have iwi := zx_b_int wi
      have bC := tr_bdI (lo := 2147483648) (hi := 2147484928) hJ.1 hq1 rfl hR'.2.1
      have iC := zx_b_int C
      obtain ⟨i1, i2, i3, i4, ⟨D, i5, i6, i7⟩, i8, i9⟩ := id hEI'
      have i7' := i7 hp1
      have ep1 : (pd' - Int32.ofNat 1).toInt = pd'.toInt - 1 := by rw [tr_sub (by omega) (by omega), z1]
      have ip1 := zx_b_int (pd' - Int32.ofNat 1)
      have epn : (pd' - Int32.ofNat 1).toNatClampNeg = pd'.toInt.toNat - 1 := by
        show (pd' - Int32.ofNat 1).toInt.toNat = _
        omega
      have iE := zx_b_int (E (pd'.toInt.toNat - 1))
      have out : (6 < (E (pd'.toInt.toNat - 1)).toInt ∨ (E (pd'.toInt.toNat - 1)).toInt < r.toInt) → WP (104, ls, [], w', mc, ms) := fun hex => at104 Ψ' w' mc ms C pd' wi cd ls hJ hR' hTV' hold' hE' hnew' hEI' hp1 hp2 hex hls l0 l1
      refine zy_la rfl l0 (Or.inl ⟨_, rfl⟩) ?_
      refine zy_gA rfl h36 (fun p hp hpt hlp => ?_)
      refine zy_la rfl l0 (Or.inl ⟨_, rfl⟩) ?_
      refine zy_gI rfl h43 ?_
      refine zy_ci (n := 1) (c := 1) rfl ?_
      refine zy_sub rfl ?_
      refine zy_ld rfl hp (tr_in (by omega) (by omega)) ?_
      rw [epn]
      refine zy_ci (n := 2) (c := 6) rfl ?_
      refine zy_jt rfl (fun h => ?_) (fun h6 => ?_)
      · have h : zx_b (Int32.ofNat 6) < zx_b (E (pd'.toInt.toNat - 1)) := h
        rw [show zx_b (Int32.ofNat 6) = 2147483654 by decide] at h
        exact out (Or.inl (by omega))
      have h6 : zx_b (E (pd'.toInt.toNat - 1)) ≤ zx_b (Int32.ofNat 6) := h6
      rw [show zx_b (Int32.ofNat 6) = 2147483654 by decide] at h6
      refine zy_la rfl l0 (Or.inl ⟨_, rfl⟩) ?_
      refine zy_gA rfl h36 (fun p2 hp2' hpt2 hlp2 => ?_)
      refine zy_la rfl l0 (Or.inl ⟨_, rfl⟩) ?_
      refine zy_gI rfl h43 ?_
      refine zy_ci (n := 1) (c := 1) rfl ?_
      refine zy_sub rfl ?_
      refine zy_ld rfl hp2' (tr_in (by omega) (by omega)) ?_
      rw [epn]
      refine zy_li rfl l1 ?_
      refine zy_jt rfl (fun h => ?_) (fun _ => ?_)
      · have h : zx_b (E (pd'.toInt.toNat - 1)) < zx_b r := h
        exact out (Or.inr (by omega))
      have ht1 : 2 ≤ pd'.toInt := by
        refine Classical.byContradiction (fun hn2 => ?_)
        have e0 := i3.1 (by omega)
        rw [show pd'.toInt.toNat - 1 = 0 by omega] at iE h6
        omega
      obtain ⟨s1, s2, s3, s4⟩ := i3.2 (pd'.toInt.toNat - 1) (by omega) (by omega)
      have hnl := tr_nw_le (i3.1 (by omega)) (n := pd'.toInt.toNat - 1) (by omega)
      refine zy_la rfl l0 (Or.inl ⟨_, rfl⟩) ?_
      refine zy_dup rfl ?_
      refine zy_gI rfl h43 ?_
      refine zy_ci (n := 1) (c := 1) rfl ?_
      refine zy_sub rfl ?_
      refine zy_wI (k := 43) (lo := 2147483648) (hi := 2147483738) rfl hJ hq1 rfl (by omega) (by omega) rfl (by decide +kernel) ?_
      intro w2 hJ2 hfr2 hl2 h432
      generalize pd' - Int32.ofNat 1 = pd2 at ep1 ip1 h432 epn
      have epn2 : pd2.toInt.toNat = pd'.toInt.toNat - 1 := epn
      have hR2 := tr_RB_fr hJ.1 hfr2 (by decide +kernel) hR'
      have hTV2 := tr_TV_fr hJ.1 hfr2 (by decide +kernel) hTV'
      have h362 := te_fa hJ.1 hfr2 (d := ([(149, 36)], [120])) (by decide +kernel) (by decide +kernel) h36
      have h372 := te_fa hJ.1 hfr2 (d := ([(149, 37)], [121])) (by decide +kernel) (by decide +kernel) h37
      have h422 := te_fi hJ.1 hfr2 (d := ([(149, 42)], [])) (by decide +kernel) (by decide +kernel) h42
      have h442 := te_fi hJ.1 hfr2 (d := ([(149, 44)], [])) (by decide +kernel) (by decide +kernel) h44
      have hls2 : zx_limP w2.length ls = true := by rw [hl2]; exact hls
      -- its code
      have at87 : ∀ (w3 : List zx_E) (wi3 : Int32) (D3 : Nat), J Ψ' w3 mc ms → tr_RB w3 q bk rb C ua hv pv dv tm ho pe cd rf rt φ fk → tr_TV w3 q tx sz en at' tk nm → tr_EW w3 q E S pd2 wi3 u → wi3.toInt = tr_nw E pd2.toInt.toNat → tr_stp (S (pd'.toInt.toNat - 1)) D D3 → (D3 : Int) + wi3.toInt + 1 = pd2.toInt + 1 → (D3 : Int) ≤ u.toInt → zx_limP w3.length ls = true → WP (87, ls, [], w3, mc, ms) := by
        intro w3 wi3 D3 hJ3 hR3 hTV3 hE3 hw3 hstp hD3 hDu hls3
        obtain ⟨x36, x37, x43, x42, x44⟩ := id hE3
        refine zy_la rfl l0 (Or.inl ⟨_, rfl⟩) ?_
        refine zy_la rfl l0 (Or.inl ⟨_, rfl⟩) ?_
        refine zy_gA rfl x37 (fun p3 hp3 hpt3 hlp3 => ?_)
        refine zy_la rfl l0 (Or.inl ⟨_, rfl⟩) ?_
        refine zy_gI rfl x43 ?_
        refine zy_ld rfl hp3 (tr_in (by omega) (by omega)) ?_
        rw [epn]
        refine zy_ci (n := 1) (c := 0) rfl ?_
        refine zy_callD (tr_Do_le (tr_emit (c := S (pd'.toInt.toNat - 1)) (n := Int32.ofNat 0) hJ3.1 hq1 hR3.2.1 hR3.1.2.2.2.2.2.2.2.2.1 (by omega)) (by decide)) (n := 3) (st := []) rfl rfl (Nat.zero_le _) hls3 rfl hJ3 (by decide +kernel) (by decide +kernel) ?_
        intro a Ψ4 w4 mc4 ms4 hJ4 hle4 hfr4 hls4 hst4 hP4
        obtain ⟨ea, h414, h344⟩ := hP4
        subst ea
        have eC1 : (C + Int32.ofNat 1).toInt = C.toInt + 1 := tm_inc tm_k1 (by omega)
        generalize C + Int32.ofNat 1 = C2 at eC1 h414
        obtain ⟨⟨b39, b40, b11, b13, b14, b24, b23, b19, b34, b26, b27⟩, r2, r3, r4, r5⟩ := hR3
        have hB4 : tr_B w4 q bk rb hv pv dv tm ho pe (upd cd C.toInt.toNat (S (pd'.toInt.toNat - 1))) rf rt := ⟨te_fi hJ3.1 hfr4 (d := ([(149, 39)], [])) (by decide +kernel) (by decide +kernel) b39, te_fi hJ3.1 hfr4 (d := ([(149, 40)], [])) (by decide +kernel) (by decide +kernel) b40, te_fa hJ3.1 hfr4 (d := ([(149, 11)], [103])) (by decide +kernel) (by decide +kernel) b11, te_fa hJ3.1 hfr4 (d := ([(149, 13)], [105])) (by decide +kernel) (by decide +kernel) b13, te_fa hJ3.1 hfr4 (d := ([(149, 14)], [106])) (by decide +kernel) (by decide +kernel) b14, te_fa hJ3.1 hfr4 (d := ([(149, 24)], [116])) (by decide +kernel) (by decide +kernel) b24, te_fa hJ3.1 hfr4 (d := ([(149, 23)], [115])) (by decide +kernel) (by decide +kernel) b23, te_fa hJ3.1 hfr4 (d := ([(149, 19)], [111])) (by decide +kernel) (by decide +kernel) b19, h344, te_fa hJ3.1 hfr4 (d := ([(149, 26)], [137])) (by decide +kernel) (by decide +kernel) b26, te_fa hJ3.1 hfr4 (d := ([(149, 27)], [138])) (by decide +kernel) (by decide +kernel) b27⟩
        have hR4 : tr_RB w4 q bk rb C2 ua hv pv dv tm ho pe (upd cd C.toInt.toNat (S (pd'.toInt.toNat - 1))) rf rt φ fk := ⟨hB4, h414, te_fa hJ3.1 hfr4 (d := ([(149, 15)], [107])) (by decide +kernel) (by decide +kernel) r3, te_fi hJ3.1 hfr4 (d := ([(149, 4)], [])) (by decide +kernel) (by decide +kernel) r4, tr_T_fr hJ3.1 hfr4 (by decide +kernel) r5⟩
        have hCb : C.toInt ≤ 640 * rb.toInt + 600 := by omega
        have eCn : (C2.toInt - fm).toNat = (C.toInt - fm).toNat + 1 := by omega
        refine zy_goto rfl ?_
        refine ih Ψ4 w4 mc4 ms4 C2 pd2 wi3 _ ls (by omega) hJ4 hR4 (tr_TV_fr hJ3.1 hfr4 (by decide +kernel) hTV3) ?_ (tr_EW_fr hJ3.1 hfr4 (by decide +kernel) hE3) (tr_new_cd (fun i hi => (tg_upd_ne (by omega)).symm) hnew') ⟨by omega, i2, tr_stk_pop i3 (by omega), hw3, ⟨D3, ?_, hDu, fun _ => by omega⟩, by omega, fun h => absurd h (by decide)⟩ (by omega) (by omega) hls4 l0 l1
        · exact tr_old_cd hbb (by omega) (by omega) hold'
        · rw [eCn]
          refine ⟨D, tr_run_eq (fun i h1 h2 => (tg_upd_ne (by omega)).symm) i5, ?_⟩
          rw [show fm.toNat + (C.toInt - fm).toNat = C.toInt.toNat by omega, tg_upd_eq]
          exact hstp
      refine zy_la rfl l0 (Or.inl ⟨_, rfl⟩) ?_
      refine zy_gA rfl h362 (fun p4 hp4 hpt4 hlp4 => ?_)
      refine zy_la rfl l0 (Or.inl ⟨_, rfl⟩) ?_
      refine zy_gI rfl h432 ?_
      refine zy_ld rfl hp4 (tr_in (by omega) (by omega)) ?_
      rw [epn]
      refine zy_ci (n := 1) (c := 3) rfl ?_
      refine zy_jt rfl (fun hne => ?_) (fun he => ?_)
      · have hne : zx_b (E (pd'.toInt.toNat - 1)) ≠ zx_b (Int32.ofNat 3) := hne
        rw [show zx_b (Int32.ofNat 3) = 2147483651 by decide] at hne
        have hnw : tr_nw E pd'.toInt.toNat = tr_nw E (pd'.toInt.toNat - 1) := by
          exact tr_nw_n1 (by omega) (by omega)
        have s4' := s4 (by omega) (by omega)
        exact at87 w2 wi (D - 1) hJ2 hR2 hTV2 ⟨h362, h372, h432, h422, h442⟩ (by rw [epn2]; omega) (Or.inr (Or.inr ⟨s4'.1, s4'.2, by omega, rfl⟩)) (by omega) (by omega) hls2
      · have he : zx_b (E (pd'.toInt.toNat - 1)) = zx_b (Int32.ofNat 3) := he
        rw [show zx_b (Int32.ofNat 3) = 2147483651 by decide] at he
        have hnw : tr_nw E pd'.toInt.toNat = tr_nw E (pd'.toInt.toNat - 1) + 1 := by
          exact tr_nw_y1 (by omega) (by omega)
        have ew1 : (wi - Int32.ofNat 1).toInt = wi.toInt - 1 := by rw [tr_sub (by omega) (by omega), z1]
        have iw1 := zx_b_int (wi - Int32.ofNat 1)
        refine zy_la rfl l0 (Or.inl ⟨_, rfl⟩) ?_
        refine zy_dup rfl ?_
        refine zy_gI rfl h422 ?_
        refine zy_ci (n := 1) (c := 1) rfl ?_
        refine zy_sub rfl ?_
        refine zy_wI (k := 42) (lo := 2147483648) (hi := 2147483655) rfl hJ2 hq1 rfl (by omega) (by omega) rfl (by decide +kernel) ?_
        intro w3 hJ3 hfr3 hl3 h423
        generalize wi - Int32.ofNat 1 = wi2 at ew1 iw1 h423
        have hE3 : tr_EW w3 q E S pd2 wi2 u := ⟨te_fa hJ2.1 hfr3 (d := ([(149, 36)], [120])) (by decide +kernel) (by decide +kernel) h362, te_fa hJ2.1 hfr3 (d := ([(149, 37)], [121])) (by decide +kernel) (by decide +kernel) h372, te_fi hJ2.1 hfr3 (d := ([(149, 43)], [])) (by decide +kernel) (by decide +kernel) h432, h423, te_fi hJ2.1 hfr3 (d := ([(149, 44)], [])) (by decide +kernel) (by decide +kernel) h442⟩
        exact at87 w3 wi2 D hJ3 (tr_RB_fr hJ2.1 hfr3 (by decide +kernel) hR2) (tr_TV_fr hJ2.1 hfr3 (by decide +kernel) hTV2) hE3 (by rw [epn2]; omega) (Or.inl ⟨s3 (by omega), by omega, rfl⟩) (by omega) i6 (by rw [hl3]; exact hls2)
  have hls0 : zx_limP w.length [(0, (.inr (.inr (.inl q))))] = true := tm_lim hlq rfl
  have hls1 : zx_limP w.length [(1, (.inl r)), (0, (.inr (.inr (.inl q))))] = true := hls0
  have go : WP (23, [(1, (.inl r)), (0, (.inr (.inr (.inl q))))], [], w, 0, 0) := loop pd.toInt.toNat Ψ w 0 0 C pd wi cd _ (by omega) (tm_W0 hw) hR hTV hold hE hnew hEI hpd1 (Int.le_refl _) hls1 rfl rfl
  show WP (0, [(0, (.inr (.inr (.inl q))))], [], w, 0, 0)
  refine zy_la (k := 0) rfl rfl (Or.inl ⟨_, rfl⟩) ?_
  refine zy_callK (a := 0) (n := 1) (st := []) (zx_Cl_le (by decide) hr) rfl rfl (Nat.le_of_ble_eq_true rfl) hls0 rfl (Nat.zero_le _) (Nat.zero_le _) ?_
  refine zy_si (k := 1) rfl ?_
  show WP (5, [(1, (.inl r)), (0, (.inr (.inr (.inl q))))], [], w, 0, 0)
  refine zy_li (k := 1) rfl rfl ?_
  refine zy_ci (n := 1) (c := 4) rfl ?_
  refine zy_jt rfl (fun _ => go) (fun _ => ?_)
  refine zy_la (k := 0) rfl rfl (Or.inl ⟨_, rfl⟩) ?_
  refine zy_callK (a := 0) (n := 1) (st := []) (zx_Cl_le (by decide) hcv) rfl rfl (Nat.le_of_ble_eq_true rfl) hls1 rfl (Nat.zero_le _) (Nat.zero_le _) ?_
  refine zy_j0 rfl (fun _ => go) (fun _ => ?_)
  refine zy_la (k := 0) rfl rfl (Or.inl ⟨_, rfl⟩) ?_
  refine zy_callD (tr_Do_le (tr_misplaced hw hq) (by decide)) (n := 1) (st := []) rfl rfl (Nat.zero_le _) hls1 rfl (tm_W0 (E := tr_Ee) hw) (by decide +kernel) (by decide +kernel) ?_
  intro a Ψ2 w2 mc2 ms2 hJ2 hle2 hfr2 hls2 hst2 hP2
  obtain ⟨ea, fk2, h42', hne⟩ := hP2
  subst ea
  obtain ⟨φ3, fk3, g1, g2, hR3⟩ := tr_RB_tok hw hfr2 (by decide +kernel) hR ⟨φ, fk2, tr_T_fr hw hfr2 (by decide +kernel) hR.2.2.2.2, Int.le_refl _, h42', fun h => absurd h hne⟩
  have e43 := tr_fi_eq hR3.2.2.2.1 h42'
  refine zy_ci (n := 1) (c := 1) rfl ?_
  exact tr_endZ ⟨_, _, _, rfl⟩ (Or.inr rfl) hJ2 ⟨_, φ3, fk3, 0, rfl, Or.inr rfl, g1, ⟨C, ua, hv, pv, dv, tm, ho, pe, cd, rf, rt, E, S, pd, wi, u, hR3, hbb, hold, tr_EW_fr hw hfr2 (by decide +kernel) hE, fun h => absurd (by rw [← e43]; exact h) hne⟩, fun h => absurd (by rw [← e43]; exact h) hne⟩
