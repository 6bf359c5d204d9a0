/-! by hand: register -/
theorem zy_ab {K : zx_K} {X : zx_X} {cap : Nat × Nat} {tab : Nat → Option zx_Q} {Q : zx_S → Prop} {pc mc ms q n : Nat} {ls : List (Nat × zx_V)} {st : List zx_V} {w : List zx_E} {i x : Int32} {g : Nat → Int32} (ht : tab pc = some zx_ab) (hq : w[q]? = some (.inr (3, n, .inl g))) (hin : zx_in i n = true) (kk : zx_wp K X cap tab Q (pc + 1, ls, st, w.set q (.inr (3, n, .inl (upd g i.toNatClampNeg (vp_nar .byte x)))), mc, ms)) : zx_wp K X cap tab Q (pc, ls, (.inl x) :: (.inl i) :: (.inr (.inr (.inl q))) :: st, w, mc, ms) := by
  refine zx_wp_pure (μ := (pc + 1, ls, st, w.set q (.inr (3, n, .inl (upd g i.toNatClampNeg (vp_nar .byte x)))), mc, ms)) ht ?_ kk
  show zx_ast 3 (vp_nar .byte) _ = _
  simp only [zx_ast, hq, zx_beqT (rfl : (3 : Nat) = 3), hin, Bool.and_self]
/-- formulas lie in their own bank's codes -/
def tr_BK (w : List zx_E) (q : Nat) : Prop := ∃ (bk : Int32) (dv rf rt : Nat → Int32), tj_fi w q 12 39 bk ∧ tj_fa w q 12 14 2 dv ∧ tj_fa w q 12 26 24 rf ∧ tj_fa w q 12 27 24 rt ∧ ∀ r : Nat, (r : Int) < 2 * (dv bk.toInt.toNat).toInt → 640 * bk.toInt ≤ (rf (12 * bk.toInt.toNat + r)).toInt ∧ (rt (12 * bk.toInt.toNat + r)).toInt ≤ 640 * bk.toInt + 640
theorem tr_ro_old {b : Nat} {hv pv dv tm ho pe cd rf rt hv0 pv0 dv0 tm0 ho0 pe0 cd0 rf0 rt0 : Nat → Int32} (h : tr_old b hv pv dv tm ho pe cd rf rt hv0 pv0 dv0 tm0 ho0 pe0 cd0 rf0 rt0) (h8 : (hv0 b).toInt ≤ 8) (h4 : (pv0 b).toInt ≤ 4) (h6 : (dv0 b).toInt ≤ 6) (hBK : ∀ r : Nat, (r : Int) < 2 * (dv0 b).toInt → 640 * (b : Int) ≤ (rf0 (12 * b + r)).toInt ∧ (rt0 (12 * b + r)).toInt ≤ 640 * (b : Int) + 640) (hro : tj_ro b hv0 pv0 dv0 tm0 ho0 pe0 cd0 rf0 rt0) : tj_ro b hv pv dv tm ho pe cd rf rt := by
  obtain ⟨o1, o2, o3, o4, o5, o6, o7, o8, o9⟩ := h
  obtain ⟨r1, r2, r3⟩ := hro
  refine ⟨fun p hp => ?_, fun h p hh hp hpe => ?_, fun r hr => ?_⟩
  · rw [o2] at hp
    rw [o4 p (by omega)]
    exact r1 p hp
  · rw [o1] at hh
    rw [o2] at hp
    rw [o6 h (by omega)] at hpe
    obtain ⟨k, k1, k2⟩ := r2 h p hh hp hpe
    refine ⟨k, k1, ?_⟩
    rw [show 3 * (4 * b + p) + k = 12 * b + (3 * p + k) by omega, o5 (3 * p + k) (by omega), show 12 * b + (3 * p + k) = 3 * (4 * b + p) + k by omega]
    exact k2
  · rw [o3] at hr
    obtain ⟨g1, g2, g3⟩ := r3 r hr
    obtain ⟨b1, b2⟩ := hBK r hr
    rw [o8 r (by omega), o9 r (by omega)]
    refine ⟨g1, g2, tr_cd_eq (fun i h1 h2 => ?_) g3⟩
    rw [show i = 640 * b + (i - 640 * b) by omega]
    exact (o7 (i - 640 * b) (by omega)).symm
def tr_Erg : tj_Ef := ([(149, 2), (149, 3), (149, 39), (149, 40), (149, 4), (149, 5), (149, 6), (149, 7), (149, 8), (149, 9), (149, 10), (149, 41), (149, 42), (149, 43), (149, 44), (149, 51), (149, 52), (149, 58), (149, 71), (149, 56)], [102, 103, 104, 105, 106, 107, 108, 142, 113, 144, 146, 109, 110, 111, 112, 143, 147, 114, 115, 116, 117, 118, 119, 120, 121, 137, 138, 148, 139, 145])
def tr_dS0 : tj_Ef := (tr_dB.1 ++ [(149, 58), (149, 57)], tr_dB.2 ++ [126])
set_option maxHeartbeats 4000000 in
set_option maxRecDepth 20000 in
theorem tr_register {Ψ : List Nat} {w : List zx_E} {q : Nat} (hw : tj_wt tj_Lam Ψ w) (hq : Ψ[q]? = some 149) (h7 : tj_sm7 (.inr (.inr (.inl q))) w) (hBK : tr_BK w q) : tr_Do 11 195 [(.inr (.inr (.inl q)))] tr_Erg Ψ w (fun a _ w' => (∃ v : Int32, a = some (.inl v)) ∧ tj_sm7 (.inr (.inr (.inl q))) w' ∧ tr_BK w' q ∧ (tj_sm8 (.inr (.inr (.inl q))) w → tj_sm8 (.inr (.inr (.inl q))) w')) := by
  obtain ⟨fs, k0, -, -⟩ := tr_ob hw hq
  have hlq : q < w.length := (List.getElem?_eq_some_iff.mp k0).1
  obtain ⟨bk, hv, pv, dv, tm, ho, pe, cd, rf, rt, hR⟩ := tr_sm7 rfl h7
  obtain ⟨r39, r11, r13, r14, r24, r23, r19, r34, r26, r27, hbk, hro⟩ := hR
  obtain ⟨bk', dv', rf', rt', y39, y14, y26, y27, hB⟩ := hBK
  rw [tr_fi_eq y39 r39, tr_fa_eq y14 r14, tr_fa_eq y26 r26, tr_fa_eq y27 r27] at hB
  obtain ⟨rb0, r40, -, -⟩ := tr_exI (k := 40) (lo := 2147483648) (hi := 2147483649) hw hq rfl
  obtain ⟨m58, h58, mb1, mb2⟩ := tr_exI (k := 58) (lo := 2147483648) (hi := 2147483662) hw hq rfl
  obtain ⟨g57, h57⟩ := tr_exA (k := 57) (l := 126) (n := 14) (s := [(14, 2147483648, 2147483653)]) hw hq rfl rfl
  have ibk := zx_b_int bk
  have b11 := tr_bd1 (l := 103) (n := 2) (lo := 2147483648) (hi := 2147483656) hw hq rfl rfl r11 (j := bk.toInt.toNat) (by omega)
  have b13 := tr_bd1 (l := 105) (n := 2) (lo := 2147483648) (hi := 2147483652) hw hq rfl rfl r13 (j := bk.toInt.toNat) (by omega)
  have b14 := tr_bd1 (l := 106) (n := 2) (lo := 2147483648) (hi := 2147483654) hw hq rfl rfl r14 (j := bk.toInt.toNat) (by omega)
  have i11 := zx_b_int (hv bk.toInt.toNat)
  have i13 := zx_b_int (pv bk.toInt.toNat)
  have i14 := zx_b_int (dv bk.toInt.toNat)
  obtain ⟨Z, Z0, Z1, Z2, Z3, Z4, Z5, Z6, Z7, Z8⟩ : ∃ Z : Nat → Nat → Int32, Z 0 = hv ∧ Z 1 = pv ∧ Z 2 = dv ∧ Z 3 = tm ∧ Z 4 = ho ∧ Z 5 = pe ∧ Z 6 = cd ∧ Z 7 = rf ∧ Z 8 = rt := ⟨fun i => match i with
    | 0 => hv
    | 1 => pv
    | 2 => dv
    | 3 => tm
    | 4 => ho
    | 5 => pe
    | 6 => cd
    | 7 => rf
    | _ => rt, rfl, rfl, rfl, rfl, rfl, rfl, rfl, rfl, rfl⟩
  have z0 : (Int32.ofNat 0).toInt = 0 := by decide
  have z1 : (Int32.ofNat 1).toInt = 1 := by decide
  let P : Option zx_V → List Nat → List zx_E → Prop := fun a _ w' => (∃ v : Int32, a = some (.inl v)) ∧ tj_sm7 (.inr (.inr (.inl q))) w' ∧ tr_BK w' q ∧ (tj_sm8 (.inr (.inr (.inl q))) w → tj_sm8 (.inr (.inr (.inl q))) w')
  refine tr_meth (P := P) (d := 10) (dt := zx_d_X12_register) (by rw [← zx_q_X12_register]; rfl) (by rw [(by decide +kernel : zx_rc 195 = 13)]; exact ⟨q, _, fs, rfl, k0⟩) (by decide +kernel : 1 ≤ zx_mx' 195) ?_
  let WP : zx_S → Prop := fun σ => zx_wp (zx_Cl zx_mt zx_rc zx_mx' 10) none (tj_P tj_c1 w, tj_P tj_c2 w) (zx_find (zx_cT zx_d_X12_register)) (tr_end zx_d_X12_register tr_Erg Ψ w P) σ
  let J : List Nat → List zx_E → Nat → Nat → Prop := fun Ψ' w' mc ms => tj_W tj_Lam (tj_P tj_c1 w, tj_P tj_c2 w) tr_Erg Ψ w Ψ' w' mc ms
  let S0 : List zx_E → Prop := fun w' => tr_B w' q bk rb0 hv pv dv tm ho pe cd rf rt ∧ tj_fi w' q 12 58 m58 ∧ tj_fa w' q 12 57 14 g57
  have S0fr : ∀ {w1 w2 : List zx_E} {e : tj_Ef}, J Ψ w1 0 0 → tj_fr e Ψ w1 w2 → tj_dj tr_dS0 e = true → S0 w1 → S0 w2 := fun hJ hfr hd h => ⟨tr_B_fr hJ.1 hfr (tm_djs hd (by decide) (by decide)) h.1, te_fi hJ.1 hfr hd (by decide +kernel) h.2.1, te_fa hJ.1 hfr hd (by decide +kernel) h.2.2⟩
  -- a fault: all stays
  have fin0 : ∀ (Ψ' : List Nat) (w' : List zx_E) (mc ms : Nat) (φ' : Int) (fk' rb : Int32) (ls : List (Nat × zx_V)), J Ψ' w' mc ms → tr_PS w' q φ' fk' bk rb 0 Z → tj_fi w' q 12 58 m58 → tj_fa w' q 12 57 14 g57 → fk'.toInt ≠ 0 → zx_limP w'.length ls = true → zx_look 0 ls = some (.inr (.inr (.inl q))) → WP (95, ls, [], w', mc, ms) := by
    intro Ψ' w' mc ms φ' fk' rb ls hJ hPS h58' h57' hne hls l0
    obtain ⟨C, ua, hv', pv', dv', tm', ho', pe', cd', rf', rt', hR', hbb, hold, -⟩ := hPS
    rw [Z0, Z1, Z2, Z3, Z4, Z5, Z6, Z7, Z8] at hold
    obtain ⟨gv, hgv, hgv'⟩ := tr_isGoodK hR'.2.2.2.1
    refine zy_la rfl l0 (Or.inl ⟨_, rfl⟩) ?_
    refine zy_callK (a := 0) (n := 1) (st := []) (zx_Cl_le (by decide) hgv) rfl rfl (Nat.le_of_ble_eq_true rfl) hls rfl (by have := hJ.2.1; omega) (by have := hJ.2.1; omega) ?_
    rcases hgv' with ⟨ev, hz⟩ | ⟨ev, hz⟩
    · exact absurd hz hne
    subst ev
    refine zy_j0 rfl (fun h => absurd tr_z0 h) (fun _ => ?_)
    refine zy_ci (n := 1) (c := 4294967295) rfl ?_
    obtain ⟨c39, c40, c11, c13, c14, c24, c23, c19, c34, c26, c27⟩ := hR'.1
    have hro' := tr_ro_old hold (by omega) (by omega) (by omega) (fun r hr => by have := hB r hr; omega) hro
    have hold' := hold
    obtain ⟨o1, o2, o3, o4, o5, o6, o7, o8, o9⟩ := hold'
    refine tr_endI ⟨_, _, _, rfl⟩ hJ ⟨⟨_, rfl⟩, ⟨q, bk, hv', pv', dv', tm', ho', pe', cd', rf', rt', rfl, c39, c11, c13, c14, c24, c23, c19, c34, c26, c27, hbk, hro'⟩, ⟨bk, dv', rf', rt', c39, c14, c26, c27, fun r hr => ?_⟩, fun h8 => ?_⟩
    · rw [o3] at hr
      rw [o8 r (by omega), o9 r (by omega)]
      exact hB r hr
    · obtain ⟨q8, bk8, m8, dv8, g8, x1, x39, x58, x14, x57, hx⟩ := h8
      cases x1
      rw [tr_fi_eq x39 r39, tr_fi_eq x58 h58, tr_fa_eq x14 r14, tr_fa_eq x57 h57] at hx
      exact ⟨q, bk, m58, dv', g57, rfl, c39, h58', c14, h57', fun i hi => by rw [o3]; exact hx i hi⟩
  -- all is well: the new bank counts
  have fin1 : ∀ (Ψ' : List Nat) (w' : List zx_E) (mc ms : Nat) (φ' : Int) (fk' rb : Int32) (ls : List (Nat × zx_V)), J Ψ' w' mc ms → tr_PS w' q φ' fk' bk rb 0 Z → fk'.toInt = 0 → zx_limP w'.length ls = true → zx_look 0 ls = some (.inr (.inr (.inl q))) → WP (95, ls, [], w', mc, ms) := by
    intro Ψ' w' mc ms φ' fk' rb ls hJ hPS hz0 hls l0
    have hq1 := hJ.2.2.1 _ _ hq
    obtain ⟨C, ua, hv', pv', dv', tm', ho', pe', cd', rf', rt', hR', hbb, -, hnew⟩ := hPS
    obtain ⟨hnew, hC1, hbud⟩ := hnew hz0
    have hb := hbb
    unfold tr_bb at hb
    have irb := zx_b_int rb
    have hφ := tr_T_le hR'.2.2.2.2
    have bua := tr_bd1 (l := 107) (n := 2) (lo := 2147483648) (hi := 2147483738) hJ.1 hq1 rfl rfl hR'.2.2.1 (j := rb.toInt.toNat) (by omega)
    have iua := zx_b_int (ua rb.toInt.toNat)
    have bdv := tr_bd1 (l := 106) (n := 2) (lo := 2147483648) (hi := 2147483654) hJ.1 hq1 rfl rfl hR'.1.2.2.2.2.1 (j := rb.toInt.toNat) (by omega)
    have idv := zx_b_int (dv' rb.toInt.toNat)
    obtain ⟨gv, hgv, hgv'⟩ := tr_isGoodK hR'.2.2.2.1
    refine zy_la rfl l0 (Or.inl ⟨_, rfl⟩) ?_
    refine zy_callK (a := 0) (n := 1) (st := []) (zx_Cl_le (by decide) hgv) rfl rfl (Nat.le_of_ble_eq_true rfl) hls rfl (by have := hJ.2.1; omega) (by have := hJ.2.1; omega) ?_
    rcases hgv' with ⟨ev, hz⟩ | ⟨ev, hz⟩
    rotate_left
    · exact absurd hz0 hz
    subst ev
    refine zy_j0 rfl (fun _ => ?_) (fun h => absurd h tr_no1)
    obtain ⟨c39, c40, c11, c13, c14, c24, c23, c19, c34, c26, c27⟩ := hR'.1
    refine zy_la rfl l0 (Or.inl ⟨_, rfl⟩) ?_
    refine zy_la rfl l0 (Or.inl ⟨_, rfl⟩) ?_
    refine zy_gI rfl c40 ?_
    refine zy_wI (k := 39) (lo := 2147483648) (hi := 2147483649) rfl hJ hq1 rfl (by omega) (by omega) rfl (by decide +kernel) ?_
    intro w2 hJ2 hfr2 hl2 h392
    have hls2 : zx_limP w2.length ls = true := by rw [hl2]; exact hls
    refine zy_la rfl l0 (Or.inl ⟨_, rfl⟩) ?_
    refine zy_callD (tr_Do_le (tr_startAnew hJ2.1 hq1) (by decide)) (n := 1) (st := []) rfl rfl (Nat.zero_le _) hls2 rfl hJ2 (by decide +kernel) (by decide +kernel) ?_
    intro a Ψ3 w3 mc3 ms3 hJ3 hle3 hfr3 hls3 hst3 hP3
    obtain ⟨ea, h583⟩ := hP3
    subst ea
    have hq3 := hle3 _ _ hq1
    have h393 := te_fi hJ2.1 hfr3 (d := ([(149, 39)], [])) (by decide +kernel) (by decide +kernel) h392
    have d11 := te_fa hJ2.1 hfr3 (d := ([(149, 11)], [103])) (by decide +kernel) (by decide +kernel) (te_fa hJ.1 hfr2 (d := ([(149, 11)], [103])) (by decide +kernel) (by decide +kernel) c11)
    have d13 := te_fa hJ2.1 hfr3 (d := ([(149, 13)], [105])) (by decide +kernel) (by decide +kernel) (te_fa hJ.1 hfr2 (d := ([(149, 13)], [105])) (by decide +kernel) (by decide +kernel) c13)
    have d14 := te_fa hJ2.1 hfr3 (d := ([(149, 14)], [106])) (by decide +kernel) (by decide +kernel) (te_fa hJ.1 hfr2 (d := ([(149, 14)], [106])) (by decide +kernel) (by decide +kernel) c14)
    have d24 := te_fa hJ2.1 hfr3 (d := ([(149, 24)], [116])) (by decide +kernel) (by decide +kernel) (te_fa hJ.1 hfr2 (d := ([(149, 24)], [116])) (by decide +kernel) (by decide +kernel) c24)
    have d23 := te_fa hJ2.1 hfr3 (d := ([(149, 23)], [115])) (by decide +kernel) (by decide +kernel) (te_fa hJ.1 hfr2 (d := ([(149, 23)], [115])) (by decide +kernel) (by decide +kernel) c23)
    have d19 := te_fa hJ2.1 hfr3 (d := ([(149, 19)], [111])) (by decide +kernel) (by decide +kernel) (te_fa hJ.1 hfr2 (d := ([(149, 19)], [111])) (by decide +kernel) (by decide +kernel) c19)
    have d34 := te_fa hJ2.1 hfr3 (d := ([(149, 34)], [118])) (by decide +kernel) (by decide +kernel) (te_fa hJ.1 hfr2 (d := ([(149, 34)], [118])) (by decide +kernel) (by decide +kernel) c34)
    have d26 := te_fa hJ2.1 hfr3 (d := ([(149, 26)], [137])) (by decide +kernel) (by decide +kernel) (te_fa hJ.1 hfr2 (d := ([(149, 26)], [137])) (by decide +kernel) (by decide +kernel) c26)
    have d27 := te_fa hJ2.1 hfr3 (d := ([(149, 27)], [138])) (by decide +kernel) (by decide +kernel) (te_fa hJ.1 hfr2 (d := ([(149, 27)], [138])) (by decide +kernel) (by decide +kernel) c27)
    refine zy_la rfl l0 (Or.inl ⟨_, rfl⟩) ?_
    refine zy_gA rfl d11 (fun p hp hpt hlp => ?_)
    refine zy_la rfl l0 (Or.inl ⟨_, rfl⟩) ?_
    refine zy_gI rfl h393 ?_
    refine zy_ld rfl hp (tr_in (by omega) (by omega)) ?_
    obtain ⟨n1, n2, n3, n4⟩ := hnew
    obtain ⟨g573, h573⟩ := tr_exA (k := 57) (l := 126) (n := 14) (s := [(14, 2147483648, 2147483653)]) hJ3.1 hq3 rfl rfl
    refine tr_endI ⟨_, _, _, rfl⟩ hJ3 ⟨⟨_, rfl⟩, ⟨q, rb, hv', pv', dv', tm', ho', pe', cd', rf', rt', rfl, h393, d11, d13, d14, d24, d23, d19, d34, d26, d27, by omega, n1, n2, fun r hr => ?_⟩, ⟨rb, dv', rf', rt', h393, d14, d26, d27, fun r hr => ?_⟩, fun _ => ⟨q, rb, Int32.ofNat 0, dv', g573, rfl, h393, h583, d14, h573, fun i hi => by omega⟩⟩
    · obtain ⟨g1, g2, g3, g4⟩ := n4 r (by omega)
      exact ⟨by omega, by omega, g4⟩
    · obtain ⟨g1, g2, g3, g4⟩ := n4 r (by omega)
      exact ⟨by omega, by omega⟩
  -- lines
  have lines : ∀ (n : Nat) (Ψ' : List Nat) (w' : List zx_E) (mc ms : Nat) (φ' : Int) (fk' rb : Int32) (ls : List (Nat × zx_V)), (1602 - φ').toNat = n → J Ψ' w' mc ms → tr_PS w' q φ' fk' bk rb 0 Z → tj_fi w' q 12 58 m58 → tj_fa w' q 12 57 14 g57 → zx_limP w'.length ls = true → zx_look 0 ls = some (.inr (.inr (.inl q))) → WP (74, ls, [], w', mc, ms) := by
    intro n
    induction n using Nat.strongRecOn with
    | _ n ih =>
      intro Ψ' w' mc ms φ' fk' rb ls hn hJ hPS h58' h57' hls l0
      have hq1 := hJ.2.2.1 _ _ hq
      obtain ⟨x4, xT, -, -⟩ := tr_PS_4 hPS
      have hφ := tr_T_le xT
      obtain ⟨gv, hgv, hgv'⟩ := tr_isGoodK x4
      refine zy_la rfl l0 (Or.inl ⟨_, rfl⟩) ?_
      refine zy_callK (a := 0) (n := 1) (st := []) (zx_Cl_le (by decide) hgv) rfl rfl (Nat.le_of_ble_eq_true rfl) hls rfl (by have := hJ.2.1; omega) (by have := hJ.2.1; omega) ?_
      rcases hgv' with ⟨ev, hz⟩ | ⟨ev, hz⟩
      rotate_left
      · subst ev
        exact zy_j0 rfl (fun _ => fin0 Ψ' w' mc ms φ' fk' rb ls hJ hPS h58' h57' hz hls l0) (fun h => absurd tr_z0 h)
      subst ev
      refine zy_j0 rfl (fun h => absurd h tr_no1) (fun _ => ?_)
      obtain ⟨tk, h8, -, -⟩ := tr_exI (k := 8) (lo := 0) (hi := 4294967295) hJ.1 hq1 rfl
      refine zy_la rfl l0 (Or.inl ⟨_, rfl⟩) ?_
      refine zy_gI rfl h8 ?_
      refine zy_j0 rfl (fun _ => fin1 Ψ' w' mc ms φ' fk' rb ls hJ hPS hz hls l0) (fun _ => ?_)
      refine zy_la rfl l0 (Or.inl ⟨_, rfl⟩) ?_
      refine zy_callD (tr_Do_le (tr_readLine hJ.1 hq1 hPS hz) (by decide)) (n := 1) (st := []) rfl rfl (Nat.zero_le _) hls rfl hJ (by decide +kernel) (by decide +kernel) ?_
      intro a Ψ2 w2 mc2 ms2 hJ2 hle2 hfr2 hls2 hst2 hP2
      obtain ⟨ea, φ2, fk2, g1, g2, hPS2⟩ := hP2
      subst ea
      have h582 := te_fi hJ.1 hfr2 (d := ([(149, 58)], [])) (by decide +kernel) (by decide +kernel) h58'
      have h572 := te_fa hJ.1 hfr2 (d := ([(149, 57)], [126])) (by decide +kernel) (by decide +kernel) h57'
      obtain ⟨y4, yT, -, -⟩ := tr_PS_4 hPS2
      have hφ2 := tr_T_le yT
      refine zy_goto rfl ?_
      by_cases hz2 : fk2.toInt = 0
      · have := g2 hz2
        exact ih (1602 - φ2).toNat (by omega) Ψ2 w2 mc2 ms2 φ2 fk2 rb ls rfl hJ2 hPS2 h582 h572 hls2 l0
      · obtain ⟨gv2, hgv2, hgv2'⟩ := tr_isGoodK y4
        refine zy_la rfl l0 (Or.inl ⟨_, rfl⟩) ?_
        refine zy_callK (a := 0) (n := 1) (st := []) (zx_Cl_le (by decide) hgv2) rfl rfl (Nat.le_of_ble_eq_true rfl) hls2 rfl (by have := hJ2.2.1; omega) (by have := hJ2.2.1; omega) ?_
        rcases hgv2' with ⟨ev, hz3⟩ | ⟨ev, hz3⟩
        · exact absurd hz3 hz2
        subst ev
        exact zy_j0 rfl (fun _ => fin0 Ψ2 w2 mc2 ms2 φ2 fk2 rb ls hJ2 hPS2 h582 h572 hz2 hls2 l0) (fun h => absurd tr_z0 h)
  -- behind the copy
  have at46 : ∀ (w' : List zx_E) (tp : Int32) (ls : List (Nat × zx_V)), J Ψ w' 0 0 → S0 w' → tj_fi w' q 12 4 (Int32.ofNat 0) → tj_fi w' q 12 3 tp → w'.length = w.length → zx_limP w.length ls = true → zx_look 0 ls = some (.inr (.inr (.inl q))) → WP (46, ls, [], w', 0, 0) := by
    intro w' tp ls hJ4 hS4 h44 h34 hl4 hls l0
    refine zy_la rfl l0 (Or.inl ⟨_, rfl⟩) ?_
    refine zy_ci (n := 1) (c := 0) rfl ?_
    refine zy_wI (k := 2) (lo := 2147483648) (hi := 2147485248) rfl hJ4 hq rfl (by decide) (by decide) rfl (by decide +kernel) ?_
    intro w5 hJ5 hfr5 hl5 _
    have hS5 := S0fr hJ4 hfr5 (by decide +kernel) hS4
    have h45 := te_fi hJ4.1 hfr5 (d := ([(149, 4)], [])) (by decide +kernel) (by decide +kernel) h44
    have h35 := te_fi hJ4.1 hfr5 (d := ([(149, 3)], [])) (by decide +kernel) (by decide +kernel) h34
    refine zy_la rfl l0 (Or.inl ⟨_, rfl⟩) ?_
    refine zy_ci (n := 1) (c := 0) rfl ?_
    refine zy_wI (k := 7) (lo := 2147483648) (hi := 2147485249) rfl hJ5 hq rfl (by decide) (by decide) rfl (by decide +kernel) ?_
    intro w6 hJ6 hfr6 hl6 h76
    have hS6 := S0fr hJ5 hfr6 (by decide +kernel) hS5
    have h46 := te_fi hJ5.1 hfr6 (d := ([(149, 4)], [])) (by decide +kernel) (by decide +kernel) h45
    have h36 := te_fi hJ5.1 hfr6 (d := ([(149, 3)], [])) (by decide +kernel) (by decide +kernel) h35
    have erb : (Int32.ofNat 1 - bk).toInt = 1 - bk.toInt := by rw [tr_sub (by omega) (by omega), z1]
    have irb := zx_b_int (Int32.ofNat 1 - bk)
    refine zy_la rfl l0 (Or.inl ⟨_, rfl⟩) ?_
    refine zy_ci (n := 1) (c := 1) rfl ?_
    refine zy_la rfl l0 (Or.inl ⟨_, rfl⟩) ?_
    refine zy_gI rfl hS6.1.1 ?_
    refine zy_sub rfl ?_
    refine zy_wI (k := 40) (lo := 2147483648) (hi := 2147483649) rfl hJ6 hq rfl (by omega) (by omega) rfl (by decide +kernel) ?_
    intro w7 hJ7 hfr7 hl7 h407
    generalize Int32.ofNat 1 - bk = rb at erb irb h407
    have hbb : tr_bb bk rb := by
      unfold tr_bb
      omega
    obtain ⟨⟨c39, c40, c11, c13, c14, c24, c23, c19, c34, c26, c27⟩, c58, c57⟩ := hS6
    have hB7 : tr_B w7 q bk rb hv pv dv tm ho pe cd rf rt := ⟨te_fi hJ6.1 hfr7 (d := ([(149, 39)], [])) (by decide +kernel) (by decide +kernel) c39, h407, te_fa hJ6.1 hfr7 (d := ([(149, 11)], [103])) (by decide +kernel) (by decide +kernel) c11, te_fa hJ6.1 hfr7 (d := ([(149, 13)], [105])) (by decide +kernel) (by decide +kernel) c13, te_fa hJ6.1 hfr7 (d := ([(149, 14)], [106])) (by decide +kernel) (by decide +kernel) c14, te_fa hJ6.1 hfr7 (d := ([(149, 24)], [116])) (by decide +kernel) (by decide +kernel) c24, te_fa hJ6.1 hfr7 (d := ([(149, 23)], [115])) (by decide +kernel) (by decide +kernel) c23, te_fa hJ6.1 hfr7 (d := ([(149, 19)], [111])) (by decide +kernel) (by decide +kernel) c19, te_fa hJ6.1 hfr7 (d := ([(149, 34)], [118])) (by decide +kernel) (by decide +kernel) c34, te_fa hJ6.1 hfr7 (d := ([(149, 26)], [137])) (by decide +kernel) (by decide +kernel) c26, te_fa hJ6.1 hfr7 (d := ([(149, 27)], [138])) (by decide +kernel) (by decide +kernel) c27⟩
    have h587 := te_fi hJ6.1 hfr7 (d := ([(149, 58)], [])) (by decide +kernel) (by decide +kernel) c58
    have h577 := te_fa hJ6.1 hfr7 (d := ([(149, 57)], [126])) (by decide +kernel) (by decide +kernel) c57
    have h47 := te_fi hJ6.1 hfr7 (d := ([(149, 4)], [])) (by decide +kernel) (by decide +kernel) h46
    have h37 := te_fi hJ6.1 hfr7 (d := ([(149, 3)], [])) (by decide +kernel) (by decide +kernel) h36
    have h77 := te_fi hJ6.1 hfr7 (d := ([(149, 7)], [])) (by decide +kernel) (by decide +kernel) h76
    obtain ⟨ua, h15⟩ := tr_exA (k := 15) (l := 107) (n := 2) (s := [(2, 2147483648, 2147483738)]) hJ7.1 hq rfl rfl
    have hls7 : zx_limP w7.length ls = true := by rw [hl7, hl6, hl5, hl4]; exact hls
    refine zy_la rfl l0 (Or.inl ⟨_, rfl⟩) ?_
    refine zy_callD (tr_Do_le (tr_clearBank hJ7.1 hq hB7.2.1 hB7.2.2.1 hB7.2.2.2.1 hB7.2.2.2.2.1 h15) (by decide)) (n := 1) (st := []) rfl rfl (Nat.zero_le _) hls7 rfl hJ7 (by decide +kernel) (by decide +kernel) ?_
    intro a Ψ8 w8 mc8 ms8 hJ8 hle8 hfr8 hls8 hst8 hP8
    obtain ⟨ea, ⟨C, h418, eC⟩, h118, h138, h148, h158⟩ := hP8
    subst ea
    have hq8 := hle8 _ _ hq
    obtain ⟨e39, e40, e11, e13, e14, e24, e23, e19, e34, e26, e27⟩ := hB7
    have hB8 : tr_B w8 q bk rb (upd hv rb.toInt.toNat (Int32.ofNat 0)) (upd pv rb.toInt.toNat (Int32.ofNat 0)) (upd dv rb.toInt.toNat (Int32.ofNat 0)) tm ho pe cd rf rt := ⟨te_fi hJ7.1 hfr8 (d := ([(149, 39)], [])) (by decide +kernel) (by decide +kernel) e39, te_fi hJ7.1 hfr8 (d := ([(149, 40)], [])) (by decide +kernel) (by decide +kernel) e40, h118, h138, h148, te_fa hJ7.1 hfr8 (d := ([(149, 24)], [116])) (by decide +kernel) (by decide +kernel) e24, te_fa hJ7.1 hfr8 (d := ([(149, 23)], [115])) (by decide +kernel) (by decide +kernel) e23, te_fa hJ7.1 hfr8 (d := ([(149, 19)], [111])) (by decide +kernel) (by decide +kernel) e19, te_fa hJ7.1 hfr8 (d := ([(149, 34)], [118])) (by decide +kernel) (by decide +kernel) e34, te_fa hJ7.1 hfr8 (d := ([(149, 26)], [137])) (by decide +kernel) (by decide +kernel) e26, te_fa hJ7.1 hfr8 (d := ([(149, 27)], [138])) (by decide +kernel) (by decide +kernel) e27⟩
    have h588 := te_fi hJ7.1 hfr8 (d := ([(149, 58)], [])) (by decide +kernel) (by decide +kernel) h587
    have h578 := te_fa hJ7.1 hfr8 (d := ([(149, 57)], [126])) (by decide +kernel) (by decide +kernel) h577
    have h48 := te_fi hJ7.1 hfr8 (d := ([(149, 4)], [])) (by decide +kernel) (by decide +kernel) h47
    have h38 := te_fi hJ7.1 hfr8 (d := ([(149, 3)], [])) (by decide +kernel) (by decide +kernel) h37
    have h78 := te_fi hJ7.1 hfr8 (d := ([(149, 7)], [])) (by decide +kernel) (by decide +kernel) h77
    obtain ⟨tx, h18⟩ := tr_exY (k := 1) (kd := 3) (l := 102) (n := 1600) (s := [(1600, 2147483520, 2147483775)]) hJ8.1 hq8 rfl rfl (Or.inr rfl)
    have bsz := tr_bdI (lo := 2147483648) (hi := 2147485248) hJ8.1 hq8 rfl h38
    have isz := zx_b_int tp
    refine zy_la rfl l0 (Or.inl ⟨_, rfl⟩) ?_
    refine zy_callD (tr_Do_le (tr_goOn hJ8.1 hq8 h38 h78 h18 (by omega)) (by decide)) (n := 1) (st := []) rfl rfl (Nat.zero_le _) hls8 rfl hJ8 (by decide +kernel) (by decide +kernel) ?_
    intro a Ψ9 w9 mc9 ms9 hJ9 hle9 hfr9 hls9 hst9 hP9
    obtain ⟨ea, en9, at9, tk9, nm9, hV9, hti9, -, -⟩ := hP9
    subst ea
    have hT9 : tr_T w9 q (tr_ph at9 tk9) := ⟨tx, tp, en9, at9, tk9, nm9, ⟨hV9, hti9⟩, rfl⟩
    have hφ9 := tr_T_le hT9
    refine lines _ Ψ9 w9 mc9 ms9 (tr_ph at9 tk9) (Int32.ofNat 0) rb ls rfl hJ9 ⟨C, _, _, _, _, tm, ho, pe, cd, rf, rt, ⟨tr_B_fr hJ8.1 hfr9 (by decide +kernel) hB8, te_fi hJ8.1 hfr9 (d := ([(149, 41)], [])) (by decide +kernel) (by decide +kernel) h418, te_fa hJ8.1 hfr9 (d := ([(149, 15)], [107])) (by decide +kernel) (by decide +kernel) h158, te_fi hJ8.1 hfr9 (d := ([(149, 4)], [])) (by decide +kernel) (by decide +kernel) h48, hT9⟩, hbb, ?_, fun _ => ⟨⟨fun p hp => ?_, fun h p hh hp hpe => ?_, fun h h8 hh => ?_, fun r hr => ?_⟩, by omega, ?_⟩⟩ (te_fi hJ8.1 hfr9 (d := ([(149, 58)], [])) (by decide +kernel) (by decide +kernel) h588) (te_fa hJ8.1 hfr9 (d := ([(149, 57)], [126])) (by decide +kernel) (by decide +kernel) h578) hls9 l0
    · rw [Z0, Z1, Z2, Z3, Z4, Z5, Z6, Z7, Z8]
      have hne : bk.toInt.toNat ≠ rb.toInt.toNat := by omega
      exact ⟨tg_upd_ne hne, tg_upd_ne hne, tg_upd_ne hne, fun _ _ => rfl, fun _ _ => rfl, fun _ _ => rfl, fun _ _ => rfl, fun _ _ => rfl, fun _ _ => rfl⟩
    · rw [tg_upd_eq, z0] at hp
      omega
    · rw [tg_upd_eq, z0] at hh
      omega
    · rw [tg_upd_eq, z0] at hh
      omega
    · rw [tg_upd_eq, z0] at hr
      have hr : r < 0 := hr
      omega
    · rw [tg_upd_eq, z0]
      omega
  -- the text
  have copy : ∀ (n : Nat) (k tp : Int32) (w' : List zx_E) (ls : List (Nat × zx_V)), k.toInt + n = tp.toInt → 0 ≤ k.toInt → tp.toInt ≤ 1600 → J Ψ w' 0 0 → S0 w' → tj_fi w' q 12 4 (Int32.ofNat 0) → tj_fi w' q 12 3 tp → w'.length = w.length → zx_limP w.length ls = true → zx_look 0 ls = some (.inr (.inr (.inl q))) → zx_look 1 ls = some (.inl k) → WP (20, ls, [], w', 0, 0) := by
    intro n
    induction n with
    | zero =>
      intro k tp w' ls hn hk0 ht hJ4 hS4 h44 h34 hl4 hls l0 l1
      have ik := zx_b_int k
      have itp := zx_b_int tp
      refine zy_li rfl l1 ?_
      refine zy_la rfl l0 (Or.inl ⟨_, rfl⟩) ?_
      refine zy_gI rfl h34 ?_
      refine zy_jt rfl (fun _ => at46 w' tp ls hJ4 hS4 h44 h34 hl4 hls l0) (fun h => ?_)
      have h : zx_b k < zx_b tp := h
      omega
    | succ n ih =>
      intro k tp w' ls hn hk0 ht hJ4 hS4 h44 h34 hl4 hls l0 l1
      have ik := zx_b_int k
      have itp := zx_b_int tp
      refine zy_li rfl l1 ?_
      refine zy_la rfl l0 (Or.inl ⟨_, rfl⟩) ?_
      refine zy_gI rfl h34 ?_
      refine zy_jt rfl (fun h => ?_) (fun _ => ?_)
      · have h : zx_b tp ≤ zx_b k := h
        omega
      obtain ⟨tx, h1⟩ := tr_exY (k := 1) (kd := 3) (l := 102) (n := 1600) (s := [(1600, 2147483520, 2147483775)]) hJ4.1 hq rfl rfl (Or.inr rfl)
      obtain ⟨ta, h0⟩ := tr_exY (k := 0) (kd := 3) (l := 101) (n := 1620) (s := [(1620, 2147483520, 2147483775)]) hJ4.1 hq rfl rfl (Or.inr rfl)
      refine zy_la rfl l0 (Or.inl ⟨_, rfl⟩) ?_
      refine zy_gY rfl h1 (fun p hp hpt hlp => ?_)
      refine zy_li rfl l1 ?_
      refine zy_la rfl l0 (Or.inl ⟨_, rfl⟩) ?_
      refine zy_gY rfl h0 (fun p2 hp2 hpt2 hlp2 => ?_)
      refine zy_li rfl l1 ?_
      refine zy_ldb rfl hp2 (tr_in hk0 (by omega)) ?_
      generalize ta k.toNatClampNeg = x
      obtain ⟨fs4, k04, kg4⟩ := id hpt
      have hbx : 2147483520 ≤ zx_b (vp_nar .byte x) ∧ zx_b (vp_nar .byte x) ≤ 2147483775 := by
        rw [vp_nar_byte]
        exact tj_uv_ok (n := 2) (la := 0) (ha := 4294967295) (Nat.zero_le _) (by have := tj_b_lt x; omega)
      obtain ⟨a1, a2, a3, a4, a5⟩ := tr_wY (i := k.toNatClampNeg) (x := vp_nar .byte x) (k := 1) (l := 102) hJ4 hq k04 rfl rfl (Or.inr rfl) (by decide) kg4 hp (tr_s1 hbx.1 hbx.2) (by decide +kernel)
      refine zy_ab rfl hp (tr_in hk0 (by omega)) ?_
      generalize w'.set p (.inr (3, 1600, .inl (upd tx k.toNatClampNeg (vp_nar .byte x)))) = w2 at a1 a2 a3 ⊢
      refine zy_ik (k := 1) (n := 1) rfl l1 ?_
      refine zy_goto rfl ?_
      have ek : (k + Int32.ofNat 1).toInt = k.toInt + 1 := tm_inc tm_k1 (by omega)
      exact ih (k + Int32.ofNat 1) tp w2 _ (by omega) (by omega) ht a1 (S0fr hJ4 a2 (by decide +kernel) hS4) (te_fi hJ4.1 a2 (d := ([(149, 4)], [])) (by decide +kernel) (by decide +kernel) h44) (te_fi hJ4.1 a2 (d := ([(149, 3)], [])) (by decide +kernel) (by decide +kernel) h34) (a3.trans hl4) (zy_limP_put hls rfl) (zy_look_ne (by decide) rfl l0) zy_look_put
  have hJ0 : J Ψ w 0 0 := tm_W0 hw
  have hS0 : S0 w := ⟨⟨r39, r40, r11, r13, r14, r24, r23, r19, r34, r26, r27⟩, h58, h57⟩
  show WP (0, [(0, (.inr (.inr (.inl q))))], [], w, 0, 0)
  refine zy_la (k := 0) rfl rfl (Or.inl ⟨_, rfl⟩) ?_
  refine zy_ci (n := 1) (c := 0) rfl ?_
  refine zy_wI (k := 4) (lo := 0) (hi := 4294967295) rfl hJ0 hq rfl (Nat.zero_le _) (by decide) rfl (by decide +kernel) ?_
  intro w1 hJ1 hfr1 hl1 h41
  have hS1 := S0fr hJ0 hfr1 (by decide +kernel) hS0
  refine zy_la (k := 0) rfl rfl (Or.inl ⟨_, rfl⟩) ?_
  refine zy_ci (n := 1) (c := 4294967295) rfl ?_
  refine zy_wI (k := 5) (lo := 0) (hi := 4294967295) rfl hJ1 hq rfl (Nat.zero_le _) (by decide) rfl (by decide +kernel) ?_
  intro w2 hJ2 hfr2 hl2 _
  have hS2 := S0fr hJ1 hfr2 (by decide +kernel) hS1
  have h42 := te_fi hJ1.1 hfr2 (d := ([(149, 4)], [])) (by decide +kernel) (by decide +kernel) h41
  obtain ⟨tp, h22, tp1, tp2⟩ := tr_exI (k := 2) (lo := 2147483648) (hi := 2147485248) hJ2.1 hq rfl
  have itp := zx_b_int tp
  refine zy_la (k := 0) rfl rfl (Or.inl ⟨_, rfl⟩) ?_
  refine zy_la (k := 0) rfl rfl (Or.inl ⟨_, rfl⟩) ?_
  refine zy_gI rfl h22 ?_
  refine zy_wI (k := 3) (lo := 2147483648) (hi := 2147485248) rfl hJ2 hq rfl tp1 tp2 rfl (by decide +kernel) ?_
  intro w3 hJ3 hfr3 hl3 h33
  have hS3 := S0fr hJ2 hfr3 (by decide +kernel) hS2
  have h43 := te_fi hJ2.1 hfr3 (d := ([(149, 4)], [])) (by decide +kernel) (by decide +kernel) h42
  refine zy_ci (n := 1) (c := 0) rfl ?_
  refine zy_si (k := 1) rfl ?_
  exact copy tp.toInt.toNat (Int32.ofNat 0) tp w3 _ (by omega) (by omega) (by omega) hJ3 hS3 h43 h33 (hl3.trans (hl2.trans hl1)) (zy_limP_put (tm_lim hlq rfl) rfl) rfl zy_look_put
