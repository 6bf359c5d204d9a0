/-! by hand: readPerson -/
def tr_EP : tj_Ef := (tr_EM.1, [147, 114, 111, 115, 116, 117, 105])
/-- members told so far: m of them, of the person at i1 -/
def tr_mem (b i1 m : Nat) (pvv : Int32) (pe ho pe' ho' : Nat → Int32) : Prop := (∀ i, (i < 8 * b ∨ 8 * b + 8 ≤ i) → pe' i = pe i) ∧ (∀ i, (i < 3 * i1 ∨ 3 * i1 + 3 ≤ i) → ho' i = ho i) ∧ (∀ h, h < 8 → pe' (8 * b + h) = pe (8 * b + h) ∨ (pe' (8 * b + h) = pvv ∧ ∃ k, k < m ∧ (ho' (3 * i1 + k)).toInt = h))
theorem tr_mem_add {b i1 m h : Nat} {pvv x : Int32} {pe ho pe' ho' : Nat → Int32} (hm : m < 3) (hh : h < 8) (hx : x.toInt = h) (hM : tr_mem b i1 m pvv pe ho pe' ho') : tr_mem b i1 (m + 1) pvv pe ho (upd pe' (8 * b + h) pvv) (upd ho' (3 * i1 + m) x) := by
  obtain ⟨h1, h2, h3⟩ := hM
  refine ⟨fun i hi => by rw [tg_upd_ne (by omega)]; exact h1 i hi, fun i hi => by rw [tg_upd_ne (by omega)]; exact h2 i hi, fun g hg => ?_⟩
  by_cases e : g = h
  · refine Or.inr ⟨by rw [e, tg_upd_eq], m, by omega, ?_⟩
    rw [tg_upd_eq, hx, e]
  · rw [tg_upd_ne (by omega)]
    rcases h3 g hg with h4 | ⟨h4, k, h5, h6⟩
    · exact Or.inl h4
    · refine Or.inr ⟨h4, k, by omega, ?_⟩
      rw [tg_upd_ne (by omega)]
      exact h6
set_option maxRecDepth 20000 in
theorem tr_readPerson {Ψ : List Nat} {w : List zx_E} {q : Nat} {φ : Int} {fk bk rb : Int32} {Z : Nat → Nat → Int32} (hw : tj_wt tj_Lam Ψ w) (hq : Ψ[q]? = some 149) (hPS : tr_PS w q φ fk bk rb 0 Z) (hlt : ∀ pv, tj_fa w q 12 13 2 pv → (pv rb.toInt.toNat).toInt ≤ 3) : tr_Do 6 191 [(.inr (.inr (.inl q)))] tr_EP Ψ w (fun a _ w' => a = none ∧ tr_PD q φ bk rb 0 Z w') := by
  obtain ⟨fs, k0, -, -⟩ := tr_ob hw hq
  have hlq : q < w.length := (List.getElem?_eq_some_iff.mp k0).1
  obtain ⟨C, ua, hv, pv, dv, tm, ho, pe, cd, rf, rt, hR, hbb, hold, hnew⟩ := hPS
  have hb := hbb
  unfold tr_bb at hb
  have h13 := hR.1.2.2.2.1
  have h40 := hR.1.2.1
  have bpv := tr_bd1 (l := 105) (n := 2) (lo := 2147483648) (hi := 2147483652) hw hq rfl rfl h13 (j := rb.toInt.toNat) (by omega)
  have bhv := tr_bd1 (l := 103) (n := 2) (lo := 2147483648) (hi := 2147483656) hw hq rfl rfl hR.1.2.2.1 (j := rb.toInt.toNat) (by omega)
  have ihv := zx_b_int (hv rb.toInt.toNat)
  have h3' := hlt pv h13
  have irb := zx_b_int rb
  have enb : rb.toNatClampNeg = rb.toInt.toNat := rfl
  generalize hpvd : pv rb.toInt.toNat = pvv at bpv h3'
  have ipv := zx_b_int pvv
  have e4 : (Int32.ofNat 4 * rb).toInt = 4 * rb.toInt := tr_mul (c := 4) (by decide) rfl (by omega) (by omega)
  have e8 : (Int32.ofNat 8 * rb).toInt = 8 * rb.toInt := tr_mul (c := 8) (by decide) rfl (by omega) (by omega)
  have ei : (Int32.ofNat 4 * rb + pvv).toInt = 4 * rb.toInt + pvv.toInt := by rw [tr_add (by omega) (by omega), e4]
  have z0 : (Int32.ofNat 0).toInt = 0 := by decide
  have z1 : (Int32.ofNat 1).toInt = 1 := by decide
  have zm : (Int32.ofNat 4294967295).toInt = -1 := by decide
  let P : Option zx_V → List Nat → List zx_E → Prop := fun a _ w' => a = none ∧ tr_PD q φ bk rb 0 Z w'
  refine tr_meth (P := P) (d := 5) (dt := zx_d_X12_readPerson) (by rw [← zx_q_X12_readPerson]; rfl) (by rw [(by decide +kernel : zx_rc 191 = 13)]; exact ⟨q, _, fs, rfl, k0⟩) (by decide +kernel : 1 ≤ zx_mx' 191) ?_
  let WP : zx_S → Prop := fun σ => zx_wp (zx_Cl zx_mt zx_rc zx_mx' 5) none (tj_P tj_c1 w, tj_P tj_c2 w) (zx_find (zx_cT zx_d_X12_readPerson)) (tr_end zx_d_X12_readPerson tr_EP Ψ w P) σ
  let J : List Nat → List zx_E → Nat → Nat → Prop := fun Ψ' w' mc ms => tj_W tj_Lam (tj_P tj_c1 w, tj_P tj_c2 w) tr_EP Ψ w Ψ' w' mc ms
  refine zy_ci (n := 1) (c := 4) rfl ?_
  refine zy_la (k := 0) rfl rfl (Or.inl ⟨_, rfl⟩) ?_
  refine zy_gI rfl h40 ?_
  refine zy_mul rfl ?_
  refine zy_la (k := 0) rfl rfl (Or.inl ⟨_, rfl⟩) ?_
  refine zy_gA rfl h13 (fun p0 hp0 hpt0 hlp0 => ?_)
  refine zy_la (k := 0) rfl rfl (Or.inl ⟨_, rfl⟩) ?_
  refine zy_gI rfl h40 ?_
  refine zy_ld rfl hp0 (tr_in (by omega) (by omega)) ?_
  rw [enb, hpvd]
  refine zy_add rfl ?_
  generalize Int32.ofNat 4 * rb + pvv = i1 at ei ⊢
  have ii1 := zx_b_int i1
  have hi0 : 0 ≤ i1.toInt := by omega
  have hi8 : i1.toInt < (8 : Nat) := by omega
  have eni : i1.toNatClampNeg = i1.toInt.toNat := rfl
  have ei1n : i1.toInt.toNat = 4 * rb.toInt.toNat + pvv.toInt.toNat := by omega
  have e3i : (Int32.ofNat 3 * i1).toInt = 3 * i1.toInt := tr_mul (c := 3) (by decide) rfl (by omega) (by omega)
  have e14i : (Int32.ofNat 14 * i1).toInt = 14 * i1.toInt := tr_mul (c := 14) (by decide) rfl (by omega) (by omega)
  refine zy_si (k := 1) rfl ?_
  have hls : zx_limP w.length [(1, (.inl i1)), (0, (.inr (.inr (.inl q))))] = true := tm_lim (k := 0) (ls := []) hlq rfl
  show WP (17, [(1, (.inl i1)), (0, (.inr (.inr (.inl q))))], [], w, 0, 0)
  have l0 : zx_look 0 [(1, (.inl i1)), (0, (.inr (.inr (.inl q))))] = some (.inr (.inr (.inl q))) := rfl
  have l1 : zx_look 1 [(1, (.inl i1)), (0, (.inr (.inr (.inl q))))] = some (.inl i1) := rfl
  generalize ([(1, (.inl i1)), (0, (.inr (.inr (.inl q))))] : List (Nat × zx_V)) = ls at hls l0 l1 ⊢
  -- the state on the way
  let R : List zx_E → Int → Int32 → (Nat → Int32) → (Nat → Int32) → (Nat → Int32) → Prop := fun w' φ' fk' pe' ho' tm' => tr_RB w' q bk rb C ua hv pv dv tm' ho' pe' cd rf rt φ' fk' ∧ φ ≤ φ' ∧ (fk'.toInt = 0 → fk.toInt = 0)
  have Rtok : ∀ {Ψ1 : List Nat} {w1 w2 : List zx_E} {mc ms : Nat} {φ1 : Int} {fk1 : Int32} {pe' ho' tm' : Nat → Int32} {e : tj_Ef}, J Ψ1 w1 mc ms → tj_fr e Ψ1 w1 w2 → tj_dj tr_dPS e = true → R w1 φ1 fk1 pe' ho' tm' → tr_PT q φ1 fk1 w2 → ∃ φ2 fk2, R w2 φ2 fk2 pe' ho' tm' ∧ (fk2.toInt = 0 → fk1.toInt = 0) := by
    intro Ψ1 w1 w2 mc ms φ1 fk1 pe' ho' tm' e hJ hfr hd hR1 hP
    obtain ⟨φ2, fk2, g1, g2, hR2⟩ := tr_RB_tok hJ.1 hfr hd hR1.1 hP
    exact ⟨φ2, fk2, ⟨hR2, Int.le_trans hR1.2.1 g1, fun h => hR1.2.2 (g2 h)⟩, g2⟩
  have oldOf : ∀ {pe' ho' tm' : Nat → Int32} {m : Nat}, tr_mem rb.toInt.toNat i1.toInt.toNat m pvv pe ho pe' ho' → (∀ i, i ≠ i1.toInt.toNat → tm' i = tm i) → ∀ pv', pv' bk.toInt.toNat = pv bk.toInt.toNat → tr_old bk.toInt.toNat hv pv' dv tm' ho' pe' cd rf rt (Z 0) (Z 1) (Z 2) (Z 3) (Z 4) (Z 5) (Z 6) (Z 7) (Z 8) := by
    intro pe' ho' tm' m hM htm pv' hpv'
    obtain ⟨o1, o2, o3, o4, o5, o6, o7, o8, o9⟩ := hold
    obtain ⟨m1, m2, m3⟩ := hM
    exact ⟨o1, by rw [hpv']; exact o2, o3, fun i hi => by rw [htm _ (by omega)]; exact o4 i hi, fun i hi => by rw [m2 _ (by omega)]; exact o5 i hi, fun i hi => by rw [m1 _ (by omega)]; exact o6 i hi, o7, o8, o9⟩
  -- the end: a person more
  have at320 : ∀ (Ψ' : List Nat) (w' : List zx_E) (mc ms : Nat) (φ' : Int) (fk' t : Int32) (pe' ho' tm' : Nat → Int32) (m : Nat) (ls : List (Nat × zx_V)), J Ψ' w' mc ms → R w' φ' fk' pe' ho' tm' → m ≤ 3 → tr_mem rb.toInt.toNat i1.toInt.toNat m pvv pe ho pe' ho' → (∀ i, i ≠ i1.toInt.toNat → tm' i = tm i) → tm' i1.toInt.toNat = t → (fk'.toInt = 0 → 1 ≤ t.toInt ∧ t.toInt ≤ 14) → zx_look 0 ls = some (.inr (.inr (.inl q))) → WP (320, ls, [], w', mc, ms) := by
    intro Ψ' w' mc ms φ' fk' t pe' ho' tm' m ls hJ hR' hm hM htm htt ht l0
    have hq1 := hJ.2.2.1 _ _ hq
    have h13' := hR'.1.1.2.2.2.1
    have e1 : (pvv + Int32.ofNat 1).toInt = pvv.toInt + 1 := tm_inc tm_k1 (by omega)
    have i1' := zx_b_int (pvv + Int32.ofNat 1)
    refine zy_la rfl l0 (Or.inl ⟨_, rfl⟩) ?_
    refine zy_gA rfl h13' (fun p hp hpt hlp => ?_)
    refine zy_la rfl l0 (Or.inl ⟨_, rfl⟩) ?_
    refine zy_gI rfl hR'.1.1.2.1 ?_
    refine zy_dup2 rfl ?_
    refine zy_ld rfl hp (tr_in (by omega) (by omega)) ?_
    rw [enb, hpvd]
    refine zy_ci (n := 1) (c := 1) rfl ?_
    refine zy_add rfl ?_
    refine zy_wA (k := 13) (n := 2) (lo := 2147483648) (hi := 2147483652) rfl hJ hq1 rfl rfl (by decide) hpt h13' (by omega) (by omega) (by omega) (by omega) (by decide +kernel) ?_
    intro w2 hJ2 hfr2 hl2 h132
    have hR2 := tr_RB_pv hJ.1 hfr2 hR'.1 h132
    refine tr_endN ⟨_, _, _, rfl⟩ hJ2 ⟨rfl, φ', fk', hR'.2.1, C, ua, hv, _, dv, tm', ho', pe', cd, rf, rt, hR2, hbb, oldOf hM htm _ (by rw [tg_upd_ne (by omega)]), fun h0 => ?_⟩
    obtain ⟨⟨n1, n2, n3, n4⟩, n5, n6⟩ := hnew (hR'.2.2 h0)
    obtain ⟨m1, m2, m3⟩ := hM
    have ht' := ht h0
    have hle := hR'.2.1
    rw [hpvd] at n1 n2 n3
    refine ⟨⟨fun p hp' => ?_, fun h p hh hp' hpe => ?_, fun h h8 hh => ?_, n4⟩, n5, by omega⟩
    · rw [tg_upd_eq, e1] at hp'
      by_cases e : 4 * rb.toInt.toNat + p = i1.toInt.toNat
      · rw [e, htt]
        exact ht'
      · rw [htm _ e]
        exact n1 p (by omega)
    · rw [tg_upd_eq, e1] at hp'
      rcases m3 h (by omega) with h4 | ⟨h4, k, h5, h6⟩
      · rw [h4] at hpe
        have h7 := n3 h (by omega) hh
        obtain ⟨k, h8, h9⟩ := n2 h p hh (by omega) hpe
        exact ⟨k, h8, by rw [m2 _ (by omega)]; exact h9⟩
      · rw [h4] at hpe
        exact ⟨k, by omega, by rw [show 3 * (4 * rb.toInt.toNat + p) + k = 3 * i1.toInt.toNat + k by omega]; exact h6⟩
    · rw [tg_upd_eq, e1]
      rcases m3 h h8 with h4 | ⟨h4, -⟩
      · rw [h4]
        have := n3 h h8 hh
        omega
      · rw [h4]
        omega
  -- places of the turn
  have turns : ∀ (n : Nat) (Ψ' : List Nat) (w' : List zx_E) (mc ms : Nat) (φ' : Int) (fk' t : Int32) (pe' ho' tm' : Nat → Int32) (m : Nat) (ls : List (Nat × zx_V)), t.toInt + n = 15 → 0 ≤ t.toInt → J Ψ' w' mc ms → R w' φ' fk' pe' ho' tm' → m ≤ 3 → tr_mem rb.toInt.toNat i1.toInt.toNat m pvv pe ho pe' ho' → (∀ i, i ≠ i1.toInt.toNat → tm' i = tm i) → tm' i1.toInt.toNat = t → (fk'.toInt = 0 → t.toInt ≤ 14) → zx_limP w'.length ls = true → zx_look 0 ls = some (.inr (.inr (.inl q))) → zx_look 1 ls = some (.inl i1) → WP (224, ls, [], w', mc, ms) := by
    intro n
    induction n with
    | zero =>
      intro Ψ' w' mc ms φ' fk' t pe' ho' tm' m ls hn ht0 hJ hR' hm hM htm htt ht hls l0 l1
      obtain ⟨u, hu, hu'⟩ := tr_isGoodK hR'.1.2.2.2.1
      refine zy_la rfl l0 (Or.inl ⟨_, rfl⟩) ?_
      refine zy_callK (a := 0) (n := 1) (st := []) (zx_Cl_le (by decide) hu) rfl rfl (Nat.le_of_ble_eq_true rfl) hls rfl (by have := hJ.2.1; omega) (by have := hJ.2.1; omega) ?_
      rcases hu' with ⟨eu, hz⟩ | ⟨eu, hz⟩
      · have := ht hz
        omega
      · subst eu
        exact zy_j0 rfl (fun _ => at320 Ψ' w' mc ms φ' fk' t pe' ho' tm' m ls hJ hR' hm hM htm htt (fun h => absurd h hz) l0) (fun h => absurd tr_z0 h)
    | succ n ih =>
      intro Ψ' w' mc ms φ' fk' t pe' ho' tm' m ls hn ht0 hJ hR' hm hM htm htt ht hls l0 l1
      have hq1 := hJ.2.2.1 _ _ hq
      have it := zx_b_int t
      obtain ⟨u, hu, hu'⟩ := tr_isGoodK hR'.1.2.2.2.1
      have h24 := hR'.1.1.2.2.2.2.2.1
      refine zy_la rfl l0 (Or.inl ⟨_, rfl⟩) ?_
      refine zy_callK (a := 0) (n := 1) (st := []) (zx_Cl_le (by decide) hu) rfl rfl (Nat.le_of_ble_eq_true rfl) hls rfl (by have := hJ.2.1; omega) (by have := hJ.2.1; omega) ?_
      rcases hu' with ⟨eu, hz⟩ | ⟨eu, hz⟩
      rotate_left
      · subst eu
        exact zy_j0 rfl (fun _ => at320 Ψ' w' mc ms φ' fk' t pe' ho' tm' m ls hJ hR' hm hM htm htt (fun h => absurd h hz) l0) (fun h => absurd tr_z0 h)
      subst eu
      have ht14 := ht hz
      refine zy_j0 rfl (fun h => absurd h tr_no1) (fun _ => ?_)
      -- one more
      have at263 : ∀ (Ψ2 : List Nat) (w2 : List zx_E) (mc2 ms2 : Nat) (φ2 : Int) (fk2 : Int32), J Ψ2 w2 mc2 ms2 → R w2 φ2 fk2 pe' ho' tm' → (fk2.toInt = 0 → t.toInt ≤ 13) → zx_limP w2.length ls = true → WP (263, ls, [], w2, mc2, ms2) := by
        intro Ψ2 w2 mc2 ms2 φ2 fk2 hJ2 hR2 ht2 hls2
        have hq2 := hJ2.2.2.1 _ _ hq
        have h242 := hR2.1.1.2.2.2.2.2.1
        obtain ⟨tn, h25⟩ := tr_exA (k := 25) (l := 117) (n := 112) (s := [(112, 2147483648, 2147483650)]) hJ2.1 hq2 rfl rfl
        obtain ⟨hm', h22⟩ := tr_exA (k := 22) (l := 114) (n := 8) (s := [(8, 2147483648, 2147483651)]) hJ2.1 hq2 rfl rfl
        have bhm := tr_bd1 (l := 114) (n := 8) (lo := 2147483648) (hi := 2147483651) hJ2.1 hq2 rfl rfl h22 (j := i1.toInt.toNat) (by omega)
        have ihm := zx_b_int (hm' i1.toInt.toNat)
        have ehm : (hm' i1.toInt.toNat - Int32.ofNat 1).toInt = (hm' i1.toInt.toNat).toInt - 1 := by rw [tr_sub (by omega) (by omega), z1]
        have fin : ∀ (p : Nat) (k : Int32), p < w2.length → tr_pt w2 q 25 p → 0 ≤ k.toInt → k.toInt ≤ 13 → WP (292, ls, [(.inl k), (.inl (Int32.ofNat 14 * i1)), (.inr (.inr (.inl p)))], w2, mc2, ms2) := by
          intro p k hlp hpt hk0 hk1
          have ek : (Int32.ofNat 14 * i1 + k).toInt = 14 * i1.toInt + k.toInt := by rw [tr_add (by omega) (by omega), e14i]
          refine zy_add rfl ?_
          generalize Int32.ofNat 14 * i1 + k = ix at ek ⊢
          refine zy_la rfl l0 (Or.inl ⟨_, rfl⟩) ?_
          refine zy_ci (n := 1) (c := 0) rfl ?_
          refine zy_la rfl l0 (Or.inl ⟨_, rfl⟩) ?_
          refine zy_gA rfl h22 (fun p2 hp2 hpt2 hlp2 => ?_)
          refine zy_li rfl l1 ?_
          refine zy_ld rfl hp2 (tr_in (by omega) (by omega)) ?_
          rw [eni]
          refine zy_ci (n := 1) (c := 1) rfl ?_
          refine zy_sub rfl ?_
          refine zy_callD (tr_Do_le (tr_numeral (lo := Int32.ofNat 0) (hi := hm' i1.toInt.toNat - Int32.ofNat 1) hJ2.1 hq2 hR2.1.2.2.2.2 hR2.1.2.2.2.1) (by decide)) (n := 3) (st := [(.inl ix), (.inr (.inr (.inl p)))]) rfl rfl (Nat.le_of_ble_eq_true rfl) hls2 (tr_lim2 (tr_lim1 hlp rfl)) hJ2 (by decide +kernel) (by decide +kernel) ?_
          intro a Ψ3 w3 mc3 ms3 hJ3 hle3 hfr3 hls3 hst3 hP
          obtain ⟨⟨v, ea, hv'⟩, hPT⟩ := hP
          subst ea
          obtain ⟨φ3, fk3, hR3, g3⟩ := Rtok hJ2 hfr3 (by decide +kernel) hR2 hPT
          have hq3 := hJ3.2.2.1 _ _ hq
          have iv := zx_b_int v
          have hv2 := tr_09 (a := 0) (b := 2) hv' (by omega) (by omega) (by omega)
          have h253 := te_fa hJ2.1 hfr3 (d := ([(149, 25)], [117])) (by decide +kernel) (by decide +kernel) h25
          refine zy_wA (k := 25) (n := 112) (lo := 2147483648) (hi := 2147483650) rfl hJ3 hq3 rfl rfl (by decide) (tr_pt_fr hJ2.1 hfr3 (d := ([(149, 25)], [])) (by decide +kernel) (by decide +kernel) hpt) h253 (by omega) (by omega) (by omega) (by omega) (by decide +kernel) ?_
          intro w4 hJ4 hfr4 hl4 _
          have hR4 := tr_RB_fr hJ3.1 hfr4 (by decide +kernel) hR3.1
          have h244 := hR4.1.2.2.2.2.2.1
          have et1 : (t + Int32.ofNat 1).toInt = t.toInt + 1 := tm_inc tm_k1 (by omega)
          have it1 := zx_b_int (t + Int32.ofNat 1)
          refine zy_la rfl l0 (Or.inl ⟨_, rfl⟩) ?_
          refine zy_gA rfl h244 (fun p5 hp5 hpt5 hlp5 => ?_)
          refine zy_li rfl l1 ?_
          refine zy_dup2 rfl ?_
          refine zy_ld rfl hp5 (tr_in (by omega) (by omega)) ?_
          rw [eni, htt]
          refine zy_ci (n := 1) (c := 1) rfl ?_
          refine zy_add rfl ?_
          refine zy_wA (k := 24) (n := 8) (lo := 2147483648) (hi := 2147483663) rfl hJ4 hq3 rfl rfl (by decide) hpt5 h244 hi0 hi8 (by omega) (by omega) (by decide +kernel) ?_
          intro w5 hJ5 hfr5 hl5 h245
          have hR5 := tr_RB_tm hJ4.1 hfr5 hR4 h245
          refine zy_goto rfl ?_
          refine ih Ψ3 w5 mc3 ms3 φ3 fk3 (t + Int32.ofNat 1) pe' ho' _ m ls (by omega) (by omega) hJ5 ⟨hR5, hR3.2.1, hR3.2.2⟩ hm hM (fun i hi => by rw [tg_upd_ne hi]; exact htm i hi) tg_upd_eq (fun h => ?_) (by rw [hl5, hl4]; exact hls3) l0 l1
          have := ht2 (g3 h)
          omega
        refine zy_la rfl l0 (Or.inl ⟨_, rfl⟩) ?_
        refine zy_gA rfl h25 (fun p hp hpt hlp => ?_)
        refine zy_ci (n := 2) (c := 14) rfl ?_
        refine zy_li rfl l1 ?_
        refine zy_mul rfl ?_
        refine zy_la rfl l0 (Or.inl ⟨_, rfl⟩) ?_
        refine zy_gA rfl h242 (fun p1 hp1 hpt1 hlp1 => ?_)
        refine zy_li rfl l1 ?_
        refine zy_ld rfl hp1 (tr_in (by omega) (by omega)) ?_
        rw [eni, htt]
        refine zy_ci (n := 2) (c := 14) rfl ?_
        refine zy_jt rfl (fun _ => ?_) (fun h => ?_)
        · refine zy_ci (n := 1) (c := 0) rfl ?_
          exact fin p _ hlp hpt (by decide) (by decide)
        · have h : zx_b t < zx_b (Int32.ofNat 14) := h
          rw [show zx_b (Int32.ofNat 14) = 2147483662 by decide] at h
          refine zy_la rfl l0 (Or.inl ⟨_, rfl⟩) ?_
          refine zy_gA rfl h242 (fun p3 hp3 hpt3 hlp3 => ?_)
          refine zy_li rfl l1 ?_
          refine zy_ld rfl hp3 (tr_in (by omega) (by omega)) ?_
          rw [eni, htt]
          refine zy_goto rfl ?_
          exact fin p t hlp hpt ht0 (by omega)
      have at248 : WP (248, ls, [], w', mc, ms) := by
        refine zy_la rfl l0 (Or.inl ⟨_, rfl⟩) ?_
        refine zy_gA rfl h24 (fun p1 hp1 hpt1 hlp1 => ?_)
        refine zy_li rfl l1 ?_
        refine zy_ld rfl hp1 (tr_in (by omega) (by omega)) ?_
        rw [eni, htt]
        refine zy_ci (n := 2) (c := 14) rfl ?_
        refine zy_jt rfl (fun h => ?_) (fun h => ?_)
        · have h : zx_b t ≠ zx_b (Int32.ofNat 14) := h
          rw [show zx_b (Int32.ofNat 14) = 2147483662 by decide] at h
          exact at263 Ψ' w' mc ms φ' fk' hJ hR' (fun _ => by omega) hls
        · refine zy_la rfl l0 (Or.inl ⟨_, rfl⟩) ?_
          refine zy_callD (tr_Do_le (tr_misplaced hJ.1 hq1) (by decide)) (n := 1) (st := []) rfl rfl (Nat.zero_le _) hls rfl hJ (by decide +kernel) (by decide +kernel) ?_
          intro a Ψ2 w2 mc2 ms2 hJ2 hle2 hfr2 hls2 hst2 hP
          obtain ⟨ea, fk2, h42, hne⟩ := hP
          subst ea
          obtain ⟨φ3, fk3, hR3, g3⟩ := Rtok hJ hfr2 (by decide +kernel) hR' ⟨φ', fk2, tr_T_fr hJ.1 hfr2 (by decide +kernel) hR'.1.2.2.2.2, Int.le_refl _, h42, fun h => absurd h hne⟩
          have e43 := tr_fi_eq hR3.1.2.2.2.1 h42
          exact at263 Ψ2 w2 mc2 ms2 φ3 fk3 hJ2 hR3 (fun h => absurd (by rw [← e43]; exact h) hne) hls2
      obtain ⟨tk, h8, -, -⟩ := tr_exI (k := 8) (lo := 0) (hi := 4294967295) hJ.1 hq1 rfl
      refine zy_la rfl l0 (Or.inl ⟨_, rfl⟩) ?_
      refine zy_gA rfl h24 (fun p1 hp1 hpt1 hlp1 => ?_)
      refine zy_li rfl l1 ?_
      refine zy_ld rfl hp1 (tr_in (by omega) (by omega)) ?_
      rw [eni, htt]
      refine zy_j0 rfl (fun _ => at248) (fun hne => ?_)
      have hne : zx_b t ≠ 2147483648 := hne
      refine zy_la rfl l0 (Or.inl ⟨_, rfl⟩) ?_
      refine zy_gI rfl h8 ?_
      refine zy_ci (n := 1) (c := 4) rfl ?_
      exact zy_jt rfl (fun _ => at320 Ψ' w' mc ms φ' fk' t pe' ho' tm' m ls hJ hR' hm hM htm htt (fun _ => ⟨by omega, ht14⟩) l0) (fun _ => at248)
  -- behind the members
  have at206 : ∀ (Ψ' : List Nat) (w' : List zx_E) (mc ms : Nat) (φ' : Int) (fk' : Int32) (pe' ho' : Nat → Int32) (m : Nat) (ls : List (Nat × zx_V)), J Ψ' w' mc ms → R w' φ' fk' pe' ho' tm → m ≤ 3 → tr_mem rb.toInt.toNat i1.toInt.toNat m pvv pe ho pe' ho' → zx_limP w'.length ls = true → zx_look 0 ls = some (.inr (.inr (.inl q))) → zx_look 1 ls = some (.inl i1) → WP (206, ls, [], w', mc, ms) := by
    intro Ψ' w' mc ms φ' fk' pe' ho' m ls hJ hR' hm hM hls l0 l1
    have hq1 := hJ.2.2.1 _ _ hq
    obtain ⟨fs', k0', -, -⟩ := tr_ob hJ.1 hq1
    have hlq1 : q < w'.length := (List.getElem?_eq_some_iff.mp k0').1
    obtain ⟨tk, h8, -, -⟩ := tr_exI (k := 8) (lo := 0) (hi := 4294967295) hJ.1 hq1 rfl
    obtain ⟨nm, h10⟩ := tr_exJ (k := 10) (a := 0) (b := 0) hJ.1 hq1 rfl
    obtain ⟨y, hy, -⟩ := tr_isWordK (c := Int64.ofNat 1953854062) h8 h10
    refine zy_la rfl l0 (Or.inl ⟨_, rfl⟩) ?_
    refine zy_la rfl l0 (Or.inl ⟨_, rfl⟩) ?_
    refine zy_cj (n := 3) (c := 1953854062) rfl ?_
    refine zy_callK (a := 0) (n := 2) (st := [(.inr (.inr (.inl q)))]) (zx_Cl_le (by decide) hy) rfl rfl (Nat.le_of_ble_eq_true rfl) hls (tr_lim1 hlq1 rfl) (by have := hJ.2.1; omega) (by have := hJ.2.1; omega) ?_
    refine zy_callD (tr_Do_le (tr_must (b := y) hJ.1 hq1 hR'.1.2.2.2.2 hR'.1.2.2.2.1) (by decide)) (n := 2) (st := []) rfl rfl (Nat.zero_le _) hls rfl hJ (by decide +kernel) (by decide +kernel) ?_
    intro a Ψ2 w2 mc2 ms2 hJ2 hle2 hfr2 hls2 hst2 hP
    obtain ⟨ea, hPT⟩ := hP
    subst ea
    obtain ⟨φ2, fk2, hR2, g2⟩ := Rtok hJ hfr2 (by decide +kernel) hR' hPT
    have hq2 := hJ2.2.2.1 _ _ hq
    have h24 := hR2.1.1.2.2.2.2.2.1
    refine zy_la rfl l0 (Or.inl ⟨_, rfl⟩) ?_
    refine zy_gA rfl h24 (fun p hp hpt hlp => ?_)
    refine zy_li rfl l1 ?_
    refine zy_ci (n := 1) (c := 0) rfl ?_
    refine zy_wA (k := 24) (n := 8) (lo := 2147483648) (hi := 2147483663) rfl hJ2 hq2 rfl rfl (by decide) hpt h24 hi0 hi8 (by decide) (by decide) (by decide +kernel) ?_
    intro w3 hJ3 hfr3 hl3 h243
    have hR3 := tr_RB_tm hJ2.1 hfr3 hR2.1 h243
    exact turns 15 Ψ2 w3 mc2 ms2 φ2 fk2 (Int32.ofNat 0) pe' ho' _ m ls (by decide) (by decide) hJ3 ⟨hR3, hR2.2.1, hR2.2.2⟩ hm hM (fun i hi => tg_upd_ne hi) tg_upd_eq (fun _ => by decide) (by rw [hl3]; exact hls2) l0 l1
  -- members
  have members : ∀ (n : Nat) (Ψ' : List Nat) (w' : List zx_E) (mc ms : Nat) (φ' : Int) (fk' mm : Int32) (pe' ho' : Nat → Int32) (hm' : Nat → Int32) (ls : List (Nat × zx_V)), mm.toInt + n = 3 → 0 ≤ mm.toInt → J Ψ' w' mc ms → R w' φ' fk' pe' ho' tm → tj_fa w' q 12 22 8 hm' → hm' i1.toInt.toNat = mm → tr_mem rb.toInt.toNat i1.toInt.toNat mm.toInt.toNat pvv pe ho pe' ho' → zx_limP w'.length ls = true → zx_look 0 ls = some (.inr (.inr (.inl q))) → zx_look 1 ls = some (.inl i1) → WP (68, ls, [], w', mc, ms) := by
    intro n
    induction n with
    | zero =>
      intro Ψ' w' mc ms φ' fk' mm pe' ho' hm' ls hn hm0 hJ hR' h22 hmm hM hls l0 l1
      have im := zx_b_int mm
      obtain ⟨u, hu, hu'⟩ := tr_isGoodK hR'.1.2.2.2.1
      have go := at206 Ψ' w' mc ms φ' fk' pe' ho' mm.toInt.toNat ls hJ hR' (by omega) hM hls l0 l1
      refine zy_la rfl l0 (Or.inl ⟨_, rfl⟩) ?_
      refine zy_callK (a := 0) (n := 1) (st := []) (zx_Cl_le (by decide) hu) rfl rfl (Nat.le_of_ble_eq_true rfl) hls rfl (by have := hJ.2.1; omega) (by have := hJ.2.1; omega) ?_
      refine zy_j0 rfl (fun _ => go) (fun _ => ?_)
      refine zy_la rfl l0 (Or.inl ⟨_, rfl⟩) ?_
      refine zy_gA rfl h22 (fun p hp hpt hlp => ?_)
      refine zy_li rfl l1 ?_
      refine zy_ld rfl hp (tr_in (by omega) (by omega)) ?_
      rw [eni, hmm]
      refine zy_ci (n := 1) (c := 2) rfl ?_
      refine zy_jt rfl (fun h => ?_) (fun _ => ?_)
      · have h : zx_b mm < zx_b (Int32.ofNat 2) := h
        rw [show zx_b (Int32.ofNat 2) = 2147483650 by decide] at h
        omega
      refine zy_la rfl l0 (Or.inl ⟨_, rfl⟩) ?_
      refine zy_gA rfl h22 (fun p2 hp2 hpt2 hlp2 => ?_)
      refine zy_li rfl l1 ?_
      refine zy_ld rfl hp2 (tr_in (by omega) (by omega)) ?_
      rw [eni, hmm]
      refine zy_ci (n := 1) (c := 3) rfl ?_
      refine zy_jt rfl (fun _ => go) (fun h => ?_)
      have h : zx_b mm < zx_b (Int32.ofNat 3) := h
      rw [show zx_b (Int32.ofNat 3) = 2147483651 by decide] at h
      omega
    | succ n ih =>
      intro Ψ' w' mc ms φ' fk' mm pe' ho' hm' ls hn hm0 hJ hR' h22 hmm hM hls l0 l1
      have hq1 := hJ.2.2.1 _ _ hq
      have im := zx_b_int mm
      obtain ⟨u, hu, hu'⟩ := tr_isGoodK hR'.1.2.2.2.1
      have go := at206 Ψ' w' mc ms φ' fk' pe' ho' mm.toInt.toNat ls hJ hR' (by omega) hM hls l0 l1
      -- a member read
      have at103 : WP (103, ls, [], w', mc, ms) := by
        refine zy_la rfl l0 (Or.inl ⟨_, rfl⟩) ?_
        refine zy_callD (tr_Do_le (tr_known hJ.1 hq1 hR'.1.2.2.2.2 hR'.1.2.2.2.1) (by decide)) (n := 1) (st := []) rfl rfl (Nat.zero_le _) hls rfl hJ (by decide +kernel) (by decide +kernel) ?_
        intro a Ψ2 w2 mc2 ms2 hJ2 hle2 hfr2 hls2 hst2 hP
        obtain ⟨⟨h, ea, hh0, hh1⟩, hPT⟩ := hP
        subst ea
        obtain ⟨φ2, fk2, hR2, g2⟩ := Rtok hJ hfr2 (by decide +kernel) hR' hPT
        have hq2 := hJ2.2.2.1 _ _ hq
        have h222 := te_fa hJ.1 hfr2 (d := ([(149, 22)], [114])) (by decide +kernel) (by decide +kernel) h22
        have ih' := zx_b_int h
        have e8h : (Int32.ofNat 8 * rb + h).toInt = 8 * rb.toInt + h.toInt := by rw [tr_add (by omega) (by omega), e8]
        refine zy_si (k := 2) rfl ?_
        have m0 : zx_look 0 (zx_put 2 (.inl h) ls) = some (.inr (.inr (.inl q))) := zy_look_ne (by decide) rfl l0
        have m1 : zx_look 1 (zx_put 2 (.inl h) ls) = some (.inl i1) := zy_look_ne (by decide) rfl l1
        have m2 : zx_look 2 (zx_put 2 (.inl h) ls) = some (.inl h) := zy_look_put
        have hls3 : zx_limP w2.length (zx_put 2 (.inl h) ls) = true := zy_limP_put hls2 rfl
        generalize zx_put 2 (.inl h) ls = ls2 at m0 m1 m2 hls3 ⊢
        -- written, if all is well
        have at142 : ∀ (Ψ3 : List Nat) (w3 : List zx_E) (mc3 ms3 : Nat) (φ3 : Int) (fk3 : Int32), J Ψ3 w3 mc3 ms3 → R w3 φ3 fk3 pe' ho' tm → tj_fa w3 q 12 22 8 hm' → zx_limP w3.length ls2 = true → WP (142, ls2, [], w3, mc3, ms3) := by
          intro Ψ3 w3 mc3 ms3 φ3 fk3 hJ3 hR3 h223 hls4
          have hq3 := hJ3.2.2.1 _ _ hq
          obtain ⟨u3, hu3, hu3'⟩ := tr_isGoodK hR3.1.2.2.2.1
          refine zy_la rfl m0 (Or.inl ⟨_, rfl⟩) ?_
          refine zy_callK (a := 0) (n := 1) (st := []) (zx_Cl_le (by decide) hu3) rfl rfl (Nat.le_of_ble_eq_true rfl) hls4 rfl (by have := hJ3.2.1; omega) (by have := hJ3.2.1; omega) ?_
          rcases hu3' with ⟨eu, hz⟩ | ⟨eu, hz⟩
          rotate_left
          · subst eu
            exact zy_j0 rfl (fun h => absurd tr_z0 h) (fun _ => tr_endN ⟨_, _, _, rfl⟩ hJ3 ⟨rfl, φ3, fk3, hR3.2.1, C, ua, hv, pv, dv, tm, ho', pe', cd, rf, rt, hR3.1, hbb, oldOf hM (fun i _ => rfl) pv rfl, fun h0 => absurd h0 hz⟩)
          subst eu
          refine zy_j0 rfl (fun _ => ?_) (fun h => absurd h tr_no1)
          have h19 := hR3.1.1.2.2.2.2.2.2.2.1
          have h133 := hR3.1.1.2.2.2.1
          refine zy_la rfl m0 (Or.inl ⟨_, rfl⟩) ?_
          refine zy_gA rfl h19 (fun p hp hpt hlp => ?_)
          refine zy_ci (n := 2) (c := 8) rfl ?_
          refine zy_la rfl m0 (Or.inl ⟨_, rfl⟩) ?_
          refine zy_gI rfl hR3.1.1.2.1 ?_
          refine zy_mul rfl ?_
          refine zy_li rfl m2 ?_
          refine zy_add rfl ?_
          refine zy_la rfl m0 (Or.inl ⟨_, rfl⟩) ?_
          refine zy_gA rfl h133 (fun p1 hp1 hpt1 hlp1 => ?_)
          refine zy_la rfl m0 (Or.inl ⟨_, rfl⟩) ?_
          refine zy_gI rfl hR3.1.1.2.1 ?_
          refine zy_ld rfl hp1 (tr_in (by omega) (by omega)) ?_
          rw [enb, hpvd]
          refine zy_wA (k := 19) (n := 16) (lo := 2147483647) (hi := 2147483651) rfl hJ3 hq3 rfl rfl (by decide) hpt h19 (by omega) (by omega) (by omega) (by omega) (by decide +kernel) ?_
          intro w4 hJ4 hfr4 hl4 h194
          have hR4 := tr_RB_pe hJ3.1 hfr4 hR3.1 h194
          have h224 := te_fa hJ3.1 hfr4 (d := ([(149, 22)], [114])) (by decide +kernel) (by decide +kernel) h223
          have h23 := hR4.1.2.2.2.2.2.2.1
          have e3m : (Int32.ofNat 3 * i1 + mm).toInt = 3 * i1.toInt + mm.toInt := by rw [tr_add (by omega) (by omega), e3i]
          refine zy_la rfl m0 (Or.inl ⟨_, rfl⟩) ?_
          refine zy_gA rfl h23 (fun p2 hp2 hpt2 hlp2 => ?_)
          refine zy_ci (n := 1) (c := 3) rfl ?_
          refine zy_li rfl m1 ?_
          refine zy_mul rfl ?_
          refine zy_la rfl m0 (Or.inl ⟨_, rfl⟩) ?_
          refine zy_gA rfl h224 (fun p3 hp3 hpt3 hlp3 => ?_)
          refine zy_li rfl m1 ?_
          refine zy_ld rfl hp3 (tr_in (by omega) (by omega)) ?_
          rw [eni, hmm]
          refine zy_add rfl ?_
          refine zy_li rfl m2 ?_
          refine zy_wA (k := 23) (n := 24) (lo := 2147483648) (hi := 2147483655) rfl hJ4 hq3 rfl rfl (by decide) hpt2 h23 (by omega) (by omega) (by omega) (by omega) (by decide +kernel) ?_
          intro w5 hJ5 hfr5 hl5 h235
          have hR5 := tr_RB_ho hJ4.1 hfr5 hR4 h235
          have h225 := te_fa hJ4.1 hfr5 (d := ([(149, 22)], [114])) (by decide +kernel) (by decide +kernel) h224
          have em1 : (mm + Int32.ofNat 1).toInt = mm.toInt + 1 := tm_inc tm_k1 (by omega)
          have im1 := zx_b_int (mm + Int32.ofNat 1)
          refine zy_la rfl m0 (Or.inl ⟨_, rfl⟩) ?_
          refine zy_gA rfl h225 (fun p4 hp4 hpt4 hlp4 => ?_)
          refine zy_li rfl m1 ?_
          refine zy_dup2 rfl ?_
          refine zy_ld rfl hp4 (tr_in (by omega) (by omega)) ?_
          rw [eni, hmm]
          refine zy_ci (n := 1) (c := 1) rfl ?_
          refine zy_add rfl ?_
          refine zy_wA (k := 22) (n := 8) (lo := 2147483648) (hi := 2147483651) rfl hJ5 hq3 rfl rfl (by decide) hpt4 h225 hi0 hi8 (by omega) (by omega) (by decide +kernel) ?_
          intro w6 hJ6 hfr6 hl6 h226
          have hR6 := tr_RB_fr hJ5.1 hfr6 (by decide +kernel) hR5
          have hls6 : zx_limP w6.length ls2 = true := by rw [hl6, hl5, hl4]; exact hls4
          have hM2 := tr_mem_add (h := h.toInt.toNat) (x := h) (by omega) (by omega) (by omega) hM
          rw [show 8 * rb.toInt.toNat + h.toInt.toNat = (Int32.ofNat 8 * rb + h).toInt.toNat by omega, show 3 * i1.toInt.toNat + mm.toInt.toNat = (Int32.ofNat 3 * i1 + mm).toInt.toNat by omega, show mm.toInt.toNat + 1 = (mm + Int32.ofNat 1).toInt.toNat by omega] at hM2
          refine zy_la rfl m0 (Or.inl ⟨_, rfl⟩) ?_
          refine zy_callD (tr_Do_le (tr_goOnT hJ6.1 hq3 hR6.2.2.2.2) (by decide)) (n := 1) (st := []) rfl rfl (Nat.zero_le _) hls6 rfl hJ6 (by decide +kernel) (by decide +kernel) ?_
          intro a Ψ7 w7 mc7 ms7 hJ7 hle7 hfr7 hls7 hst7 hP7
          obtain ⟨ea, φ7, hT7, hle⟩ := hP7
          subst ea
          obtain ⟨φ8, fk8, hR8, g8⟩ := Rtok hJ6 hfr7 (by decide +kernel) ⟨hR6, hR3.2.1, hR3.2.2⟩ ⟨φ7, fk3, hT7, hle, te_fi hJ6.1 hfr7 (d := ([(149, 4)], [])) (by decide +kernel) (by decide +kernel) hR6.2.2.2.1, fun h => h⟩
          refine zy_goto rfl ?_
          exact ih Ψ7 w7 mc7 ms7 φ8 fk8 (mm + Int32.ofNat 1) _ _ _ ls2 (by omega) (by omega) hJ7 hR8 (te_fa hJ6.1 hfr7 (d := ([(149, 22)], [114])) (by decide +kernel) (by decide +kernel) h226) tg_upd_eq hM2 hls7 m0 m1
        have hne := at142 Ψ2 w2 mc2 ms2 φ2 fk2 hJ2 hR2 h222 hls3
        obtain ⟨u2, hu2, -⟩ := tr_isGoodK hR2.1.2.2.2.1
        obtain ⟨at', h6, -, -⟩ := tr_exI (k := 6) (lo := 2147483648) (hi := 2147485248) hJ2.1 hq2 rfl
        refine zy_la rfl m0 (Or.inl ⟨_, rfl⟩) ?_
        refine zy_callK (a := 0) (n := 1) (st := []) (zx_Cl_le (by decide) hu2) rfl rfl (Nat.le_of_ble_eq_true rfl) hls3 rfl (by have := hJ2.2.1; omega) (by have := hJ2.2.1; omega) ?_
        refine zy_j0 rfl (fun _ => hne) (fun _ => ?_)
        refine zy_la rfl m0 (Or.inl ⟨_, rfl⟩) ?_
        refine zy_gA rfl hR2.1.1.2.2.2.2.2.2.2.1 (fun p hp hpt hlp => ?_)
        refine zy_ci (n := 2) (c := 8) rfl ?_
        refine zy_la rfl m0 (Or.inl ⟨_, rfl⟩) ?_
        refine zy_gI rfl hR2.1.1.2.1 ?_
        refine zy_mul rfl ?_
        refine zy_li rfl m2 ?_
        refine zy_add rfl ?_
        refine zy_ld rfl hp (tr_in (by omega) (by omega)) ?_
        refine zy_ci (n := 1) (c := 4294967295) rfl ?_
        refine zy_jt rfl (fun _ => hne) (fun _ => ?_)
        refine zy_la rfl m0 (Or.inl ⟨_, rfl⟩) ?_
        refine zy_ci (n := 1) (c := 3) rfl ?_
        refine zy_la rfl m0 (Or.inl ⟨_, rfl⟩) ?_
        refine zy_gI rfl h6 ?_
        refine zy_callD (tr_Do_le (tr_fails (kd := Int32.ofNat 3) (pl := at') hJ2.1 hq2 (by decide)) (by decide)) (n := 3) (st := []) rfl rfl (Nat.zero_le _) hls3 rfl hJ2 (by decide +kernel) (by decide +kernel) ?_
        intro a Ψ3 w3 mc3 ms3 hJ3 hle3 hfr3 hls5 hst3 hP
        obtain ⟨ea, fk3, h43, hne3⟩ := hP
        subst ea
        obtain ⟨φ4, fk4, hR4, g4⟩ := Rtok hJ2 hfr3 (by decide +kernel) hR2 ⟨φ2, fk3, tr_T_fr hJ2.1 hfr3 (by decide +kernel) hR2.1.2.2.2.2, Int.le_refl _, h43, fun h => absurd h hne3⟩
        exact at142 Ψ3 w3 mc3 ms3 φ4 fk4 hJ3 hR4 (te_fa hJ2.1 hfr3 (d := ([(149, 22)], [114])) (by decide +kernel) (by decide +kernel) h222) hls5
      obtain ⟨tk, h8, -, -⟩ := tr_exI (k := 8) (lo := 0) (hi := 4294967295) hJ.1 hq1 rfl
      refine zy_la rfl l0 (Or.inl ⟨_, rfl⟩) ?_
      refine zy_callK (a := 0) (n := 1) (st := []) (zx_Cl_le (by decide) hu) rfl rfl (Nat.le_of_ble_eq_true rfl) hls rfl (by have := hJ.2.1; omega) (by have := hJ.2.1; omega) ?_
      refine zy_j0 rfl (fun _ => go) (fun _ => ?_)
      refine zy_la rfl l0 (Or.inl ⟨_, rfl⟩) ?_
      refine zy_gA rfl h22 (fun p hp hpt hlp => ?_)
      refine zy_li rfl l1 ?_
      refine zy_ld rfl hp (tr_in (by omega) (by omega)) ?_
      rw [eni, hmm]
      refine zy_ci (n := 1) (c := 2) rfl ?_
      refine zy_jt rfl (fun _ => at103) (fun _ => ?_)
      refine zy_la rfl l0 (Or.inl ⟨_, rfl⟩) ?_
      refine zy_gA rfl h22 (fun p2 hp2 hpt2 hlp2 => ?_)
      refine zy_li rfl l1 ?_
      refine zy_ld rfl hp2 (tr_in (by omega) (by omega)) ?_
      rw [eni, hmm]
      refine zy_ci (n := 1) (c := 3) rfl ?_
      refine zy_jt rfl (fun _ => go) (fun _ => ?_)
      refine zy_la rfl l0 (Or.inl ⟨_, rfl⟩) ?_
      refine zy_gI rfl h8 ?_
      refine zy_ci (n := 1) (c := 2) rfl ?_
      exact zy_jt rfl (fun _ => go) (fun _ => at103)
  -- the name
  have hL := tr_exL (k := 32) (l := 147) (n := 8) (s := []) hw hq rfl rfl
  obtain ⟨tk, h8, -, -⟩ := tr_exI (k := 8) (lo := 0) (hi := 4294967295) hw hq rfl
  obtain ⟨nm, h10⟩ := tr_exJ (k := 10) (a := 0) (b := 0) hw hq rfl
  refine zy_la rfl l0 (Or.inl ⟨_, rfl⟩) ?_
  refine zy_gL rfl hL (fun p g hp hpt hlp => ?_)
  refine zy_li rfl l1 ?_
  refine zy_la rfl l0 (Or.inl ⟨_, rfl⟩) ?_
  refine zy_la rfl l0 (Or.inl ⟨_, rfl⟩) ?_
  refine zy_la rfl l0 (Or.inl ⟨_, rfl⟩) ?_
  refine zy_gL rfl hL (fun p2 g2 hp2 hpt2 hlp2 => ?_)
  refine zy_ci (n := 1) (c := 4) rfl ?_
  refine zy_la rfl l0 (Or.inl ⟨_, rfl⟩) ?_
  refine zy_gI rfl h40 ?_
  refine zy_mul rfl ?_
  refine zy_la rfl l0 (Or.inl ⟨_, rfl⟩) ?_
  refine zy_gA rfl h13 (fun p3 hp3 hpt3 hlp3 => ?_)
  refine zy_la rfl l0 (Or.inl ⟨_, rfl⟩) ?_
  refine zy_gI rfl h40 ?_
  refine zy_ld rfl hp3 (tr_in (by omega) (by omega)) ?_
  rw [enb, hpvd]
  obtain ⟨hh, hhK, -⟩ := tr_hereK (fi := Int32.ofNat 4 * rb) (n := pvv) k0 h8 h10 hp2 (by omega) (by omega) (by omega) (by decide)
  refine zy_callK (a := 0) (n := 4) (st := [(.inr (.inr (.inl q))), (.inl i1), (.inr (.inr (.inl p)))]) (zx_Cl_le (by decide) hhK) rfl rfl (Nat.le_of_ble_eq_true rfl) hls (tr_lim1 hlq (tr_lim2 (tr_lim1 hlp rfl))) (Nat.zero_le _) (Nat.zero_le _) ?_
  refine zy_callD (tr_Do_le (tr_fresh (its := hh) hw hq hR.2.2.2.2 hR.2.2.2.1) (by decide)) (n := 2) (st := [(.inl i1), (.inr (.inr (.inl p)))]) rfl rfl (Nat.le_of_ble_eq_true rfl) hls (tr_lim2 (tr_lim1 hlp rfl)) (tm_W0 (E := tr_EP) hw) (by decide +kernel) (by decide +kernel) ?_
  intro a Ψ2 w2 mc2 ms2 hJ2 hle2 hfr2 hls2 hst2 hP
  obtain ⟨⟨v, ea⟩, hPT⟩ := hP
  subst ea
  obtain ⟨φ2, fk2, hR2, g2⟩ := Rtok (tm_W0 (E := tr_EP) hw) hfr2 (by decide +kernel) ⟨hR, Int.le_refl _, fun h => h⟩ hPT
  have hq2 := hle2 _ _ hq
  refine zy_wL (k := 32) (n := 8) (l := 147) (s := []) rfl hJ2 hq2 rfl rfl (tr_pt_fr hw hfr2 (d := ([(149, 32)], [])) (by decide +kernel) (by decide +kernel) hpt) hi0 hi8 (by decide +kernel) ?_
  intro w3 hJ3 hfr3 hl3
  have hR3 := tr_RB_fr hJ2.1 hfr3 (by decide +kernel) hR2.1
  have hls3 : zx_limP w3.length ls = true := by rw [hl3]; exact hls2
  obtain ⟨fs3, k03, -, -⟩ := tr_ob hJ3.1 hq2
  have hlq3 : q < w3.length := (List.getElem?_eq_some_iff.mp k03).1
  obtain ⟨tk3, h83, -, -⟩ := tr_exI (k := 8) (lo := 0) (hi := 4294967295) hJ3.1 hq2 rfl
  obtain ⟨nm3, h103⟩ := tr_exJ (k := 10) (a := 0) (b := 0) hJ3.1 hq2 rfl
  obtain ⟨y, hy, -⟩ := tr_isWordK (c := Int64.ofNat 28518) h83 h103
  refine zy_la rfl l0 (Or.inl ⟨_, rfl⟩) ?_
  refine zy_la rfl l0 (Or.inl ⟨_, rfl⟩) ?_
  refine zy_cj (n := 3) (c := 28518) rfl ?_
  refine zy_callK (a := 0) (n := 2) (st := [(.inr (.inr (.inl q)))]) (zx_Cl_le (by decide) hy) rfl rfl (Nat.le_of_ble_eq_true rfl) hls3 (tr_lim1 hlq3 rfl) (by have := hJ3.2.1; omega) (by have := hJ3.2.1; omega) ?_
  refine zy_callD (tr_Do_le (tr_must (b := y) hJ3.1 hq2 hR3.2.2.2.2 hR3.2.2.2.1) (by decide)) (n := 2) (st := []) rfl rfl (Nat.zero_le _) hls3 rfl hJ3 (by decide +kernel) (by decide +kernel) ?_
  intro a Ψ4 w4 mc4 ms4 hJ4 hle4 hfr4 hls4 hst4 hP4
  obtain ⟨ea, hPT4⟩ := hP4
  subst ea
  obtain ⟨φ4, fk4, hR4, g4⟩ := Rtok hJ3 hfr4 (by decide +kernel) ⟨hR3, hR2.2.1, hR2.2.2⟩ hPT4
  have hq4 := hle4 _ _ hq2
  obtain ⟨hm0, h22⟩ := tr_exA (k := 22) (l := 114) (n := 8) (s := [(8, 2147483648, 2147483651)]) hJ4.1 hq4 rfl rfl
  refine zy_la rfl l0 (Or.inl ⟨_, rfl⟩) ?_
  refine zy_gA rfl h22 (fun p5 hp5 hpt5 hlp5 => ?_)
  refine zy_li rfl l1 ?_
  refine zy_ci (n := 1) (c := 0) rfl ?_
  refine zy_wA (k := 22) (n := 8) (lo := 2147483648) (hi := 2147483651) rfl hJ4 hq4 rfl rfl (by decide) hpt5 h22 hi0 hi8 (by decide) (by decide) (by decide +kernel) ?_
  intro w5 hJ5 hfr5 hl5 h225
  have hR5 := tr_RB_fr hJ4.1 hfr5 (by decide +kernel) hR4.1
  exact members 3 Ψ4 w5 mc4 ms4 φ4 fk4 (Int32.ofNat 0) pe ho _ ls (by decide) (by decide) hJ5 ⟨hR5, hR4.2.1, hR4.2.2⟩ h225 tg_upd_eq ⟨fun _ _ => rfl, fun _ _ => rfl, fun _ _ => Or.inl rfl⟩ (by rw [hl5]; exact hls4) l0 l1
