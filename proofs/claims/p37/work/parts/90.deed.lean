/-! by hand: e, readRule, readDeed -/
def tr_EQ (q : Nat) (φ : Int) (bk rb : Int32) (j : Nat) (Z : Nat → Nat → Int32) (fm : Int) (w' : List zx_E) : Prop := ∃ (φ' : Int) (fk' C : Int32) (ua hv pv dv tm ho pe cd rf rt : Nat → Int32), φ ≤ φ' ∧ tr_RB w' q bk rb C ua hv pv dv tm ho pe cd rf rt φ' fk' ∧ tr_old bk.toInt.toNat hv pv dv tm ho pe cd rf rt (Z 0) (Z 1) (Z 2) (Z 3) (Z 4) (Z 5) (Z 6) (Z 7) (Z 8) ∧ (fk'.toInt = 0 → tr_new rb.toInt.toNat (2 * (dv rb.toInt.toNat).toInt.toNat + j) fm hv pv dv tm ho pe cd rf rt ∧ fm ≤ C.toInt ∧ (∃ D, tr_run cd fm.toNat (C.toInt - fm).toNat D) ∧ 4 * (C.toInt - 640 * rb.toInt) ≤ 8 * (ua rb.toInt.toNat).toInt + φ')
set_option maxRecDepth 20000 in
theorem tr_e {Ψ : List Nat} {w : List zx_E} {q : Nat} {φ : Int} {fk bk rb C u : Int32} {ua hv pv dv tm ho pe cd rf rt : Nat → Int32} {j : Nat} {Z : Nat → Nat → Int32} (hw : tj_wt tj_Lam Ψ w) (hq : Ψ[q]? = some 149) (hR : tr_RB w q bk rb C ua hv pv dv tm ho pe cd rf rt φ fk) (hbb : tr_bb bk rb) (hold : tr_old bk.toInt.toNat hv pv dv tm ho pe cd rf rt (Z 0) (Z 1) (Z 2) (Z 3) (Z 4) (Z 5) (Z 6) (Z 7) (Z 8)) (hfk : fk.toInt = 0) (hnew : tr_new rb.toInt.toNat (2 * (dv rb.toInt.toNat).toInt.toNat + j) C.toInt hv pv dv tm ho pe cd rf rt) (hC : 640 * rb.toInt ≤ C.toInt) (hbud : 4 * (C.toInt - 640 * rb.toInt) ≤ 8 * (ua rb.toInt.toNat).toInt + φ) (h44 : tj_fi w q 12 44 u) (hu : u.toInt = 0) : tr_Do 6 109 [(.inr (.inr (.inl q)))] tr_Ee Ψ w (fun a _ w' => a = none ∧ tr_EQ q φ bk rb j Z C.toInt w') := by
  obtain ⟨fs, k0, -, -⟩ := tr_ob hw hq
  have hlq : q < w.length := (List.getElem?_eq_some_iff.mp k0).1
  have hb := hbb
  unfold tr_bb at hb
  have bC := tr_bdI (lo := 2147483648) (hi := 2147484928) hw hq rfl hR.2.1
  have iC := zx_b_int C
  generalize hfm : C.toInt = fm at hnew
  have z0 : (Int32.ofNat 0).toInt = 0 := by decide
  let P : Option zx_V → List Nat → List zx_E → Prop := fun a _ w' => a = none ∧ tr_EQ q φ bk rb j Z fm w'
  refine tr_meth (P := P) (d := 5) (dt := zx_d_X12_e) (by rw [← zx_q_X12_e]; rfl) (by rw [(by decide +kernel : zx_rc 109 = 13)]; exact ⟨q, _, fs, rfl, k0⟩) (by decide +kernel : 1 ≤ zx_mx' 109) ?_
  let WP : zx_S → Prop := fun σ => zx_wp (zx_Cl zx_mt zx_rc zx_mx' 5) none (tj_P tj_c1 w, tj_P tj_c2 w) (zx_find (zx_cT zx_d_X12_e)) (tr_end zx_d_X12_e tr_Ee Ψ w P) σ
  let J : List Nat → List zx_E → Nat → Nat → Prop := fun Ψ' w' mc ms => tj_W tj_Lam (tj_P tj_c1 w, tj_P tj_c2 w) tr_Ee Ψ w Ψ' w' mc ms
  -- a fault
  have bad : ∀ (Ψ' : List Nat) (w' : List zx_E) (mc ms : Nat) (φ' : Int) (fk' : Int32) (nw m : Nat) (ls : List (Nat × zx_V)), J Ψ' w' mc ms → tr_EPs w' q φ' fk' bk rb j Z fm nw m → φ ≤ φ' → fk'.toInt ≠ 0 → zx_limP w'.length ls = true → zx_look 0 ls = some (.inr (.inr (.inl q))) → WP (19, ls, [], w', mc, ms) := by
    intro Ψ' w' mc ms φ' fk' nw m ls hJ hE hφ hne hls l0
    obtain ⟨C', ua', hv', pv', dv', tm', ho', pe', cd', rf', rt', E, S, pd, wi, u', hR', hbb', hold', hE', hc⟩ := hE
    obtain ⟨gv, hgv, hgv'⟩ := tr_isGoodK hR'.2.2.2.1
    refine zy_la rfl l0 (Or.inl ⟨_, rfl⟩) ?_
    refine zy_callK (a := 0) (n := 1) (st := []) (zx_Cl_le (by decide) hgv) rfl rfl (Nat.le_of_ble_eq_true rfl) hls rfl (by have := hJ.2.1; omega) (by have := hJ.2.1; omega) ?_
    rcases hgv' with ⟨ev, hz⟩ | ⟨ev, hz⟩
    · exact absurd hz hne
    · subst ev
      exact zy_j0 rfl (fun _ => tr_endN ⟨_, _, _, rfl⟩ hJ ⟨rfl, φ', fk', C', ua', hv', pv', dv', tm', ho', pe', cd', rf', rt', hφ, hR', hold', fun h => absurd h hne⟩) (fun h => absurd tr_z0 h)
  have loop : ∀ (m : Nat) (Ψ' : List Nat) (w' : List zx_E) (mc ms : Nat) (φ' : Int) (fk' x : Int32) (nw : Nat) (ls : List (Nat × zx_V)), J Ψ' w' mc ms → tr_EPs w' q φ' fk' bk rb j Z fm nw m → φ ≤ φ' → (x = Int32.ofNat 0 ∨ x = Int32.ofNat 1) → nw = 1 - x.toInt.toNat → zx_limP w'.length ls = true → zx_look 0 ls = some (.inr (.inr (.inl q))) → zx_look 1 ls = some (.inl x) → WP (19, ls, [], w', mc, ms) := by
    intro m
    induction m using Nat.strongRecOn with
    | _ m ih =>
      intro Ψ' w' mc ms φ' fk' x nw ls hJ hE hφ hx hnw hls l0 l1
      by_cases hne : fk'.toInt ≠ 0
      · exact bad Ψ' w' mc ms φ' fk' nw m ls hJ hE hφ hne hls l0
      have hfk' : fk'.toInt = 0 := Classical.byContradiction hne
      have hq1 := hJ.2.2.1 _ _ hq
      obtain ⟨C', ua', hv', pv', dv', tm', ho', pe', cd', rf', rt', E, S, pd, wi, u', hR', hbb', hold', hE', hc⟩ := hE
      obtain ⟨hnew', hEI', hm'⟩ := hc hfk'
      have bpd := tr_bdI (lo := 2147483648) (hi := 2147483738) hJ.1 hq1 rfl hE'.2.2.1
      have ipd := zx_b_int pd
      obtain ⟨gv, hgv, hgv'⟩ := tr_isGoodK hR'.2.2.2.1
      refine zy_la rfl l0 (Or.inl ⟨_, rfl⟩) ?_
      refine zy_callK (a := 0) (n := 1) (st := []) (zx_Cl_le (by decide) hgv) rfl rfl (Nat.le_of_ble_eq_true rfl) hls rfl (by have := hJ.2.1; omega) (by have := hJ.2.1; omega) ?_
      rcases hgv' with ⟨ev, hz⟩ | ⟨ev, hz⟩
      rotate_left
      · exact absurd hfk' hz
      subst ev
      refine zy_j0 rfl (fun h => absurd h tr_no1) (fun _ => ?_)
      -- behind a part
      have next : ∀ (a : Option zx_V) (Ψ2 : List Nat) (w2 : List zx_E) (mc2 ms2 : Nat), J Ψ2 w2 mc2 ms2 → zx_limP w2.length ls = true → tr_EO q φ' bk rb j Z fm m a w2 → WP (48, ls, a.toList ++ [], w2, mc2, ms2) := by
        intro a Ψ2 w2 mc2 ms2 hJ2 hls2 hP
        obtain ⟨y, φ2, fk2, m2, ea, hy, hφ2, hE2, hlt⟩ := hP
        subst ea
        refine zy_si (k := 1) rfl ?_
        refine zy_goto rfl ?_
        by_cases hne2 : fk2.toInt ≠ 0
        · exact bad Ψ2 w2 mc2 ms2 φ2 fk2 _ m2 _ hJ2 hE2 (by omega) hne2 (zy_limP_put hls2 rfl) (zy_look_ne (by decide) rfl l0)
        · exact ih m2 (hlt (Classical.byContradiction hne2)) Ψ2 w2 mc2 ms2 φ2 fk2 y _ _ hJ2 hE2 (by omega) hy rfl (zy_limP_put hls2 rfl) (zy_look_ne (by decide) rfl l0) zy_look_put
      refine zy_la rfl l0 (Or.inl ⟨_, rfl⟩) ?_
      refine zy_gI rfl hE'.2.2.1 ?_
      refine zy_j0 rfl (fun hle => ?_) (fun hgt => ?_)
      · have hle : zx_b pd ≤ 2147483648 := hle
        obtain ⟨i1, i2, i3, i4, ⟨D, i5, i6, i7⟩, i8, i9⟩ := hEI'
        have hnw1 : nw = 1 := by
          rcases hx with e | e
          · rw [hnw, e]
            decide
          · rw [e] at hnw
            have : nw = 0 := hnw
            have := i9 this
            omega
        rw [hnw1] at i8
        exact tr_endN ⟨_, _, _, rfl⟩ hJ ⟨rfl, φ', fk', C', ua', hv', pv', dv', tm', ho', pe', cd', rf', rt', hφ, hR', hold', fun _ => ⟨hnew', i1, ⟨D, i5⟩, by omega⟩⟩
      have hgt : 2147483648 < zx_b pd := hgt
      refine zy_li rfl l1 ?_
      rcases hx with ex | ex
      · subst ex
        refine zy_j0 rfl (fun _ => ?_) (fun h => absurd tr_z0 h)
        have hnw1 : nw = 1 := hnw
        subst hnw1
        refine zy_la rfl l0 (Or.inl ⟨_, rfl⟩) ?_
        refine zy_callD (tr_behind hJ.1 hq1 hR' hbb' hold' hE' hfk' hnew' hEI' (by omega) hm') (n := 1) (st := []) rfl rfl (Nat.zero_le _) hls rfl hJ (by decide +kernel) (by decide +kernel) ?_
        intro a Ψ2 w2 mc2 ms2 hJ2 hle2 hfr2 hls2 hst2 hP
        exact next a Ψ2 w2 mc2 ms2 hJ2 hls2 hP
      · subst ex
        refine zy_j0 rfl (fun h => absurd h tr_no1) (fun _ => ?_)
        have hnw0 : nw = 0 := hnw
        subst hnw0
        refine zy_la rfl l0 (Or.inl ⟨_, rfl⟩) ?_
        refine zy_callD (tr_Do_le (tr_unit hJ.1 hq1 hR' hbb' hold' hE' hfk' hnew' hEI' hm') (by decide)) (n := 1) (st := []) rfl rfl (Nat.zero_le _) hls rfl hJ (by decide +kernel) (by decide +kernel) ?_
        intro a Ψ2 w2 mc2 ms2 hJ2 hle2 hfr2 hls2 hst2 hP
        obtain ⟨y, φ2, fk2, m2, ea, hy, hφ2, hE2, hlt⟩ := id hP
        subst ea
        refine zy_goto rfl ?_
        exact next _ Ψ2 w2 mc2 ms2 hJ2 hls2 hP
  have hls0 : zx_limP w.length [(0, (.inr (.inr (.inl q))))] = true := tm_lim hlq rfl
  show WP (0, [(0, (.inr (.inr (.inl q))))], [], w, 0, 0)
  refine zy_la (k := 0) rfl rfl (Or.inl ⟨_, rfl⟩) ?_
  refine zy_ci (n := 1) (c := 0) rfl ?_
  refine zy_wI (k := 43) (lo := 2147483648) (hi := 2147483738) rfl (tm_W0 (E := tr_Ee) hw) hq rfl (by decide) (by decide) rfl (by decide +kernel) ?_
  intro w1 hJ1 hfr1 hl1 h431
  have hR1 := tr_RB_fr hw hfr1 (by decide +kernel) hR
  have h441 := te_fi hw hfr1 (d := ([(149, 44)], [])) (by decide +kernel) (by decide +kernel) h44
  refine zy_la (k := 0) rfl rfl (Or.inl ⟨_, rfl⟩) ?_
  refine zy_ci (n := 1) (c := 0) rfl ?_
  refine zy_wI (k := 42) (lo := 2147483648) (hi := 2147483655) rfl hJ1 hq rfl (by decide) (by decide) rfl (by decide +kernel) ?_
  intro w2 hJ2 hfr2 hl2 h422
  have hR2 := tr_RB_fr hJ1.1 hfr2 (by decide +kernel) hR1
  have h442 := te_fi hJ1.1 hfr2 (d := ([(149, 44)], [])) (by decide +kernel) (by decide +kernel) h441
  have h432 := te_fi hJ1.1 hfr2 (d := ([(149, 43)], [])) (by decide +kernel) (by decide +kernel) h431
  obtain ⟨E0, h36⟩ := tr_exA (k := 36) (l := 120) (n := 90) (s := [(90, 2147483648, 2147483656)]) hJ2.1 hq rfl rfl
  obtain ⟨S0, h37⟩ := tr_exA (k := 37) (l := 121) (n := 90) (s := [(90, 0, 4294967295)]) hJ2.1 hq rfl rfl
  have hls2 : zx_limP w2.length [(0, (.inr (.inr (.inl q))))] = true := by rw [hl2, hl1]; exact hls0
  refine zy_la (k := 0) rfl rfl (Or.inl ⟨_, rfl⟩) ?_
  refine zy_ci (n := 2) (c := 8) rfl ?_
  refine zy_ci (n := 1) (c := 0) rfl ?_
  refine zy_callD (tr_Do_le (tr_pushE (c := Int32.ofNat 8) (n := Int32.ofNat 0) hJ2.1 hq h432 h36 h37 (by decide) (by decide)) (by decide)) (n := 3) (st := []) rfl rfl (Nat.zero_le _) hls2 rfl hJ2 (by decide +kernel) (by decide +kernel) ?_
  intro a Ψ3 w3 mc3 ms3 hJ3 hle3 hfr3 hls3 hst3 hP3
  obtain ⟨ea, h433, h363, h373⟩ := hP3
  subst ea
  have hR3 := tr_RB_fr hJ2.1 hfr3 (by decide +kernel) hR2
  have h423 := te_fi hJ2.1 hfr3 (d := ([(149, 42)], [])) (by decide +kernel) (by decide +kernel) h422
  have h443 := te_fi hJ2.1 hfr3 (d := ([(149, 44)], [])) (by decide +kernel) (by decide +kernel) h442
  have e1 : (Int32.ofNat 0 + Int32.ofNat 1).toInt = 1 := by decide
  have e0n : (Int32.ofNat 0).toInt.toNat = 0 := by decide
  rw [e0n] at h363 h373
  generalize Int32.ofNat 0 + Int32.ofNat 1 = pd at e1 h433
  have e8 : (upd E0 0 (Int32.ofNat 8) 0).toInt = 8 := by
    rw [tg_upd_eq]
    decide
  refine zy_ci (n := 1) (c := 1) rfl ?_
  refine zy_si (k := 1) rfl ?_
  refine loop (tr_me u (Int32.ofNat 0) pd 0) Ψ3 w3 mc3 ms3 φ fk (Int32.ofNat 1) 0 _ hJ3 ⟨C, ua, hv, pv, dv, tm, ho, pe, cd, rf, rt, _, _, pd, Int32.ofNat 0, u, hR3, hbb, hold, ⟨h363, h373, h433, h423, h443⟩, fun _ => ⟨hnew, ⟨by omega, by omega, ⟨fun _ => e8, fun k k1 k2 => by omega⟩, ?_, ⟨0, ?_, by omega, fun _ => by omega⟩, by omega, fun _ => by omega⟩, rfl⟩⟩ (Int.le_refl _) (Or.inr rfl) rfl (zy_limP_put hls3 rfl) rfl zy_look_put
  · rw [show pd.toInt.toNat = 0 + 1 by omega, tr_nw_n (by omega)]
    exact z0
  · rw [show (C.toInt - fm).toNat = 0 by omega]
    rfl
def tr_Er : tj_Ef := (tr_Ee.1, [107, 118, 119, 120, 121, 137, 138])
set_option maxRecDepth 20000 in
theorem tr_readRule {Ψ : List Nat} {w : List zx_E} {q : Nat} {φ : Int} {fk bk rb r : Int32} {j : Nat} {Z : Nat → Nat → Int32} {dv0 : Nat → Int32} (hw : tj_wt tj_Lam Ψ w) (hq : Ψ[q]? = some 149) (hPS : tr_PS w q φ fk bk rb j Z) (hfk : fk.toInt = 0) (h140 : tj_fa w q 12 14 2 dv0) (hr : r.toInt = 2 * (dv0 rb.toInt.toNat).toInt + j) (hr11 : r.toInt ≤ 11) (hd0 : 0 ≤ (dv0 rb.toInt.toNat).toInt) : tr_Do 7 192 [(.inr (.inr (.inl q))), (.inl r)] tr_Er Ψ w (fun a _ w' => a = none ∧ tr_PD q φ bk rb (j + 1) Z w') := by
  obtain ⟨fs, k0, -, -⟩ := tr_ob hw hq
  have hlq : q < w.length := (List.getElem?_eq_some_iff.mp k0).1
  obtain ⟨C, ua, hv, pv, dv, tm, ho, pe, cd, rf, rt, hR, hbb, hold, hnew⟩ := hPS
  obtain ⟨hnew, hC, hbud⟩ := hnew hfk
  have hb := hbb
  unfold tr_bb at hb
  have edv := tr_fa_eq h140 hR.1.2.2.2.2.1
  subst edv
  have irb := zx_b_int rb
  have ir := zx_b_int r
  have bC := tr_bdI (lo := 2147483648) (hi := 2147484928) hw hq rfl hR.2.1
  have iC := zx_b_int C
  have e12 : (Int32.ofNat 12 * rb).toInt = 12 * rb.toInt := tr_mul (c := 12) (by decide) rfl (by omega) (by omega)
  have eix : (Int32.ofNat 12 * rb + r).toInt = 12 * rb.toInt + r.toInt := by rw [tr_add (by omega) (by omega), e12]
  let P : Option zx_V → List Nat → List zx_E → Prop := fun a _ w' => a = none ∧ tr_PD q φ bk rb (j + 1) Z w'
  refine tr_meth (P := P) (d := 6) (dt := zx_d_X12_readRule) (by rw [← zx_q_X12_readRule]; rfl) (by rw [(by decide +kernel : zx_rc 192 = 13)]; exact ⟨q, _, fs, rfl, k0⟩) (by decide +kernel : 2 ≤ zx_mx' 192) ?_
  have hls : zx_limP w.length [(0, (.inr (.inr (.inl q)))), (1, (.inl r))] = true := tm_lim hlq rfl
  refine zy_la (k := 0) rfl rfl (Or.inl ⟨_, rfl⟩) ?_
  refine zy_ci (n := 1) (c := 0) rfl ?_
  refine zy_wI (k := 44) (lo := 2147483648) (hi := 2147483678) rfl (tm_W0 (E := tr_Er) hw) hq rfl (by decide) (by decide) rfl (by decide +kernel) ?_
  intro w1 hJ1 hfr1 hl1 h441
  have hR1 := tr_RB_fr hw hfr1 (by decide +kernel) hR
  refine zy_la (k := 0) rfl rfl (Or.inl ⟨_, rfl⟩) ?_
  refine zy_gA rfl hR1.1.2.2.2.2.2.2.2.2.2.1 (fun p hp hpt hlp => ?_)
  refine zy_ci (n := 2) (c := 12) rfl ?_
  refine zy_la (k := 0) rfl rfl (Or.inl ⟨_, rfl⟩) ?_
  refine zy_gI rfl hR1.1.2.1 ?_
  refine zy_mul rfl ?_
  refine zy_li (k := 1) rfl rfl ?_
  refine zy_add rfl ?_
  refine zy_la (k := 0) rfl rfl (Or.inl ⟨_, rfl⟩) ?_
  refine zy_gI rfl hR1.2.1 ?_
  generalize Int32.ofNat 12 * rb + r = ix at eix ⊢
  refine zy_wA (k := 26) (n := 24) (lo := 2147483648) (hi := 2147484928) rfl hJ1 hq rfl rfl (by decide) hpt hR1.1.2.2.2.2.2.2.2.2.2.1 (by omega) (by omega) (by omega) (by omega) (by decide +kernel) ?_
  intro w2 hJ2 hfr2 hl2 h262
  have hR2 := tr_RB_rf hJ1.1 hfr2 hR1 h262
  have h442 := te_fi hJ1.1 hfr2 (d := ([(149, 44)], [])) (by decide +kernel) (by decide +kernel) h441
  have hls2 : zx_limP w2.length [(0, (.inr (.inr (.inl q)))), (1, (.inl r))] = true := by rw [hl2, hl1]; exact hls
  have hold2 : tr_old bk.toInt.toNat hv pv dv0 tm ho pe cd (upd rf ix.toInt.toNat C) rt (Z 0) (Z 1) (Z 2) (Z 3) (Z 4) (Z 5) (Z 6) (Z 7) (Z 8) := by
    obtain ⟨o1, o2, o3, o4, o5, o6, o7, o8, o9⟩ := hold
    exact ⟨o1, o2, o3, o4, o5, o6, o7, fun i hi => by rw [tg_upd_ne (by omega)]; exact o8 i hi, o9⟩
  have hnew2 : tr_new rb.toInt.toNat (2 * (dv0 rb.toInt.toNat).toInt.toNat + j) C.toInt hv pv dv0 tm ho pe cd (upd rf ix.toInt.toNat C) rt := by
    obtain ⟨n1, n2, n3, n4⟩ := hnew
    exact ⟨n1, n2, n3, fun r' hr' => by rw [tg_upd_ne (by omega)]; exact n4 r' hr'⟩
  refine zy_la (k := 0) rfl rfl (Or.inl ⟨_, rfl⟩) ?_
  refine zy_callD (tr_e hJ2.1 hq hR2 hbb hold2 hfk hnew2 hC hbud h442 (by decide)) (n := 1) (st := []) rfl rfl (Nat.zero_le _) hls2 rfl hJ2 (by decide +kernel) (by decide +kernel) ?_
  intro a Ψ3 w3 mc3 ms3 hJ3 hle3 hfr3 hls3 hst3 hP3
  obtain ⟨ea, φ3, fk3, C3, ua3, hv3, pv3, dv3, tm3, ho3, pe3, cd3, rf3, rt3, hφ3, hR3, hold3, hnew3⟩ := hP3
  subst ea
  have hq3 := hle3 _ _ hq
  have e26 := tr_fa_eq hR3.1.2.2.2.2.2.2.2.2.2.1 (te_fa hJ2.1 hfr3 (d := ([(149, 26)], [137])) (by decide +kernel) (by decide +kernel) h262)
  have e14 := tr_fa_eq hR3.1.2.2.2.2.1 (te_fa hJ2.1 hfr3 (d := ([(149, 14)], [106])) (by decide +kernel) (by decide +kernel) hR2.1.2.2.2.2.1)
  subst e14
  have bC3 := tr_bdI (lo := 2147483648) (hi := 2147484928) hJ3.1 hq3 rfl hR3.2.1
  have iC3 := zx_b_int C3
  refine zy_la (k := 0) rfl rfl (Or.inl ⟨_, rfl⟩) ?_
  refine zy_gA rfl hR3.1.2.2.2.2.2.2.2.2.2.2 (fun p3 hp3 hpt3 hlp3 => ?_)
  refine zy_ci (n := 2) (c := 12) rfl ?_
  refine zy_la (k := 0) rfl rfl (Or.inl ⟨_, rfl⟩) ?_
  refine zy_gI rfl hR3.1.2.1 ?_
  refine zy_mul rfl ?_
  refine zy_li (k := 1) rfl rfl ?_
  refine zy_add rfl ?_
  have eix2 : (Int32.ofNat 12 * rb + r).toInt = 12 * rb.toInt + r.toInt := by rw [tr_add (by omega) (by omega), e12]
  generalize Int32.ofNat 12 * rb + r = ix2 at eix2 ⊢
  refine zy_la (k := 0) rfl rfl (Or.inl ⟨_, rfl⟩) ?_
  refine zy_gI rfl hR3.2.1 ?_
  refine zy_wA (k := 27) (n := 24) (lo := 2147483648) (hi := 2147484928) rfl hJ3 hq3 rfl rfl (by decide) hpt3 hR3.1.2.2.2.2.2.2.2.2.2.2 (by omega) (by omega) (by omega) (by omega) (by decide +kernel) ?_
  intro w4 hJ4 hfr4 hl4 h274
  have hR4 := tr_RB_rt hJ3.1 hfr4 hR3 h274
  refine tr_endN ⟨_, _, _, rfl⟩ hJ4 ⟨rfl, φ3, fk3, hφ3, C3, ua3, _, _, _, _, _, _, _, _, _, hR4, hbb, ?_, fun h0 => ?_⟩
  · obtain ⟨o1, o2, o3, o4, o5, o6, o7, o8, o9⟩ := hold3
    exact ⟨o1, o2, o3, o4, o5, o6, o7, o8, fun i hi => by rw [tg_upd_ne (by omega)]; exact o9 i hi⟩
  · obtain ⟨⟨n1, n2, n3, n4⟩, n5, ⟨D, n6⟩, n7⟩ := hnew3 h0
    refine ⟨⟨n1, n2, n3, fun r' hr' => ?_⟩, by omega, n7⟩
    by_cases e : 12 * rb.toInt.toNat + r' = ix2.toInt.toNat
    · rw [e, tg_upd_eq, e26, show ix2.toInt.toNat = ix.toInt.toNat by omega, tg_upd_eq]
      refine ⟨by omega, n5, Int.le_refl _, ?_⟩
      have h := tr_run_cd n6 0 trivial
      rw [Nat.add_zero] at h
      exact h
    · rw [tg_upd_ne e]
      obtain ⟨r1, r2, r3, r4⟩ := n4 r' (by omega)
      exact ⟨r1, r2, by omega, r4⟩
theorem tr_PS_tok {Ψ : List Nat} {w w' : List zx_E} {q : Nat} {e : tj_Ef} {φ : Int} {fk bk rb : Int32} {j : Nat} {Z : Nat → Nat → Int32} (hw : tj_wt tj_Lam Ψ w) (hfr : tj_fr e Ψ w w') (hd : tj_dj tr_dPS e = true) (h : tr_PS w q φ fk bk rb j Z) (hP : tr_PT q φ fk w') : ∃ (φ' : Int) (fk' : Int32), φ ≤ φ' ∧ (fk'.toInt = 0 → fk.toInt = 0) ∧ tr_PS w' q φ' fk' bk rb j Z := by
  obtain ⟨C, ua, hv, pv, dv, tm, ho, pe, cd, rf, rt, hR, hbb, hold, hnew⟩ := h
  obtain ⟨φ', fk', g1, g2, hR2⟩ := tr_RB_tok hw hfr hd hR hP
  refine ⟨φ', fk', g1, g2, C, ua, hv, pv, dv, tm, ho, pe, cd, rf, rt, hR2, hbb, hold, fun h0 => ?_⟩
  obtain ⟨n1, n2, n3⟩ := hnew (g2 h0)
  exact ⟨n1, n2, by omega⟩
theorem tr_PS_fr {Ψ : List Nat} {w w' : List zx_E} {q : Nat} {e : tj_Ef} {φ : Int} {fk bk rb : Int32} {j : Nat} {Z : Nat → Nat → Int32} (hw : tj_wt tj_Lam Ψ w) (hfr : tj_fr e Ψ w w') (hd : tj_dj tr_dRB e = true) (h : tr_PS w q φ fk bk rb j Z) : tr_PS w' q φ fk bk rb j Z := by
  obtain ⟨C, ua, hv, pv, dv, tm, ho, pe, cd, rf, rt, hR, hbb, hold, hnew⟩ := h
  exact ⟨C, ua, hv, pv, dv, tm, ho, pe, cd, rf, rt, tr_RB_fr hw hfr hd hR, hbb, hold, hnew⟩
theorem tr_PS_bad {w : List zx_E} {q : Nat} {φ : Int} {fk bk rb : Int32} {j j' : Nat} {Z : Nat → Nat → Int32} (h : tr_PS w q φ fk bk rb j Z) (hne : fk.toInt ≠ 0) : tr_PS w q φ fk bk rb j' Z := by
  obtain ⟨C, ua, hv, pv, dv, tm, ho, pe, cd, rf, rt, hR, hbb, hold, hnew⟩ := h
  exact ⟨C, ua, hv, pv, dv, tm, ho, pe, cd, rf, rt, hR, hbb, hold, fun h => absurd h hne⟩
theorem tr_PS_4 {w : List zx_E} {q : Nat} {φ : Int} {fk bk rb : Int32} {j : Nat} {Z : Nat → Nat → Int32} (h : tr_PS w q φ fk bk rb j Z) : tj_fi w q 12 4 fk ∧ tr_T w q φ ∧ tj_fi w q 12 40 rb ∧ tr_bb bk rb := by
  obtain ⟨C, ua, hv, pv, dv, tm, ho, pe, cd, rf, rt, hR, hbb, hold, hnew⟩ := h
  exact ⟨hR.2.2.2.1, hR.2.2.2.2, hR.1.2.1, hbb⟩
