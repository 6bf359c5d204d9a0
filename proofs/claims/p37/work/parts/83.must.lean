/-! by hand: must, numeral, after, fresh, known -/
def tr_ph (at' tk : Int32) : Int := at'.toInt + (if tk.toInt = 2 ∨ tk.toInt = 3 then 0 else 1)
theorem tr_ph_lw {at' tk : Int32} (h : tr_LW tk) : tr_ph at' tk = at'.toInt := by
  unfold tr_ph
  rw [if_pos (show tk.toInt = 2 ∨ tk.toInt = 3 from h), Int.add_zero]
theorem tr_ph_nlw {at' tk : Int32} (h : ¬ tr_LW tk) : tr_ph at' tk = at'.toInt + 1 := by
  unfold tr_ph
  rw [if_neg (show ¬ (tk.toInt = 2 ∨ tk.toInt = 3) from h)]
def tr_TV (w : List zx_E) (q : Nat) (tx : Nat → Int32) (sz en at' tk : Int32) (nm : Int64) : Prop := tr_V w q tx sz en at' tk nm ∧ tr_ti tx sz en at' tk nm
def tr_T (w : List zx_E) (q : Nat) (φ : Int) : Prop := ∃ tx sz en at' tk nm, tr_TV w q tx sz en at' tk nm ∧ φ = tr_ph at' tk
def tr_dT : tj_Ef := ([(149, 3), (149, 7), (149, 6), (149, 8), (149, 10), (149, 1)], [102])
theorem tr_TV_fr {Ψ : List Nat} {w w' : List zx_E} {q : Nat} {e : tj_Ef} {tx : Nat → Int32} {sz en at' tk : Int32} {nm : Int64} (hw : tj_wt tj_Lam Ψ w) (hfr : tj_fr e Ψ w w') (hd : tj_dj tr_dT e = true) (h : tr_TV w q tx sz en at' tk nm) : tr_TV w' q tx sz en at' tk nm := by
  obtain ⟨⟨h1, h2, h3, h4, h5, h6⟩, h7⟩ := h
  exact ⟨⟨te_fi hw hfr hd (by decide +kernel) h1, te_fi hw hfr hd (by decide +kernel) h2, te_fi hw hfr hd (by decide +kernel) h3, te_fi hw hfr hd (by decide +kernel) h4, tr_fj_fr hw hfr hd (by decide +kernel) h5, tr_fy_fr hw hfr hd (by decide +kernel) h6⟩, h7⟩
theorem tr_T_fr {Ψ : List Nat} {w w' : List zx_E} {q : Nat} {e : tj_Ef} {φ : Int} (hw : tj_wt tj_Lam Ψ w) (hfr : tj_fr e Ψ w w') (hd : tj_dj tr_dT e = true) (h : tr_T w q φ) : tr_T w' q φ := by
  obtain ⟨tx, sz, en, at', tk, nm, h1, h2⟩ := h
  exact ⟨tx, sz, en, at', tk, nm, tr_TV_fr hw hfr hd h1, h2⟩
/-- goOn, from a token on -/
theorem tr_goOnV {Ψ : List Nat} {w : List zx_E} {q : Nat} {sz en at' tk : Int32} {nm : Int64} {tx : Nat → Int32} (hw : tj_wt tj_Lam Ψ w) (hq : Ψ[q]? = some 149) (hT : tr_TV w q tx sz en at' tk nm) : tr_Do 3 123 [(.inr (.inr (.inl q)))] tr_EG Ψ w (fun a _ w' => a = none ∧ ∃ (en' at2 tk' : Int32) (nm' : Int64), tr_TV w' q tx sz en' at2 tk' nm' ∧ tr_ph at' tk ≤ tr_ph at2 tk' ∧ (tr_LW tk → tr_ph at' tk + 1 ≤ tr_ph at2 tk') ∧ (tk.toInt = 3 → nm = Int64.ofNat 7237492 → tr_ph at' tk + 4 ≤ tr_ph at2 tk')) := by
  obtain ⟨⟨h1, h2, h3, h4, h5, h6⟩, t1, t2, t3, t4, t5, t6, t7, t8⟩ := hT
  refine tr_Do_mono (tr_goOn hw hq h1 h2 h6 t3) (fun a Ψ' w' _ _ _ hP => ?_)
  obtain ⟨ha, en', at2, tk', nm', hV, hti, hle, hlw⟩ := hP
  refine ⟨ha, en', at2, tk', nm', ⟨hV, hti⟩, ?_⟩
  obtain ⟨u1, u2, u3, u4, u5, u6, u7, u8⟩ := hti
  by_cases hL : tr_LW tk
  · rw [tr_ph_lw hL]
    have hL' := hL
    unfold tr_LW at hL'
    have h5 := t5 (by omega)
    by_cases hL2 : tr_LW tk'
    · rw [tr_ph_lw hL2]
      have h6 := hlw hL2 (t6 hL)
      exact ⟨by omega, fun _ => by omega, fun e1 e2 => by have := t7 e1 e2; omega⟩
    · rw [tr_ph_nlw hL2]
      exact ⟨by omega, fun _ => by omega, fun e1 e2 => by have := t7 e1 e2; omega⟩
  · rw [tr_ph_nlw hL]
    refine ⟨?_, fun h => absurd h hL, fun e1 _ => absurd (Or.inr e1) hL⟩
    by_cases h0 : tk.toInt = 0
    · have h8 := t8 h0
      by_cases hL2 : tr_LW tk'
      · have hL3 := hL2
        unfold tr_LW at hL3
        have := u5 (by omega)
        omega
      · rw [tr_ph_nlw hL2]
        omega
    · have h5 := t5 h0
      by_cases hL2 : tr_LW tk'
      · rw [tr_ph_lw hL2]
        omega
      · rw [tr_ph_nlw hL2]
        omega
def tr_EF : tj_Ef := ([(149, 4), (149, 5)], [])
def tr_EM : tj_Ef := ([(149, 4), (149, 5), (149, 6), (149, 7), (149, 8), (149, 9), (149, 10)], [])
/-- what the token readers keep and give -/
def tr_PT (q : Nat) (φ : Int) (fk : Int32) (w' : List zx_E) : Prop := ∃ (φ' : Int) (fk' : Int32), tr_T w' q φ' ∧ φ ≤ φ' ∧ tj_fi w' q 12 4 fk' ∧ (fk'.toInt = 0 → fk.toInt = 0)
set_option maxRecDepth 20000 in
theorem tr_fails {Ψ : List Nat} {w : List zx_E} {q : Nat} {kd pl : Int32} (hw : tj_wt tj_Lam Ψ w) (hq : Ψ[q]? = some 149) (hk : 1 ≤ kd.toInt) : tr_Do 1 116 [(.inr (.inr (.inl q))), (.inl kd), (.inl pl)] tr_EF Ψ w (fun a _ w' => a = none ∧ ∃ fk' : Int32, tj_fi w' q 12 4 fk' ∧ fk'.toInt ≠ 0) := by
  obtain ⟨fs, k0, -, -⟩ := tr_ob hw hq
  have hlq : q < w.length := (List.getElem?_eq_some_iff.mp k0).1
  obtain ⟨fk, h4, -, -⟩ := tr_exI (k := 4) (lo := 0) (hi := 4294967295) hw hq rfl
  have i4 := zx_b_int fk
  refine tr_meth (d := 0) (dt := zx_d_X12_fails) (by rw [← zx_q_X12_fails]; rfl) (by rw [(by decide +kernel : zx_rc 116 = 13)]; exact ⟨q, _, fs, rfl, k0⟩) (by decide +kernel : 3 ≤ zx_mx' 116) ?_
  refine zy_la (k := 0) rfl rfl (Or.inl ⟨_, rfl⟩) ?_
  refine zy_gI rfl h4 ?_
  refine zy_j0 rfl (fun _ => ?_) (fun h => ?_)
  · refine zy_la (k := 0) rfl rfl (Or.inl ⟨_, rfl⟩) ?_
    refine zy_li (k := 1) rfl rfl ?_
    refine zy_wI (k := 4) (lo := 0) (hi := 4294967295) rfl (tm_W0 (E := tr_EF) hw) hq rfl (Nat.zero_le _) (by have := tj_b_lt kd; omega) rfl (by decide +kernel) ?_
    intro w2 hJ2 hfr2 hl2 h42
    refine zy_la (k := 0) rfl rfl (Or.inl ⟨_, rfl⟩) ?_
    refine zy_li (k := 2) rfl rfl ?_
    refine zy_wI (k := 5) (lo := 0) (hi := 4294967295) rfl hJ2 hq rfl (Nat.zero_le _) (by have := tj_b_lt pl; omega) rfl (by decide +kernel) ?_
    intro w3 hJ3 hfr3 hl3 _
    exact tr_endN ⟨_, _, _, rfl⟩ hJ3 ⟨rfl, kd, te_fi hJ2.1 hfr3 (d := ([(149, 4)], [])) (by decide +kernel) (by decide +kernel) h42, by omega⟩
  · have h : 2147483648 < zx_b fk := h
    exact tr_endN ⟨_, _, _, rfl⟩ (tm_W0 hw) ⟨rfl, fk, h4, by omega⟩
set_option maxRecDepth 20000 in
theorem tr_misplaced {Ψ : List Nat} {w : List zx_E} {q : Nat} (hw : tj_wt tj_Lam Ψ w) (hq : Ψ[q]? = some 149) : tr_Do 2 172 [(.inr (.inr (.inl q)))] tr_EF Ψ w (fun a _ w' => a = none ∧ ∃ fk' : Int32, tj_fi w' q 12 4 fk' ∧ fk'.toInt ≠ 0) := by
  obtain ⟨fs, k0, -, -⟩ := tr_ob hw hq
  have hlq : q < w.length := (List.getElem?_eq_some_iff.mp k0).1
  obtain ⟨tk, h8, -, -⟩ := tr_exI (k := 8) (lo := 0) (hi := 4294967295) hw hq rfl
  obtain ⟨at', h6, -, -⟩ := tr_exI (k := 6) (lo := 2147483648) (hi := 2147485248) hw hq rfl
  let P : Option zx_V → List Nat → List zx_E → Prop := fun a _ w' => a = none ∧ ∃ fk' : Int32, tj_fi w' q 12 4 fk' ∧ fk'.toInt ≠ 0
  refine tr_meth (P := P) (d := 1) (dt := zx_d_X12_misplaced) (by rw [← zx_q_X12_misplaced]; rfl) (by rw [(by decide +kernel : zx_rc 172 = 13)]; exact ⟨q, _, fs, rfl, k0⟩) (by decide +kernel : 1 ≤ zx_mx' 172) ?_
  have rest : ∀ kd : Int32, 1 ≤ kd.toInt → zx_wp (zx_Cl zx_mt zx_rc zx_mx' 1) none (tj_P tj_c1 w, tj_P tj_c2 w) (zx_find (zx_cT zx_d_X12_misplaced)) (tr_end zx_d_X12_misplaced tr_EF Ψ w P) (14, [(0, (.inr (.inr (.inl q))))], [(.inl kd), (.inr (.inr (.inl q)))], w, 0, 0) := by
    intro kd hk
    refine zy_la (k := 0) rfl rfl (Or.inl ⟨_, rfl⟩) ?_
    refine zy_gI rfl h6 ?_
    refine zy_callD (tr_fails (kd := kd) (pl := at') hw hq hk) (n := 3) (st := []) rfl rfl (Nat.zero_le _) (tm_lim hlq rfl) rfl (tm_W0 (E := tr_EF) hw) (by decide +kernel) (by decide +kernel) ?_
    intro a Ψ2 w2 mc2 ms2 hJ2 hle2 hfr2 hls2 hst2 hP
    obtain ⟨ea, hP⟩ := hP
    subst ea
    exact tr_endN ⟨_, _, _, rfl⟩ hJ2 ⟨rfl, hP⟩
  refine zy_la (k := 0) rfl rfl (Or.inl ⟨_, rfl⟩) ?_
  refine zy_la (k := 0) rfl rfl (Or.inl ⟨_, rfl⟩) ?_
  refine zy_gI rfl h8 ?_
  refine zy_ci (n := 1) (c := 1) rfl ?_
  refine zy_jt rfl (fun _ => ?_) (fun _ => ?_)
  · refine zy_ci (n := 1) (c := 2) rfl ?_
    exact rest _ (by decide)
  · refine zy_ci (n := 1) (c := 1) rfl ?_
    refine zy_goto rfl ?_
    exact rest _ (by decide)
/-- goOn, by what it keeps -/
theorem tr_goOnT {Ψ : List Nat} {w : List zx_E} {q : Nat} {φ : Int} (hw : tj_wt tj_Lam Ψ w) (hq : Ψ[q]? = some 149) (hT : tr_T w q φ) : tr_Do 3 123 [(.inr (.inr (.inl q)))] tr_EG Ψ w (fun a _ w' => a = none ∧ ∃ φ', tr_T w' q φ' ∧ φ ≤ φ') := by
  obtain ⟨tx, sz, en, at', tk, nm, h1, h2⟩ := hT
  refine tr_Do_mono (tr_goOnV hw hq h1) (fun a Ψ' w' _ _ _ hP => ?_)
  obtain ⟨ha, en', at2, tk', nm', hV, hle, -⟩ := hP
  exact ⟨ha, _, ⟨tx, sz, en', at2, tk', nm', hV, rfl⟩, by rw [h2]; exact hle⟩
set_option maxRecDepth 20000 in
theorem tr_must {Ψ : List Nat} {w : List zx_E} {q : Nat} {φ : Int} {fk b : Int32} (hw : tj_wt tj_Lam Ψ w) (hq : Ψ[q]? = some 149) (hT : tr_T w q φ) (h4 : tj_fi w q 12 4 fk) : tr_Do 4 174 [(.inr (.inr (.inl q))), (.inl b)] tr_EM Ψ w (fun a _ w' => a = none ∧ tr_PT q φ fk w') := by
  obtain ⟨fs, k0, -, -⟩ := tr_ob hw hq
  have hlq : q < w.length := (List.getElem?_eq_some_iff.mp k0).1
  obtain ⟨g, hg, hg'⟩ := tr_isGoodK h4
  refine tr_meth (d := 3) (dt := zx_d_X12_must) (by rw [← zx_q_X12_must]; rfl) (by rw [(by decide +kernel : zx_rc 174 = 13)]; exact ⟨q, _, fs, rfl, k0⟩) (by decide +kernel : 2 ≤ zx_mx' 174) ?_
  have hls : zx_limP w.length [(0, (.inr (.inr (.inl q)))), (1, (.inl b))] = true := tm_lim hlq rfl
  refine zy_la (k := 0) rfl rfl (Or.inl ⟨_, rfl⟩) ?_
  refine zy_callK (a := 0) (n := 1) (st := []) (zx_Cl_le (by decide) hg) rfl rfl (Nat.le_of_ble_eq_true rfl) hls rfl (Nat.zero_le _) (Nat.zero_le _) ?_
  refine zy_j0 rfl (fun _ => ?_) (fun _ => ?_)
  · refine zy_li (k := 1) rfl rfl ?_
    refine zy_j0 rfl (fun _ => ?_) (fun _ => ?_)
    · refine zy_la (k := 0) rfl rfl (Or.inl ⟨_, rfl⟩) ?_
      refine zy_callD (tr_Do_le (tr_misplaced hw hq) (by decide)) (n := 1) (st := []) rfl rfl (Nat.zero_le _) hls rfl (tm_W0 (E := tr_EM) hw) (by decide +kernel) (by decide +kernel) ?_
      intro a Ψ2 w2 mc2 ms2 hJ2 hle2 hfr2 hls2 hst2 hP
      obtain ⟨ea, fk', h42, hne⟩ := hP
      subst ea
      exact tr_endN ⟨_, _, _, rfl⟩ hJ2 ⟨rfl, φ, fk', tr_T_fr hw hfr2 (by decide +kernel) hT, Int.le_refl _, h42, fun h => absurd h hne⟩
    · refine zy_la (k := 0) rfl rfl (Or.inl ⟨_, rfl⟩) ?_
      refine zy_callD (tr_goOnT hw hq hT) (n := 1) (st := []) rfl rfl (Nat.zero_le _) hls rfl (tm_W0 (E := tr_EM) hw) (by decide +kernel) (by decide +kernel) ?_
      intro a Ψ2 w2 mc2 ms2 hJ2 hle2 hfr2 hls2 hst2 hP
      obtain ⟨ea, φ', hT2, hle⟩ := hP
      subst ea
      refine zy_goto rfl ?_
      exact tr_endN ⟨_, _, _, rfl⟩ hJ2 ⟨rfl, φ', fk, hT2, hle, te_fi hw hfr2 (d := ([(149, 4)], [])) (by decide +kernel) (by decide +kernel) h4, fun h => h⟩
  · exact tr_endN ⟨_, _, _, rfl⟩ (tm_W0 hw) ⟨rfl, φ, fk, hT, Int.le_refl _, h4, fun h => h⟩
set_option maxRecDepth 20000 in
theorem tr_numeral {Ψ : List Nat} {w : List zx_E} {q : Nat} {φ : Int} {fk lo hi : Int32} (hw : tj_wt tj_Lam Ψ w) (hq : Ψ[q]? = some 149) (hT : tr_T w q φ) (h4 : tj_fi w q 12 4 fk) : tr_Do 4 176 [(.inr (.inr (.inl q))), (.inl lo), (.inl hi)] tr_EM Ψ w (fun a _ w' => (∃ v : Int32, a = some (.inl v) ∧ (v = lo ∨ (lo.toInt ≤ v.toInt ∧ v.toInt ≤ hi.toInt))) ∧ tr_PT q φ fk w') := by
  obtain ⟨fs, k0, -, -⟩ := tr_ob hw hq
  have hlq : q < w.length := (List.getElem?_eq_some_iff.mp k0).1
  obtain ⟨g, hg, hg'⟩ := tr_isGoodK h4
  let P : Option zx_V → List Nat → List zx_E → Prop := fun a _ w' => (∃ v : Int32, a = some (.inl v) ∧ (v = lo ∨ (lo.toInt ≤ v.toInt ∧ v.toInt ≤ hi.toInt))) ∧ tr_PT q φ fk w'
  refine tr_meth (P := P) (d := 3) (dt := zx_d_X12_numeral) (by rw [← zx_q_X12_numeral]; rfl) (by rw [(by decide +kernel : zx_rc 176 = 13)]; exact ⟨q, _, fs, rfl, k0⟩) (by decide +kernel : 3 ≤ zx_mx' 176) ?_
  let WP : zx_S → Prop := fun σ => zx_wp (zx_Cl zx_mt zx_rc zx_mx' 3) none (tj_P tj_c1 w, tj_P tj_c2 w) (zx_find (zx_cT zx_d_X12_numeral)) (tr_end zx_d_X12_numeral tr_EM Ψ w P) σ
  let J : List Nat → List zx_E → Nat → Nat → Prop := fun Ψ' w' mc ms => tj_W tj_Lam (tj_P tj_c1 w, tj_P tj_c2 w) tr_EM Ψ w Ψ' w' mc ms
  have ilo := zx_b_int lo
  have ihi := zx_b_int hi
  let L : List (Nat × zx_V) → Prop := fun ls => zx_look 0 ls = some (.inr (.inr (.inl q))) ∧ zx_look 1 ls = some (.inl lo) ∧ zx_look 2 ls = some (.inl hi)
  have at69 : ∀ (Ψ' : List Nat) (w' : List zx_E) (mc ms : Nat) (ls : List (Nat × zx_V)) (φ' : Int) (fk' v : Int32), J Ψ' w' mc ms → tr_T w' q φ' → φ ≤ φ' → tj_fi w' q 12 4 fk' → (fk'.toInt = 0 → fk.toInt = 0) → (fk'.toInt = 0 → lo.toInt ≤ v.toInt ∧ v.toInt ≤ hi.toInt) → zx_limP w'.length ls = true → L ls → zx_look 3 ls = some (.inl v) → WP (69, ls, [], w', mc, ms) := by
    intro Ψ' w' mc ms ls φ' fk' v hJ hT' hle h4' hfk hv hls hL l3
    obtain ⟨l0, l1, l2⟩ := hL
    obtain ⟨u, hu, hu'⟩ := tr_isGoodK h4'
    refine zy_la rfl l0 (Or.inl ⟨_, rfl⟩) ?_
    refine zy_callK (a := 0) (n := 1) (st := []) (zx_Cl_le (by decide) hu) rfl rfl (Nat.le_of_ble_eq_true rfl) hls rfl (by have := hJ.2.1; omega) (by have := hJ.2.1; omega) ?_
    rcases hu' with ⟨eu, hz⟩ | ⟨eu, hz⟩
    · subst eu
      refine zy_j0 rfl (fun h => absurd h tr_no1) (fun _ => ?_)
      refine zy_li rfl l3 ?_
      refine zy_goto rfl ?_
      exact tr_endI ⟨_, _, _, rfl⟩ hJ ⟨⟨v, rfl, Or.inr (hv hz)⟩, φ', fk', hT', hle, h4', hfk⟩
    · subst eu
      refine zy_j0 rfl (fun _ => ?_) (fun h => absurd tr_z0 h)
      refine zy_li rfl l1 ?_
      exact tr_endI ⟨_, _, _, rfl⟩ hJ ⟨⟨lo, rfl, Or.inl rfl⟩, φ', fk', hT', hle, h4', hfk⟩
  have at53 : ∀ (Ψ' : List Nat) (w' : List zx_E) (mc ms : Nat) (ls : List (Nat × zx_V)) (fk' v : Int32), J Ψ' w' mc ms → tr_T w' q φ → tj_fi w' q 12 4 fk' → tj_fi w' q 12 9 v → (fk'.toInt = 0 → fk.toInt = 0) → (fk'.toInt = 0 → lo.toInt ≤ v.toInt ∧ v.toInt ≤ hi.toInt) → zx_limP w'.length ls = true → L ls → WP (53, ls, [], w', mc, ms) := by
    intro Ψ' w' mc ms ls fk' v hJ hT' h4' h9 hfk hv hls hL
    obtain ⟨l0, l1, l2⟩ := id hL
    have hq1 := hJ.2.2.1 _ _ hq
    obtain ⟨u, hu, hu'⟩ := tr_isGoodK h4'
    refine zy_la rfl l0 (Or.inl ⟨_, rfl⟩) ?_
    refine zy_gI rfl h9 ?_
    refine zy_si (k := 3) rfl ?_
    have hls2 : zx_limP w'.length (zx_put 3 (.inl v) ls) = true := zy_limP_put hls rfl
    have hL2 : L (zx_put 3 (.inl v) ls) := ⟨zy_look_ne (by decide) rfl l0, zy_look_ne (by decide) rfl l1, zy_look_ne (by decide) rfl l2⟩
    have l3 : zx_look 3 (zx_put 3 (.inl v) ls) = some (.inl v) := zy_look_put
    generalize zx_put 3 (.inl v) ls = ls2 at hls2 hL2 l3 ⊢
    refine zy_la rfl hL2.1 (Or.inl ⟨_, rfl⟩) ?_
    refine zy_callK (a := 0) (n := 1) (st := []) (zx_Cl_le (by decide) hu) rfl rfl (Nat.le_of_ble_eq_true rfl) hls2 rfl (by have := hJ.2.1; omega) (by have := hJ.2.1; omega) ?_
    refine zy_j0 rfl (fun _ => at69 Ψ' w' mc ms ls2 φ fk' v hJ hT' (Int.le_refl _) h4' hfk hv hls2 hL2 l3) (fun _ => ?_)
    refine zy_la rfl hL2.1 (Or.inl ⟨_, rfl⟩) ?_
    refine zy_callD (tr_goOnT hJ.1 hq1 hT') (n := 1) (st := []) rfl rfl (Nat.zero_le _) hls2 rfl hJ (by decide +kernel) (by decide +kernel) ?_
    intro a Ψ2 w2 mc2 ms2 hJ2 hle2 hfr2 hls3 hst2 hP
    obtain ⟨ea, φ', hT2, hle⟩ := hP
    subst ea
    exact at69 Ψ2 w2 mc2 ms2 ls2 φ' fk' v hJ2 hT2 hle (te_fi hJ.1 hfr2 (d := ([(149, 4)], [])) (by decide +kernel) (by decide +kernel) h4') hfk hv hls3 hL2 l3
  have at21 : ∀ (Ψ' : List Nat) (w' : List zx_E) (mc ms : Nat) (ls : List (Nat × zx_V)) (fk' : Int32), J Ψ' w' mc ms → tr_T w' q φ → tj_fi w' q 12 4 fk' → (fk'.toInt = 0 → fk.toInt = 0) → zx_limP w'.length ls = true → L ls → WP (21, ls, [], w', mc, ms) := by
    intro Ψ' w' mc ms ls fk' hJ hT' h4' hfk hls hL
    obtain ⟨l0, l1, l2⟩ := id hL
    have hq1 := hJ.2.2.1 _ _ hq
    obtain ⟨v, h9, -, -⟩ := tr_exI (k := 9) (lo := 0) (hi := 4294967295) hJ.1 hq1 rfl
    obtain ⟨at', h6, -, -⟩ := tr_exI (k := 6) (lo := 2147483648) (hi := 2147485248) hJ.1 hq1 rfl
    have iv := zx_b_int v
    obtain ⟨u, hu, hu'⟩ := tr_isGoodK h4'
    have bad : WP (44, ls, [], w', mc, ms) := by
      refine zy_la rfl l0 (Or.inl ⟨_, rfl⟩) ?_
      refine zy_ci (n := 1) (c := 4) rfl ?_
      refine zy_la rfl l0 (Or.inl ⟨_, rfl⟩) ?_
      refine zy_gI rfl h6 ?_
      refine zy_callD (tr_Do_le (tr_fails (kd := Int32.ofNat 4) (pl := at') hJ.1 hq1 (by decide)) (by decide)) (n := 3) (st := []) rfl rfl (Nat.zero_le _) hls rfl hJ (by decide +kernel) (by decide +kernel) ?_
      intro a Ψ2 w2 mc2 ms2 hJ2 hle2 hfr2 hls2 hst2 hP
      obtain ⟨ea, fk2, h42, hne⟩ := hP
      subst ea
      exact at53 Ψ2 w2 mc2 ms2 ls fk2 v hJ2 (tr_T_fr hJ.1 hfr2 (by decide +kernel) hT') h42 (te_fi hJ.1 hfr2 (d := ([(149, 9)], [])) (by decide +kernel) (by decide +kernel) h9) (fun h => absurd h hne) (fun h => absurd h hne) hls2 hL
    refine zy_la rfl l0 (Or.inl ⟨_, rfl⟩) ?_
    refine zy_callK (a := 0) (n := 1) (st := []) (zx_Cl_le (by decide) hu) rfl rfl (Nat.le_of_ble_eq_true rfl) hls rfl (by have := hJ.2.1; omega) (by have := hJ.2.1; omega) ?_
    rcases hu' with ⟨eu, hz⟩ | ⟨eu, hz⟩
    · subst eu
      refine zy_j0 rfl (fun h => absurd h tr_no1) (fun _ => ?_)
      refine zy_la rfl l0 (Or.inl ⟨_, rfl⟩) ?_
      refine zy_gI rfl h9 ?_
      refine zy_li rfl l1 ?_
      refine zy_jt rfl (fun _ => bad) (fun h1 => ?_)
      have h1 : zx_b lo ≤ zx_b v := h1
      refine zy_la rfl l0 (Or.inl ⟨_, rfl⟩) ?_
      refine zy_gI rfl h9 ?_
      refine zy_li rfl l2 ?_
      refine zy_jt rfl (fun h2 => ?_) (fun _ => bad)
      have h2 : zx_b v ≤ zx_b hi := h2
      exact at53 Ψ' w' mc ms ls fk' v hJ hT' h4' h9 hfk (fun _ => ⟨by omega, by omega⟩) hls hL
    · subst eu
      exact zy_j0 rfl (fun _ => at53 Ψ' w' mc ms ls fk' v hJ hT' h4' h9 hfk (fun h => absurd h hz) hls hL) (fun h => absurd tr_z0 h)
  have hls : zx_limP w.length [(0, (.inr (.inr (.inl q)))), (1, (.inl lo)), (2, (.inl hi))] = true := tm_lim hlq rfl
  have hL0 : L [(0, (.inr (.inr (.inl q)))), (1, (.inl lo)), (2, (.inl hi))] := ⟨rfl, rfl, rfl⟩
  obtain ⟨tk, h8, -, -⟩ := tr_exI (k := 8) (lo := 0) (hi := 4294967295) hw hq rfl
  show WP (0, [(0, (.inr (.inr (.inl q)))), (1, (.inl lo)), (2, (.inl hi))], [], w, 0, 0)
  refine zy_la (k := 0) rfl rfl (Or.inl ⟨_, rfl⟩) ?_
  refine zy_callK (a := 0) (n := 1) (st := []) (zx_Cl_le (by decide) hg) rfl rfl (Nat.le_of_ble_eq_true rfl) hls rfl (Nat.zero_le _) (Nat.zero_le _) ?_
  refine zy_j0 rfl (fun _ => ?_) (fun _ => ?_)
  · refine zy_la (k := 0) rfl rfl (Or.inl ⟨_, rfl⟩) ?_
    refine zy_gI rfl h8 ?_
    refine zy_ci (n := 1) (c := 4) rfl ?_
    refine zy_jt rfl (fun _ => at21 Ψ w 0 0 _ fk (tm_W0 hw) hT h4 (fun h => h) hls hL0) (fun _ => ?_)
    refine zy_la (k := 0) rfl rfl (Or.inl ⟨_, rfl⟩) ?_
    refine zy_callD (tr_Do_le (tr_misplaced hw hq) (by decide)) (n := 1) (st := []) rfl rfl (Nat.zero_le _) hls rfl (tm_W0 (E := tr_EM) hw) (by decide +kernel) (by decide +kernel) ?_
    intro a Ψ2 w2 mc2 ms2 hJ2 hle2 hfr2 hls2 hst2 hP
    obtain ⟨ea, fk2, h42, hne⟩ := hP
    subst ea
    exact at21 Ψ2 w2 mc2 ms2 _ fk2 hJ2 (tr_T_fr hw hfr2 (by decide +kernel) hT) h42 (fun h => absurd h hne) hls2 hL0
  · refine zy_li (k := 1) rfl rfl ?_
    exact tr_endI ⟨_, _, _, rfl⟩ (tm_W0 hw) ⟨⟨lo, rfl, Or.inl rfl⟩, φ, fk, hT, Int.le_refl _, h4, fun h => h⟩
set_option maxRecDepth 20000 in
theorem tr_after {Ψ : List Nat} {w : List zx_E} {q : Nat} {φ : Int} {fk lo hi : Int32} {wd : Int64} (hw : tj_wt tj_Lam Ψ w) (hq : Ψ[q]? = some 149) (hT : tr_T w q φ) (h4 : tj_fi w q 12 4 fk) : tr_Do 5 83 [(.inr (.inr (.inl q))), (.inr (.inl wd)), (.inl lo), (.inl hi)] tr_EM Ψ w (fun a _ w' => (∃ v : Int32, a = some (.inl v) ∧ (v = lo ∨ (lo.toInt ≤ v.toInt ∧ v.toInt ≤ hi.toInt))) ∧ tr_PT q φ fk w') := by
  obtain ⟨fs, k0, -, -⟩ := tr_ob hw hq
  have hlq : q < w.length := (List.getElem?_eq_some_iff.mp k0).1
  obtain ⟨tk, h8, -, -⟩ := tr_exI (k := 8) (lo := 0) (hi := 4294967295) hw hq rfl
  obtain ⟨nm, h10⟩ := tr_exJ (k := 10) (a := 0) (b := 0) hw hq rfl
  obtain ⟨g, hg, hg'⟩ := tr_isWordK (c := wd) h8 h10
  refine tr_meth (d := 4) (dt := zx_d_X12_after) (by rw [← zx_q_X12_after]; rfl) (by rw [(by decide +kernel : zx_rc 83 = 13)]; exact ⟨q, _, fs, rfl, k0⟩) (by decide +kernel : 5 ≤ zx_mx' 83) ?_
  have hls : zx_limP w.length [(0, (.inr (.inr (.inl q)))), (1, (.inr (.inl wd))), (3, (.inl lo)), (4, (.inl hi))] = true := tm_lim hlq rfl
  show zx_wp _ none _ _ _ (0, [(0, (.inr (.inr (.inl q)))), (1, (.inr (.inl wd))), (3, (.inl lo)), (4, (.inl hi))], [], w, 0, 0)
  refine zy_la (k := 0) rfl rfl (Or.inl ⟨_, rfl⟩) ?_
  refine zy_la (k := 0) rfl rfl (Or.inl ⟨_, rfl⟩) ?_
  refine zy_lj (k := 1) rfl rfl ?_
  refine zy_callK (a := 0) (n := 2) (st := [(.inr (.inr (.inl q)))]) (zx_Cl_le (by decide) hg) rfl rfl (Nat.le_of_ble_eq_true rfl) hls (tr_lim1 hlq rfl) (Nat.zero_le _) (Nat.zero_le _) ?_
  refine zy_callD (tr_must (b := g) hw hq hT h4) (n := 2) (st := []) rfl rfl (Nat.zero_le _) hls rfl (tm_W0 (E := tr_EM) hw) (by decide +kernel) (by decide +kernel) ?_
  intro a Ψ2 w2 mc2 ms2 hJ2 hle2 hfr2 hls2 hst2 hP
  obtain ⟨ea, φ2, fk2, hT2, hle, h42, hfk⟩ := hP
  subst ea
  have hq2 := hle2 _ _ hq
  refine zy_la (k := 0) rfl rfl (Or.inl ⟨_, rfl⟩) ?_
  refine zy_li (k := 3) rfl rfl ?_
  refine zy_li (k := 4) rfl rfl ?_
  refine zy_callD (tr_numeral (lo := lo) (hi := hi) hJ2.1 hq2 hT2 h42) (n := 3) (st := []) rfl rfl (Nat.zero_le _) hls2 rfl hJ2 (by decide +kernel) (by decide +kernel) ?_
  intro a Ψ3 w3 mc3 ms3 hJ3 hle3 hfr3 hls3 hst3 hP
  obtain ⟨⟨v, ea, hv⟩, φ3, fk3, hT3, hle', h43, hfk3⟩ := hP
  subst ea
  exact tr_endI ⟨_, _, _, rfl⟩ hJ3 ⟨⟨v, rfl, hv⟩, φ3, fk3, hT3, by omega, h43, fun h => hfk (hfk3 h)⟩
set_option maxRecDepth 20000 in
theorem tr_fresh {Ψ : List Nat} {w : List zx_E} {q : Nat} {φ : Int} {fk its : Int32} (hw : tj_wt tj_Lam Ψ w) (hq : Ψ[q]? = some 149) (hT : tr_T w q φ) (h4 : tj_fi w q 12 4 fk) : tr_Do 4 121 [(.inr (.inr (.inl q))), (.inl its)] tr_EM Ψ w (fun a _ w' => (∃ v : Int64, a = some (.inr (.inl v))) ∧ tr_PT q φ fk w') := by
  obtain ⟨fs, k0, -, -⟩ := tr_ob hw hq
  have hlq : q < w.length := (List.getElem?_eq_some_iff.mp k0).1
  obtain ⟨g, hg, hg'⟩ := tr_isGoodK h4
  obtain ⟨tk, h8, -, -⟩ := tr_exI (k := 8) (lo := 0) (hi := 4294967295) hw hq rfl
  obtain ⟨at', h6, -, -⟩ := tr_exI (k := 6) (lo := 2147483648) (hi := 2147485248) hw hq rfl
  let P : Option zx_V → List Nat → List zx_E → Prop := fun a _ w' => (∃ v : Int64, a = some (.inr (.inl v))) ∧ tr_PT q φ fk w'
  refine tr_meth (P := P) (d := 3) (dt := zx_d_X12_fresh) (by rw [← zx_q_X12_fresh]; rfl) (by rw [(by decide +kernel : zx_rc 121 = 13)]; exact ⟨q, _, fs, rfl, k0⟩) (by decide +kernel : 2 ≤ zx_mx' 121) ?_
  let WP : zx_S → Prop := fun σ => zx_wp (zx_Cl zx_mt zx_rc zx_mx' 3) none (tj_P tj_c1 w, tj_P tj_c2 w) (zx_find (zx_cT zx_d_X12_fresh)) (tr_end zx_d_X12_fresh tr_EM Ψ w P) σ
  let J : List Nat → List zx_E → Nat → Nat → Prop := fun Ψ' w' mc ms => tj_W tj_Lam (tj_P tj_c1 w, tj_P tj_c2 w) tr_EM Ψ w Ψ' w' mc ms
  have at37 : ∀ (Ψ' : List Nat) (w' : List zx_E) (mc ms : Nat) (fk' : Int32), J Ψ' w' mc ms → tr_T w' q φ → tj_fi w' q 12 4 fk' → (fk'.toInt = 0 → fk.toInt = 0) → zx_limP w'.length [(0, (.inr (.inr (.inl q)))), (1, (.inl its))] = true → WP (37, [(0, (.inr (.inr (.inl q)))), (1, (.inl its))], [], w', mc, ms) := by
    intro Ψ' w' mc ms fk' hJ hT' h4' hfk hls
    have hq1 := hJ.2.2.1 _ _ hq
    obtain ⟨nm, h10⟩ := tr_exJ (k := 10) (a := 0) (b := 0) hJ.1 hq1 rfl
    obtain ⟨u, hu, hu'⟩ := tr_isGoodK h4'
    have hls2 : zx_limP w'.length (zx_putL 2 (.inr (.inl nm)) [(0, (.inr (.inr (.inl q)))), (1, (.inl its))]) = true := zy_limP_putL hls rfl
    refine zy_la (k := 0) rfl rfl (Or.inl ⟨_, rfl⟩) ?_
    refine zy_gJ rfl h10 ?_
    refine zy_sj (k := 2) rfl ?_
    refine zy_la (k := 0) rfl rfl (Or.inl ⟨_, rfl⟩) ?_
    refine zy_callK (a := 0) (n := 1) (st := []) (zx_Cl_le (by decide) hu) rfl rfl (Nat.le_of_ble_eq_true rfl) hls2 rfl (by have := hJ.2.1; omega) (by have := hJ.2.1; omega) ?_
    refine zy_j0 rfl (fun _ => ?_) (fun _ => ?_)
    · refine zy_lj (k := 2) rfl rfl ?_
      exact tr_endL ⟨_, _, _, rfl⟩ hJ ⟨⟨nm, rfl⟩, φ, fk', hT', Int.le_refl _, h4', hfk⟩
    · refine zy_la (k := 0) rfl rfl (Or.inl ⟨_, rfl⟩) ?_
      refine zy_callD (tr_goOnT hJ.1 hq1 hT') (n := 1) (st := []) rfl rfl (Nat.zero_le _) hls2 rfl hJ (by decide +kernel) (by decide +kernel) ?_
      intro a Ψ2 w2 mc2 ms2 hJ2 hle2 hfr2 hls3 hst2 hP
      obtain ⟨ea, φ', hT2, hle⟩ := hP
      subst ea
      refine zy_lj (k := 2) rfl rfl ?_
      exact tr_endL ⟨_, _, _, rfl⟩ hJ2 ⟨⟨nm, rfl⟩, φ', fk', hT2, hle, te_fi hJ.1 hfr2 (d := ([(149, 4)], [])) (by decide +kernel) (by decide +kernel) h4', hfk⟩
  have hls : zx_limP w.length [(0, (.inr (.inr (.inl q)))), (1, (.inl its))] = true := tm_lim hlq rfl
  show WP (0, [(0, (.inr (.inr (.inl q)))), (1, (.inl its))], [], w, 0, 0)
  refine zy_la (k := 0) rfl rfl (Or.inl ⟨_, rfl⟩) ?_
  refine zy_callK (a := 0) (n := 1) (st := []) (zx_Cl_le (by decide) hg) rfl rfl (Nat.le_of_ble_eq_true rfl) hls rfl (Nat.zero_le _) (Nat.zero_le _) ?_
  refine zy_j0 rfl (fun _ => ?_) (fun _ => ?_)
  rotate_left
  · refine zy_cj (n := 1) (c := 0) rfl ?_
    exact tr_endL ⟨_, _, _, rfl⟩ (tm_W0 hw) ⟨⟨_, rfl⟩, φ, fk, hT, Int.le_refl _, h4, fun h => h⟩
  refine zy_la (k := 0) rfl rfl (Or.inl ⟨_, rfl⟩) ?_
  refine zy_gI rfl h8 ?_
  refine zy_ci (n := 1) (c := 2) rfl ?_
  refine zy_jt rfl (fun _ => ?_) (fun _ => ?_)
  · refine zy_li (k := 1) rfl rfl ?_
    refine zy_j0 rfl (fun _ => at37 Ψ w 0 0 fk (tm_W0 hw) hT h4 (fun h => h) hls) (fun _ => ?_)
    refine zy_la (k := 0) rfl rfl (Or.inl ⟨_, rfl⟩) ?_
    refine zy_ci (n := 1) (c := 3) rfl ?_
    refine zy_la (k := 0) rfl rfl (Or.inl ⟨_, rfl⟩) ?_
    refine zy_gI rfl h6 ?_
    refine zy_callD (tr_Do_le (tr_fails (kd := Int32.ofNat 3) (pl := at') hw hq (by decide)) (by decide)) (n := 3) (st := []) rfl rfl (Nat.zero_le _) hls rfl (tm_W0 (E := tr_EM) hw) (by decide +kernel) (by decide +kernel) ?_
    intro a Ψ2 w2 mc2 ms2 hJ2 hle2 hfr2 hls2 hst2 hP
    obtain ⟨ea, fk2, h42, hne⟩ := hP
    subst ea
    exact at37 Ψ2 w2 mc2 ms2 fk2 hJ2 (tr_T_fr hw hfr2 (by decide +kernel) hT) h42 (fun h => absurd h hne) hls2
  · refine zy_la (k := 0) rfl rfl (Or.inl ⟨_, rfl⟩) ?_
    refine zy_callD (tr_Do_le (tr_misplaced hw hq) (by decide)) (n := 1) (st := []) rfl rfl (Nat.zero_le _) hls rfl (tm_W0 (E := tr_EM) hw) (by decide +kernel) (by decide +kernel) ?_
    intro a Ψ2 w2 mc2 ms2 hJ2 hle2 hfr2 hls2 hst2 hP
    obtain ⟨ea, fk2, h42, hne⟩ := hP
    subst ea
    refine zy_goto rfl ?_
    exact at37 Ψ2 w2 mc2 ms2 fk2 hJ2 (tr_T_fr hw hfr2 (by decide +kernel) hT) h42 (fun h => absurd h hne) hls2

set_option maxRecDepth 20000 in
theorem tr_hereK {w : List zx_E} {q p len : Nat} {fs : List zx_V} {tk fi n : Int32} {nm : Int64} {g : Nat → Int64} (k0 : w[q]? = some (.inl (12, fs))) (h8 : tj_fi w q 12 8 tk) (h10 : tr_fj w q 10 nm) (hp : w[p]? = some (.inr (1, len, .inr (.inl g)))) (hf : 0 ≤ fi.toInt) (hn : 0 ≤ n.toInt) (hl : fi.toInt + n.toInt ≤ len) (hlen : len ≤ 16) : ∃ v : Int32, zx_Cl zx_mt zx_rc zx_mx' 1 131 [(.inr (.inr (.inl q))), (.inr (.inr (.inl p))), (.inl fi), (.inl n)] w (0, 0) (some (.inl v), w) ∧ (-1 ≤ v.toInt ∧ v.toInt < n.toInt ∨ v.toInt = -1) := by
  have hlq : q < w.length := (List.getElem?_eq_some_iff.mp k0).1
  have hlp : p < w.length := (List.getElem?_eq_some_iff.mp hp).1
  have i_n := zx_b_int n
  refine tr_funK (d := 0) (dt := zx_d_X12_here) (by rw [← zx_q_X12_here]; rfl) (by rw [(by decide +kernel : zx_rc 131 = 13)]; exact ⟨q, _, fs, rfl, k0⟩) (by decide +kernel : 4 ≤ zx_mx' 131) ?_
  let WP : zx_S → Prop := fun σ => zx_wp (zx_Cl zx_mt zx_rc zx_mx' 0) none (0, 0) (zx_find (zx_cT zx_d_X12_here)) (tr_endK zx_d_X12_here w (fun v => -1 ≤ v.toInt ∧ v.toInt < n.toInt ∨ v.toInt = -1)) σ
  have loop : ∀ (m : Nat) (k : Int32) (ls : List (Nat × zx_V)), k.toInt + m = n.toInt → 0 ≤ k.toInt → zx_look 0 ls = some (.inr (.inr (.inl q))) → zx_look 1 ls = some (.inr (.inr (.inl p))) → zx_look 2 ls = some (.inl fi) → zx_look 3 ls = some (.inl n) → zx_look 4 ls = some (.inl k) → WP (3, ls, [], w, 0, 0) := by
    intro m
    induction m with
    | zero =>
      intro k ls hm hk0 l0 l1 l2 l3 l4
      have ik := zx_b_int k
      refine zy_li rfl l4 ?_
      refine zy_li rfl l3 ?_
      refine zy_jt rfl (fun _ => ?_) (fun h => ?_)
      · refine zy_ci (n := 1) (c := 4294967295) rfl ?_
        exact tr_eI ⟨_, _, _, rfl⟩ (Or.inr (by decide))
      · have h : zx_b k < zx_b n := h
        omega
    | succ m ih =>
      intro k ls hm hk0 l0 l1 l2 l3 l4
      have ik := zx_b_int k
      have efk : (fi + k).toInt = fi.toInt + k.toInt := tr_add (by omega) (by omega)
      have nx : WP (34, ls, [], w, 0, 0) := by
        refine zy_ik (k := 4) (n := 1) rfl l4 ?_
        refine zy_goto rfl ?_
        have ek : (k + Int32.ofNat 1).toInt = k.toInt + 1 := tm_inc tm_k1 (by omega)
        exact ih (k + Int32.ofNat 1) _ (by omega) (by omega) (zy_look_ne (by decide) rfl l0) (zy_look_ne (by decide) rfl l1) (zy_look_ne (by decide) rfl l2) (zy_look_ne (by decide) rfl l3) zy_look_put
      refine zy_li rfl l4 ?_
      refine zy_li rfl l3 ?_
      refine zy_jt rfl (fun h => ?_) (fun _ => ?_)
      · have h : zx_b n ≤ zx_b k := h
        omega
      refine zy_la rfl l0 (Or.inl ⟨_, rfl⟩) ?_
      refine zy_gI rfl h8 ?_
      refine zy_ci (n := 1) (c := 2) rfl ?_
      refine zy_jt rfl (fun _ => nx) (fun _ => ?_)
      refine zy_la rfl l1 (Or.inl ⟨_, rfl⟩) ?_
      refine zy_li rfl l2 ?_
      refine zy_li rfl l4 ?_
      refine zy_add rfl ?_
      refine zy_ldj rfl hp (tr_in (by omega) (by omega)) ?_
      refine zy_la rfl l0 (Or.inl ⟨_, rfl⟩) ?_
      refine zy_gJ rfl h10 ?_
      refine zy_lcmp rfl ?_
      refine zy_j0 rfl (fun _ => nx) (fun _ => ?_)
      refine zy_li rfl l4 ?_
      exact tr_eI ⟨_, _, _, rfl⟩ (Or.inl ⟨by omega, by omega⟩)
  refine zy_ci (n := 1) (c := 0) rfl ?_
  refine zy_si (k := 4) rfl ?_
  have z0 : (Int32.ofNat 0).toInt = 0 := by decide
  exact loop n.toInt.toNat (Int32.ofNat 0) _ (by omega) (by omega) rfl rfl rfl rfl zy_look_put
set_option maxRecDepth 20000 in
theorem tr_halfHereK {Ψ : List Nat} {w : List zx_E} {q : Nat} (hw : tj_wt tj_Lam Ψ w) (hq : Ψ[q]? = some 149) : ∃ v : Int32, zx_Cl zx_mt zx_rc zx_mx' 2 130 [(.inr (.inr (.inl q)))] w (0, 0) (some (.inl v), w) ∧ (-1 ≤ v.toInt ∧ v.toInt ≤ 7) := by
  obtain ⟨fs, k0, -, -⟩ := tr_ob hw hq
  have hlq : q < w.length := (List.getElem?_eq_some_iff.mp k0).1
  obtain ⟨tk, h8, -, -⟩ := tr_exI (k := 8) (lo := 0) (hi := 4294967295) hw hq rfl
  obtain ⟨nm, h10⟩ := tr_exJ (k := 10) (a := 0) (b := 0) hw hq rfl
  obtain ⟨rb, h40, r1, r2⟩ := tr_exI (k := 40) (lo := 2147483648) (hi := 2147483649) hw hq rfl
  obtain ⟨hv, h11⟩ := tr_exA (k := 11) (n := 2) (l := 103) (s := [(2, 2147483648, 2147483656)]) hw hq rfl rfl
  have hL := tr_exL (k := 31) (l := 146) (n := 16) (s := []) hw hq rfl rfl
  have irb := zx_b_int rb
  have bh := tr_bd1 (l := 103) (n := 2) (lo := 2147483648) (hi := 2147483656) hw hq rfl rfl h11 (j := rb.toInt.toNat) (by omega)
  have ih := zx_b_int (hv rb.toInt.toNat)
  have e8 : (Int32.ofNat 8 * rb).toInt = 8 * rb.toInt := tr_mul (c := 8) (by decide) rfl (by omega) (by omega)
  have en : rb.toNatClampNeg = rb.toInt.toNat := rfl
  refine tr_funK (d := 1) (dt := zx_d_X12_halfHere) (by rw [← zx_q_X12_halfHere]; rfl) (by rw [(by decide +kernel : zx_rc 130 = 13)]; exact ⟨q, _, fs, rfl, k0⟩) (by decide +kernel : 1 ≤ zx_mx' 130) ?_
  refine zy_la (k := 0) rfl rfl (Or.inl ⟨_, rfl⟩) ?_
  refine zy_la (k := 0) rfl rfl (Or.inl ⟨_, rfl⟩) ?_
  refine zy_gL rfl hL (fun p g hp hpt hlp => ?_)
  refine zy_ci (n := 2) (c := 8) rfl ?_
  refine zy_la (k := 0) rfl rfl (Or.inl ⟨_, rfl⟩) ?_
  refine zy_gI rfl h40 ?_
  refine zy_mul rfl ?_
  refine zy_la (k := 0) rfl rfl (Or.inl ⟨_, rfl⟩) ?_
  refine zy_gA rfl h11 (fun p2 hp2 hpt2 hlp2 => ?_)
  refine zy_la (k := 0) rfl rfl (Or.inl ⟨_, rfl⟩) ?_
  refine zy_gI rfl h40 ?_
  refine zy_ld rfl hp2 (tr_in (by omega) (by omega)) ?_
  rw [en]
  obtain ⟨v, hv', hv2⟩ := tr_hereK (fi := Int32.ofNat 8 * rb) (n := hv rb.toInt.toNat) k0 h8 h10 hp (by omega) (by omega) (by omega) (by decide)
  refine zy_callK (a := 0) (n := 4) (st := []) hv' rfl rfl (Nat.le_of_ble_eq_true rfl) (tm_lim hlq rfl) rfl (Nat.zero_le _) (Nat.zero_le _) ?_
  exact tr_eI ⟨_, _, _, rfl⟩ (by omega)
set_option maxRecDepth 20000 in
theorem tr_known {Ψ : List Nat} {w : List zx_E} {q : Nat} {φ : Int} {fk : Int32} (hw : tj_wt tj_Lam Ψ w) (hq : Ψ[q]? = some 149) (hT : tr_T w q φ) (h4 : tj_fi w q 12 4 fk) : tr_Do 4 160 [(.inr (.inr (.inl q)))] tr_EM Ψ w (fun a _ w' => (∃ v : Int32, a = some (.inl v) ∧ 0 ≤ v.toInt ∧ v.toInt ≤ 7) ∧ tr_PT q φ fk w') := by
  obtain ⟨fs, k0, -, -⟩ := tr_ob hw hq
  have hlq : q < w.length := (List.getElem?_eq_some_iff.mp k0).1
  obtain ⟨g, hg, hg'⟩ := tr_isGoodK h4
  obtain ⟨tk, h8, -, -⟩ := tr_exI (k := 8) (lo := 0) (hi := 4294967295) hw hq rfl
  obtain ⟨at', h6, -, -⟩ := tr_exI (k := 6) (lo := 2147483648) (hi := 2147485248) hw hq rfl
  obtain ⟨h, hh, h1, h2⟩ := tr_halfHereK hw hq
  have ih := zx_b_int h
  let P : Option zx_V → List Nat → List zx_E → Prop := fun a _ w' => (∃ v : Int32, a = some (.inl v) ∧ 0 ≤ v.toInt ∧ v.toInt ≤ 7) ∧ tr_PT q φ fk w'
  refine tr_meth (P := P) (d := 3) (dt := zx_d_X12_known) (by rw [← zx_q_X12_known]; rfl) (by rw [(by decide +kernel : zx_rc 160 = 13)]; exact ⟨q, _, fs, rfl, k0⟩) (by decide +kernel : 1 ≤ zx_mx' 160) ?_
  let WP : zx_S → Prop := fun σ => zx_wp (zx_Cl zx_mt zx_rc zx_mx' 3) none (tj_P tj_c1 w, tj_P tj_c2 w) (zx_find (zx_cT zx_d_X12_known)) (tr_end zx_d_X12_known tr_EM Ψ w P) σ
  have at42 : ∀ (Ψ' : List Nat) (w' : List zx_E) (mc ms : Nat) (fk' : Int32), tj_W tj_Lam (tj_P tj_c1 w, tj_P tj_c2 w) tr_EM Ψ w Ψ' w' mc ms → tr_T w' q φ → tj_fi w' q 12 4 fk' → (fk'.toInt = 0 → fk.toInt = 0) → WP (42, [(1, (.inl h)), (0, (.inr (.inr (.inl q))))], [], w', mc, ms) := by
    intro Ψ' w' mc ms fk' hJ hT' h4' hfk
    refine zy_li (k := 1) rfl rfl ?_
    refine zy_j0 rfl (fun hge => ?_) (fun _ => ?_)
    · have hge : 2147483648 ≤ zx_b h := hge
      refine zy_li (k := 1) rfl rfl ?_
      exact tr_endI ⟨_, _, _, rfl⟩ hJ ⟨⟨h, rfl, by omega, h2⟩, φ, fk', hT', Int.le_refl _, h4', hfk⟩
    · refine zy_ci (n := 1) (c := 0) rfl ?_
      refine zy_goto rfl ?_
      exact tr_endI ⟨_, _, _, rfl⟩ hJ ⟨⟨_, rfl, by decide, by decide⟩, φ, fk', hT', Int.le_refl _, h4', hfk⟩
  have hls : zx_limP w.length [(0, (.inr (.inr (.inl q))))] = true := tm_lim hlq rfl
  have hls2 : zx_limP w.length [(1, (.inl h)), (0, (.inr (.inr (.inl q))))] = true := hls
  show WP (0, [(0, (.inr (.inr (.inl q))))], [], w, 0, 0)
  refine zy_la (k := 0) rfl rfl (Or.inl ⟨_, rfl⟩) ?_
  refine zy_callK (a := 0) (n := 1) (st := []) (zx_Cl_le (by decide) hg) rfl rfl (Nat.le_of_ble_eq_true rfl) hls rfl (Nat.zero_le _) (Nat.zero_le _) ?_
  refine zy_j0 rfl (fun _ => ?_) (fun _ => ?_)
  rotate_left
  · refine zy_ci (n := 1) (c := 0) rfl ?_
    exact tr_endI ⟨_, _, _, rfl⟩ (tm_W0 hw) ⟨⟨_, rfl, by decide, by decide⟩, φ, fk, hT, Int.le_refl _, h4, fun h => h⟩
  refine zy_la (k := 0) rfl rfl (Or.inl ⟨_, rfl⟩) ?_
  refine zy_callK (a := 0) (n := 1) (st := []) (zx_Cl_le (by decide) hh) rfl rfl (Nat.le_of_ble_eq_true rfl) hls rfl (Nat.zero_le _) (Nat.zero_le _) ?_
  refine zy_si (k := 1) rfl ?_
  show WP (14, [(1, (.inl h)), (0, (.inr (.inr (.inl q))))], [], w, 0, 0)
  refine zy_la (k := 0) rfl rfl (Or.inl ⟨_, rfl⟩) ?_
  refine zy_gI rfl h8 ?_
  refine zy_ci (n := 1) (c := 2) rfl ?_
  refine zy_jt rfl (fun _ => ?_) (fun _ => ?_)
  · refine zy_li (k := 1) rfl rfl ?_
    refine zy_j0 rfl (fun _ => at42 Ψ w 0 0 fk (tm_W0 hw) hT h4 (fun h => h)) (fun _ => ?_)
    refine zy_la (k := 0) rfl rfl (Or.inl ⟨_, rfl⟩) ?_
    refine zy_ci (n := 1) (c := 5) rfl ?_
    refine zy_la (k := 0) rfl rfl (Or.inl ⟨_, rfl⟩) ?_
    refine zy_gI rfl h6 ?_
    refine zy_callD (tr_Do_le (tr_fails (kd := Int32.ofNat 5) (pl := at') hw hq (by decide)) (by decide)) (n := 3) (st := []) rfl rfl (Nat.zero_le _) hls2 rfl (tm_W0 (E := tr_EM) hw) (by decide +kernel) (by decide +kernel) ?_
    intro a Ψ2 w2 mc2 ms2 hJ2 hle2 hfr2 hls3 hst2 hP
    obtain ⟨ea, fk2, h42, hne⟩ := hP
    subst ea
    exact at42 Ψ2 w2 mc2 ms2 fk2 hJ2 (tr_T_fr hw hfr2 (by decide +kernel) hT) h42 (fun h => absurd h hne)
  · refine zy_la (k := 0) rfl rfl (Or.inl ⟨_, rfl⟩) ?_
    refine zy_callD (tr_Do_le (tr_misplaced hw hq) (by decide)) (n := 1) (st := []) rfl rfl (Nat.zero_le _) hls2 rfl (tm_W0 (E := tr_EM) hw) (by decide +kernel) (by decide +kernel) ?_
    intro a Ψ2 w2 mc2 ms2 hJ2 hle2 hfr2 hls3 hst2 hP
    obtain ⟨ea, fk2, h42, hne⟩ := hP
    subst ea
    refine zy_goto rfl ?_
    exact at42 Ψ2 w2 mc2 ms2 fk2 hJ2 (tr_T_fr hw hfr2 (by decide +kernel) hT) h42 (fun h => absurd h hne)
