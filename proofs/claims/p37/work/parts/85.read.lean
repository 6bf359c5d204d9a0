/-! by hand: the parser's state between lines; readHalf, readLike, readFavour, startAnew -/
def tr_bb (bk rb : Int32) : Prop := (bk.toInt = 0 ∧ rb.toInt = 1) ∨ (bk.toInt = 1 ∧ rb.toInt = 0)
def tr_RB (w : List zx_E) (q : Nat) (bk rb C : Int32) (ua hv pv dv tm ho pe cd rf rt : Nat → Int32) (φ : Int) (fk : Int32) : Prop := tr_B w q bk rb hv pv dv tm ho pe cd rf rt ∧ tj_fi w q 12 41 C ∧ tj_fa w q 12 15 2 ua ∧ tj_fi w q 12 4 fk ∧ tr_T w q φ
def tr_dPS : tj_Ef := (tr_dB.1 ++ [(149, 41), (149, 15)], tr_dB.2 ++ [107])
def tr_dRB : tj_Ef := (tr_dPS.1 ++ [(149, 4)] ++ tr_dT.1, tr_dPS.2 ++ tr_dT.2)
section trRB
variable {Ψ : List Nat} {w w' : List zx_E} {q : Nat} {e : tj_Ef} {bk rb C fk : Int32} {φ : Int} {ua hv pv dv tm ho pe cd rf rt : Nat → Int32}
theorem tr_RB_tok (hw : tj_wt tj_Lam Ψ w) (hfr : tj_fr e Ψ w w') (hd : tj_dj tr_dPS e = true) (h : tr_RB w q bk rb C ua hv pv dv tm ho pe cd rf rt φ fk) (hP : tr_PT q φ fk w') : ∃ (φ' : Int) (fk' : Int32), φ ≤ φ' ∧ (fk'.toInt = 0 → fk.toInt = 0) ∧ tr_RB w' q bk rb C ua hv pv dv tm ho pe cd rf rt φ' fk' := by
  obtain ⟨h1, h2, h3, h4, h5⟩ := h
  obtain ⟨φ', fk', p1, p2, p3, p4⟩ := hP
  exact ⟨φ', fk', p2, p4, tr_B_fr hw hfr (tm_djs hd (by decide) (by decide)) h1, te_fi hw hfr hd (by decide +kernel) h2, te_fa hw hfr hd (by decide +kernel) h3, p3, p1⟩
theorem tr_RB_fr (hw : tj_wt tj_Lam Ψ w) (hfr : tj_fr e Ψ w w') (hd : tj_dj tr_dRB e = true) (h : tr_RB w q bk rb C ua hv pv dv tm ho pe cd rf rt φ fk) : tr_RB w' q bk rb C ua hv pv dv tm ho pe cd rf rt φ fk := by
  obtain ⟨h1, h2, h3, h4, h5⟩ := h
  exact ⟨tr_B_fr hw hfr (tm_djs hd (by decide) (by decide)) h1, te_fi hw hfr hd (by decide +kernel) h2, te_fa hw hfr hd (by decide +kernel) h3, te_fi hw hfr hd (by decide +kernel) h4, tr_T_fr hw hfr (tm_djs hd (by decide) (by decide)) h5⟩
theorem tr_RB_hv {x : Nat → Int32} (hw : tj_wt tj_Lam Ψ w) (hfr : tj_fr ([], [103]) Ψ w w') (h : tr_RB w q bk rb C ua hv pv dv tm ho pe cd rf rt φ fk) (hx : tj_fa w' q 12 11 2 x) : tr_RB w' q bk rb C ua x pv dv tm ho pe cd rf rt φ fk := by
  obtain ⟨h1, h2, h3, h4, h5⟩ := h
  exact ⟨tr_B_hv hw hfr h1 hx, te_fi hw hfr (d := ([(149, 41)], [])) (by decide +kernel) (by decide +kernel) h2, te_fa hw hfr (d := ([(149, 15)], [107])) (by decide +kernel) (by decide +kernel) h3, te_fi hw hfr (d := ([(149, 4)], [])) (by decide +kernel) (by decide +kernel) h4, tr_T_fr hw hfr (by decide +kernel) h5⟩
theorem tr_RB_pv {x : Nat → Int32} (hw : tj_wt tj_Lam Ψ w) (hfr : tj_fr ([], [105]) Ψ w w') (h : tr_RB w q bk rb C ua hv pv dv tm ho pe cd rf rt φ fk) (hx : tj_fa w' q 12 13 2 x) : tr_RB w' q bk rb C ua hv x dv tm ho pe cd rf rt φ fk := by
  obtain ⟨h1, h2, h3, h4, h5⟩ := h
  exact ⟨tr_B_pv hw hfr h1 hx, te_fi hw hfr (d := ([(149, 41)], [])) (by decide +kernel) (by decide +kernel) h2, te_fa hw hfr (d := ([(149, 15)], [107])) (by decide +kernel) (by decide +kernel) h3, te_fi hw hfr (d := ([(149, 4)], [])) (by decide +kernel) (by decide +kernel) h4, tr_T_fr hw hfr (by decide +kernel) h5⟩
theorem tr_RB_dv {x : Nat → Int32} (hw : tj_wt tj_Lam Ψ w) (hfr : tj_fr ([], [106]) Ψ w w') (h : tr_RB w q bk rb C ua hv pv dv tm ho pe cd rf rt φ fk) (hx : tj_fa w' q 12 14 2 x) : tr_RB w' q bk rb C ua hv pv x tm ho pe cd rf rt φ fk := by
  obtain ⟨h1, h2, h3, h4, h5⟩ := h
  exact ⟨tr_B_dv hw hfr h1 hx, te_fi hw hfr (d := ([(149, 41)], [])) (by decide +kernel) (by decide +kernel) h2, te_fa hw hfr (d := ([(149, 15)], [107])) (by decide +kernel) (by decide +kernel) h3, te_fi hw hfr (d := ([(149, 4)], [])) (by decide +kernel) (by decide +kernel) h4, tr_T_fr hw hfr (by decide +kernel) h5⟩
theorem tr_RB_tm {x : Nat → Int32} (hw : tj_wt tj_Lam Ψ w) (hfr : tj_fr ([], [116]) Ψ w w') (h : tr_RB w q bk rb C ua hv pv dv tm ho pe cd rf rt φ fk) (hx : tj_fa w' q 12 24 8 x) : tr_RB w' q bk rb C ua hv pv dv x ho pe cd rf rt φ fk := by
  obtain ⟨h1, h2, h3, h4, h5⟩ := h
  exact ⟨tr_B_tm hw hfr h1 hx, te_fi hw hfr (d := ([(149, 41)], [])) (by decide +kernel) (by decide +kernel) h2, te_fa hw hfr (d := ([(149, 15)], [107])) (by decide +kernel) (by decide +kernel) h3, te_fi hw hfr (d := ([(149, 4)], [])) (by decide +kernel) (by decide +kernel) h4, tr_T_fr hw hfr (by decide +kernel) h5⟩
theorem tr_RB_ho {x : Nat → Int32} (hw : tj_wt tj_Lam Ψ w) (hfr : tj_fr ([], [115]) Ψ w w') (h : tr_RB w q bk rb C ua hv pv dv tm ho pe cd rf rt φ fk) (hx : tj_fa w' q 12 23 24 x) : tr_RB w' q bk rb C ua hv pv dv tm x pe cd rf rt φ fk := by
  obtain ⟨h1, h2, h3, h4, h5⟩ := h
  exact ⟨tr_B_ho hw hfr h1 hx, te_fi hw hfr (d := ([(149, 41)], [])) (by decide +kernel) (by decide +kernel) h2, te_fa hw hfr (d := ([(149, 15)], [107])) (by decide +kernel) (by decide +kernel) h3, te_fi hw hfr (d := ([(149, 4)], [])) (by decide +kernel) (by decide +kernel) h4, tr_T_fr hw hfr (by decide +kernel) h5⟩
theorem tr_RB_pe {x : Nat → Int32} (hw : tj_wt tj_Lam Ψ w) (hfr : tj_fr ([], [111]) Ψ w w') (h : tr_RB w q bk rb C ua hv pv dv tm ho pe cd rf rt φ fk) (hx : tj_fa w' q 12 19 16 x) : tr_RB w' q bk rb C ua hv pv dv tm ho x cd rf rt φ fk := by
  obtain ⟨h1, h2, h3, h4, h5⟩ := h
  exact ⟨tr_B_pe hw hfr h1 hx, te_fi hw hfr (d := ([(149, 41)], [])) (by decide +kernel) (by decide +kernel) h2, te_fa hw hfr (d := ([(149, 15)], [107])) (by decide +kernel) (by decide +kernel) h3, te_fi hw hfr (d := ([(149, 4)], [])) (by decide +kernel) (by decide +kernel) h4, tr_T_fr hw hfr (by decide +kernel) h5⟩
theorem tr_RB_cd {x : Nat → Int32} (hw : tj_wt tj_Lam Ψ w) (hfr : tj_fr ([], [118]) Ψ w w') (h : tr_RB w q bk rb C ua hv pv dv tm ho pe cd rf rt φ fk) (hx : tj_fa w' q 12 34 1280 x) : tr_RB w' q bk rb C ua hv pv dv tm ho pe x rf rt φ fk := by
  obtain ⟨h1, h2, h3, h4, h5⟩ := h
  exact ⟨tr_B_cd hw hfr h1 hx, te_fi hw hfr (d := ([(149, 41)], [])) (by decide +kernel) (by decide +kernel) h2, te_fa hw hfr (d := ([(149, 15)], [107])) (by decide +kernel) (by decide +kernel) h3, te_fi hw hfr (d := ([(149, 4)], [])) (by decide +kernel) (by decide +kernel) h4, tr_T_fr hw hfr (by decide +kernel) h5⟩
theorem tr_RB_rf {x : Nat → Int32} (hw : tj_wt tj_Lam Ψ w) (hfr : tj_fr ([], [137]) Ψ w w') (h : tr_RB w q bk rb C ua hv pv dv tm ho pe cd rf rt φ fk) (hx : tj_fa w' q 12 26 24 x) : tr_RB w' q bk rb C ua hv pv dv tm ho pe cd x rt φ fk := by
  obtain ⟨h1, h2, h3, h4, h5⟩ := h
  exact ⟨tr_B_rf hw hfr h1 hx, te_fi hw hfr (d := ([(149, 41)], [])) (by decide +kernel) (by decide +kernel) h2, te_fa hw hfr (d := ([(149, 15)], [107])) (by decide +kernel) (by decide +kernel) h3, te_fi hw hfr (d := ([(149, 4)], [])) (by decide +kernel) (by decide +kernel) h4, tr_T_fr hw hfr (by decide +kernel) h5⟩
theorem tr_RB_rt {x : Nat → Int32} (hw : tj_wt tj_Lam Ψ w) (hfr : tj_fr ([], [138]) Ψ w w') (h : tr_RB w q bk rb C ua hv pv dv tm ho pe cd rf rt φ fk) (hx : tj_fa w' q 12 27 24 x) : tr_RB w' q bk rb C ua hv pv dv tm ho pe cd rf x φ fk := by
  obtain ⟨h1, h2, h3, h4, h5⟩ := h
  exact ⟨tr_B_rt hw hfr h1 hx, te_fi hw hfr (d := ([(149, 41)], [])) (by decide +kernel) (by decide +kernel) h2, te_fa hw hfr (d := ([(149, 15)], [107])) (by decide +kernel) (by decide +kernel) h3, te_fi hw hfr (d := ([(149, 4)], [])) (by decide +kernel) (by decide +kernel) h4, tr_T_fr hw hfr (by decide +kernel) h5⟩
end trRB
def tr_PS (w : List zx_E) (q : Nat) (φ : Int) (fk bk rb : Int32) (j : Nat) (Z : Nat → Nat → Int32) : Prop := ∃ (C : Int32) (ua hv pv dv tm ho pe cd rf rt : Nat → Int32), tr_RB w q bk rb C ua hv pv dv tm ho pe cd rf rt φ fk ∧ tr_bb bk rb ∧ tr_old bk.toInt.toNat hv pv dv tm ho pe cd rf rt (Z 0) (Z 1) (Z 2) (Z 3) (Z 4) (Z 5) (Z 6) (Z 7) (Z 8) ∧ (fk.toInt = 0 → tr_new rb.toInt.toNat (2 * (dv rb.toInt.toNat).toInt.toNat + j) C.toInt hv pv dv tm ho pe cd rf rt ∧ 640 * rb.toInt ≤ C.toInt ∧ 4 * (C.toInt - 640 * rb.toInt) ≤ 8 * (ua rb.toInt.toNat).toInt + φ)
/-- what a reader of a line gives -/
def tr_PD (q : Nat) (φ : Int) (bk rb : Int32) (j : Nat) (Z : Nat → Nat → Int32) (w' : List zx_E) : Prop := ∃ (φ' : Int) (fk' : Int32), φ ≤ φ' ∧ tr_PS w' q φ' fk' bk rb j Z
/-- if all is well so far: goOn -/
theorem tr_ifGo {D : Nat} {dt : List (List (Nat × zx_I))} {cap : Nat × Nat} {E : tj_Ef} {Ψ0 Ψ : List Nat} {w0 w : List zx_E} {pc mc ms q : Nat} {ls : List (Nat × zx_V)} {Q : zx_S → Prop} {φ : Int} {fk : Int32} {g1 g2 : zx_F} (hD : 3 ≤ D) (hJ : tj_W tj_Lam cap E Ψ0 w0 Ψ w mc ms) (hq : Ψ[q]? = some 149) (hT : tr_T w q φ) (h4 : tj_fi w q 12 4 fk) (hls : zx_limP w.length ls = true) (l0 : zx_look 0 ls = some (.inr (.inr (.inl q)))) (t1 : zx_find (zx_cT dt) pc = some (zx_la 1 0)) (t2 : zx_find (zx_cT dt) (pc + 1) = some (3, 144, 1, g1)) (t3 : zx_find (zx_cT dt) (pc + 4) = some (zx_jz .eq (pc + 11))) (t4 : zx_find (zx_cT dt) (pc + 7) = some (zx_la 1 0)) (t5 : zx_find (zx_cT dt) (pc + 8) = some (3, 123, 1, g2)) (h2 : tj_sub2 tr_EG.1 E.1 = true) (h1 : tj_sub1 tr_EG.2 E.2 = true)
    (kk : ∀ (Ψ' : List Nat) (w' : List zx_E) (mc' ms' : Nat), tj_W tj_Lam cap E Ψ0 w0 Ψ' w' mc' ms' → tj_le Ψ Ψ' → tj_fr tr_EG Ψ w w' → zx_limP w'.length ls = true → tr_PT q φ fk w' → zx_wp (zx_Cl zx_mt zx_rc zx_mx' D) none cap (zx_find (zx_cT dt)) Q (pc + 11, ls, [], w', mc', ms')) : zx_wp (zx_Cl zx_mt zx_rc zx_mx' D) none cap (zx_find (zx_cT dt)) Q (pc, ls, [], w, mc, ms) := by
  obtain ⟨u, hu, hu'⟩ := tr_isGoodK h4
  refine zy_la t1 l0 (Or.inl ⟨_, rfl⟩) ?_
  refine zy_callK (a := 0) (n := 1) (st := []) (zx_Cl_le (Nat.le_trans (by decide) hD) hu) t2 rfl (Nat.le_of_ble_eq_true rfl) hls rfl (by have := hJ.2.1; omega) (by have := hJ.2.1; omega) ?_
  refine zy_j0 t3 (fun _ => kk Ψ w mc ms hJ tj_le_rf tj_fr_rf hls ⟨φ, fk, hT, Int.le_refl _, h4, fun h => h⟩) (fun _ => ?_)
  refine zy_la t4 l0 (Or.inl ⟨_, rfl⟩) ?_
  refine zy_callD (tr_Do_le (tr_goOnT hJ.1 hq hT) hD) (n := 1) (st := []) t5 rfl (Nat.zero_le _) hls rfl hJ h2 h1 ?_
  intro a Ψ2 w2 mc2 ms2 hJ2 hle2 hfr2 hls2 hst2 hP
  obtain ⟨ea, φ', hT2, hle⟩ := hP
  subst ea
  exact kk Ψ2 w2 mc2 ms2 hJ2 hle2 hfr2 hls2 ⟨φ', fk, hT2, hle, te_fi hJ.1 hfr2 (d := ([(149, 4)], [])) (by decide +kernel) (by decide +kernel) h4, fun h => h⟩

def tr_EH : tj_Ef := (tr_EM.1, [146, 109, 110, 111, 112, 143, 103])
set_option maxRecDepth 20000 in
theorem tr_readHalf {Ψ : List Nat} {w : List zx_E} {q : Nat} {φ : Int} {fk bk rb : Int32} {Z : Nat → Nat → Int32} (hw : tj_wt tj_Lam Ψ w) (hq : Ψ[q]? = some 149) (hPS : tr_PS w q φ fk bk rb 0 Z) (hlt : ∀ hv, tj_fa w q 12 11 2 hv → (hv rb.toInt.toNat).toInt ≤ 7) : tr_Do 6 188 [(.inr (.inr (.inl q)))] tr_EH Ψ w (fun a _ w' => a = none ∧ tr_PD q φ bk rb 0 Z w') := by
  obtain ⟨fs, k0, -, -⟩ := tr_ob hw hq
  have hlq : q < w.length := (List.getElem?_eq_some_iff.mp k0).1
  obtain ⟨C, ua, hv, pv, dv, tm, ho, pe, cd, rf, rt, hR, hbb, hold, hnew⟩ := hPS
  have hb := hbb
  unfold tr_bb at hb
  have h11 := hR.1.2.2.1
  have h40 := hR.1.2.1
  have bhv := tr_bd1 (l := 103) (n := 2) (lo := 2147483648) (hi := 2147483656) hw hq rfl rfl h11 (j := rb.toInt.toNat) (by omega)
  have ihv := zx_b_int (hv rb.toInt.toNat)
  have h7 := hlt hv h11
  have irb := zx_b_int rb
  have enb : rb.toNatClampNeg = rb.toInt.toNat := rfl
  have e8 : (Int32.ofNat 8 * rb).toInt = 8 * rb.toInt := tr_mul (c := 8) (by decide) rfl (by omega) (by omega)
  have ei : (Int32.ofNat 8 * rb + hv rb.toInt.toNat).toInt = 8 * rb.toInt + (hv rb.toInt.toNat).toInt := by rw [tr_add (by omega) (by omega), e8]
  have z0 : (Int32.ofNat 0).toInt = 0 := by decide
  have z9 : (Int32.ofNat 9).toInt = 9 := by decide
  have zm : (Int32.ofNat 4294967295).toInt = -1 := by decide
  let P : Option zx_V → List Nat → List zx_E → Prop := fun a _ w' => a = none ∧ tr_PD q φ bk rb 0 Z w'
  refine tr_meth (P := P) (d := 5) (dt := zx_d_X12_readHalf) (by rw [← zx_q_X12_readHalf]; rfl) (by rw [(by decide +kernel : zx_rc 188 = 13)]; exact ⟨q, _, fs, rfl, k0⟩) (by decide +kernel : 1 ≤ zx_mx' 188) ?_
  let WP : zx_S → Prop := fun σ => zx_wp (zx_Cl zx_mt zx_rc zx_mx' 5) none (tj_P tj_c1 w, tj_P tj_c2 w) (zx_find (zx_cT zx_d_X12_readHalf)) (tr_end zx_d_X12_readHalf tr_EH Ψ w P) σ
  let J : List Nat → List zx_E → Nat → Nat → Prop := fun Ψ' w' mc ms => tj_W tj_Lam (tj_P tj_c1 w, tj_P tj_c2 w) tr_EH Ψ w Ψ' w' mc ms
  refine zy_ci (n := 2) (c := 8) rfl ?_
  refine zy_la (k := 0) rfl rfl (Or.inl ⟨_, rfl⟩) ?_
  refine zy_gI rfl h40 ?_
  refine zy_mul rfl ?_
  refine zy_la (k := 0) rfl rfl (Or.inl ⟨_, rfl⟩) ?_
  refine zy_gA rfl h11 (fun p0 hp0 hpt0 hlp0 => ?_)
  refine zy_la (k := 0) rfl rfl (Or.inl ⟨_, rfl⟩) ?_
  refine zy_gI rfl h40 ?_
  refine zy_ld rfl hp0 (tr_in (by omega) (by omega)) ?_
  rw [enb]
  refine zy_add rfl ?_
  generalize Int32.ofNat 8 * rb + hv rb.toInt.toNat = i1 at ei ⊢
  have ii1 := zx_b_int i1
  have hi0 : 0 ≤ i1.toInt := by omega
  have hi16 : i1.toInt < (16 : Nat) := by omega
  refine zy_si (k := 1) rfl ?_
  have hls : zx_limP w.length [(1, (.inl i1)), (0, (.inr (.inr (.inl q))))] = true := tm_lim (k := 0) (ls := []) hlq rfl
  show WP (18, [(1, (.inl i1)), (0, (.inr (.inr (.inl q))))], [], w, 0, 0)
  have l0 : zx_look 0 [(1, (.inl i1)), (0, (.inr (.inr (.inl q))))] = some (.inr (.inr (.inl q))) := rfl
  have l1 : zx_look 1 [(1, (.inl i1)), (0, (.inr (.inr (.inl q))))] = some (.inl i1) := rfl
  generalize ([(1, (.inl i1)), (0, (.inr (.inr (.inl q))))] : List (Nat × zx_V)) = ls at hls l0 l1 ⊢
  -- the end: the counts
  have at106 : ∀ (Ψ' : List Nat) (w' : List zx_E) (mc ms : Nat) (φ' : Int) (fk' : Int32), J Ψ' w' mc ms → tr_RB w' q bk rb C ua hv pv dv tm ho (upd pe i1.toInt.toNat (Int32.ofNat 4294967295)) cd rf rt φ' fk' → φ ≤ φ' → (fk'.toInt = 0 → fk.toInt = 0) → WP (106, ls, [], w', mc, ms) := by
    intro Ψ' w' mc ms φ' fk' hJ hR' hφ hfk
    have hq1 := hJ.2.2.1 _ _ hq
    have h11' := hR'.1.2.2.1
    have e1 : (hv rb.toInt.toNat + Int32.ofNat 1).toInt = (hv rb.toInt.toNat).toInt + 1 := tm_inc tm_k1 (by omega)
    have i1' := zx_b_int (hv rb.toInt.toNat + Int32.ofNat 1)
    refine zy_la rfl l0 (Or.inl ⟨_, rfl⟩) ?_
    refine zy_gA rfl h11' (fun p hp hpt hlp => ?_)
    refine zy_la rfl l0 (Or.inl ⟨_, rfl⟩) ?_
    refine zy_gI rfl hR'.1.2.1 ?_
    refine zy_dup2 rfl ?_
    refine zy_ld rfl hp (tr_in (by omega) (by omega)) ?_
    rw [enb]
    refine zy_ci (n := 1) (c := 1) rfl ?_
    refine zy_add rfl ?_
    refine zy_wA (k := 11) (n := 2) (lo := 2147483648) (hi := 2147483656) rfl hJ hq1 rfl rfl (by decide) hpt h11' (by omega) (by omega) (by omega) (by omega) (by decide +kernel) ?_
    intro w2 hJ2 hfr2 hl2 h112
    have hR2 := tr_RB_hv hJ.1 hfr2 hR' h112
    refine tr_endN ⟨_, _, _, rfl⟩ hJ2 ⟨rfl, φ', fk', hφ, C, ua, _, pv, dv, tm, ho, _, cd, rf, rt, hR2, hbb, ?_, fun h0 => ?_⟩
    · obtain ⟨o1, o2, o3, o4, o5, o6, o7, o8, o9⟩ := hold
      exact ⟨by rw [tg_upd_ne (by omega)]; exact o1, o2, o3, o4, o5, fun i hi => by rw [tg_upd_ne (by omega)]; exact o6 i hi, o7, o8, o9⟩
    · obtain ⟨⟨n1, n2, n3, n4⟩, n5, n6⟩ := hnew (hfk h0)
      have bpv := tr_bd1 (l := 105) (n := 2) (lo := 2147483648) (hi := 2147483652) hJ2.1 hq1 rfl rfl hR2.1.2.2.2.1 (j := rb.toInt.toNat) (by omega)
      have ipv := zx_b_int (pv rb.toInt.toNat)
      refine ⟨⟨n1, fun h p hh hp' hpe => ?_, fun h h8 hh => ?_, n4⟩, n5, by omega⟩
      · rw [tg_upd_eq, e1] at hh
        by_cases e : 8 * rb.toInt.toNat + h = i1.toInt.toNat
        · rw [e, tg_upd_eq, zm] at hpe
          omega
        · rw [tg_upd_ne e] at hpe
          exact n2 h p (by omega) hp' hpe
      · rw [tg_upd_eq, e1] at hh
        by_cases e : 8 * rb.toInt.toNat + h = i1.toInt.toNat
        · rw [e, tg_upd_eq, zm]
          omega
        · rw [tg_upd_ne e]
          exact n3 h h8 (by omega)
  have at84 : ∀ (Ψ' : List Nat) (w' : List zx_E) (mc ms p : Nat) (φ' : Int) (fk' v : Int32), J Ψ' w' mc ms → tr_RB w' q bk rb C ua hv pv dv tm ho pe cd rf rt φ' fk' → φ ≤ φ' → (fk'.toInt = 0 → fk.toInt = 0) → tr_pt w' q 18 p → (0 ≤ v.toInt ∧ v.toInt ≤ 9) → WP (84, ls, [(.inl v), (.inl i1), (.inr (.inr (.inl p)))], w', mc, ms) := by
    intro Ψ' w' mc ms p φ' fk' v hJ hR' hφ hfk hpt hv9
    have hq1 := hJ.2.2.1 _ _ hq
    have iv := zx_b_int v
    obtain ⟨ca, h18⟩ := tr_exA (k := 18) (l := 110) (n := 16) (s := [(16, 2147483648, 2147483657)]) hJ.1 hq1 rfl rfl
    refine zy_wA (k := 18) (n := 16) (lo := 2147483648) (hi := 2147483657) rfl hJ hq1 rfl rfl (by decide) hpt h18 hi0 hi16 (by omega) (by omega) (by decide +kernel) ?_
    intro w1 hJ1 hfr1 hl1 _
    have hR1 := tr_RB_fr hJ.1 hfr1 (by decide +kernel) hR'
    refine zy_la rfl l0 (Or.inl ⟨_, rfl⟩) ?_
    refine zy_gA rfl hR1.1.2.2.2.2.2.2.2.1 (fun p1 hp1 hpt1 hlp1 => ?_)
    refine zy_li rfl l1 ?_
    refine zy_ci (n := 1) (c := 4294967295) rfl ?_
    refine zy_wA (k := 19) (n := 16) (lo := 2147483647) (hi := 2147483651) rfl hJ1 hq1 rfl rfl (by decide) hpt1 hR1.1.2.2.2.2.2.2.2.1 hi0 hi16 (by decide) (by decide) (by decide +kernel) ?_
    intro w2 hJ2 hfr2 hl2 h192
    have hR2 := tr_RB_pe hJ1.1 hfr2 hR1 h192
    obtain ⟨fa, h20⟩ := tr_exA (k := 20) (l := 112) (n := 16) (s := [(16, 2147483648, 2147483650)]) hJ2.1 hq1 rfl rfl
    refine zy_la rfl l0 (Or.inl ⟨_, rfl⟩) ?_
    refine zy_gA rfl h20 (fun p2 hp2 hpt2 hlp2 => ?_)
    refine zy_li rfl l1 ?_
    refine zy_ci (n := 1) (c := 0) rfl ?_
    refine zy_wA (k := 20) (n := 16) (lo := 2147483648) (hi := 2147483650) rfl hJ2 hq1 rfl rfl (by decide) hpt2 h20 hi0 hi16 (by decide) (by decide) (by decide +kernel) ?_
    intro w3 hJ3 hfr3 hl3 _
    have hR3 := tr_RB_fr hJ2.1 hfr3 (by decide +kernel) hR2
    obtain ⟨fz, h29⟩ := tr_exY (k := 29) (kd := 2) (l := 143) (n := 16) (s := [(16, 2147483648, 2147483649)]) hJ3.1 hq1 rfl rfl (Or.inl rfl)
    refine zy_la rfl l0 (Or.inl ⟨_, rfl⟩) ?_
    refine zy_gY rfl h29 (fun p3 hp3 hpt3 hlp3 => ?_)
    refine zy_li rfl l1 ?_
    refine zy_ci (n := 1) (c := 0) rfl ?_
    refine zy_wZ (k := 29) (n := 16) rfl hJ3 hq1 rfl rfl (by decide) hpt3 h29 hi0 hi16 (by decide +kernel) ?_
    intro w4 hJ4 hfr4 hl4
    exact at106 Ψ' w4 mc ms φ' fk' hJ4 (tr_RB_fr hJ3.1 hfr4 (by decide +kernel) hR3) hφ hfk
  have at48 : ∀ (Ψ' : List Nat) (w' : List zx_E) (mc ms : Nat) (φ' : Int) (fk' : Int32), J Ψ' w' mc ms → tr_RB w' q bk rb C ua hv pv dv tm ho pe cd rf rt φ' fk' → φ ≤ φ' → (fk'.toInt = 0 → fk.toInt = 0) → zx_limP w'.length ls = true → WP (48, ls, [], w', mc, ms) := by
    intro Ψ' w' mc ms φ' fk' hJ hR' hφ hfk hls'
    have hq1 := hJ.2.2.1 _ _ hq
    obtain ⟨ca, h18⟩ := tr_exA (k := 18) (l := 110) (n := 16) (s := [(16, 2147483648, 2147483657)]) hJ.1 hq1 rfl rfl
    obtain ⟨u, hu, -⟩ := tr_isGoodK hR'.2.2.2.1
    obtain ⟨tk, h8, -, -⟩ := tr_exI (k := 8) (lo := 0) (hi := 4294967295) hJ.1 hq1 rfl
    obtain ⟨nm, h10⟩ := tr_exJ (k := 10) (a := 0) (b := 0) hJ.1 hq1 rfl
    obtain ⟨y, hy, -⟩ := tr_isWordK (c := Int64.ofNat 426836649331) h8 h10
    refine zy_la rfl l0 (Or.inl ⟨_, rfl⟩) ?_
    refine zy_gA rfl h18 (fun p hp hpt hlp => ?_)
    refine zy_li rfl l1 ?_
    refine zy_la rfl l0 (Or.inl ⟨_, rfl⟩) ?_
    refine zy_callK (a := 0) (n := 1) (st := [(.inl i1), (.inr (.inr (.inl p)))]) (zx_Cl_le (by decide) hu) rfl rfl (Nat.le_of_ble_eq_true rfl) hls' (tr_lim2 (tr_lim1 hlp rfl)) (by have := hJ.2.1; omega) (by have := hJ.2.1; omega) ?_
    have zero : WP (83, ls, [(.inl i1), (.inr (.inr (.inl p)))], w', mc, ms) := by
      refine zy_ci (n := 1) (c := 0) rfl ?_
      exact at84 Ψ' w' mc ms p φ' fk' _ hJ hR' hφ hfk hpt (by decide)
    refine zy_j0 rfl (fun _ => zero) (fun _ => ?_)
    refine zy_la rfl l0 (Or.inl ⟨_, rfl⟩) ?_
    refine zy_cj (n := 3) (c := 426836649331) rfl ?_
    refine zy_callK (a := 0) (n := 2) (st := [(.inl i1), (.inr (.inr (.inl p)))]) (zx_Cl_le (by decide) hy) rfl rfl (Nat.le_of_ble_eq_true rfl) hls' (tr_lim2 (tr_lim1 hlp rfl)) (by have := hJ.2.1; omega) (by have := hJ.2.1; omega) ?_
    refine zy_j0 rfl (fun _ => zero) (fun _ => ?_)
    refine zy_la rfl l0 (Or.inl ⟨_, rfl⟩) ?_
    refine zy_cj (n := 3) (c := 426836649331) rfl ?_
    refine zy_ci (n := 1) (c := 0) rfl ?_
    refine zy_ci (n := 2) (c := 9) rfl ?_
    refine zy_callD (tr_after (wd := Int64.ofNat 426836649331) (lo := Int32.ofNat 0) (hi := Int32.ofNat 9) hJ.1 hq1 hR'.2.2.2.2 hR'.2.2.2.1) (n := 4) (st := [(.inl i1), (.inr (.inr (.inl p)))]) rfl rfl (Nat.le_of_ble_eq_true rfl) hls' (tr_lim2 (tr_lim1 hlp rfl)) hJ (by decide +kernel) (by decide +kernel) ?_
    intro a Ψ2 w2 mc2 ms2 hJ2 hle2 hfr2 hls2 hst2 hP
    obtain ⟨⟨v, ea, hv'⟩, hPT⟩ := hP
    subst ea
    obtain ⟨φ2, fk2, g1, g2, hR2⟩ := tr_RB_tok hJ.1 hfr2 (by decide +kernel) hR' hPT
    refine zy_goto rfl ?_
    refine at84 Ψ2 w2 mc2 ms2 p φ2 fk2 v hJ2 hR2 (by omega) (fun h => hfk (g2 h)) (tr_pt_fr hJ.1 hfr2 (d := ([(149, 18)], [])) (by decide +kernel) (by decide +kernel) hpt) ?_
    rcases hv' with e | e
    · rw [e]
      decide
    · omega
  -- the name, the skill
  obtain ⟨hh, hhK, hh1, hh2⟩ := tr_halfHereK hw hq
  have hL := tr_exL (k := 31) (l := 146) (n := 16) (s := []) hw hq rfl rfl
  refine zy_la rfl l0 (Or.inl ⟨_, rfl⟩) ?_
  refine zy_gL rfl hL (fun p g hp hpt hlp => ?_)
  refine zy_li rfl l1 ?_
  refine zy_la rfl l0 (Or.inl ⟨_, rfl⟩) ?_
  refine zy_la rfl l0 (Or.inl ⟨_, rfl⟩) ?_
  refine zy_callK (a := 0) (n := 1) (st := [(.inr (.inr (.inl q))), (.inl i1), (.inr (.inr (.inl p)))]) (zx_Cl_le (by decide) hhK) rfl rfl (Nat.le_of_ble_eq_true rfl) hls (tr_lim1 hlq (tr_lim2 (tr_lim1 hlp rfl))) (Nat.zero_le _) (Nat.zero_le _) ?_
  refine zy_callD (tr_Do_le (tr_fresh (its := hh) hw hq hR.2.2.2.2 hR.2.2.2.1) (by decide)) (n := 2) (st := [(.inl i1), (.inr (.inr (.inl p)))]) rfl rfl (Nat.le_of_ble_eq_true rfl) hls (tr_lim2 (tr_lim1 hlp rfl)) (tm_W0 (E := tr_EH) hw) (by decide +kernel) (by decide +kernel) ?_
  intro a Ψ2 w2 mc2 ms2 hJ2 hle2 hfr2 hls2 hst2 hP
  obtain ⟨⟨v, ea⟩, hPT⟩ := hP
  subst ea
  obtain ⟨φ2, fk2, g1, g2, hR2⟩ := tr_RB_tok hw hfr2 (by decide +kernel) hR hPT
  have hq2 := hle2 _ _ hq
  refine zy_wL (k := 31) (n := 16) (l := 146) (s := []) rfl hJ2 hq2 rfl rfl (tr_pt_fr hw hfr2 (d := ([(149, 31)], [])) (by decide +kernel) (by decide +kernel) hpt) hi0 hi16 (by decide +kernel) ?_
  intro w3 hJ3 hfr3 hl3
  have hR3 := tr_RB_fr hJ2.1 hfr3 (by decide +kernel) hR2
  have hls3 : zx_limP w3.length ls = true := by rw [hl3]; exact hls2
  obtain ⟨sk, h17⟩ := tr_exA (k := 17) (l := 109) (n := 16) (s := [(16, 2147483648, 2147483657)]) hJ3.1 hq2 rfl rfl
  refine zy_la rfl l0 (Or.inl ⟨_, rfl⟩) ?_
  refine zy_gA rfl h17 (fun p3 hp3 hpt3 hlp3 => ?_)
  refine zy_li rfl l1 ?_
  refine zy_la rfl l0 (Or.inl ⟨_, rfl⟩) ?_
  refine zy_cj (n := 3) (c := 495723310188) rfl ?_
  refine zy_ci (n := 1) (c := 0) rfl ?_
  refine zy_ci (n := 2) (c := 9) rfl ?_
  refine zy_callD (tr_after (wd := Int64.ofNat 495723310188) (lo := Int32.ofNat 0) (hi := Int32.ofNat 9) hJ3.1 hq2 hR3.2.2.2.2 hR3.2.2.2.1) (n := 4) (st := [(.inl i1), (.inr (.inr (.inl p3)))]) rfl rfl (Nat.le_of_ble_eq_true rfl) hls3 (tr_lim2 (tr_lim1 hlp3 rfl)) hJ3 (by decide +kernel) (by decide +kernel) ?_
  intro a Ψ4 w4 mc4 ms4 hJ4 hle4 hfr4 hls4 hst4 hP
  obtain ⟨⟨v4, ea, hv4⟩, hPT4⟩ := hP
  subst ea
  obtain ⟨φ4, fk4, g3, g4, hR4⟩ := tr_RB_tok hJ3.1 hfr4 (by decide +kernel) hR3 hPT4
  have hq4 := hle4 _ _ hq2
  have iv4 := zx_b_int v4
  have hv49 : 0 ≤ v4.toInt ∧ v4.toInt ≤ 9 := by
    rcases hv4 with e | e
    · rw [e]
      decide
    · omega
  have h174 := te_fa hJ3.1 hfr4 (d := ([(149, 17)], [109])) (by decide +kernel) (by decide +kernel) h17
  refine zy_wA (k := 17) (n := 16) (lo := 2147483648) (hi := 2147483657) rfl hJ4 hq4 rfl rfl (by decide) (tr_pt_fr hJ3.1 hfr4 (d := ([(149, 17)], [])) (by decide +kernel) (by decide +kernel) hpt3) h174 hi0 hi16 (by omega) (by omega) (by decide +kernel) ?_
  intro w5 hJ5 hfr5 hl5 _
  exact at48 Ψ4 w5 mc4 ms4 φ4 fk4 hJ5 (tr_RB_fr hJ4.1 hfr5 (by decide +kernel) hR4) (by omega) (fun h => g2 (g4 h)) (by rw [hl5]; exact hls4)
