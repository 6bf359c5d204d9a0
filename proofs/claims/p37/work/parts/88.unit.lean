/-! by hand: formulas: isCompared, unit, behindUnit -/
def tr_nw (E : Nat → Int32) : Nat → Nat
  | 0 => 0
  | n + 1 => tr_nw E n + (if (E n).toInt = 3 ∨ (E n).toInt = 7 then 1 else 0)
theorem tr_nw_eq {E E' : Nat → Int32} : ∀ {n : Nat}, (∀ k, k < n → E k = E' k) → tr_nw E n = tr_nw E' n
  | 0, _ => rfl
  | n + 1, h => by
    show tr_nw E n + _ = tr_nw E' n + _
    rw [tr_nw_eq (fun k hk => h k (by omega)), h n (by omega)]
theorem tr_nw_y {E : Nat → Int32} {n : Nat} (h : (E n).toInt = 3 ∨ (E n).toInt = 7) : tr_nw E (n + 1) = tr_nw E n + 1 := by
  show tr_nw E n + _ = _
  rw [if_pos h]
theorem tr_nw_n {E : Nat → Int32} {n : Nat} (h : ¬ ((E n).toInt = 3 ∨ (E n).toInt = 7)) : tr_nw E (n + 1) = tr_nw E n := by
  show tr_nw E n + _ = _
  rw [if_neg h]
  rfl
theorem tr_nw_le {E : Nat → Int32} (h0 : (E 0).toInt = 8) : ∀ {n : Nat}, 1 ≤ n → tr_nw E n + 1 ≤ n
  | 0, h => absurd h (by decide)
  | 1, _ => by
    rw [tr_nw_n (n := 0) (by omega)]
    exact Nat.le_refl _
  | n + 2, _ => by
    have ih := tr_nw_le h0 (n := n + 1) (by omega)
    by_cases h : (E (n + 1)).toInt = 3 ∨ (E (n + 1)).toInt = 7
    · rw [tr_nw_y h]
      omega
    · rw [tr_nw_n h]
      omega
/-- what lies on the pile -/
def tr_stk (E S : Nat → Int32) (n : Nat) : Prop := (1 ≤ n → (E 0).toInt = 8) ∧ ∀ k, 1 ≤ k → k < n → 1 ≤ (E k).toInt ∧ (E k).toInt ≤ 7 ∧ ((E k).toInt = 3 → (S k).toInt = 126) ∧ ((E k).toInt ≠ 3 → (E k).toInt ≠ 7 → (S k).toInt ≠ 126 ∧ ((S k).toInt < 97 ∨ 122 < (S k).toInt))
theorem tr_stk_push {E S : Nat → Int32} {n : Nat} {x y : Int32} (hn : 1 ≤ n) (h : tr_stk E S n) (h1 : 1 ≤ x.toInt) (h2 : x.toInt ≤ 7) (h3 : x.toInt = 3 → y.toInt = 126) (h4 : x.toInt ≠ 3 → x.toInt ≠ 7 → y.toInt ≠ 126 ∧ (y.toInt < 97 ∨ 122 < y.toInt)) : tr_stk (upd E n x) (upd S n y) (n + 1) := by
  obtain ⟨g1, g2⟩ := h
  refine ⟨fun _ => by rw [tg_upd_ne (by omega)]; exact g1 hn, fun k k1 k2 => ?_⟩
  by_cases e : k = n
  · rw [e, tg_upd_eq, tg_upd_eq]
    exact ⟨h1, h2, h3, h4⟩
  · rw [tg_upd_ne e, tg_upd_ne e]
    exact g2 k k1 (by omega)
theorem tr_stk_pop {E S : Nat → Int32} {n m : Nat} (h : tr_stk E S n) (hm : m ≤ n) : tr_stk E S m := ⟨fun h1 => h.1 (by omega), fun k k1 k2 => h.2 k k1 (by omega)⟩
def tr_EW (w : List zx_E) (q : Nat) (E S : Nat → Int32) (pd wi u : Int32) : Prop := tj_fa w q 12 36 90 E ∧ tj_fa w q 12 37 90 S ∧ tj_fi w q 12 43 pd ∧ tj_fi w q 12 42 wi ∧ tj_fi w q 12 44 u
def tr_dEW : tj_Ef := ([(149, 36), (149, 37), (149, 43), (149, 42), (149, 44)], [120, 121])
theorem tr_EW_fr {Ψ : List Nat} {w w' : List zx_E} {q : Nat} {e : tj_Ef} {E S : Nat → Int32} {pd wi u : Int32} (hw : tj_wt tj_Lam Ψ w) (hfr : tj_fr e Ψ w w') (hd : tj_dj tr_dEW e = true) (h : tr_EW w q E S pd wi u) : tr_EW w' q E S pd wi u := by
  obtain ⟨h1, h2, h3, h4, h5⟩ := h
  exact ⟨te_fa hw hfr hd (by decide +kernel) h1, te_fa hw hfr hd (by decide +kernel) h2, te_fi hw hfr hd (by decide +kernel) h3, te_fi hw hfr hd (by decide +kernel) h4, te_fi hw hfr hd (by decide +kernel) h5⟩
/-- within a formula that begins at fm: nw is 1 behind a unit -/
def tr_EI (b : Nat) (fm C ub φ : Int) (cd E S : Nat → Int32) (pd wi u : Int32) (nw : Nat) : Prop := fm ≤ C ∧ 640 * (b : Int) ≤ fm ∧ tr_stk E S pd.toInt.toNat ∧ wi.toInt = tr_nw E pd.toInt.toNat ∧ (∃ D, tr_run cd fm.toNat (C - fm).toNat D ∧ (D : Int) ≤ u.toInt ∧ (1 ≤ pd.toInt → (D : Int) + wi.toInt + 1 = pd.toInt + nw)) ∧ 4 * (C - 640 * (b : Int) + pd.toInt - 1) + 4 * nw ≤ 8 * ub + φ ∧ (nw = 0 → 1 ≤ pd.toInt)
def tr_me (u wi pd : Int32) (nw : Nat) : Nat := (30 - u.toInt.toNat) * 1000 + (if nw = 0 then 7 - wi.toInt.toNat else 100 + pd.toInt.toNat)
theorem tr_T_le {w : List zx_E} {q : Nat} {φ : Int} (h : tr_T w q φ) : 0 ≤ φ ∧ φ ≤ 1601 := by
  obtain ⟨tx, sz, en, at', tk, nm, ⟨-, t1, t2, t3, t4, -⟩, e⟩ := h
  rw [e]
  by_cases hL : tr_LW tk
  · rw [tr_ph_lw hL]
    omega
  · rw [tr_ph_nlw hL]
    omega
theorem tr_new_cd {b nr : Nat} {C : Int} {hv pv dv tm ho pe cd rf rt cd' : Nat → Int32} (h : ∀ i : Nat, (i : Int) < C → cd i = cd' i) (hn : tr_new b nr C hv pv dv tm ho pe cd rf rt) : tr_new b nr C hv pv dv tm ho pe cd' rf rt := by
  obtain ⟨n1, n2, n3, n4⟩ := hn
  refine ⟨n1, n2, n3, fun r hr => ?_⟩
  obtain ⟨r1, r2, r3, r4⟩ := n4 r hr
  exact ⟨r1, r2, r3, tr_cd_eq (fun i h1 h2 => h i (by omega)) r4⟩
def tr_EPs (w : List zx_E) (q : Nat) (φ : Int) (fk bk rb : Int32) (j : Nat) (Z : Nat → Nat → Int32) (fm : Int) (nw m : Nat) : Prop := ∃ (C : Int32) (ua hv pv dv tm ho pe cd rf rt E S : Nat → Int32) (pd wi u : Int32), tr_RB w q bk rb C ua hv pv dv tm ho pe cd rf rt φ fk ∧ tr_bb bk rb ∧ tr_old bk.toInt.toNat hv pv dv tm ho pe cd rf rt (Z 0) (Z 1) (Z 2) (Z 3) (Z 4) (Z 5) (Z 6) (Z 7) (Z 8) ∧ tr_EW w q E S pd wi u ∧ (fk.toInt = 0 → tr_new rb.toInt.toNat (2 * (dv rb.toInt.toNat).toInt.toNat + j) fm hv pv dv tm ho pe cd rf rt ∧ tr_EI rb.toInt.toNat fm C.toInt (ua rb.toInt.toNat).toInt φ cd E S pd wi u nw ∧ tr_me u wi pd nw = m)
def tr_EO (q : Nat) (φ : Int) (bk rb : Int32) (j : Nat) (Z : Nat → Nat → Int32) (fm : Int) (m : Nat) (a : Option zx_V) (w' : List zx_E) : Prop := ∃ (x : Int32) (φ' : Int) (fk' : Int32) (m' : Nat), a = some (.inl x) ∧ (x = Int32.ofNat 0 ∨ x = Int32.ofNat 1) ∧ φ ≤ φ' ∧ tr_EPs w' q φ' fk' bk rb j Z fm (1 - x.toInt.toNat) m' ∧ (fk'.toInt = 0 → m' < m)
set_option maxRecDepth 20000 in
theorem tr_isComparedK {w : List zx_E} {q : Nat} {pd : Int32} {E : Nat → Int32} (h43 : tj_fi w q 12 43 pd) (h36 : tj_fa w q 12 36 90 E) (h1 : 1 ≤ pd.toInt) (h2 : pd.toInt ≤ 90) (h0 : (E 0).toInt = 8) : ∃ v : Int32, zx_Cl zx_mt zx_rc zx_mx' 1 138 [(.inr (.inr (.inl q)))] w (0, 0) (some (.inl v), w) ∧ True := by
  obtain ⟨fs, k0, k43⟩ := id h43
  have ipd := zx_b_int pd
  have z1 : (Int32.ofNat 1).toInt = 1 := by decide
  refine tr_funK (F := fun _ => True) (d := 0) (dt := zx_d_X12_isCompared) (by rw [← zx_q_X12_isCompared]; rfl) (by rw [(by decide +kernel : zx_rc 138 = 13)]; exact ⟨q, _, fs, rfl, k0⟩) (by decide +kernel : 1 ≤ zx_mx' 138) ?_
  let WP : zx_S → Prop := fun σ => zx_wp (zx_Cl zx_mt zx_rc zx_mx' 0) none (0, 0) (zx_find (zx_cT zx_d_X12_isCompared)) (tr_endK zx_d_X12_isCompared w (fun _ => True)) σ
  have out : ∀ (k : Int32) (ls : List (Nat × zx_V)), 0 ≤ k.toInt → k.toInt < 90 → zx_look 0 ls = some (.inr (.inr (.inl q))) → zx_look 1 ls = some (.inl k) → WP (34, ls, [], w, 0, 0) := by
    intro k ls hk0 hk1 l0 l1
    refine zy_la rfl l0 (Or.inl ⟨_, rfl⟩) ?_
    refine zy_gA rfl h36 (fun p hp hpt hlp => ?_)
    refine zy_li rfl l1 ?_
    refine zy_ld rfl hp (tr_in (by omega) (by omega)) ?_
    refine zy_ci (n := 1) (c := 4) rfl ?_
    refine zy_jt rfl (fun _ => ?_) (fun _ => ?_)
    · refine zy_ci (n := 1) (c := 0) rfl ?_
      exact tr_eZ ⟨_, _, _, rfl⟩ (Or.inl rfl) trivial
    · refine zy_ci (n := 1) (c := 1) rfl ?_
      refine zy_goto rfl ?_
      exact tr_eZ ⟨_, _, _, rfl⟩ (Or.inr rfl) trivial
  have loop : ∀ (n : Nat) (k : Int32) (ls : List (Nat × zx_V)), k.toInt = n → n < 90 → zx_look 0 ls = some (.inr (.inr (.inl q))) → zx_look 1 ls = some (.inl k) → WP (7, ls, [], w, 0, 0) := by
    intro n
    induction n with
    | zero =>
      intro k ls hk hn l0 l1
      have ik := zx_b_int k
      have ekn : k.toNatClampNeg = 0 := by
        show k.toInt.toNat = 0
        omega
      have iE := zx_b_int (E 0)
      have go := out k ls (by omega) (by omega) l0 l1
      refine zy_la rfl l0 (Or.inl ⟨_, rfl⟩) ?_
      refine zy_gA rfl h36 (fun p hp hpt hlp => ?_)
      refine zy_li rfl l1 ?_
      refine zy_ld rfl hp (tr_in (by omega) (by omega)) ?_
      rw [ekn]
      refine zy_ci (n := 1) (c := 5) rfl ?_
      refine zy_jt rfl (fun h => ?_) (fun _ => ?_)
      · have h : zx_b (E 0) = zx_b (Int32.ofNat 5) := h
        rw [show zx_b (Int32.ofNat 5) = 2147483653 by decide] at h
        omega
      refine zy_la rfl l0 (Or.inl ⟨_, rfl⟩) ?_
      refine zy_gA rfl h36 (fun p2 hp2 hpt2 hlp2 => ?_)
      refine zy_li rfl l1 ?_
      refine zy_ld rfl hp2 (tr_in (by omega) (by omega)) ?_
      rw [ekn]
      refine zy_ci (n := 2) (c := 6) rfl ?_
      refine zy_jt rfl (fun _ => go) (fun h => ?_)
      have h : zx_b (E 0) = zx_b (Int32.ofNat 6) := h
      rw [show zx_b (Int32.ofNat 6) = 2147483654 by decide] at h
      omega
    | succ n ih =>
      intro k ls hk hn l0 l1
      have ik := zx_b_int k
      have go := out k ls (by omega) (by omega) l0 l1
      have down : WP (28, ls, [], w, 0, 0) := by
        have ek : (k + Int32.ofNat 4294967295).toInt = k.toInt - 1 := tm_dec (by decide) (by omega)
        refine zy_ik (k := 1) (n := 4294967295) rfl l1 ?_
        refine zy_goto rfl ?_
        generalize k + Int32.ofNat 4294967295 = k1 at ek ⊢
        exact ih k1 _ (by omega) (by omega) (zy_look_ne (by decide) rfl l0) zy_look_put
      refine zy_la rfl l0 (Or.inl ⟨_, rfl⟩) ?_
      refine zy_gA rfl h36 (fun p hp hpt hlp => ?_)
      refine zy_li rfl l1 ?_
      refine zy_ld rfl hp (tr_in (by omega) (by omega)) ?_
      refine zy_ci (n := 1) (c := 5) rfl ?_
      refine zy_jt rfl (fun _ => down) (fun _ => ?_)
      refine zy_la rfl l0 (Or.inl ⟨_, rfl⟩) ?_
      refine zy_gA rfl h36 (fun p2 hp2 hpt2 hlp2 => ?_)
      refine zy_li rfl l1 ?_
      refine zy_ld rfl hp2 (tr_in (by omega) (by omega)) ?_
      refine zy_ci (n := 2) (c := 6) rfl ?_
      exact zy_jt rfl (fun _ => go) (fun _ => down)
  refine zy_la (k := 0) rfl rfl (Or.inl ⟨_, rfl⟩) ?_
  refine zy_gI rfl h43 ?_
  refine zy_ci (n := 1) (c := 1) rfl ?_
  refine zy_sub rfl ?_
  have ep : (pd - Int32.ofNat 1).toInt = pd.toInt - 1 := by rw [tr_sub (by omega) (by omega), z1]
  generalize pd - Int32.ofNat 1 = k at ep ⊢
  refine zy_si (k := 1) rfl ?_
  exact loop (pd.toInt.toNat - 1) k _ (by omega) (by omega) rfl zy_look_put
def tr_Ee : tj_Ef := ([(149, 4), (149, 5), (149, 6), (149, 7), (149, 8), (149, 9), (149, 10), (149, 41), (149, 42), (149, 43), (149, 44)], [107, 118, 119, 120, 121])
set_option maxRecDepth 20000 in
theorem tr_unit {Ψ : List Nat} {w : List zx_E} {q : Nat} {φ : Int} {fk bk rb C pd wi u : Int32} {ua hv pv dv tm ho pe cd rf rt E S : Nat → Int32} {j m : Nat} {Z : Nat → Nat → Int32} {fm : Int} (hw : tj_wt tj_Lam Ψ w) (hq : Ψ[q]? = some 149) (hR : tr_RB w q bk rb C ua hv pv dv tm ho pe cd rf rt φ fk) (hbb : tr_bb bk rb) (hold : tr_old bk.toInt.toNat hv pv dv tm ho pe cd rf rt (Z 0) (Z 1) (Z 2) (Z 3) (Z 4) (Z 5) (Z 6) (Z 7) (Z 8)) (hE : tr_EW w q E S pd wi u) (hfk : fk.toInt = 0) (hnew : tr_new rb.toInt.toNat (2 * (dv rb.toInt.toNat).toInt.toNat + j) fm hv pv dv tm ho pe cd rf rt) (hEI : tr_EI rb.toInt.toNat fm C.toInt (ua rb.toInt.toNat).toInt φ cd E S pd wi u 0) (hm : tr_me u wi pd 0 = m) : tr_Do 4 209 [(.inr (.inr (.inl q)))] tr_Ee Ψ w (fun a _ w' => tr_EO q φ bk rb j Z fm m a w') := by
  obtain ⟨fs, k0, -, -⟩ := tr_ob hw hq
  have hlq : q < w.length := (List.getElem?_eq_some_iff.mp k0).1
  have hb := hbb
  unfold tr_bb at hb
  have irb := zx_b_int rb
  have enb : rb.toNatClampNeg = rb.toInt.toNat := rfl
  have hR0 := hR
  have hE0 := hE
  obtain ⟨hB, h41, h15, h4, hT⟩ := hR
  obtain ⟨h36, h37, h43, h42, h44⟩ := hE
  have hφ := tr_T_le hT
  obtain ⟨tx, sz, en, at', tk, nm, hTV, eφ⟩ := hT
  obtain ⟨⟨t3, t7, t6, t8, t10, t1⟩, u1, u2, u3, u4, u5, u6, u7, u8⟩ := id hTV
  have h40 := hB.2.1
  have bua := tr_bd1 (l := 107) (n := 2) (lo := 2147483648) (hi := 2147483738) hw hq rfl rfl h15 (j := rb.toInt.toNat) (by omega)
  have iua := zx_b_int (ua rb.toInt.toNat)
  have bpd := tr_bdI (lo := 2147483648) (hi := 2147483738) hw hq rfl h43
  have ipd := zx_b_int pd
  have bwi := tr_bdI (lo := 2147483648) (hi := 2147483655) hw hq rfl h42
  have iwi := zx_b_int wi
  have bu := tr_bdI (lo := 2147483648) (hi := 2147483678) hw hq rfl h44
  have iu := zx_b_int u
  have bC := tr_bdI (lo := 2147483648) (hi := 2147484928) hw hq rfl h41
  have iC := zx_b_int C
  have z0 : (Int32.ofNat 0).toInt = 0 := by decide
  have z1 : (Int32.ofNat 1).toInt = 1 := by decide
  obtain ⟨i1, i2, i3, i4, ⟨D, i5, i6, i7⟩, i8, i9⟩ := id hEI
  have hpd1 := i9 rfl
  have i7' := i7 hpd1
  have hpd38 : pd.toInt ≤ 38 := by omega
  let P : Option zx_V → List Nat → List zx_E → Prop := fun a _ w' => tr_EO q φ bk rb j Z fm m a w'
  refine tr_meth (P := P) (d := 3) (dt := zx_d_X12_unit) (by rw [← zx_q_X12_unit]; rfl) (by rw [(by decide +kernel : zx_rc 209 = 13)]; exact ⟨q, _, fs, rfl, k0⟩) (by decide +kernel : 1 ≤ zx_mx' 209) ?_
  let WP : zx_S → Prop := fun σ => zx_wp (zx_Cl zx_mt zx_rc zx_mx' 3) none (tj_P tj_c1 w, tj_P tj_c2 w) (zx_find (zx_cT zx_d_X12_unit)) (tr_end zx_d_X12_unit tr_Ee Ψ w P) σ
  let J : List Nat → List zx_E → Nat → Nat → Prop := fun Ψ' w' mc ms => tj_W tj_Lam (tj_P tj_c1 w, tj_P tj_c2 w) tr_Ee Ψ w Ψ' w' mc ms
  -- misplaced
  have bad : ∀ (ls : List (Nat × zx_V)), zx_limP w.length ls = true → zx_look 0 ls = some (.inr (.inr (.inl q))) → WP (143, ls, [], w, 0, 0) := by
    intro ls hls l0
    refine zy_la rfl l0 (Or.inl ⟨_, rfl⟩) ?_
    refine zy_callD (tr_Do_le (tr_misplaced hw hq) (by decide)) (n := 1) (st := []) rfl rfl (Nat.zero_le _) hls rfl (tm_W0 (E := tr_Ee) hw) (by decide +kernel) (by decide +kernel) ?_
    intro a Ψ2 w2 mc2 ms2 hJ2 hle2 hfr2 hls2 hst2 hP
    obtain ⟨ea, fk2, h42', hne⟩ := hP
    subst ea
    obtain ⟨φ3, fk3, g1, g2, hR3⟩ := tr_RB_tok hw hfr2 (by decide +kernel) hR0 ⟨φ, fk2, tr_T_fr hw hfr2 (by decide +kernel) hR0.2.2.2.2, Int.le_refl _, h42', fun h => absurd h hne⟩
    have e43 := tr_fi_eq hR3.2.2.2.1 h42'
    obtain ⟨gv, hgv, hgv'⟩ := tr_isGoodK hR3.2.2.2.1
    refine zy_la rfl l0 (Or.inl ⟨_, rfl⟩) ?_
    refine zy_callK (a := 0) (n := 1) (st := []) (zx_Cl_le (by decide) hgv) rfl rfl (Nat.le_of_ble_eq_true rfl) hls2 rfl (by have := hJ2.2.1; omega) (by have := hJ2.2.1; omega) ?_
    rcases hgv' with ⟨ev, hz⟩ | ⟨ev, hz⟩
    · exact absurd (by rw [← e43]; exact hz) hne
    · subst ev
      refine zy_j0 rfl (fun h => absurd tr_z0 h) (fun _ => ?_)
      refine zy_ci (n := 1) (c := 1) rfl ?_
      exact tr_endZ ⟨_, _, _, rfl⟩ (Or.inr rfl) hJ2 ⟨_, φ3, fk3, 0, rfl, Or.inr rfl, g1, ⟨C, ua, hv, pv, dv, tm, ho, pe, cd, rf, rt, E, S, pd, wi, u, hR3, hbb, hold, tr_EW_fr hw hfr2 (by decide +kernel) hE0, fun h => absurd h hz⟩, fun h => absurd h hz⟩
  let L : Int32 → Int32 → Int32 → List (Nat × zx_V) → Prop := fun nt br c ls => zx_look 0 ls = some (.inr (.inr (.inl q))) ∧ zx_look 2 ls = some (.inl nt) ∧ zx_look 3 ls = some (.inl br) ∧ zx_look 4 ls = some (.inl c)
  -- all is well
  have at147 : ∀ (nt br c : Int32) (ls : List (Nat × zx_V)), ((nt = Int32.ofNat 0 ∧ (ua rb.toInt.toNat).toInt ≤ 89 ∧ u.toInt ≤ 29) ∨ (nt = Int32.ofNat 1 ∧ tk.toInt = 3 ∧ nm = Int64.ofNat 7237492)) → (nt = Int32.ofNat 0 ∧ br = Int32.ofNat 0 ∨ wi.toInt ≤ 6) → (c = Int32.ofNat 0 ∨ (97 ≤ c.toInt ∧ c.toInt ≤ 122)) → zx_limP w.length ls = true → L nt br c ls → WP (147, ls, [], w, 0, 0) := by
    intro nt br c ls hnt hbr hc hls hL
    obtain ⟨l0, l2, l3, l4⟩ := hL
    obtain ⟨gv, hgv, hgv'⟩ := tr_isGoodK h4
    refine zy_la rfl l0 (Or.inl ⟨_, rfl⟩) ?_
    refine zy_callK (a := 0) (n := 1) (st := []) (zx_Cl_le (by decide) hgv) rfl rfl (Nat.le_of_ble_eq_true rfl) hls rfl (Nat.zero_le _) (Nat.zero_le _) ?_
    rcases hgv' with ⟨ev, hz⟩ | ⟨ev, hz⟩
    rotate_left
    · exact absurd hfk hz
    subst ev
    refine zy_j0 rfl (fun _ => ?_) (fun h => absurd h tr_no1)
    -- the counts: d more
    have cnt : ∀ (d : Int32), ((d.toInt = 1 ∧ (ua rb.toInt.toNat).toInt ≤ 89 ∧ u.toInt ≤ 29 ∧ nt = Int32.ofNat 0) ∨ (d.toInt = 0 ∧ nt = Int32.ofNat 1 ∧ tk.toInt = 3 ∧ nm = Int64.ofNat 7237492)) → ∀ (w1 : List zx_E), J Ψ w1 0 0 → tj_fr ([], [107]) Ψ w w1 → w1.length = w.length → tj_fa w1 q 12 15 2 (upd ua rb.toInt.toNat (ua rb.toInt.toNat + d)) → WP (191, ls, [(.inl d), (.inl u), (.inr (.inr (.inl q)))], w1, 0, 0) := by
      intro d hd w1 hJ1 hfr1 hl1 h151
      have eud : (u + d).toInt = u.toInt + d.toInt := tr_add (by omega) (by omega)
      have iud := zx_b_int (u + d)
      have eua : (ua rb.toInt.toNat + d).toInt = (ua rb.toInt.toNat).toInt + d.toInt := tr_add (by omega) (by omega)
      refine zy_add rfl ?_
      refine zy_wI (k := 44) (lo := 2147483648) (hi := 2147483678) rfl hJ1 hq rfl (by omega) (by omega) rfl (by decide +kernel) ?_
      intro w2 hJ2 hfr2 hl2 h442
      -- views
      have hB2 := tr_B_fr hJ1.1 hfr2 (by decide +kernel) (tr_B_fr hw hfr1 (by decide +kernel) hB)
      have h412 := te_fi hJ1.1 hfr2 (d := ([(149, 41)], [])) (by decide +kernel) (by decide +kernel) (te_fi hw hfr1 (d := ([(149, 41)], [])) (by decide +kernel) (by decide +kernel) h41)
      have h152 := te_fa hJ1.1 hfr2 (d := ([(149, 15)], [107])) (by decide +kernel) (by decide +kernel) h151
      have h46 := te_fi hJ1.1 hfr2 (d := ([(149, 4)], [])) (by decide +kernel) (by decide +kernel) (te_fi hw hfr1 (d := ([(149, 4)], [])) (by decide +kernel) (by decide +kernel) h4)
      have hTV2 := tr_TV_fr hJ1.1 hfr2 (by decide +kernel) (tr_TV_fr hw hfr1 (by decide +kernel) hTV)
      have h362 := te_fa hJ1.1 hfr2 (d := ([(149, 36)], [120])) (by decide +kernel) (by decide +kernel) (te_fa hw hfr1 (d := ([(149, 36)], [120])) (by decide +kernel) (by decide +kernel) h36)
      have h372 := te_fa hJ1.1 hfr2 (d := ([(149, 37)], [121])) (by decide +kernel) (by decide +kernel) (te_fa hw hfr1 (d := ([(149, 37)], [121])) (by decide +kernel) (by decide +kernel) h37)
      have h432 := te_fi hJ1.1 hfr2 (d := ([(149, 43)], [])) (by decide +kernel) (by decide +kernel) (te_fi hw hfr1 (d := ([(149, 43)], [])) (by decide +kernel) (by decide +kernel) h43)
      have h422 := te_fi hJ1.1 hfr2 (d := ([(149, 42)], [])) (by decide +kernel) (by decide +kernel) (te_fi hw hfr1 (d := ([(149, 42)], [])) (by decide +kernel) (by decide +kernel) h42)
      have hls2 : zx_limP w2.length ls = true := by rw [hl2, hl1]; exact hls
      clear hfr1 hfr2 hl1 hl2 h151 hJ1
      generalize hua2 : upd ua rb.toInt.toNat (ua rb.toInt.toNat + d) = ua2 at h152
      have eua2 : (ua2 rb.toInt.toNat).toInt = (ua rb.toInt.toNat).toInt + d.toInt := by rw [← hua2, tg_upd_eq, eua]
      clear hua2
      generalize u + d = u2 at eud iud h442
      -- behind the token
      have rest : ∀ (n : Int32) (ls2 : List (Nat × zx_V)), zx_limP w2.length ls2 = true → L nt br c ls2 → zx_look 6 ls2 = some (.inl n) → WP (210, ls2, [], w2, 0, 0) := by
        intro n ls2 hls3 hL2 l6
        obtain ⟨m0, m2, m3, m4⟩ := hL2
        refine zy_la rfl m0 (Or.inl ⟨_, rfl⟩) ?_
        refine zy_callD (tr_goOnV hJ2.1 hq hTV2) (n := 1) (st := []) rfl rfl (Nat.zero_le _) hls3 rfl hJ2 (by decide +kernel) (by decide +kernel) ?_
        intro a Ψ3 w3 mc3 ms3 hJ3 hle3 hfr3 hls4 hst3 hP3
        obtain ⟨ea, en3, at3, tk3, nm3, hTV3, p1, -, p2⟩ := hP3
        subst ea
        have hq3 := hle3 _ _ hq
        have hφ3 : φ ≤ tr_ph at3 tk3 := by rw [eφ]; exact p1
        have hφ4 : nt = Int32.ofNat 1 → φ + 4 ≤ tr_ph at3 tk3 := by
          intro h
          rcases hd with ⟨-, -, -, e⟩ | ⟨-, -, e1, e2⟩
          · rw [h] at e
            exact absurd e (by decide)
          · rw [eφ]
            exact p2 e1 e2
        have hT3 : tr_T w3 q (tr_ph at3 tk3) := ⟨tx, sz, en3, at3, tk3, nm3, hTV3, rfl⟩
        have hB3 := tr_B_fr hJ2.1 hfr3 (by decide +kernel) hB2
        have h413 := te_fi hJ2.1 hfr3 (d := ([(149, 41)], [])) (by decide +kernel) (by decide +kernel) h412
        have h153 := te_fa hJ2.1 hfr3 (d := ([(149, 15)], [107])) (by decide +kernel) (by decide +kernel) h152
        have h47 := te_fi hJ2.1 hfr3 (d := ([(149, 4)], [])) (by decide +kernel) (by decide +kernel) h46
        have h363 := te_fa hJ2.1 hfr3 (d := ([(149, 36)], [120])) (by decide +kernel) (by decide +kernel) h362
        have h373 := te_fa hJ2.1 hfr3 (d := ([(149, 37)], [121])) (by decide +kernel) (by decide +kernel) h372
        have h433 := te_fi hJ2.1 hfr3 (d := ([(149, 43)], [])) (by decide +kernel) (by decide +kernel) h432
        have h423 := te_fi hJ2.1 hfr3 (d := ([(149, 42)], [])) (by decide +kernel) (by decide +kernel) h422
        have h443 := te_fi hJ2.1 hfr3 (d := ([(149, 44)], [])) (by decide +kernel) (by decide +kernel) h442
        generalize tr_ph at3 tk3 = φ3 at hφ3 hφ4 hT3
        clear hTV2 hTV3 p1 p2 hfr3 hst3
        -- pushed
        have psh : ∀ (x : Int32), (x.toInt = 3 ∧ nt = Int32.ofNat 1 ∨ x.toInt = 7 ∧ nt = Int32.ofNat 0) → wi.toInt ≤ 6 → WP (233, ls2, [(.inl x), (.inr (.inr (.inl q)))], w3, mc3, ms3) := by
          intro x hx hwi6
          refine zy_ci (n := 2) (c := 126) rfl ?_
          refine zy_callD (tr_Do_le (tr_pushE (c := x) (n := Int32.ofNat 126) hJ3.1 hq3 h433 h363 h373 (by omega) (by omega)) (by decide)) (n := 3) (st := []) rfl rfl (Nat.zero_le _) hls4 rfl hJ3 (by decide +kernel) (by decide +kernel) ?_
          intro a Ψ4 w4 mc4 ms4 hJ4 hle4 hfr4 hls5 hst4 hP4
          obtain ⟨ea, h434, h364, h374⟩ := hP4
          subst ea
          have hq4 := hle4 _ _ hq3
          have h424 := te_fi hJ3.1 hfr4 (d := ([(149, 42)], [])) (by decide +kernel) (by decide +kernel) h423
          have hB4 := tr_B_fr hJ3.1 hfr4 (by decide +kernel) hB3
          have h414 := te_fi hJ3.1 hfr4 (d := ([(149, 41)], [])) (by decide +kernel) (by decide +kernel) h413
          have h154 := te_fa hJ3.1 hfr4 (d := ([(149, 15)], [107])) (by decide +kernel) (by decide +kernel) h153
          have h48 := te_fi hJ3.1 hfr4 (d := ([(149, 4)], [])) (by decide +kernel) (by decide +kernel) h47
          have h444 := te_fi hJ3.1 hfr4 (d := ([(149, 44)], [])) (by decide +kernel) (by decide +kernel) h443
          have hT4 := tr_T_fr hJ3.1 hfr4 (by decide +kernel) hT3
          have epd : (pd + Int32.ofNat 1).toInt = pd.toInt + 1 := tm_inc tm_k1 (by omega)
          have ewi : (wi + Int32.ofNat 1).toInt = wi.toInt + 1 := tm_inc tm_k1 (by omega)
          have iwi1 := zx_b_int (wi + Int32.ofNat 1)
          refine zy_la rfl m0 (Or.inl ⟨_, rfl⟩) ?_
          refine zy_dup rfl ?_
          refine zy_gI rfl h424 ?_
          refine zy_ci (n := 1) (c := 1) rfl ?_
          refine zy_add rfl ?_
          refine zy_wI (k := 42) (lo := 2147483648) (hi := 2147483655) rfl hJ4 hq4 rfl (by omega) (by omega) rfl (by decide +kernel) ?_
          intro w5 hJ5 hfr5 hl5 h425
          refine zy_ci (n := 1) (c := 1) rfl ?_
          generalize pd + Int32.ofNat 1 = pd2 at epd h434
          generalize wi + Int32.ofNat 1 = wi2 at ewi iwi1 h425
          have hEW5 : tr_EW w5 q (upd E pd.toInt.toNat x) (upd S pd.toInt.toNat (Int32.ofNat 126)) pd2 wi2 u2 := ⟨te_fa hJ4.1 hfr5 (d := ([(149, 36)], [120])) (by decide +kernel) (by decide +kernel) h364, te_fa hJ4.1 hfr5 (d := ([(149, 37)], [121])) (by decide +kernel) (by decide +kernel) h374, te_fi hJ4.1 hfr5 (d := ([(149, 43)], [])) (by decide +kernel) (by decide +kernel) h434, h425, te_fi hJ4.1 hfr5 (d := ([(149, 44)], [])) (by decide +kernel) (by decide +kernel) h444⟩
          have hR5 : tr_RB w5 q bk rb C ua2 hv pv dv tm ho pe cd rf rt φ3 fk := tr_RB_fr hJ4.1 hfr5 (by decide +kernel) ⟨hB4, h414, h154, h48, hT4⟩
          have hnt : nt = Int32.ofNat 0 → d.toInt = 1 := by
            intro h
            rcases hd with ⟨e, -⟩ | ⟨-, e, -⟩
            · exact e
            · rw [h] at e
              exact absurd e (by decide)
          have hnt1 : nt = Int32.ofNat 1 → d.toInt = 0 := by
            intro h
            rcases hd with ⟨-, -, -, e⟩ | ⟨e, -⟩
            · rw [h] at e
              exact absurd e (by decide)
            · exact e
          have epn : pd2.toInt.toNat = pd.toInt.toNat + 1 := by omega
          have hnw : tr_nw (upd E pd.toInt.toNat x) (pd.toInt.toNat + 1) = tr_nw E pd.toInt.toNat + 1 := by
            rw [tr_nw_y (by rw [tg_upd_eq]; omega)]
            rw [tr_nw_eq (E := upd E pd.toInt.toNat x) (E' := E) (fun k hk => tg_upd_ne (by omega))]
          refine tr_endZ ⟨_, _, _, rfl⟩ (Or.inr rfl) hJ5 ⟨_, φ3, fk, tr_me u2 wi2 pd2 0, rfl, Or.inr rfl, hφ3, ⟨C, ua2, hv, pv, dv, tm, ho, pe, cd, rf, rt, _, _, pd2, wi2, u2, hR5, hbb, hold, hEW5, fun _ => ⟨hnew, ⟨i1, i2, ?_, ?_, ⟨D, i5, ?_, fun _ => ?_⟩, ?_, fun _ => by omega⟩, rfl⟩⟩, fun _ => ?_⟩
          · rw [epn]
            exact tr_stk_push (by omega) i3 (by omega) (by omega) (fun _ => by decide) (fun h1 h2 => by omega)
          · rw [epn, hnw]
            omega
          · omega
          · show (D : Int) + wi2.toInt + 1 = pd2.toInt + ((1 - (Int32.ofNat 1).toInt.toNat : Nat) : Int)
            rw [z1]
            have : ((1 - (1 : Int).toNat : Nat) : Int) = 0 := by decide
            omega
          · show 4 * (C.toInt - 640 * (rb.toInt.toNat : Int) + pd2.toInt - 1) + 4 * ((1 - (Int32.ofNat 1).toInt.toNat : Nat) : Int) ≤ 8 * (ua2 rb.toInt.toNat).toInt + φ3
            rw [z1]
            have : ((1 - (1 : Int).toNat : Nat) : Int) = 0 := by decide
            rcases hx with ⟨-, hx2⟩ | ⟨-, hx2⟩
            · have := hφ4 hx2
              have := hnt1 hx2
              omega
            · have := hnt hx2
              omega
          · rw [← hm]
            unfold tr_me
            rw [if_pos rfl, if_pos rfl]
            omega
        -- a value
        have emi : nt = Int32.ofNat 0 → ∀ (x : Int32), 97 ≤ x.toInt → x.toInt ≤ 122 → WP (263, ls2, [(.inl x), (.inr (.inr (.inl q)))], w3, mc3, ms3) := by
          intro hnt0 x hx1 hx2
          have hd1 : d.toInt = 1 := by
            rcases hd with ⟨e, -⟩ | ⟨-, e, -⟩
            · exact e
            · rw [hnt0] at e
              exact absurd e (by decide)
          refine zy_li rfl l6 ?_
          refine zy_callD (tr_Do_le (tr_emit (c := x) (n := n) hJ3.1 hq3 h413 hB3.2.2.2.2.2.2.2.2.1 (by omega)) (by decide)) (n := 3) (st := []) rfl rfl (Nat.zero_le _) hls4 rfl hJ3 (by decide +kernel) (by decide +kernel) ?_
          intro a Ψ4 w4 mc4 ms4 hJ4 hle4 hfr4 hls5 hst4 hP4
          obtain ⟨ea, h414, h344⟩ := hP4
          subst ea
          refine zy_ci (n := 1) (c := 0) rfl ?_
          have eC1 : (C + Int32.ofNat 1).toInt = C.toInt + 1 := tm_inc tm_k1 (by omega)
          generalize C + Int32.ofNat 1 = C2 at eC1 h414
          obtain ⟨b39, b40, b11, b13, b14, b24, b23, b19, b34, b26, b27⟩ := hB3
          have hB4 : tr_B w4 q bk rb hv pv dv tm ho pe (upd cd C.toInt.toNat x) rf rt := ⟨te_fi hJ3.1 hfr4 (d := ([(149, 39)], [])) (by decide +kernel) (by decide +kernel) b39, te_fi hJ3.1 hfr4 (d := ([(149, 40)], [])) (by decide +kernel) (by decide +kernel) b40, te_fa hJ3.1 hfr4 (d := ([(149, 11)], [103])) (by decide +kernel) (by decide +kernel) b11, te_fa hJ3.1 hfr4 (d := ([(149, 13)], [105])) (by decide +kernel) (by decide +kernel) b13, te_fa hJ3.1 hfr4 (d := ([(149, 14)], [106])) (by decide +kernel) (by decide +kernel) b14, te_fa hJ3.1 hfr4 (d := ([(149, 24)], [116])) (by decide +kernel) (by decide +kernel) b24, te_fa hJ3.1 hfr4 (d := ([(149, 23)], [115])) (by decide +kernel) (by decide +kernel) b23, te_fa hJ3.1 hfr4 (d := ([(149, 19)], [111])) (by decide +kernel) (by decide +kernel) b19, h344, te_fa hJ3.1 hfr4 (d := ([(149, 26)], [137])) (by decide +kernel) (by decide +kernel) b26, te_fa hJ3.1 hfr4 (d := ([(149, 27)], [138])) (by decide +kernel) (by decide +kernel) b27⟩
          have hR4 : tr_RB w4 q bk rb C2 ua2 hv pv dv tm ho pe (upd cd C.toInt.toNat x) rf rt φ3 fk := ⟨hB4, h414, te_fa hJ3.1 hfr4 (d := ([(149, 15)], [107])) (by decide +kernel) (by decide +kernel) h153, te_fi hJ3.1 hfr4 (d := ([(149, 4)], [])) (by decide +kernel) (by decide +kernel) h47, tr_T_fr hJ3.1 hfr4 (by decide +kernel) hT3⟩
          have hEW4 : tr_EW w4 q E S pd wi u2 := tr_EW_fr hJ3.1 hfr4 (by decide +kernel) ⟨h363, h373, h433, h423, h443⟩
          have hCb : C.toInt ≤ 640 * rb.toInt + 600 := by omega
          have eCn : (C2.toInt - fm).toNat = (C.toInt - fm).toNat + 1 := by omega
          refine tr_endZ ⟨_, _, _, rfl⟩ (Or.inl rfl) hJ4 ⟨_, φ3, fk, tr_me u2 wi pd 1, rfl, Or.inl rfl, hφ3, ⟨C2, ua2, hv, pv, dv, tm, ho, pe, _, rf, rt, E, S, pd, wi, u2, hR4, hbb, ?_, hEW4, fun _ => ⟨tr_new_cd (fun i hi => (tg_upd_ne (by omega)).symm) hnew, ⟨by omega, i2, i3, i4, ⟨D + 1, ?_, by omega, fun _ => ?_⟩, ?_, fun h => absurd h (by decide)⟩, rfl⟩⟩, fun _ => ?_⟩
          · obtain ⟨o1, o2, o3, o4, o5, o6, o7, o8, o9⟩ := hold
            exact ⟨o1, o2, o3, o4, o5, o6, fun i hi => by rw [tg_upd_ne (by omega)]; exact o7 i hi, o8, o9⟩
          · rw [eCn]
            refine ⟨D, tr_run_eq (fun i h1 h2 => (tg_upd_ne (by omega)).symm) i5, ?_⟩
            rw [show fm.toNat + (C.toInt - fm).toNat = C.toInt.toNat by omega, tg_upd_eq]
            exact Or.inr (Or.inl ⟨by omega, hx1, hx2, by omega, rfl⟩)
          · show ((D + 1 : Nat) : Int) + wi.toInt + 1 = pd.toInt + ((1 - (Int32.ofNat 0).toInt.toNat : Nat) : Int)
            rw [z0]
            have : ((1 - (0 : Int).toNat : Nat) : Int) = 1 := by decide
            omega
          · show 4 * (C2.toInt - 640 * (rb.toInt.toNat : Int) + pd.toInt - 1) + 4 * ((1 - (Int32.ofNat 0).toInt.toNat : Nat) : Int) ≤ 8 * (ua2 rb.toInt.toNat).toInt + φ3
            rw [z0]
            have : ((1 - (0 : Int).toNat : Nat) : Int) = 1 := by decide
            omega
          · rw [← hm]
            unfold tr_me
            rw [if_pos rfl, if_neg (by decide)]
            rcases hd with ⟨-, -, h29, -⟩ | ⟨h, -⟩
            · omega
            · omega
        -- which
        rcases hnt with ⟨ent, -⟩ | ⟨ent, -⟩
        · subst ent
          refine zy_li rfl m2 ?_
          refine zy_j0 rfl (fun h => absurd tr_z0 h) (fun _ => ?_)
          refine zy_li rfl m3 ?_
          refine zy_j0 rfl (fun _ => ?_) (fun hbr1 => ?_)
          · refine zy_la rfl m0 (Or.inl ⟨_, rfl⟩) ?_
            refine zy_li rfl m4 ?_
            refine zy_j0 rfl (fun hc1 => ?_) (fun _ => ?_)
            · refine zy_li rfl m4 ?_
              rcases hc with ec | ⟨c1, c2⟩
              · subst ec
                exact absurd tr_z0 hc1
              · exact emi rfl c c1 c2
            · refine zy_ci (n := 2) (c := 110) rfl ?_
              refine zy_goto rfl ?_
              exact emi rfl _ (by decide) (by decide)
          · have hbr1 : zx_b br ≠ 2147483648 := hbr1
            have hwi6 : wi.toInt ≤ 6 := by
              rcases hbr with ⟨-, e⟩ | e
              · subst e
                exact absurd tr_z0 hbr1
              · exact e
            refine zy_la rfl m0 (Or.inl ⟨_, rfl⟩) ?_
            refine zy_li rfl m2 ?_
            refine zy_j0 rfl (fun _ => ?_) (fun h => absurd tr_z0 h)
            refine zy_ci (n := 2) (c := 7) rfl ?_
            exact psh _ (Or.inr ⟨by decide, rfl⟩) hwi6
        · subst ent
          have hwi6 : wi.toInt ≤ 6 := by
            rcases hbr with ⟨e, -⟩ | e
            · exact absurd e (by decide)
            · exact e
          refine zy_li rfl m2 ?_
          refine zy_j0 rfl (fun _ => ?_) (fun h => absurd h tr_no1)
          refine zy_la rfl m0 (Or.inl ⟨_, rfl⟩) ?_
          refine zy_li rfl m2 ?_
          refine zy_j0 rfl (fun h => absurd h tr_no1) (fun _ => ?_)
          refine zy_ci (n := 1) (c := 3) rfl ?_
          refine zy_goto rfl ?_
          exact psh _ (Or.inl ⟨by decide, rfl⟩) hwi6
      obtain ⟨nu, h9, -, -⟩ := tr_exI (k := 9) (lo := 0) (hi := 4294967295) hJ2.1 hq rfl
      have store : ∀ n : Int32, WP (208, ls, [(.inl n)], w2, 0, 0) := fun n => by
        refine zy_si (k := 6) rfl ?_
        exact rest n _ (zy_limP_put hls2 rfl) ⟨zy_look_ne (by decide) rfl l0, zy_look_ne (by decide) rfl l2, zy_look_ne (by decide) rfl l3, zy_look_ne (by decide) rfl l4⟩ zy_look_put
      refine zy_li rfl l4 ?_
      refine zy_j0 rfl (fun _ => ?_) (fun _ => ?_)
      · refine zy_ci (n := 1) (c := 0) rfl ?_
        exact store _
      · refine zy_la rfl l0 (Or.inl ⟨_, rfl⟩) ?_
        refine zy_gI rfl h9 ?_
        refine zy_goto rfl ?_
        exact store _
    -- units
    have uni : ∀ (d : Int32), ((d = Int32.ofNat 1 ∧ (ua rb.toInt.toNat).toInt ≤ 89 ∧ u.toInt ≤ 29 ∧ nt = Int32.ofNat 0) ∨ (d = Int32.ofNat 0 ∧ nt = Int32.ofNat 1 ∧ tk.toInt = 3 ∧ nm = Int64.ofNat 7237492)) → ∀ p, tr_pt w q 15 p → WP (175, ls, [(.inl d), (.inl (ua rb.toInt.toNat)), (.inl rb), (.inr (.inr (.inl p)))], w, 0, 0) := by
      intro d hd p hpt
      have hdi : d.toInt = 0 ∨ (d.toInt = 1 ∧ (ua rb.toInt.toNat).toInt ≤ 89) := by
        rcases hd with ⟨e, h, -⟩ | ⟨e, -⟩
        · exact Or.inr ⟨by rw [e]; decide, h⟩
        · exact Or.inl (by rw [e]; decide)
      have eua : (ua rb.toInt.toNat + d).toInt = (ua rb.toInt.toNat).toInt + d.toInt := tr_add (by omega) (by omega)
      have iud := zx_b_int (ua rb.toInt.toNat + d)
      refine zy_add rfl ?_
      refine zy_wA (k := 15) (n := 2) (lo := 2147483648) (hi := 2147483738) rfl (tm_W0 (E := tr_Ee) hw) hq rfl rfl (by decide) hpt h15 (by omega) (by omega) (by omega) (by omega) (by decide +kernel) ?_
      intro w1 hJ1 hfr1 hl1 h151
      have h441 := te_fi hw hfr1 (d := ([(149, 44)], [])) (by decide +kernel) (by decide +kernel) h44
      refine zy_la rfl l0 (Or.inl ⟨_, rfl⟩) ?_
      refine zy_dup rfl ?_
      refine zy_gI rfl h441 ?_
      refine zy_li rfl l2 ?_
      rcases hd with ⟨ed, h89, h29, en0⟩ | ⟨ed, en1, e3, eN⟩
      · subst en0
        refine zy_j0 rfl (fun _ => ?_) (fun h => absurd tr_z0 h)
        refine zy_ci (n := 1) (c := 1) rfl ?_
        subst ed
        exact cnt _ (Or.inl ⟨z1, h89, h29, rfl⟩) w1 hJ1 hfr1 hl1 h151
      · subst en1
        refine zy_j0 rfl (fun h => absurd h tr_no1) (fun _ => ?_)
        refine zy_ci (n := 1) (c := 0) rfl ?_
        refine zy_goto rfl ?_
        subst ed
        exact cnt _ (Or.inr ⟨z0, rfl, e3, eN⟩) w1 hJ1 hfr1 hl1 h151
    refine zy_la rfl l0 (Or.inl ⟨_, rfl⟩) ?_
    refine zy_gA rfl h15 (fun p hp hpt hlp => ?_)
    refine zy_la rfl l0 (Or.inl ⟨_, rfl⟩) ?_
    refine zy_gI rfl h40 ?_
    refine zy_dup2 rfl ?_
    refine zy_ld rfl hp (tr_in (by omega) (by omega)) ?_
    rw [enb]
    refine zy_li rfl l2 ?_
    rcases id hnt with ⟨en0, h89, h29⟩ | ⟨en1, e3, eN⟩
    · refine zy_j0 rfl (fun _ => ?_) (fun h => absurd (by rw [en0]; exact tr_z0) h)
      refine zy_ci (n := 1) (c := 1) rfl ?_
      exact uni _ (Or.inl ⟨rfl, h89, h29, en0⟩) p hpt
    · refine zy_j0 rfl (fun h => absurd h (by rw [en1]; exact tr_no1)) (fun _ => ?_)
      refine zy_ci (n := 1) (c := 0) rfl ?_
      refine zy_goto rfl ?_
      exact uni _ (Or.inr ⟨rfl, en1, e3, eN⟩) p hpt
  -- what is allowed
  have at100 : ∀ (nt br c fu : Int32) (ls : List (Nat × zx_V)), ((nt = Int32.ofNat 0) ∨ (nt = Int32.ofNat 1 ∧ tk.toInt = 3 ∧ nm = Int64.ofNat 7237492)) → (fu = Int32.ofNat 1 ∨ (fu = Int32.ofNat 0 ∧ (ua rb.toInt.toNat).toInt ≤ 89 ∧ u.toInt ≤ 29)) → (br = Int32.ofNat 0 ∨ br = Int32.ofNat 1) → (c = Int32.ofNat 0 ∨ (97 ≤ c.toInt ∧ c.toInt ≤ 122)) → zx_limP w.length ls = true → L nt br c ls → zx_look 5 ls = some (.inl fu) → WP (100, ls, [], w, 0, 0) := by
    intro nt br c fu ls hnt hfu hbr hc hls hL l5
    have hL' := hL
    obtain ⟨l0, l2, l3, l4⟩ := hL'
    have at134 : ((nt = Int32.ofNat 0 ∧ (ua rb.toInt.toNat).toInt ≤ 89 ∧ u.toInt ≤ 29) ∨ (nt = Int32.ofNat 1 ∧ tk.toInt = 3 ∧ nm = Int64.ofNat 7237492)) → WP (134, ls, [], w, 0, 0) := by
      intro h1
      refine zy_la rfl l0 (Or.inl ⟨_, rfl⟩) ?_
      refine zy_gI rfl h42 ?_
      refine zy_ci (n := 2) (c := 7) rfl ?_
      refine zy_jt rfl (fun h => ?_) (fun _ => bad ls hls l0)
      have h : zx_b wi ≠ zx_b (Int32.ofNat 7) := h
      rw [show zx_b (Int32.ofNat 7) = 2147483655 by decide] at h
      exact at147 nt br c ls h1 (Or.inr (by omega)) hc hls hL
    have at126 : ((nt = Int32.ofNat 0 ∧ (ua rb.toInt.toNat).toInt ≤ 89 ∧ u.toInt ≤ 29) ∨ (nt = Int32.ofNat 1 ∧ tk.toInt = 3 ∧ nm = Int64.ofNat 7237492)) → WP (126, ls, [], w, 0, 0) := by
      intro h1
      refine zy_li rfl l2 ?_
      refine zy_j0 rfl (fun _ => at134 h1) (fun hn0 => ?_)
      have hn0 : zx_b nt = 2147483648 := hn0
      have ent : nt = Int32.ofNat 0 := tr_beq (by rw [hn0]; decide)
      refine zy_li rfl l3 ?_
      refine zy_j0 rfl (fun hb0 => ?_) (fun _ => at134 h1)
      have hb0 : zx_b br = 2147483648 := hb0
      exact at147 nt br c ls h1 (Or.inl ⟨ent, tr_beq (by rw [hb0]; decide)⟩) hc hls hL
    have at121 : nt = Int32.ofNat 0 → WP (121, ls, [], w, 0, 0) := by
      intro h0
      refine zy_li rfl l5 ?_
      rcases hfu with e | ⟨e, h89, h29⟩
      · subst e
        exact zy_j0 rfl (fun _ => bad ls hls l0) (fun h => absurd h tr_no1)
      · subst e
        exact zy_j0 rfl (fun h => absurd tr_z0 h) (fun _ => at126 (Or.inl ⟨h0, h89, h29⟩))
    refine zy_li rfl l2 ?_
    rcases hnt with en0 | ⟨en1, e3, eN⟩
    · refine zy_j0 rfl (fun h => absurd (by rw [en0]; exact tr_z0) h) (fun _ => ?_)
      refine zy_li rfl l4 ?_
      refine zy_j0 rfl (fun _ => at121 en0) (fun _ => ?_)
      refine zy_la rfl l0 (Or.inl ⟨_, rfl⟩) ?_
      refine zy_gI rfl t8 ?_
      refine zy_ci (n := 1) (c := 4) rfl ?_
      refine zy_jt rfl (fun _ => at121 en0) (fun _ => ?_)
      refine zy_li rfl l3 ?_
      exact zy_j0 rfl (fun _ => bad ls hls l0) (fun _ => at121 en0)
    · exact zy_j0 rfl (fun _ => at126 (Or.inr ⟨en1, e3, eN⟩)) (fun h => absurd h (by rw [en1]; exact tr_no1))
  -- what stands there
  have at57 : ∀ (nt : Int32) (ls : List (Nat × zx_V)), ((nt = Int32.ofNat 0) ∨ (nt = Int32.ofNat 1 ∧ tk.toInt = 3 ∧ nm = Int64.ofNat 7237492)) → zx_limP w.length ls = true → zx_look 0 ls = some (.inr (.inr (.inl q))) → zx_look 2 ls = some (.inl nt) → WP (57, ls, [], w, 0, 0) := by
    intro nt ls hnt hls l0 l2
    obtain ⟨br, hbr, hbr'⟩ := tr_isSignHereK (c := Int32.ofNat 40) t3 t1 t6 t8 u1 u4
    obtain ⟨c, hc, hc'⟩ := tr_wordHereK t8 t10
    refine zy_la rfl l0 (Or.inl ⟨_, rfl⟩) ?_
    refine zy_ci (n := 2) (c := 40) rfl ?_
    refine zy_callK (a := 0) (n := 2) (st := []) (zx_Cl_le (by decide) hbr) rfl rfl (Nat.le_of_ble_eq_true rfl) hls rfl (Nat.zero_le _) (Nat.zero_le _) ?_
    refine zy_si (k := 3) rfl ?_
    refine zy_la rfl (zy_look_ne (by decide) rfl l0) (Or.inl ⟨_, rfl⟩) ?_
    refine zy_callK (a := 0) (n := 1) (st := []) (zx_Cl_le (by decide) hc) rfl rfl (Nat.le_of_ble_eq_true rfl) (zy_limP_put hls rfl) rfl (Nat.zero_le _) (Nat.zero_le _) ?_
    refine zy_si (k := 4) rfl ?_
    have hls3 : zx_limP w.length (zx_put 4 (.inl c) (zx_put 3 (.inl br) ls)) = true := zy_limP_put (zy_limP_put hls rfl) rfl
    have m0 : zx_look 0 (zx_put 4 (.inl c) (zx_put 3 (.inl br) ls)) = some (.inr (.inr (.inl q))) := zy_look_ne (by decide) rfl (zy_look_ne (by decide) rfl l0)
    have m2 : zx_look 2 (zx_put 4 (.inl c) (zx_put 3 (.inl br) ls)) = some (.inl nt) := zy_look_ne (by decide) rfl (zy_look_ne (by decide) rfl l2)
    have m3 : zx_look 3 (zx_put 4 (.inl c) (zx_put 3 (.inl br) ls)) = some (.inl br) := zy_look_ne (by decide) rfl zy_look_put
    have m4 : zx_look 4 (zx_put 4 (.inl c) (zx_put 3 (.inl br) ls)) = some (.inl c) := zy_look_put
    generalize zx_put 4 (.inl c) (zx_put 3 (.inl br) ls) = ls3 at hls3 m0 m2 m3 m4 ⊢
    have hc2 : c = Int32.ofNat 0 ∨ (97 ≤ c.toInt ∧ c.toInt ≤ 122) := by
      rcases hc' with e | ⟨c1, c2, -⟩
      · exact Or.inl e
      · exact Or.inr ⟨c1, c2⟩
    have hbr2 : br = Int32.ofNat 0 ∨ br = Int32.ofNat 1 := by
      rcases hbr' with e | ⟨e, -⟩
      · exact Or.inl e
      · exact Or.inr e
    have go : ∀ fu : Int32, (fu = Int32.ofNat 1 ∨ (fu = Int32.ofNat 0 ∧ (ua rb.toInt.toNat).toInt ≤ 89 ∧ u.toInt ≤ 29)) → WP (98, ls3, [(.inl fu)], w, 0, 0) := by
      intro fu hfu
      refine zy_si (k := 5) rfl ?_
      exact at100 nt br c fu _ hnt hfu hbr2 hc2 (zy_limP_put hls3 rfl) ⟨zy_look_ne (by decide) rfl m0, zy_look_ne (by decide) rfl m2, zy_look_ne (by decide) rfl m3, zy_look_ne (by decide) rfl m4⟩ zy_look_put
    have full : WP (93, ls3, [], w, 0, 0) := by
      refine zy_ci (n := 1) (c := 1) rfl ?_
      refine zy_goto rfl ?_
      exact go _ (Or.inl rfl)
    refine zy_la rfl m0 (Or.inl ⟨_, rfl⟩) ?_
    refine zy_gA rfl h15 (fun p hp hpt hlp => ?_)
    refine zy_la rfl m0 (Or.inl ⟨_, rfl⟩) ?_
    refine zy_gI rfl h40 ?_
    refine zy_ld rfl hp (tr_in (by omega) (by omega)) ?_
    rw [enb]
    refine zy_ci (n := 2) (c := 90) rfl ?_
    refine zy_jt rfl (fun _ => full) (fun h => ?_)
    have h : zx_b (ua rb.toInt.toNat) ≠ zx_b (Int32.ofNat 90) := h
    rw [show zx_b (Int32.ofNat 90) = 2147483738 by decide] at h
    refine zy_la rfl m0 (Or.inl ⟨_, rfl⟩) ?_
    refine zy_gI rfl h44 ?_
    refine zy_ci (n := 2) (c := 30) rfl ?_
    refine zy_jt rfl (fun h2 => ?_) (fun _ => full)
    have h2 : zx_b u ≠ zx_b (Int32.ofNat 30) := h2
    rw [show zx_b (Int32.ofNat 30) = 2147483678 by decide] at h2
    refine zy_ci (n := 1) (c := 0) rfl ?_
    exact go _ (Or.inr ⟨rfl, by omega, by omega⟩)
  have at56 : ∀ (nt : Int32) (ls : List (Nat × zx_V)), ((nt = Int32.ofNat 0) ∨ (nt = Int32.ofNat 1 ∧ tk.toInt = 3 ∧ nm = Int64.ofNat 7237492)) → zx_limP w.length ls = true → zx_look 0 ls = some (.inr (.inr (.inl q))) → WP (56, ls, [(.inl nt)], w, 0, 0) := by
    intro nt ls hnt hls l0
    refine zy_si (k := 2) rfl ?_
    exact at57 nt _ hnt (zy_limP_put hls rfl) (zy_look_ne (by decide) rfl l0) zy_look_put
  have at36 : ∀ (x : Int32) (ls : List (Nat × zx_V)), zx_limP w.length ls = true → zx_look 0 ls = some (.inr (.inr (.inl q))) → WP (36, ls, [(.inl x)], w, 0, 0) := by
    intro x ls hls l0
    refine zy_si (k := 1) rfl ?_
    have hls2 : zx_limP w.length (zx_put 1 (.inl x) ls) = true := zy_limP_put hls rfl
    have m0 : zx_look 0 (zx_put 1 (.inl x) ls) = some (.inr (.inr (.inl q))) := zy_look_ne (by decide) rfl l0
    have m1 : zx_look 1 (zx_put 1 (.inl x) ls) = some (.inl x) := zy_look_put
    generalize zx_put 1 (.inl x) ls = ls2 at hls2 m0 m1 ⊢
    have no : WP (55, ls2, [], w, 0, 0) := by
      refine zy_ci (n := 1) (c := 0) rfl ?_
      exact at56 _ ls2 (Or.inl rfl) hls2 m0
    refine zy_li rfl m1 ?_
    refine zy_j0 rfl (fun _ => no) (fun _ => ?_)
    obtain ⟨y, hy, hy'⟩ := tr_isWordK (c := Int64.ofNat 7237492) t8 t10
    refine zy_la rfl m0 (Or.inl ⟨_, rfl⟩) ?_
    refine zy_cj (n := 3) (c := 7237492) rfl ?_
    refine zy_callK (a := 0) (n := 2) (st := []) (zx_Cl_le (by decide) hy) rfl rfl (Nat.le_of_ble_eq_true rfl) hls2 rfl (Nat.zero_le _) (Nat.zero_le _) ?_
    refine zy_j0 rfl (fun _ => no) (fun h => ?_)
    refine zy_ci (n := 1) (c := 1) rfl ?_
    refine zy_goto rfl ?_
    rcases hy' with ⟨e, -⟩ | ⟨-, e1, e2⟩
    · subst e
      exact absurd tr_z0 h
    · exact at56 _ ls2 (Or.inr ⟨rfl, e1, e2⟩) hls2 m0
  have hls0 : zx_limP w.length [(0, (.inr (.inr (.inl q))))] = true := tm_lim hlq rfl
  have ep1 : (pd - Int32.ofNat 1).toInt = pd.toInt - 1 := by rw [tr_sub (by omega) (by omega), z1]
  have one : WP (31, [(0, (.inr (.inr (.inl q))))], [], w, 0, 0) := by
    refine zy_ci (n := 1) (c := 1) rfl ?_
    refine zy_goto rfl ?_
    exact at36 _ _ hls0 rfl
  show WP (0, [(0, (.inr (.inr (.inl q))))], [], w, 0, 0)
  refine zy_la (k := 0) rfl rfl (Or.inl ⟨_, rfl⟩) ?_
  refine zy_gA rfl h36 (fun p hp hpt hlp => ?_)
  refine zy_la (k := 0) rfl rfl (Or.inl ⟨_, rfl⟩) ?_
  refine zy_gI rfl h43 ?_
  refine zy_ci (n := 1) (c := 1) rfl ?_
  refine zy_sub rfl ?_
  refine zy_ld rfl hp (tr_in (by omega) (by omega)) ?_
  refine zy_ci (n := 1) (c := 3) rfl ?_
  refine zy_jt rfl (fun _ => one) (fun _ => ?_)
  refine zy_la (k := 0) rfl rfl (Or.inl ⟨_, rfl⟩) ?_
  refine zy_gA rfl h36 (fun p2 hp2 hpt2 hlp2 => ?_)
  refine zy_la (k := 0) rfl rfl (Or.inl ⟨_, rfl⟩) ?_
  refine zy_gI rfl h43 ?_
  refine zy_ci (n := 1) (c := 1) rfl ?_
  refine zy_sub rfl ?_
  refine zy_ld rfl hp2 (tr_in (by omega) (by omega)) ?_
  refine zy_ci (n := 2) (c := 7) rfl ?_
  refine zy_jt rfl (fun _ => ?_) (fun _ => one)
  refine zy_ci (n := 1) (c := 0) rfl ?_
  exact at36 _ _ hls0 rfl
