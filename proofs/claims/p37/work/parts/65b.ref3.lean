/-! by hand: turnOf, whoIs, isOf, placeOf, bitsOf, common -/
theorem zy_outF {Ψ : List Nat} {w : List zx_E} {av : List zx_V} {v : zx_V} {ats : List tj_y} {rt : tj_y} {F : List tj_f} (hr : tj_vt Ψ rt v) (hF : ∀ f ∈ F, tj_fd (fun k => ((av ++ [v])[k]?).getD (.inr (.inr (.inr 0)))) w f) : tj_Ho Ψ w av (some v) (ats, some rt, ([], [], F)) := by
  refine ⟨fun k => ((av ++ [v])[k]?).getD (.inr (.inr (.inr 0))), fun i u hi => ?_, fun j t hj => ?_, hF⟩
  · have hi : (av ++ [v])[i]? = some u := hi
    show ((av ++ [v])[i]?).getD _ = u
    rw [hi]
    rfl
  · have hj : ([rt] : List tj_y)[j]? = some t := hj
    match j, hj with
    | 0, hj =>
      cases hj
      show tj_vt Ψ rt (((av ++ [v])[av.length + 0]?).getD _)
      rw [List.getElem?_append_right (by omega), Nat.add_zero, Nat.sub_self]
      exact hr
    | j + 1, hj => cases hj
theorem tr_all {Ψ : List Nat} {w : List zx_E} {q : Nat} (hw : tj_wt tj_Lam Ψ w) (hq : Ψ[q]? = some 149) : ∃ al, tj_fa w q 12 49 119 al := by
  obtain ⟨fs, f1, -, -, f3⟩ := tj_obj hw hq tr_hd
  obtain ⟨v, g, p, y, hp⟩ := f3 49 (1, 139, 0) rfl
  subst y
  have hd : ∃ s, tj_Lam[139]? = some (.inr (0, 119, s)) := ⟨_, rfl⟩
  obtain ⟨s, hd⟩ := hd
  obtain ⟨al, ha, -⟩ := tj_iarr hw hp hd (Or.inl rfl)
  exact ⟨al, fs, p, f1, g, ha⟩
set_option maxRecDepth 20000 in
theorem tr_b_turnOf0 : tj_KS1 (zx_Cl zx_mt zx_rc zx_mx' 1) tj_Lam tr_h_turnOf0 := by
  intro Ψ av w hw hty hp
  match av, hty with
  | [v0, v1], ⟨⟨q, hv0, hq⟩, ⟨p, hv1, p1, p2⟩, _⟩ =>
    subst hv0
    subst hv1
    obtain ⟨ρ, r1, r2, r3⟩ := hp
    have e0 : ρ 0 = (.inr (.inr (.inl q))) := r1 0 _ rfl
    have e1 : ρ 1 = (.inl p) := r1 1 _ rfl
    obtain ⟨bk, hv, pv, dv, tm, ho, pe, cd, rf, rt, hR, hlt⟩ := tr_lp (j := 1) (a := 2) (b := 3) (c := 4) e0 e1 (r3 (0, .inr 0, .inl 13, .inr 2) List.mem_cons_self) (r3 (0, .inr 0, .inl 39, .inr 3) (List.mem_cons_of_mem _ List.mem_cons_self)) (r3 (1, .inr 2, .inr 3, .inr 4) (List.mem_cons_of_mem _ (List.mem_cons_of_mem _ List.mem_cons_self))) (r3 (110, .inr 0, .inr 0, .inr 0) (List.mem_cons_of_mem _ (List.mem_cons_of_mem _ (List.mem_cons_of_mem _ List.mem_cons_self)))) (r3 (9932525098444199596950291534, .inr 1, .inr 4, .inl 0) (List.mem_cons_of_mem _ (List.mem_cons_of_mem _ (List.mem_cons_of_mem _ (List.mem_cons_of_mem _ List.mem_cons_self)))))
    obtain ⟨h39, h11, h13, h14, h24, h23, h19, h34, h26, h27, hb, hro⟩ := hR
    have bp := zx_b_int p
    have hpp : 0 ≤ p.toInt ∧ p.toInt ≤ 3 := by omega
    have ht := hro.1 p.toInt.toNat (by omega)
    have hK := tr_turnK h39 h24 hb hpp
    have e4 := tr_p4 hb hpp
    have eti : (Int32.ofNat 4 * bk + p).toNatClampNeg = 4 * bk.toInt.toNat + p.toInt.toNat := by
      show (Int32.ofNat 4 * bk + p).toInt.toNat = _
      omega
    rw [eti] at hK
    generalize tm (4 * bk.toInt.toNat + p.toInt.toNat) = t at hK ht
    have bt := zx_b_int t
    have hvt : tj_vt Ψ (0, 2147483649, 2147483662) (.inl t) := ⟨t, rfl, by omega, by omega⟩
    exact ⟨(some (.inl t), w), (0, 0), Ψ, _, hK, Nat.le_of_eq (Nat.zero_add _), Nat.le_of_eq (Nat.zero_add _), tj_le_rf, hw, tj_fr_rf, List.mem_cons_self, ⟨⟨q, rfl, hq⟩, ⟨p, rfl, p1, p2⟩, trivial⟩, ⟨_, rfl, hvt⟩, zy_outF hvt (fun f hf => absurd hf List.not_mem_nil)⟩
set_option maxRecDepth 20000 in
theorem tr_b_whoIs0 : tj_KS1 (zx_Cl zx_mt zx_rc zx_mx' 3) tj_Lam tr_h_whoIs0 := by
  intro Ψ av w hw hty hp
  match av, hty with
  | [v0, v1, v2], ⟨⟨q, hv0, hq⟩, ⟨p, hv1, p1, p2⟩, ⟨d, hv2, d1, d2⟩, _⟩ =>
    subst hv0
    subst hv1
    subst hv2
    obtain ⟨ρ, r1, r2, r3⟩ := hp
    have e0 : ρ 0 = (.inr (.inr (.inl q))) := r1 0 _ rfl
    have e1 : ρ 1 = (.inl p) := r1 1 _ rfl
    obtain ⟨bk, hv, pv, dv, tm, ho, pe, cd, rf, rt, hR, hlt⟩ := tr_lp (j := 1) (a := 3) (b := 4) (c := 5) e0 e1 (r3 (0, .inr 0, .inl 13, .inr 3) List.mem_cons_self) (r3 (0, .inr 0, .inl 39, .inr 4) (List.mem_cons_of_mem _ List.mem_cons_self)) (r3 (1, .inr 3, .inr 4, .inr 5) (List.mem_cons_of_mem _ (List.mem_cons_of_mem _ List.mem_cons_self))) (r3 (110, .inr 0, .inr 0, .inr 0) (List.mem_cons_of_mem _ (List.mem_cons_of_mem _ (List.mem_cons_of_mem _ List.mem_cons_self)))) (r3 (9932525098444199596950291534, .inr 1, .inr 5, .inl 0) (List.mem_cons_of_mem _ (List.mem_cons_of_mem _ (List.mem_cons_of_mem _ (List.mem_cons_of_mem _ List.mem_cons_self)))))
    obtain ⟨h39, h11, h13, h14, h24, h23, h19, h34, h26, h27, hb, hro⟩ := hR
    obtain ⟨al, h49⟩ := tr_all hw hq
    have bp := zx_b_int p
    have bd := zx_b_int d
    have hpp : 0 ≤ p.toInt ∧ p.toInt ≤ 3 := by omega
    obtain ⟨v, hK, hv⟩ := tr_whoK (d := d) hw hq h39 h24 h23 h49 hb hpp (by omega) (hro.1 p.toInt.toNat (by omega))
    have hty3 : tj_typed Ψ [(.inr (.inr (.inl q))), (.inl p), (.inl d)] [(1, 149, 0), (0, 2147483648, 2147483651), (0, 2147483648, 2147583648)] := ⟨⟨q, rfl, hq⟩, ⟨p, rfl, p1, p2⟩, ⟨d, rfl, d1, d2⟩, trivial⟩
    rcases hv with ⟨ev, hA, v1, v2, h10⟩ | ⟨ev, hA⟩
    · have bv := zx_b_int v
      have hvt : tj_vt Ψ (0, 2147483648, 2147483655) (.inl v) := ⟨v, rfl, by omega, by omega⟩
      refine ⟨(some (.inl v), w), (0, 0), Ψ, _, hK, Nat.le_of_eq (Nat.zero_add _), Nat.le_of_eq (Nat.zero_add _), tj_le_rf, hw, tj_fr_rf, List.mem_cons_of_mem _ List.mem_cons_self, hty3, ⟨_, rfl, hvt⟩, zy_outF hvt (fun f hf => ?_)⟩
      rcases List.mem_cons.mp hf with e | hf
      · subst e
        exact ⟨q, bk, p, d, al, tm, ho, rfl, rfl, rfl, h39, h49, h24, h23, by rw [← ev]; exact hA⟩
      · have e := List.mem_singleton.mp hf
        subst e
        exact h10
    · have hvt : tj_vt Ψ (0, 2147483647, 2147483647) (.inl v) := ⟨v, rfl, by rw [ev]; decide, by rw [ev]; decide⟩
      exact ⟨(some (.inl v), w), (0, 0), Ψ, _, hK, Nat.le_of_eq (Nat.zero_add _), Nat.le_of_eq (Nat.zero_add _), tj_le_rf, hw, tj_fr_rf, List.mem_cons_self, hty3, ⟨_, rfl, hvt⟩, zy_outF hvt (fun f hf => absurd hf List.not_mem_nil)⟩
/-- one array, one set of ints -/
theorem tr_fa_eq {w : List zx_E} {q ci k n : Nat} {g g' : Nat → Int32} (h : tj_fa w q ci k n g) (h' : tj_fa w q ci k n g') : g = g' := by
  obtain ⟨fs, p, h1, h2, h3⟩ := h
  obtain ⟨fs', p', k1, k2, k3⟩ := h'
  rw [h1] at k1
  cases k1
  rw [h2] at k2
  cases k2
  rw [h3] at k3
  cases k3
  rfl
theorem tr_fi_eq {w : List zx_E} {q ci k : Nat} {x y : Int32} (h : tj_fi w q ci k x) (h' : tj_fi w q ci k y) : x = y := by
  obtain ⟨fs, h1, h2⟩ := h
  obtain ⟨fs', k1, k2⟩ := h'
  rw [h1] at k1
  cases k1
  rw [h2] at k2
  cases k2
  rfl
set_option maxRecDepth 20000 in
theorem tr_b_whoIs1 : tj_KS1 (zx_Cl zx_mt zx_rc zx_mx' 3) tj_Lam tr_h_whoIs1 := by
  intro Ψ av w hw hty hp
  match av, hty with
  | [v0, v1, v2], ⟨⟨q, hv0, hq⟩, ⟨p, hv1, p1, p2⟩, ⟨d, hv2, d1, d2⟩, _⟩ =>
    subst hv0
    subst hv1
    subst hv2
    obtain ⟨ρ, r1, r2, r3⟩ := hp
    have e0 : ρ 0 = (.inr (.inr (.inl q))) := r1 0 _ rfl
    have e1 : ρ 1 = (.inl p) := r1 1 _ rfl
    have e2 : ρ 2 = (.inl d) := r1 2 _ rfl
    obtain ⟨bk, hv, pv, dv, tm, ho, pe, cd, rf, rt, hR, hlt⟩ := tr_lp (j := 1) (a := 3) (b := 4) (c := 5) e0 e1 (r3 (0, .inr 0, .inl 13, .inr 3) List.mem_cons_self) (r3 (0, .inr 0, .inl 39, .inr 4) (List.mem_cons_of_mem _ List.mem_cons_self)) (r3 (1, .inr 3, .inr 4, .inr 5) (List.mem_cons_of_mem _ (List.mem_cons_of_mem _ List.mem_cons_self))) (r3 (110, .inr 0, .inr 0, .inr 0) (List.mem_cons_of_mem _ (List.mem_cons_of_mem _ (List.mem_cons_of_mem _ List.mem_cons_self)))) (r3 (9932525098444199596950291534, .inr 1, .inr 5, .inl 0) (List.mem_cons_of_mem _ (List.mem_cons_of_mem _ (List.mem_cons_of_mem _ (List.mem_cons_of_mem _ (List.mem_cons_of_mem _ List.mem_cons_self))))))
    obtain ⟨h39, h11, h13, h14, h24, h23, h19, h34, h26, h27, hb, hro⟩ := hR
    have F16 : tj_sm16 (ρ 0) (ρ 1) (ρ 2) w := r3 (119, .inr 0, .inr 1, .inr 2) (List.mem_cons_of_mem _ (List.mem_cons_of_mem _ (List.mem_cons_of_mem _ (List.mem_cons_of_mem _ List.mem_cons_self))))
    rw [e0, e1, e2] at F16
    have F16s := F16
    obtain ⟨q', bk', p', d', al, tm', ho', x1, x2, x3, y39, y49, y24, y23, yA⟩ := F16
    cases x1
    cases x2
    cases x3
    rw [tr_fi_eq y39 h39, tr_fa_eq y24 h24, tr_fa_eq y23 h23] at yA
    have bp := zx_b_int p
    have bd := zx_b_int d
    have hpp : 0 ≤ p.toInt ∧ p.toInt ≤ 3 := by omega
    obtain ⟨v, hK, hv⟩ := tr_whoK (d := d) hw hq h39 h24 h23 y49 hb hpp (by omega) (hro.1 p.toInt.toNat (by omega))
    have hty3 : tj_typed Ψ [(.inr (.inr (.inl q))), (.inl p), (.inl d)] [(1, 149, 0), (0, 2147483648, 2147483651), (0, 2147483648, 2147583648)] := ⟨⟨q, rfl, hq⟩, ⟨p, rfl, p1, p2⟩, ⟨d, rfl, d1, d2⟩, trivial⟩
    rcases hv with ⟨ev, hA, v1, v2, h10⟩ | ⟨ev, hA⟩
    · have bv := zx_b_int v
      have hvt : tj_vt Ψ (0, 2147483648, 2147483655) (.inl v) := ⟨v, rfl, by omega, by omega⟩
      refine ⟨(some (.inl v), w), (0, 0), Ψ, _, hK, Nat.le_of_eq (Nat.zero_add _), Nat.le_of_eq (Nat.zero_add _), tj_le_rf, hw, tj_fr_rf, List.mem_cons_self, hty3, ⟨_, rfl, hvt⟩, zy_outF hvt (fun f hf => ?_)⟩
      rcases List.mem_cons.mp hf with e | hf
      · subst e
        exact F16s
      · have e := List.mem_singleton.mp hf
        subst e
        exact h10
    · exact absurd yA hA
set_option maxRecDepth 20000 in
theorem tr_isHalfK {Ψ : List Nat} {w : List zx_E} {q : Nat} {bk h : Int32} {hv : Nat → Int32} (h39 : tj_fi w q 12 39 bk) (h11 : tj_fa w q 12 11 2 hv) (hb : bk.toInt = 0 ∨ bk.toInt = 1) (h8 : 0 ≤ (hv bk.toInt.toNat).toInt ∧ (hv bk.toInt.toNat).toInt ≤ 8) : ∃ v, zx_Cl zx_mt zx_rc zx_mx' 2 145 [(.inr (.inr (.inl q))), (.inl h)] w (0, 0) (some (.inl v), w) ∧ ((v = Int32.ofNat 1 ∧ 0 ≤ h.toInt ∧ h.toInt < (hv bk.toInt.toNat).toInt) ∨ (v = Int32.ofNat 0 ∧ ¬ (0 ≤ h.toInt ∧ h.toInt < (hv bk.toInt.toNat).toInt))) := by
  obtain ⟨fs, k0, k39⟩ := id h39
  obtain ⟨fs', a, k0', k11, ka⟩ := id h11
  rw [k0] at k0'
  cases k0'
  have hlw : q < w.length := (List.getElem?_eq_some_iff.mp k0).1
  have eb : bk.toNatClampNeg = bk.toInt.toNat := rfl
  have e1 : (Int32.ofNat 1).toInt = 1 := by decide
  have e0 : (Int32.ofNat 0).toInt = 0 := by decide
  have es : (hv bk.toInt.toNat - Int32.ofNat 1).toInt = (hv bk.toInt.toNat).toInt - 1 := by rw [tr_sub (by omega) (by omega), e1]
  obtain ⟨v, hK, hv'⟩ := tr_isInK (w := w) (x := h) (a := Int32.ofNat 0) (b := hv bk.toInt.toNat - Int32.ofNat 1)
  rw [es, e0] at hv'
  refine ⟨v, ?_, ?_⟩
  · refine zy_fun (d := 1) (dt := zx_d_X12_isHalf) (by rw [← zx_q_X12_isHalf]; rfl) (by rw [(by decide +kernel : zx_rc 145 = 13)]; exact ⟨q, _, fs, rfl, k0⟩) (by decide +kernel : 2 ≤ zx_mx' 145) ?_
    show zx_wp _ none _ _ _ (0, [(0, (.inr (.inr (.inl q)))), (1, (.inl h))], [], w, 0, 0)
    refine zy_li (k := 1) rfl rfl ?_
    refine zy_ci (n := 1) (c := 0) rfl ?_
    refine zy_la (k := 0) rfl rfl (Or.inl ⟨_, rfl⟩) ?_
    refine zy_get rfl k0 k11 ?_
    refine zy_la (k := 0) rfl rfl (Or.inl ⟨_, rfl⟩) ?_
    refine zy_get rfl k0 k39 ?_
    refine zy_ld rfl ka (tr_in (by omega) (by omega)) ?_
    rw [eb]
    refine zy_ci (n := 1) (c := 1) rfl ?_
    refine zy_sub rfl ?_
    refine zx_wp_call (a := 0) (n := 3) (y := 146) (g := zx_no) (av := [(.inl h), (.inl (Int32.ofNat 0)), (.inl (hv bk.toInt.toNat - Int32.ofNat 1))]) (st' := []) (cy := (0, 0)) (r := (some (.inl v), w)) rfl rfl (Nat.le_of_ble_eq_true rfl) (tm_lim hlw rfl) rfl (Nat.le_refl _) (Nat.le_refl _) hK ?_
    refine zx_wp_done ⟨Nat.le_refl _, Nat.le_refl _, rfl, ⟨v, rfl, ?_, rfl⟩⟩
    rcases hv' with ⟨e, -⟩ | ⟨e, -⟩
    · exact Or.inr e
    · exact Or.inl e
  · rcases hv' with ⟨e, h1, h2⟩ | ⟨e, hn⟩
    · exact Or.inl ⟨e, h1, by omega⟩
    · exact Or.inr ⟨e, fun hh => hn ⟨hh.1, by omega⟩⟩
/-- halves: at most 8 -/
theorem tr_b8 {Ψ : List Nat} {w : List zx_E} {q : Nat} {hv : Nat → Int32} (hw : tj_wt tj_Lam Ψ w) (hq : Ψ[q]? = some 149) (h11 : tj_fa w q 12 11 2 hv) {j : Nat} (hj : j < 2) : 0 ≤ (hv j).toInt ∧ (hv j).toInt ≤ 8 := by
  obtain ⟨fs, a, k0, k11, ka⟩ := h11
  obtain ⟨fsT, f1, -, -, f3⟩ := tj_obj hw hq tr_hd
  rw [k0] at f1
  cases f1
  obtain ⟨v, g, p, y, hp⟩ := f3 11 (1, 103, 0) rfl
  rw [k11] at g
  cases g
  cases y
  obtain ⟨g', kg, bg⟩ := tj_iarr (kd := 0) (n := 2) (s := [(2, 2147483648, 2147483656)]) hw hp rfl (Or.inl rfl)
  rw [ka] at kg
  cases kg
  have h := bg j hj 2147483648 2147483656 (by
    unfold tj_sel
    rw [show Nat.blt j 2 = true from Nat.ble_eq_true_of_le hj])
  have b := zx_b_int (hv j)
  omega
set_option maxRecDepth 20000 in
theorem tr_b_isOf0 : tj_KS1 (zx_Cl zx_mt zx_rc zx_mx' 5) tj_Lam tr_h_isOf0 := by
  intro Ψ av w hw hty hp
  match av, hty with
  | [v0, v1, v2], ⟨⟨q, hv0, hq⟩, ⟨h, hv1, h1, h2⟩, ⟨p, hv2, p1, p2⟩, _⟩ =>
    subst hv0
    subst hv1
    subst hv2
    obtain ⟨ρ, r1, r2, r3⟩ := hp
    have e0 : ρ 0 = (.inr (.inr (.inl q))) := r1 0 _ rfl
    have e2 : ρ 2 = (.inl p) := r1 2 _ rfl
    obtain ⟨bk, hv, pv, dv, tm, ho, pe, cd, rf, rt, hR, hlt⟩ := tr_lp (j := 2) (a := 3) (b := 4) (c := 5) e0 e2 (r3 (0, .inr 0, .inl 13, .inr 3) List.mem_cons_self) (r3 (0, .inr 0, .inl 39, .inr 4) (List.mem_cons_of_mem _ List.mem_cons_self)) (r3 (1, .inr 3, .inr 4, .inr 5) (List.mem_cons_of_mem _ (List.mem_cons_of_mem _ List.mem_cons_self))) (r3 (110, .inr 0, .inr 0, .inr 0) (List.mem_cons_of_mem _ (List.mem_cons_of_mem _ (List.mem_cons_of_mem _ List.mem_cons_self)))) (r3 (9932525098444199596950291534, .inr 2, .inr 5, .inl 0) (List.mem_cons_of_mem _ (List.mem_cons_of_mem _ (List.mem_cons_of_mem _ (List.mem_cons_of_mem _ List.mem_cons_self)))))
    obtain ⟨h39, h11, h13, h14, h24, h23, h19, h34, h26, h27, hb, hro⟩ := hR
    have bp := zx_b_int p
    have bh := zx_b_int h
    have hpp : 0 ≤ p.toInt ∧ p.toInt ≤ 3 := by omega
    have h8 := tr_b8 hw hq h11 (j := bk.toInt.toNat) (by omega)
    obtain ⟨v, hK, hv'⟩ := tr_isHalfK (Ψ := Ψ) (h := h) h39 h11 hb h8
    obtain ⟨fs, k0, k39⟩ := id h39
    obtain ⟨fs', a, k0', k19, ka⟩ := id h19
    rw [k0] at k0'
    cases k0'
    have hlw : q < w.length := (List.getElem?_eq_some_iff.mp k0).1
    have hls : zx_limP w.length [(0, (.inr (.inr (.inl q)))), (1, (.inl h)), (2, (.inl p))] = true := tm_lim hlw rfl
    have start : ∀ x, zx_wp (zx_Cl zx_mt zx_rc zx_mx' 4) none (0, 0) (zx_find (zx_cT zx_d_X12_isOf)) (fun σ => zx_ret (zx_find (zx_cT zx_d_X12_isOf)) (0, 0) σ (some (.inl x), w)) (5, [(0, (.inr (.inr (.inl q)))), (1, (.inl h)), (2, (.inl p))], [(.inl v)], w, 0, 0) → zx_Cl zx_mt zx_rc zx_mx' 5 149 [(.inr (.inr (.inl q))), (.inl h), (.inl p)] w (0, 0) (some (.inl x), w) := by
      intro x hx
      refine zy_fun (d := 4) (dt := zx_d_X12_isOf) (by rw [← zx_q_X12_isOf]; rfl) (by rw [(by decide +kernel : zx_rc 149 = 13)]; exact ⟨q, _, fs, rfl, k0⟩) (by decide +kernel : 3 ≤ zx_mx' 149) ?_
      show zx_wp _ none _ _ _ (0, [(0, (.inr (.inr (.inl q)))), (1, (.inl h)), (2, (.inl p))], [], w, 0, 0)
      refine zy_la (k := 0) rfl rfl (Or.inl ⟨_, rfl⟩) ?_
      refine zy_li (k := 1) rfl rfl ?_
      refine zx_wp_call (a := 0) (n := 2) (y := 145) (g := zx_no) (av := [(.inr (.inr (.inl q))), (.inl h)]) (st' := []) (cy := (0, 0)) (r := (some (.inl v), w)) rfl rfl (Nat.le_of_ble_eq_true rfl) hls rfl (Nat.le_refl _) (Nat.le_refl _) (zx_Cl_le (by decide) hK) ?_
      exact hx
    have no : ∀ pc', pc' = 30 → zx_wp (zx_Cl zx_mt zx_rc zx_mx' 4) none (0, 0) (zx_find (zx_cT zx_d_X12_isOf)) (fun σ => zx_ret (zx_find (zx_cT zx_d_X12_isOf)) (0, 0) σ (some (.inl (Int32.ofNat 0)), w)) (pc', [(0, (.inr (.inr (.inl q)))), (1, (.inl h)), (2, (.inl p))], [], w, 0, 0) := by
      intro pc' e
      subst e
      refine zy_ci (n := 1) (c := 0) rfl ?_
      exact zx_wp_done ⟨Nat.le_refl _, Nat.le_refl _, rfl, ⟨_, rfl, Or.inl rfl, rfl⟩⟩
    have hty0 : tj_typed Ψ [(.inr (.inr (.inl q))), (.inl h), (.inl p)] [(1, 149, 0), (0, 0, 4294967295), (0, 2147483648, 2147483651)] := ⟨⟨q, rfl, hq⟩, ⟨h, rfl, h1, h2⟩, ⟨p, rfl, p1, p2⟩, trivial⟩
    have hvt0 : tj_vt Ψ (0, 2147483648, 2147483648) (.inl (Int32.ofNat 0)) := ⟨_, rfl, by decide, by decide⟩
    have fin0 : zx_Cl zx_mt zx_rc zx_mx' 5 149 [(.inr (.inr (.inl q))), (.inl h), (.inl p)] w (0, 0) (some (.inl (Int32.ofNat 0)), w) → ∃ (r : zx_R) (cy : Nat × Nat) (Ψ' : List Nat) (o : tj_O), zx_Cl zx_mt zx_rc zx_mx' 5 tr_h_isOf0.1 [(.inr (.inr (.inl q))), (.inl h), (.inl p)] w cy r ∧ cy.1 + tj_P tj_c1 r.2 ≤ tj_P tj_c1 w ∧ cy.2 + tj_P tj_c2 r.2 ≤ tj_P tj_c2 w ∧ tj_le Ψ Ψ' ∧ tj_wt tj_Lam Ψ' r.2 ∧ tj_fr tr_h_isOf0.2.2.1 Ψ w r.2 ∧ o ∈ tr_h_isOf0.2.2.2.1 ∧ tj_typed Ψ' [(.inr (.inr (.inl q))), (.inl h), (.inl p)] o.1 ∧ tj_retT Ψ' o.2.1 r.1 ∧ tj_Ho Ψ' r.2 [(.inr (.inr (.inl q))), (.inl h), (.inl p)] r.1 o := fun hK => ⟨(some (.inl (Int32.ofNat 0)), w), (0, 0), Ψ, _, hK, Nat.le_of_eq (Nat.zero_add _), Nat.le_of_eq (Nat.zero_add _), tj_le_rf, hw, tj_fr_rf, List.mem_cons_self, hty0, ⟨_, rfl, hvt0⟩, zy_outF hvt0 (fun f hf => absurd hf List.not_mem_nil)⟩
    rcases hv' with ⟨ev, h3, h4⟩ | ⟨ev, hn⟩
    · have h8b : h.toInt < 8 := by omega
      have e8 : (Int32.ofNat 8 * bk).toInt = 8 * bk.toInt := tr_mul (c := 8) (by decide) rfl (by omega) (by omega)
      have eix : (Int32.ofNat 8 * bk + h).toInt = 8 * bk.toInt + h.toInt := by rw [tr_add (by omega) (by omega), e8]
      have eixn : (Int32.ofNat 8 * bk + h).toNatClampNeg = 8 * bk.toInt.toNat + h.toInt.toNat := by
        show (Int32.ofNat 8 * bk + h).toInt.toNat = _
        omega
      have mid : ∀ x, zx_wp (zx_Cl zx_mt zx_rc zx_mx' 4) none (0, 0) (zx_find (zx_cT zx_d_X12_isOf)) (fun σ => zx_ret (zx_find (zx_cT zx_d_X12_isOf)) (0, 0) σ (some (.inl x), w)) (23, [(0, (.inr (.inr (.inl q)))), (1, (.inl h)), (2, (.inl p))], [(.inl p), (.inl (pe (8 * bk.toInt.toNat + h.toInt.toNat)))], w, 0, 0) → zx_Cl zx_mt zx_rc zx_mx' 5 149 [(.inr (.inr (.inl q))), (.inl h), (.inl p)] w (0, 0) (some (.inl x), w) := by
        intro x hx
        refine start x ?_
        subst ev
        refine zy_j0 rfl (fun e => absurd e (by decide : ¬ zx_b (Int32.ofNat 1) = 2147483648)) (fun _ => ?_)
        refine zy_la (k := 0) rfl rfl (Or.inl ⟨_, rfl⟩) ?_
        refine zy_get rfl k0 k19 ?_
        refine zy_ci (n := 2) (c := 8) rfl ?_
        refine zy_la (k := 0) rfl rfl (Or.inl ⟨_, rfl⟩) ?_
        refine zy_get rfl k0 k39 ?_
        refine zy_mul rfl ?_
        refine zy_li (k := 1) rfl rfl ?_
        refine zy_add rfl ?_
        refine zy_ld rfl ka (tr_in (by omega) (by omega)) ?_
        rw [eixn]
        refine zy_li (k := 2) rfl rfl ?_
        exact hx
      by_cases hpe : pe (8 * bk.toInt.toNat + h.toInt.toNat) = p
      · have hK1 : zx_Cl zx_mt zx_rc zx_mx' 5 149 [(.inr (.inr (.inl q))), (.inl h), (.inl p)] w (0, 0) (some (.inl (Int32.ofNat 1)), w) := by
          refine mid _ ?_
          refine zy_jt rfl (fun hne => ?_) (fun _ => ?_)
          · have hne : zx_b (pe (8 * bk.toInt.toNat + h.toInt.toNat)) ≠ zx_b p := hne
            exact absurd (congrArg zx_b hpe) hne
          refine zy_ci (n := 1) (c := 1) rfl ?_
          refine zy_goto rfl ?_
          exact zx_wp_done ⟨Nat.le_refl _, Nat.le_refl _, rfl, ⟨_, rfl, Or.inr rfl, rfl⟩⟩
        have hvt1 : tj_vt Ψ (0, 2147483649, 2147483649) (.inl (Int32.ofNat 1)) := ⟨_, rfl, by decide, by decide⟩
        refine ⟨(some (.inl (Int32.ofNat 1)), w), (0, 0), Ψ, _, hK1, Nat.le_of_eq (Nat.zero_add _), Nat.le_of_eq (Nat.zero_add _), tj_le_rf, hw, tj_fr_rf, List.mem_cons_of_mem _ List.mem_cons_self, ⟨⟨q, rfl, hq⟩, ⟨h, rfl, by omega, by omega⟩, ⟨p, rfl, p1, p2⟩, trivial⟩, ⟨_, rfl, hvt1⟩, zy_outF hvt1 (fun f hf => ?_)⟩
        have e := List.mem_singleton.mp hf
        subst e
        obtain ⟨k, hk1, hk2⟩ := hro.2.1 h.toInt.toNat p.toInt.toNat (by omega) (by omega) (by rw [hpe]; omega)
        exact ⟨q, bk, p, h, ho, k, rfl, rfl, rfl, h39, h23, hk1, hpp.1, hpp.2, by rw [hk2]; omega⟩
      · refine fin0 (mid _ ?_)
        refine zy_jt rfl (fun _ => no _ rfl) (fun he => ?_)
        have he : zx_b (pe (8 * bk.toInt.toNat + h.toInt.toNat)) = zx_b p := he
        exact absurd (tr_beq he) hpe
    · refine fin0 (start _ ?_)
      subst ev
      refine zy_j0 rfl (fun _ => no _ rfl) (fun e => absurd (by decide : zx_b (Int32.ofNat 0) = 2147483648) e)
set_option maxRecDepth 20000 in
theorem tr_b_placeOf0 : tj_KS1 (zx_Cl zx_mt zx_rc zx_mx' 2) tj_Lam tr_h_placeOf0 := by
  refine zy_method (d := 1) (dt := zx_d_X12_placeOf) (by rw [← zx_q_X12_placeOf]; rfl) (by decide +kernel) (by decide +kernel) ?_
  intro Ψ av w hw hty hp
  match av, hty with
  | [v0, v1, v2], ⟨⟨q, hv0, hq⟩, ⟨p, hv1, p1, p2⟩, ⟨h, hv2, h1, h2⟩, _⟩ =>
    subst hv0
    subst hv1
    subst hv2
    obtain ⟨ρ, r1, r2, r3⟩ := hp
    have e0 : ρ 0 = (.inr (.inr (.inl q))) := r1 0 _ rfl
    have e1 : ρ 1 = (.inl p) := r1 1 _ rfl
    have e2 : ρ 2 = (.inl h) := r1 2 _ rfl
    have F : tj_sm10 (ρ 0) (ρ 1) (ρ 2) w := r3 (113, .inr 0, .inr 1, .inr 2) List.mem_cons_self
    rw [e0, e1, e2] at F
    obtain ⟨q', bk, p', h', ho, k, x1, x2, x3, h39, h23, hk, hp1, hp2, hh⟩ := F
    cases x1
    cases x2
    cases x3
    obtain ⟨fs, k0, k39⟩ := id h39
    obtain ⟨fsT, f1, -, -, f3⟩ := tj_obj hw hq tr_hd
    rw [k0] at f1
    cases f1
    obtain ⟨v39, g39, xb, y39, b1, b2⟩ := f3 39 (0, 2147483648, 2147483649) rfl
    rw [k39] at g39
    cases g39
    cases y39
    have bb := zx_b_int bk
    have hb : bk.toInt = 0 ∨ bk.toInt = 1 := by omega
    have hlw : q < w.length := (List.getElem?_eq_some_iff.mp k0).1
    have hty3 : tj_typed Ψ [(.inr (.inr (.inl q))), (.inl p), (.inl h)] [(1, 149, 0), (0, 2147483648, 2147483651), (0, 2147483647, 2147483655)] := ⟨⟨q, rfl, hq⟩, ⟨p, rfl, p1, p2⟩, ⟨h, rfl, h1, h2⟩, trivial⟩
    let WP : zx_S → Prop := fun σ => zx_wp (zx_Cl zx_mt zx_rc zx_mx' 1) none (tj_P tj_c1 w, tj_P tj_c2 w) (zx_find (zx_cT zx_d_X12_placeOf)) (tj_Post tj_Lam tr_h_placeOf0.2.2.1 Ψ w zx_d_X12_placeOf tr_h_placeOf0.2.2.2.1 [(.inr (.inr (.inl q))), (.inl p), (.inl h)]) σ
    have loop : ∀ (n : Nat) (x : Int32), x.toInt + n = k → 0 ≤ x.toInt → WP (2, [(3, (.inl x)), (0, (.inr (.inr (.inl q)))), (1, (.inl p)), (2, (.inl h))], [], w, 0, 0) := by
      intro n
      induction n with
      | zero =>
        intro x hx hx0
        have hK := tr_halfAtK (k := x) h39 h23 hb ⟨hp1, hp2⟩ ⟨hx0, by omega⟩
        have e3 := tr_p3 (k := x) hb ⟨hp1, hp2⟩ ⟨hx0, by omega⟩
        have ei : (Int32.ofNat 3 * (Int32.ofNat 4 * bk + p) + x).toNatClampNeg = 3 * (4 * bk.toInt.toNat + p.toInt.toNat) + k := by
          show (Int32.ofNat 3 * (Int32.ofNat 4 * bk + p) + x).toInt.toNat = _
          omega
        rw [ei] at hK
        refine zy_la (k := 0) rfl rfl (Or.inl ⟨_, rfl⟩) ?_
        refine zy_li (k := 1) rfl rfl ?_
        refine zy_li (k := 3) rfl rfl ?_
        refine zx_wp_call (a := 0) (n := 3) (y := 129) (g := zx_no) (av := [(.inr (.inr (.inl q))), (.inl p), (.inl x)]) (st' := []) (cy := (0, 0)) (r := (some (.inl (ho (3 * (4 * bk.toInt.toNat + p.toInt.toNat) + k))), w)) rfl rfl (Nat.le_of_ble_eq_true rfl) (tm_lim (k := 0) (ls := [(1, (.inl p)), (2, (.inl h))]) hlw rfl) rfl (Nat.zero_le _) (Nat.zero_le _) hK ?_
        refine zy_li (k := 2) rfl rfl ?_
        refine zy_jt rfl (fun _ => ?_) (fun hne => ?_)
        · refine zy_li (k := 3) rfl rfl ?_
          have bx := zx_b_int x
          have hvt : tj_vt Ψ (0, 2147483648, 2147483650) (.inl x) := ⟨x, rfl, by omega, by omega⟩
          exact zx_wp_done ⟨(some (.inl x), w), Ψ, _, ⟨Nat.le_refl _, Nat.le_refl _, rfl, ⟨_, rfl, rfl⟩⟩, Nat.le_of_eq (Nat.zero_add _), Nat.le_of_eq (Nat.zero_add _), tj_le_rf, hw, tj_fr_rf, List.mem_cons_self, hty3, ⟨_, rfl, hvt⟩, zy_outF hvt (fun f hf => absurd hf List.not_mem_nil)⟩
        · have hne : zx_b (ho (3 * (4 * bk.toInt.toNat + p.toInt.toNat) + k)) ≠ zx_b h := hne
          have c1 := zx_b_int (ho (3 * (4 * bk.toInt.toNat + p.toInt.toNat) + k))
          have c2 := zx_b_int h
          omega
      | succ n ih =>
        intro x hx hx0
        have hK := tr_halfAtK (k := x) h39 h23 hb ⟨hp1, hp2⟩ ⟨hx0, by omega⟩
        generalize ho (Int32.ofNat 3 * (Int32.ofNat 4 * bk + p) + x).toNatClampNeg = y at hK
        refine zy_la (k := 0) rfl rfl (Or.inl ⟨_, rfl⟩) ?_
        refine zy_li (k := 1) rfl rfl ?_
        refine zy_li (k := 3) rfl rfl ?_
        refine zx_wp_call (a := 0) (n := 3) (y := 129) (g := zx_no) (av := [(.inr (.inr (.inl q))), (.inl p), (.inl x)]) (st' := []) (cy := (0, 0)) (r := (some (.inl y), w)) rfl rfl (Nat.le_of_ble_eq_true rfl) (tm_lim (k := 0) (ls := [(1, (.inl p)), (2, (.inl h))]) hlw rfl) rfl (Nat.zero_le _) (Nat.zero_le _) hK ?_
        refine zy_li (k := 2) rfl rfl ?_
        refine zy_jt rfl (fun _ => ?_) (fun _ => ?_)
        · refine zy_li (k := 3) rfl rfl ?_
          have bx := zx_b_int x
          have hvt : tj_vt Ψ (0, 2147483648, 2147483650) (.inl x) := ⟨x, rfl, by omega, by omega⟩
          exact zx_wp_done ⟨(some (.inl x), w), Ψ, _, ⟨Nat.le_refl _, Nat.le_refl _, rfl, ⟨_, rfl, rfl⟩⟩, Nat.le_of_eq (Nat.zero_add _), Nat.le_of_eq (Nat.zero_add _), tj_le_rf, hw, tj_fr_rf, List.mem_cons_self, hty3, ⟨_, rfl, hvt⟩, zy_outF hvt (fun f hf => absurd hf List.not_mem_nil)⟩
        · refine zy_ik (k := 3) (n := 1) rfl rfl ?_
          refine zy_goto rfl ?_
          have ex : (x + Int32.ofNat 1).toInt = x.toInt + 1 := tm_inc tm_k1 (by omega)
          exact ih (x + Int32.ofNat 1) (by omega) (by omega)
    show WP (0, [(0, (.inr (.inr (.inl q)))), (1, (.inl p)), (2, (.inl h))], [], w, 0, 0)
    refine zy_ci (n := 1) (c := 0) rfl ?_
    refine zy_si (k := 3) rfl ?_
    have z0 : (Int32.ofNat 0).toInt = 0 := by decide
    exact loop k (Int32.ofNat 0) (by omega) (by omega)
