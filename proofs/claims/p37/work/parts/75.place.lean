/-! by hand: layPlace -/
set_option maxRecDepth 20000 in
theorem tr_layPlace {Ψ : List Nat} {w : List zx_E} {q : Nat} {bk p t l f : Int32} {hv pv dv tm ho pe cd rf rt al gd : Nat → Int32} (hw : tj_wt tj_Lam Ψ w) (hq : Ψ[q]? = some 149) (hR : tr_R w q bk hv pv dv tm ho pe cd rf rt) (h49 : tj_fa w q 12 49 119 al) (h54 : tj_fa w q 12 54 2000 gd) (hp : 0 ≤ p.toInt) (hlt : p.toInt < (pv bk.toInt.toNat).toInt) (ht : 0 ≤ t.toInt ∧ t.toInt ≤ 19) (hl : 0 ≤ l.toInt ∧ l.toInt ≤ 99) (hf : 0 ≤ f.toInt ∧ f.toInt ≤ 1) : ∃ (r : zx_R) (cy : Nat × Nat), zx_Cl zx_mt zx_rc zx_mx' (40 + 1) 163 [(.inr (.inr (.inl q))), (.inl p), (.inl t), (.inl l), (.inl f)] w cy r ∧ (cy.1 + tj_P tj_c1 r.2 ≤ tj_P tj_c1 w ∧ cy.2 + tj_P tj_c2 r.2 ≤ tj_P tj_c2 w) ∧ (r.1 = none ∧ ∃ Ψ' : List Nat, tj_le Ψ Ψ' ∧ tj_wt tj_Lam Ψ' r.2 ∧ tj_fr tr_EL Ψ w r.2 ∧ ∃ x : Int32, tj_fa r.2 q 12 54 2000 (upd gd (100 * t.toInt.toNat + l.toInt.toNat) x) ∧ x.toInt < (dv bk.toInt.toNat).toInt ∧ (0 ≤ x.toInt → tj_alv al (tj_who bk al tm ho p (al 0 + t)))) := by
  have hR7 := hR
  obtain ⟨h39, h11, h13, h14, h24, h23, h19, h34, h26, h27, hb, hro⟩ := hR
  have p4 := tr_b4 hw hq h13 (j := bk.toInt.toNat) (by omega)
  have p6 := tr_b6 hw hq h14 (j := bk.toInt.toNat) (by omega)
  obtain ⟨fs, a, k0, k49, ka, ha, t1, t2⟩ := tr_al0 hw hq h49
  have i0 := zx_b_int (al 0)
  have ip := zx_b_int p
  have it := zx_b_int t
  have il := zx_b_int l
  have if' := zx_b_int f
  have e0n : (Int32.ofNat 0).toNatClampNeg = 0 := by decide
  have hlq : q < w.length := (List.getElem?_eq_some_iff.mp k0).1
  have hpp : 0 ≤ p.toInt ∧ p.toInt ≤ 3 := ⟨hp, by omega⟩
  have es : (al 0 + t).toInt = (al 0).toInt + t.toInt := tr_add (by omega) (by omega)
  have is' := zx_b_int (al 0 + t)
  have e100 : (Int32.ofNat 100 * t).toInt = 100 * t.toInt := tr_mul (c := 100) (by decide) rfl (by omega) (by omega)
  have ei5 : (Int32.ofNat 100 * t + l).toInt = 100 * t.toInt + l.toInt := by rw [tr_add (by omega) (by omega), e100]
  generalize hi5d : Int32.ofNat 100 * t + l = i5 at ei5
  obtain ⟨v, hK, hv'⟩ := tr_whoK (d := al 0 + t) hw hq h39 h24 h23 h49 hb hpp (by omega) (hro.1 p.toInt.toNat (by omega))
  have iv := zx_b_int v
  let Q : zx_R → Prop := fun r => (r.1 = none ∧ ∃ Ψ' : List Nat, tj_le Ψ Ψ' ∧ tj_wt tj_Lam Ψ' r.2 ∧ tj_fr tr_EL Ψ w r.2 ∧ ∃ x : Int32, tj_fa r.2 q 12 54 2000 (upd gd (100 * t.toInt.toNat + l.toInt.toNat) x) ∧ x.toInt < (dv bk.toInt.toNat).toInt ∧ (0 ≤ x.toInt → tj_alv al (tj_who bk al tm ho p (al 0 + t))))
  refine zy_meth (Q := Q) (dt := zx_d_X12_layPlace) (by rw [← zx_q_X12_layPlace]; rfl) (by rw [(by decide +kernel : zx_rc 163 = 13)]; exact ⟨q, _, fs, rfl, k0⟩) (by decide +kernel : 5 ≤ zx_mx' 163) ?_
  let WP : zx_S → Prop := fun σ => zx_wp (zx_Cl zx_mt zx_rc zx_mx' 40) none (tj_P tj_c1 w, tj_P tj_c2 w) (zx_find (zx_cT zx_d_X12_layPlace)) (fun τ => ∃ r : zx_R, zx_ret (zx_find (zx_cT zx_d_X12_layPlace)) τ.2.2.2.2 τ r ∧ (τ.2.2.2.2.1 + tj_P tj_c1 r.2 ≤ tj_P tj_c1 w ∧ τ.2.2.2.2.2 + tj_P tj_c2 r.2 ≤ tj_P tj_c2 w) ∧ Q r) σ
  let J : List Nat → List zx_E → Nat → Nat → Prop := fun Ψ' w' mc ms => tj_W tj_Lam (tj_P tj_c1 w, tj_P tj_c2 w) tr_EL Ψ w Ψ' w' mc ms
  have hRJ : ∀ {Ψ' w' mc ms}, J Ψ' w' mc ms → tr_R w' q bk hv pv dv tm ho pe cd rf rt := fun h => tr_R_fr hw h.2.2.2 (by decide +kernel) hR7
  have h49J : ∀ {Ψ' w' mc ms}, J Ψ' w' mc ms → tj_fa w' q 12 49 119 al := fun h => te_fa hw h.2.2.2 (d := tj_dep 16) (by decide +kernel) (by decide +kernel) h49
  have hty2 : ∀ {Ψ'}, tj_le Ψ Ψ' → Ψ'[q]? = some 149 := fun h => h _ _ hq
  have h10J : ∀ {Ψ' w' mc ms}, J Ψ' w' mc ms → tj_sm10 (.inr (.inr (.inl q))) (.inl p) (.inl v) w → tj_sm10 (.inr (.inr (.inl q))) (.inl p) (.inl v) w' := fun h h10 => te_so10 hw h.2.2.2 (by decide +kernel) h10
  have h16J : ∀ {Ψ' w' mc ms}, J Ψ' w' mc ms → tj_alv al (tj_who bk al tm ho p (al 0 + t)) → tj_sm16 (.inr (.inr (.inl q))) (.inl p) (.inl (al 0 + t)) w' := fun h hA => te_so16 hw h.2.2.2 (by decide +kernel) ⟨q, bk, p, al 0 + t, al, tm, ho, rfl, rfl, rfl, h39, h49, h24, h23, hA⟩
  have e3 : (Int32.ofNat 3 * i5).toInt = 3 * i5.toInt := tr_mul (c := 3) (by decide) rfl (by omega) (by omega)
  have et1 : (t + Int32.ofNat 1).toInt = t.toInt + 1 := tm_inc tm_k1 (by omega)
  have e1t : (Int32.ofNat 100 * (t + Int32.ofNat 1)).toInt = 100 * (t.toInt + 1) := tr_mul (c := 100) (by decide) (by rw [et1]; rfl) (by omega) (by omega)
  let G : Int32 → List zx_E → Prop := fun x w' => tj_fa w' q 12 54 2000 (upd gd (100 * t.toInt.toNat + l.toInt.toNat) x)
  -- a payment written
  have pay1 : ∀ {Ψ' w' mc ms b1} {pay : Nat → Int32} {i : Nat} {s x : Int32}, J Ψ' w' mc ms → Ψ'[b1]? = some 123 → w'[b1]? = some (.inr (0, 6300, .inl pay)) → G x w' → J Ψ' (w'.set b1 (.inr (0, 6300, .inl (upd pay i s)))) mc ms ∧ G x (w'.set b1 (.inr (0, 6300, .inl (upd pay i s)))) := by
    intro Ψ' w' mc ms b1 pay i s x hJ hb1 kb1 hG
    have hv : ∀ a b, tj_sel [(6300, 0, 4294967295)] i = some (a, b) → a ≤ zx_b s ∧ zx_b s ≤ b := fun a b hs => by
      obtain ⟨e1, e2⟩ := tm_sel1 hs
      have := tj_b_lt s
      omega
    have hf1 : tj_fr ([], [123]) Ψ' w' (w'.set b1 (.inr (0, 6300, .inl (upd pay i s)))) := (tg_setA (s := [(6300, 0, 4294967295)]) (tm_W0 (E := ([], [123])) hJ.1) hb1 rfl kb1 hv (by decide +kernel)).2.2.2
    exact ⟨tg_setA (s := [(6300, 0, 4294967295)]) hJ hb1 rfl kb1 hv (by decide +kernel), te_fa hJ.1 hf1 (d := tj_dep 9) (by decide +kernel) (by decide +kernel) hG⟩
  have done : ∀ (x : Int32) (Ψ' : List Nat) (w' : List zx_E) (mc ms : Nat) (ls : List (Nat × zx_V)), x.toInt < (dv bk.toInt.toNat).toInt → (0 ≤ x.toInt → tj_alv al (tj_who bk al tm ho p (al 0 + t))) → J Ψ' w' mc ms → G x w' → WP (210, ls, [], w', mc, ms) := by
    intro x Ψ' w' mc ms ls hx hx2 hJ h54
    exact zx_wp_done ⟨(none, w'), ⟨Nat.le_refl _, Nat.le_refl _, rfl, rfl, rfl⟩, hJ.2.1, rfl, Ψ', hJ.2.2.1, hJ.1, hJ.2.2.2, x, h54, hx, hx2⟩
  -- what is told of the choice
  let C : Int32 → Prop := fun x => x.toInt < (dv bk.toInt.toNat).toInt ∧ (0 ≤ x.toInt → tj_sm10 (.inr (.inr (.inl q))) (.inl p) (.inl v) w ∧ 0 ≤ v.toInt ∧ v.toInt ≤ 7 ∧ tj_alv al (tj_who bk al tm ho p (al 0 + t)))
  let L : Int32 → Int32 → List (Nat × zx_V) → Prop := fun x s ls => zx_look 0 ls = some (.inr (.inr (.inl q))) ∧ zx_look 1 ls = some (.inl p) ∧ zx_look 2 ls = some (.inl t) ∧ zx_look 3 ls = some (.inl l) ∧ zx_look 4 ls = some (.inl f) ∧ zx_look 5 ls = some (.inl i5) ∧ zx_look 6 ls = some (.inl v) ∧ zx_look 7 ls = some (.inl x) ∧ zx_look 8 ls = some (.inl s)
  have Lput : ∀ {x s : Int32} {ls : List (Nat × zx_V)} {k : Nat} {u : zx_V}, L x s ls → 9 ≤ k → L x s (zx_put k u ls) := by
    intro x s ls k u h hk
    obtain ⟨l0, l1, l2, l3, l4, l5, l6, l7, l8⟩ := h
    exact ⟨zy_look_ne (by omega) rfl l0, zy_look_ne (by omega) rfl l1, zy_look_ne (by omega) rfl l2, zy_look_ne (by omega) rfl l3, zy_look_ne (by omega) rfl l4, zy_look_ne (by omega) rfl l5, zy_look_ne (by omega) rfl l6, zy_look_ne (by omega) rfl l7, zy_look_ne (by omega) rfl l8⟩
  have last : ∀ (x s : Int32) (Ψ' : List Nat) (w' : List zx_E) (mc ms : Nat) (ls : List (Nat × zx_V)), C x → J Ψ' w' mc ms → G x w' → zx_limP w'.length ls = true → L x s ls → WP (177, ls, [], w', mc, ms) := by
    intro x s Ψ' w' mc ms ls hC hJ hG hls hL
    obtain ⟨l0, l1, l2, l3, l4, l5, l6, l7, l8⟩ := hL
    have ix := zx_b_int x
    refine zy_li rfl l7 ?_
    refine zy_j0 rfl (fun _ => done x _ _ _ _ _ hC.1 (fun h => (hC.2 h).2.2.2) hJ hG) (fun h => ?_)
    have h : 2147483648 ≤ zx_b x := h
    obtain ⟨h10, v1, v2, hA⟩ := hC.2 (by omega)
    have hq1 := hty2 hJ.2.2.1
    obtain ⟨fs', m0, mm⟩ := (hJ.2.2.2 q 149 hq).1 12 fs k0
    obtain ⟨b1, b2, pay, gd', m53, hb1, kb1, m54, hb2, kb2⟩ := tr_gm hJ.1 hq1 m0
    have hlb1 : b1 < w'.length := (List.getElem?_eq_some_iff.mp kb1).1
    have put : ∀ (c : Int32) (Ψ2 : List Nat) (w2 : List zx_E) (mc2 ms2 : Nat), 0 ≤ c.toInt → c.toInt ≤ 2 → J Ψ2 w2 mc2 ms2 → Ψ2[b1]? = some 123 → G x w2 → WP (206, ls, [(.inl c), (.inl (Int32.ofNat 3 * i5)), (.inr (.inr (.inl b1)))], w2, mc2, ms2) := by
      intro c Ψ2 w2 mc2 ms2 c1 c2 hJ2 hb2 hG2
      have ec : (Int32.ofNat 3 * i5 + c).toInt = 3 * i5.toInt + c.toInt := by rw [tr_add (by omega) (by omega), e3]
      obtain ⟨pay2, kb, -⟩ := tj_iarr (kd := 0) (n := 6300) (s := [(6300, 0, 4294967295)]) hJ2.1 hb2 rfl (Or.inl rfl)
      refine zy_add rfl ?_
      refine zy_li rfl l8 ?_
      refine zy_ai rfl kb (tr_in (by omega) (by omega)) ?_
      obtain ⟨hJ3, hG3⟩ := pay1 (i := (Int32.ofNat 3 * i5 + c).toNatClampNeg) (s := s) hJ2 hb2 kb hG2
      exact done x _ _ _ _ _ hC.1 (fun _ => hA) hJ3 hG3
    refine zy_la rfl l0 (Or.inl ⟨_, rfl⟩) ?_
    refine zy_get rfl m0 m53 ?_
    refine zy_ci (n := 1) (c := 3) rfl ?_
    refine zy_li rfl l5 ?_
    refine zy_mul rfl ?_
    refine zy_li rfl l4 ?_
    refine zy_j0 rfl (fun _ => ?_) (fun _ => ?_)
    · have ty : tj_typed Ψ' [(.inr (.inr (.inl q))), (.inl p), (.inl v)] [(1, 149, 0), (0, 2147483648, 2147483651), (0, 2147483647, 2147483655)] := ⟨⟨q, rfl, hq1⟩, ⟨p, rfl, by omega, by omega⟩, ⟨v, rfl, by omega, by omega⟩, trivial⟩
      refine zy_la rfl l0 (Or.inl ⟨_, rfl⟩) ?_
      refine zy_li rfl l1 ?_
      refine zy_li rfl l6 ?_
      refine zy_call (tj_KS1_le (by decide) tr_b_placeOf0) (n := 3) (av := [(.inr (.inr (.inl q))), (.inl p), (.inl v)]) (st := [(.inl (Int32.ofNat 3 * i5)), (.inr (.inr (.inl b1)))]) rfl rfl (Nat.le_of_ble_eq_true rfl) hls (tr_lim2 (tr_lim1 hlb1 rfl)) hJ ty (zy_pre ty (vs := []) trivial (List.forall_mem_cons.mpr ⟨h10J hJ h10, fun f hf => absurd hf List.not_mem_nil⟩)) (by decide +kernel) (by decide +kernel) ?_
      intro r cy Ψ2 o hW2 hle2 hfr2 hls2 ho' hto hro hho
      have e := List.mem_singleton.mp ho'
      subst e
      obtain ⟨c, e1, x', e2, c1, c2⟩ := hro
      rw [e1, e2]
      have ic := zx_b_int x'
      exact put x' Ψ2 r.2 _ _ (by omega) (by omega) hW2 (hle2 _ _ hb1) (te_fa hJ.1 hfr2 (d := tj_dep 9) (by decide +kernel) (by decide +kernel) hG)
    · refine zy_ci (n := 1) (c := 0) rfl ?_
      refine zy_goto rfl ?_
      exact put _ _ _ _ _ (by decide) (by decide) hJ hb1 hG
  have three : ∀ (n : Nat) (x s y k : Int32) (Ψ' : List Nat) (w' : List zx_E) (mc ms : Nat) (ls : List (Nat × zx_V)), k.toInt + n = 3 → 0 ≤ k.toInt → 0 ≤ y.toInt → y.toInt ≤ 99 → C x → J Ψ' w' mc ms → G x w' → zx_limP w'.length ls = true → L x s ls → zx_look 9 ls = some (.inl y) → zx_look 10 ls = some (.inl k) → WP (134, ls, [], w', mc, ms) := by
    intro n
    induction n with
    | zero =>
      intro x s y k Ψ' w' mc ms ls hn hk0 y1 y2 hC hJ hG hls hL l9 l10
      have ik := zx_b_int k
      refine zy_li rfl l10 ?_
      refine zy_ci (n := 1) (c := 3) rfl ?_
      refine zy_jt rfl (fun _ => last x s Ψ' w' mc ms ls hC hJ hG hls hL) (fun h => ?_)
      have h : zx_b k < zx_b (Int32.ofNat 3) := h
      rw [show zx_b (Int32.ofNat 3) = 2147483651 by decide] at h
      omega
    | succ n ih =>
      intro x s y k Ψ' w' mc ms ls hn hk0 y1 y2 hC hJ hG hls hL l9 l10
      have ik := zx_b_int k
      have ⟨l0, l1, l2, l3, l4, l5, l6, l7, l8⟩ := hL
      have hq1 := hty2 hJ.2.2.1
      obtain ⟨fs', m0, mm⟩ := (hJ.2.2.2 q 149 hq).1 12 fs k0
      obtain ⟨b1, b2, pay, gd', m53, hb1, kb1, m54, hb2, kb2⟩ := tr_gm hJ.1 hq1 m0
      have ec : (Int32.ofNat 3 * i5 + k).toInt = 3 * i5.toInt + k.toInt := by rw [tr_add (by omega) (by omega), e3]
      have eq1 : (Int32.ofNat 100 * (t + Int32.ofNat 1) + y).toInt = 100 * (t.toInt + 1) + y.toInt := by rw [tr_add (by omega) (by omega), e1t]
      have eq3 : (Int32.ofNat 3 * (Int32.ofNat 100 * (t + Int32.ofNat 1) + y)).toInt = 3 * (100 * (t.toInt + 1) + y.toInt) := tr_mul (c := 3) (by decide) (by rw [eq1]; rfl) (by omega) (by omega)
      have eq4 : (Int32.ofNat 3 * (Int32.ofNat 100 * (t + Int32.ofNat 1) + y) + k).toInt = 3 * (100 * (t.toInt + 1) + y.toInt) + k.toInt := by rw [tr_add (by omega) (by omega), eq3]
      refine zy_li rfl l10 ?_
      refine zy_ci (n := 1) (c := 3) rfl ?_
      refine zy_jt rfl (fun h => ?_) (fun _ => ?_)
      · have h : zx_b (Int32.ofNat 3) ≤ zx_b k := h
        rw [show zx_b (Int32.ofNat 3) = 2147483651 by decide] at h
        omega
      refine zy_la rfl l0 (Or.inl ⟨_, rfl⟩) ?_
      refine zy_get rfl m0 m53 ?_
      refine zy_ci (n := 1) (c := 3) rfl ?_
      refine zy_li rfl l5 ?_
      refine zy_mul rfl ?_
      refine zy_li rfl l10 ?_
      refine zy_add rfl ?_
      refine zy_la rfl l0 (Or.inl ⟨_, rfl⟩) ?_
      refine zy_get rfl m0 m53 ?_
      refine zy_ci (n := 1) (c := 3) rfl ?_
      refine zy_ci (n := 2) (c := 100) rfl ?_
      refine zy_li rfl l2 ?_
      refine zy_ci (n := 1) (c := 1) rfl ?_
      refine zy_add rfl ?_
      refine zy_mul rfl ?_
      refine zy_li rfl l9 ?_
      refine zy_add rfl ?_
      refine zy_mul rfl ?_
      refine zy_li rfl l10 ?_
      refine zy_add rfl ?_
      refine zy_ld rfl kb1 (tr_in (by omega) (by omega)) ?_
      refine zy_ai rfl kb1 (tr_in (by omega) (by omega)) ?_
      generalize pay (Int32.ofNat 3 * (Int32.ofNat 100 * (t + Int32.ofNat 1) + y) + k).toNatClampNeg = z
      obtain ⟨hJ3, hG3⟩ := pay1 (i := (Int32.ofNat 3 * i5 + k).toNatClampNeg) (s := z) hJ hb1 kb1 hG
      have hls3 : zx_limP (w'.set b1 (.inr (0, 6300, .inl (upd pay (Int32.ofNat 3 * i5 + k).toNatClampNeg z)))).length ls = true := by rw [List.length_set]; exact hls
      generalize w'.set b1 (.inr (0, 6300, .inl (upd pay (Int32.ofNat 3 * i5 + k).toNatClampNeg z))) = w3 at hJ3 hG3 hls3 ⊢
      refine zy_ik (k := 10) (n := 1) rfl l10 ?_
      refine zy_goto rfl ?_
      have ek : (k + Int32.ofNat 1).toInt = k.toInt + 1 := tm_inc tm_k1 (by omega)
      exact ih x s y (k + Int32.ofNat 1) Ψ' w3 mc ms _ (by omega) (by omega) y1 y2 hC hJ3 hG3 (zy_limP_put hls3 rfl) (Lput hL (by decide)) (zy_look_ne (by decide) rfl l9) zy_look_put
  have fin : ∀ (x s y : Int32) (Ψ' : List Nat) (w' : List zx_E) (mc ms : Nat) (ls : List (Nat × zx_V)), 0 ≤ y.toInt → y.toInt ≤ 99 → C x → J Ψ' w' mc ms → G x w' → zx_limP w'.length ls = true → L x s ls → WP (129, ls, [(.inl y)], w', mc, ms) := by
    intro x s y Ψ' w' mc ms ls y1 y2 hC hJ hG hls hL
    refine zy_si (k := 9) rfl ?_
    refine zy_ci (n := 1) (c := 0) rfl ?_
    refine zy_si (k := 10) rfl ?_
    exact three 3 x s y (Int32.ofNat 0) Ψ' w' mc ms _ (by decide) (by decide) y1 y2 hC hJ hG (zy_limP_put (zy_limP_put hls rfl) rfl) (Lput (Lput hL (by decide)) (by decide)) (zy_look_ne (by decide) rfl zy_look_put) zy_look_put
  let G0 : List zx_E → Prop := fun w' => tj_fa w' q 12 54 2000 gd
  have tail : ∀ (x s : Int32) (Ψ' : List Nat) (w' : List zx_E) (mc ms : Nat) (ls : List (Nat × zx_V)), -1 ≤ x.toInt → C x → J Ψ' w' mc ms → G0 w' → zx_limP w'.length ls = true → L x s ls → WP (95, ls, [], w', mc, ms) := by
    intro x s Ψ' w' mc ms ls hx1 hC hJ hG hls hL
    have ⟨l0, l1, l2, l3, l4, l5, l6, l7, l8⟩ := hL
    have ix := zx_b_int x
    have hq1 := hty2 hJ.2.2.1
    obtain ⟨fs', b2, m0, m54, kb2⟩ := id hG
    obtain ⟨b1', b2', pay, gd', m53, hb1, kb1, m54', hb2, kb2'⟩ := tr_gm hJ.1 hq1 m0
    rw [m54] at m54'
    cases m54'
    have hqb := tm_ne hq1 hb2 (by decide)
    have hi5 : i5.toNatClampNeg = 100 * t.toInt.toNat + l.toInt.toNat := by
      show i5.toInt.toNat = _
      omega
    have dv5 := hC.1
    refine zy_la rfl l0 (Or.inl ⟨_, rfl⟩) ?_
    refine zy_get rfl m0 m54 ?_
    refine zy_li rfl l5 ?_
    refine zy_li rfl l7 ?_
    refine zy_ai rfl kb2 (tr_in (by omega) (by omega)) ?_
    rw [hi5]
    have hv : ∀ a b, tj_sel [(2000, 2147483647, 2147483653)] (100 * t.toInt.toNat + l.toInt.toNat) = some (a, b) → a ≤ zx_b x ∧ zx_b x ≤ b := fun a b hs => by
      obtain ⟨e1, e2⟩ := tm_sel1 hs
      omega
    have hJ2 : J Ψ' (w'.set b2 (.inr (0, 2000, .inl (upd gd (100 * t.toInt.toNat + l.toInt.toNat) x)))) mc ms := tg_setA (s := [(2000, 2147483647, 2147483653)]) hJ hb2 rfl kb2 hv (by decide +kernel)
    have hG2 : G x (w'.set b2 (.inr (0, 2000, .inl (upd gd (100 * t.toInt.toNat + l.toInt.toNat) x)))) := ⟨fs', b2, by rw [List.getElem?_set_ne (Ne.symm hqb)]; exact m0, m54, List.getElem?_set_self (List.getElem?_eq_some_iff.mp kb2).1⟩
    have hls2 : zx_limP (w'.set b2 (.inr (0, 2000, .inl (upd gd (100 * t.toInt.toNat + l.toInt.toNat) x)))).length ls = true := by rw [List.length_set]; exact hls
    generalize w'.set b2 (.inr (0, 2000, .inl (upd gd (100 * t.toInt.toNat + l.toInt.toNat) x))) = w2 at hJ2 hG2 hls2 ⊢
    refine zy_li rfl l7 ?_
    refine zy_j0 rfl (fun h => ?_) (fun _ => ?_)
    rotate_left
    · refine zy_li rfl l3 ?_
      refine zy_goto rfl ?_
      exact fin x s l Ψ' w2 mc ms ls hl.1 hl.2 hC hJ2 hG2 hls2 hL
    have h : 2147483648 ≤ zx_b x := h
    obtain ⟨h10, v1, v2, hA⟩ := hC.2 (by omega)
    obtain ⟨fs2, a2, n0, n49, na, ha2, -, -⟩ := tr_al0 hJ2.1 hq1 (h49J hJ2)
    have ty : tj_typed Ψ' [(.inr (.inr (.inl q))), (.inl p), (.inl x), (.inl (al 0 + t)), (.inl l)] [(1, 149, 0), (0, 2147483648, 2147483651), (0, 2147483648, 2147483653), (0, 2147483648, 2147485648), (0, 2147483648, 2147483747)] := ⟨⟨q, rfl, hq1⟩, ⟨p, rfl, by omega, by omega⟩, ⟨x, rfl, by omega, by omega⟩, ⟨_, rfl, by omega, by omega⟩, ⟨_, rfl, by omega, by omega⟩, trivial⟩
    refine zy_la rfl l0 (Or.inl ⟨_, rfl⟩) ?_
    refine zy_li rfl l1 ?_
    refine zy_li rfl l7 ?_
    refine zy_la rfl l0 (Or.inl ⟨_, rfl⟩) ?_
    refine zy_get rfl n0 n49 ?_
    refine zy_ci (n := 1) (c := 0) rfl ?_
    refine zy_ld rfl na (by decide) ?_
    rw [e0n]
    refine zy_li rfl l2 ?_
    refine zy_add rfl ?_
    refine zy_li rfl l3 ?_
    refine zy_call (tj_KS1_le (by decide) tr1_p17) (n := 5) (av := [(.inr (.inr (.inl q))), (.inl p), (.inl x), (.inl (al 0 + t)), (.inl l)]) (st := []) rfl rfl (by decide) hls2 rfl hJ2 ty (tr_preJ hJ2.1 hq1 (hRJ hJ2) ty hlt dv5 (h16J hJ2 hA)) (by decide +kernel) (by decide +kernel) ?_
    intro r cy Ψ3 o hW3 hle3 hfr3 hls3 ho' hto hro2 hho
    have e := List.mem_singleton.mp ho'
    subst e
    obtain ⟨c, e1, y, e2, y1, y2⟩ := hro2
    rw [e1, e2]
    have iy := zx_b_int y
    exact fin x s y Ψ3 r.2 _ _ ls (by omega) (by omega) hC hW3 (te_fa hJ2.1 hfr3 (d := tj_dep 9) (by decide +kernel) (by decide +kernel) hG2) hls3 hL
  have loop : tj_sm10 (.inr (.inr (.inl q))) (.inl p) (.inl v) w → 0 ≤ v.toInt → v.toInt ≤ 7 → tj_alv al (tj_who bk al tm ho p (al 0 + t)) → ∀ (n : Nat) (d x s : Int32) (Ψ' : List Nat) (w' : List zx_E) (mc ms : Nat) (ls : List (Nat × zx_V)), d.toInt + n = (dv bk.toInt.toNat).toInt → 0 ≤ d.toInt → -1 ≤ x.toInt → C x → J Ψ' w' mc ms → G0 w' → zx_limP w'.length ls = true → L x s ls → zx_look 9 ls = some (.inl d) → WP (32, ls, [], w', mc, ms) := by
    intro h10 v1 v2 hA n
    have idv := zx_b_int (dv bk.toInt.toNat)
    induction n with
    | zero =>
      intro d x s Ψ' w' mc ms ls hn hd0 hx1 hC hJ hG hls hL l9
      have ⟨l0, l1, l2, l3, l4, l5, l6, l7, l8⟩ := hL
      have id' := zx_b_int d
      have hR' := hRJ hJ
      have hK := tr_deedK hR'.1 hR'.2.2.2.1 hb
      refine zy_li rfl l6 ?_
      refine zy_j0 rfl (fun _ => tail x s _ _ _ _ _ hx1 hC hJ hG hls hL) (fun _ => ?_)
      refine zy_li rfl l9 ?_
      refine zy_la rfl l0 (Or.inl ⟨_, rfl⟩) ?_
      refine zx_wp_call (a := 0) (n := 1) (y := 105) (g := zx_no) (av := [(.inr (.inr (.inl q)))]) (st' := [(.inl d)]) (cy := (0, 0)) (r := (some (.inl (dv bk.toInt.toNat)), w')) rfl rfl (Nat.le_of_ble_eq_true rfl) hls rfl (by have := hJ.2.1; omega) (by have := hJ.2.1; omega) (zx_Cl_le (by decide) hK) ?_
      refine zy_jt rfl (fun _ => tail x s _ _ _ _ _ hx1 hC hJ hG hls hL) (fun h => ?_)
      have h : zx_b d < zx_b (dv bk.toInt.toNat) := h
      omega
    | succ n ih =>
      intro d x s Ψ' w' mc ms ls hn hd0 hx1 hC hJ hG hls hL l9
      have ⟨l0, l1, l2, l3, l4, l5, l6, l7, l8⟩ := hL
      have id' := zx_b_int d
      have hR' := hRJ hJ
      have hK := tr_deedK hR'.1 hR'.2.2.2.1 hb
      have hq1 := hty2 hJ.2.2.1
      have hlq1 : q < w'.length := by
        obtain ⟨fs', b2, m0, m54, kb2⟩ := id hG
        exact (List.getElem?_eq_some_iff.mp m0).1
      refine zy_li rfl l6 ?_
      refine zy_j0 rfl (fun _ => tail x s _ _ _ _ _ hx1 hC hJ hG hls hL) (fun _ => ?_)
      refine zy_li rfl l9 ?_
      refine zy_la rfl l0 (Or.inl ⟨_, rfl⟩) ?_
      refine zx_wp_call (a := 0) (n := 1) (y := 105) (g := zx_no) (av := [(.inr (.inr (.inl q)))]) (st' := [(.inl d)]) (cy := (0, 0)) (r := (some (.inl (dv bk.toInt.toNat)), w')) rfl rfl (Nat.le_of_ble_eq_true rfl) hls rfl (by have := hJ.2.1; omega) (by have := hJ.2.1; omega) (zx_Cl_le (by decide) hK) ?_
      refine zy_jt rfl (fun h => ?_) (fun _ => ?_)
      · have h : zx_b (dv bk.toInt.toNat) ≤ zx_b d := h
        omega
      refine zy_la rfl l0 (Or.inl ⟨_, rfl⟩) ?_
      refine zy_li rfl l1 ?_
      refine zy_li rfl l9 ?_
      refine zy_li rfl l2 ?_
      refine zy_li rfl l3 ?_
      refine zy_la rfl l0 (Or.inl ⟨_, rfl⟩) ?_
      refine zy_li rfl l1 ?_
      refine zy_li rfl l6 ?_
      have ty : tj_typed Ψ' [(.inr (.inr (.inl q))), (.inl p), (.inl v)] [(1, 149, 0), (0, 2147483648, 2147483651), (0, 2147483647, 2147483655)] := ⟨⟨q, rfl, hq1⟩, ⟨p, rfl, by omega, by omega⟩, ⟨v, rfl, by omega, by omega⟩, trivial⟩
      refine zy_call (tj_KS1_le (by decide) tr_b_placeOf0) (n := 3) (av := [(.inr (.inr (.inl q))), (.inl p), (.inl v)]) (st := [(.inl l), (.inl t), (.inl d), (.inl p), (.inr (.inr (.inl q)))]) rfl rfl (Nat.le_of_ble_eq_true rfl) hls (tr_lim2 (tr_lim2 (tr_lim2 (tr_lim2 (tr_lim1 hlq1 rfl))))) hJ ty (zy_pre ty (vs := []) trivial (List.forall_mem_cons.mpr ⟨h10J hJ h10, fun f hf => absurd hf List.not_mem_nil⟩)) (by decide +kernel) (by decide +kernel) ?_
      intro r cy Ψ2 o hW2 hle2 hfr2 hls2 ho' hto hro hho
      have e := List.mem_singleton.mp ho'
      subst e
      obtain ⟨c, e1, pl, e2, c1, c2⟩ := hro
      rw [e1, e2]
      have hG2 : G0 r.2 := te_fa hJ.1 hfr2 (d := tj_dep 9) (by decide +kernel) (by decide +kernel) hG
      have hW2 : J Ψ2 r.2 (mc + cy.1) (ms + cy.2) := hW2
      clear hho hto ho' hfr2 e1 e2
      generalize r.2 = w2 at hW2 hls2 hG2 ⊢
      generalize mc + cy.1 = mc2 at hW2 ⊢
      generalize ms + cy.2 = ms2 at hW2 ⊢
      have hq2 := hty2 hW2.2.2.1
      refine zy_li rfl l4 ?_
      have ty2 : tj_typed Ψ2 [(.inr (.inr (.inl q))), (.inl p), (.inl d), (.inl t), (.inl l), (.inl pl), (.inl f)] [(1, 149, 0), (0, 2147483648, 2147483651), (0, 2147483648, 2147483653), (0, 2147483648, 2147483667), (0, 2147483648, 2147483747), (0, 2147483648, 2147483650), (0, 2147483648, 2147483649)] := ⟨⟨q, rfl, hq2⟩, ⟨p, rfl, by omega, by omega⟩, ⟨d, rfl, by omega, by omega⟩, ⟨t, rfl, by omega, by omega⟩, ⟨l, rfl, by omega, by omega⟩, ⟨pl, rfl, c1, c2⟩, ⟨f, rfl, by omega, by omega⟩, trivial⟩
      refine zy_call (tj_KS1_le (by decide) tr1_p190) (n := 7) (av := [(.inr (.inr (.inl q))), (.inl p), (.inl d), (.inl t), (.inl l), (.inl pl), (.inl f)]) (st := []) rfl rfl (by decide) hls2 rfl hW2 ty2 (tr_preW hW2.1 hq2 (hRJ hW2) (h49J hW2) ty2 ht hlt (by omega) (h16J hW2 hA)) (by decide +kernel) (by decide +kernel) ?_
      intro r cy Ψ3 o hW3 hle3 hfr3 hls3 ho' hto hro hho
      obtain ⟨z, ez⟩ := zy_retI (by decide +kernel) ho' hro
      rw [ez]
      have hG3 : G0 r.2 := te_fa hW2.1 hfr3 (d := tj_dep 9) (by decide +kernel) (by decide +kernel) hG2
      have hW3 : J Ψ3 r.2 (mc2 + cy.1) (ms2 + cy.2) := hW3
      clear hho hto ho' hfr3 hro ez
      generalize r.2 = w3 at hW3 hls3 hG3 ⊢
      generalize mc2 + cy.1 = mc3 at hW3 ⊢
      generalize ms2 + cy.2 = ms3 at hW3 ⊢
      refine zy_si (k := 10) rfl ?_
      have hL2 : L x s (zx_put 10 (.inl z) ls) := Lput hL (by decide)
      have l92 : zx_look 9 (zx_put 10 (.inl z) ls) = some (.inl d) := zy_look_ne (by decide) rfl l9
      have l102 : zx_look 10 (zx_put 10 (.inl z) ls) = some (.inl z) := zy_look_put
      have hls4 : zx_limP w3.length (zx_put 10 (.inl z) ls) = true := zy_limP_put hls3 rfl
      generalize zx_put 10 (.inl z) ls = ls2 at hL2 l92 l102 hls4 ⊢
      have nx : ∀ (x' s' : Int32) (ls3 : List (Nat × zx_V)), -1 ≤ x'.toInt → C x' → zx_limP w3.length ls3 = true → L x' s' ls3 → zx_look 9 ls3 = some (.inl d) → WP (89, ls3, [], w3, mc3, ms3) := by
        intro x' s' ls3 hx' hC' hl3 hL3 m9
        refine zy_ik (k := 9) (n := 1) rfl m9 ?_
        refine zy_goto rfl ?_
        have ed : (d + Int32.ofNat 1).toInt = d.toInt + 1 := tm_inc tm_k1 (by omega)
        exact ih (d + Int32.ofNat 1) x' s' Ψ3 w3 mc3 ms3 _ (by omega) (by omega) hx' hC' hW3 hG3 (zy_limP_put hl3 rfl) (Lput hL3 (by decide)) zy_look_put
      have ⟨m0, m1, m2, m3, m4, m5, m6, m7, m8⟩ := hL2
      have take : WP (81, ls2, [], w3, mc3, ms3) := by
        refine zy_li rfl l92 ?_
        refine zy_si (k := 7) rfl ?_
        refine zy_li rfl (zy_look_ne (by decide) rfl l102) ?_
        refine zy_si (k := 8) rfl ?_
        exact nx d z _ (by omega) ⟨by omega, fun _ => ⟨h10, v1, v2, hA⟩⟩ (zy_limP_put (zy_limP_put hls4 rfl) rfl) ⟨zy_look_ne (by decide) rfl (zy_look_ne (by decide) rfl m0), zy_look_ne (by decide) rfl (zy_look_ne (by decide) rfl m1), zy_look_ne (by decide) rfl (zy_look_ne (by decide) rfl m2), zy_look_ne (by decide) rfl (zy_look_ne (by decide) rfl m3), zy_look_ne (by decide) rfl (zy_look_ne (by decide) rfl m4), zy_look_ne (by decide) rfl (zy_look_ne (by decide) rfl m5), zy_look_ne (by decide) rfl (zy_look_ne (by decide) rfl m6), zy_look_ne (by decide) rfl zy_look_put, zy_look_put⟩ (zy_look_ne (by decide) rfl (zy_look_ne (by decide) rfl l92))
      refine zy_li rfl m7 ?_
      refine zy_j0 rfl (fun _ => take) (fun _ => ?_)
      refine zy_li rfl l102 ?_
      refine zy_li rfl m8 ?_
      refine zy_jt rfl (fun _ => take) (fun _ => ?_)
      refine zy_goto rfl ?_
      exact nx x s _ hx1 hC hls4 hL2 l92
  have e1 : (Int32.ofNat 4294967295).toInt = -1 := by decide
  have e0 : (Int32.ofNat 0).toInt = 0 := by decide
  have hC0 : C (Int32.ofNat 4294967295) := ⟨by omega, fun h => by omega⟩
  have hls0 : zx_limP w.length [(0, (.inr (.inr (.inl q)))), (1, (.inl p)), (2, (.inl t)), (3, (.inl l)), (4, (.inl f))] = true := tm_lim hlq rfl
  have hW0 : J Ψ w 0 0 := tm_W0 hw
  show WP (0, [(0, (.inr (.inr (.inl q)))), (1, (.inl p)), (2, (.inl t)), (3, (.inl l)), (4, (.inl f))], [], w, 0, 0)
  refine zy_ci (n := 2) (c := 100) rfl ?_
  refine zy_li (k := 2) rfl rfl ?_
  refine zy_mul rfl ?_
  refine zy_li (k := 3) rfl rfl ?_
  refine zy_add rfl ?_
  rw [hi5d]
  refine zy_si (k := 5) rfl ?_
  refine zy_la (k := 0) rfl rfl (Or.inl ⟨_, rfl⟩) ?_
  refine zy_li (k := 1) rfl rfl ?_
  refine zy_la (k := 0) rfl rfl (Or.inl ⟨_, rfl⟩) ?_
  refine zy_get rfl k0 k49 ?_
  refine zy_ci (n := 1) (c := 0) rfl ?_
  refine zy_ld rfl ka (by decide) ?_
  rw [e0n]
  refine zy_li (k := 2) rfl rfl ?_
  refine zy_add rfl ?_
  refine zx_wp_call (a := 0) (n := 3) (y := 212) (g := zx_no) (av := [(.inr (.inr (.inl q))), (.inl p), (.inl (al 0 + t))]) (st' := []) (cy := (0, 0)) (r := (some (.inl v), w)) rfl rfl (Nat.le_of_ble_eq_true rfl) (zy_limP_put hls0 rfl) rfl (Nat.zero_le _) (Nat.zero_le _) (zx_Cl_le (by decide) hK) ?_
  refine zy_si (k := 6) rfl ?_
  refine zy_ci (n := 1) (c := 4294967295) rfl ?_
  refine zy_si (k := 7) rfl ?_
  refine zy_ci (n := 1) (c := 0) rfl ?_
  refine zy_si (k := 8) rfl ?_
  refine zy_ci (n := 1) (c := 0) rfl ?_
  refine zy_si (k := 9) rfl ?_
  have hls1 := zy_limP_put (k := 9) (v := (.inl (Int32.ofNat 0))) (zy_limP_put (k := 8) (v := (.inl (Int32.ofNat 0))) (zy_limP_put (k := 7) (v := (.inl (Int32.ofNat 4294967295))) (zy_limP_put (k := 6) (v := (.inl v)) (zy_limP_put (k := 5) (v := (.inl i5)) hls0 rfl) rfl) rfl) rfl) rfl
  have hL0 : L (Int32.ofNat 4294967295) (Int32.ofNat 0) (zx_put 9 (.inl (Int32.ofNat 0)) (zx_put 8 (.inl (Int32.ofNat 0)) (zx_put 7 (.inl (Int32.ofNat 4294967295)) (zx_put 6 (.inl v) (zx_put 5 (.inl i5) [(0, (.inr (.inr (.inl q)))), (1, (.inl p)), (2, (.inl t)), (3, (.inl l)), (4, (.inl f))]))))) := ⟨rfl, rfl, rfl, rfl, rfl, rfl, rfl, rfl, rfl⟩
  rcases hv' with ⟨ev, hA, v1, v2, h10⟩ | ⟨ev, hA⟩
  · exact loop h10 v1 v2 (by rw [← ev]; exact hA) (dv bk.toInt.toNat).toInt.toNat (Int32.ofNat 0) (Int32.ofNat 4294967295) (Int32.ofNat 0) Ψ w 0 0 _ (by omega) (by omega) (by omega) hC0 hW0 h54 hls1 hL0 zy_look_put
  · have hv1 : v.toInt = -1 := by rw [ev]; decide
    refine zy_li rfl hL0.2.2.2.2.2.2.1 ?_
    refine zy_j0 rfl (fun _ => tail _ _ Ψ w 0 0 _ (by omega) hC0 hW0 h54 hls1 hL0) (fun h => ?_)
    have h : 2147483648 ≤ zx_b v := h
    omega
