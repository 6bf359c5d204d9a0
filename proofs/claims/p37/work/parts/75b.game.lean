/-! by hand: layGame, layRow -/
theorem zy_outN {Ψ : List Nat} {w : List zx_E} {av : List zx_V} {ats : List tj_y} {F : List tj_f} (hF : ∀ f ∈ F, tj_fd (fun k => (av[k]?).getD (.inr (.inr (.inr 0)))) w f) : tj_Ho Ψ w av none (ats, none, ([], [], F)) := by
  refine ⟨fun k => (av[k]?).getD (.inr (.inr (.inr 0))), fun i v hi => ?_, fun j t hj => ?_, hF⟩
  · have hi : (av ++ [])[i]? = some v := hi
    rw [List.append_nil] at hi
    show (av[i]?).getD _ = v
    rw [hi]
    rfl
  · have hj : ([] : List tj_y)[j]? = some t := hj
    rw [List.getElem?_nil] at hj
    cases hj
theorem tr_retF {K : zx_K} {cap : Nat × Nat} {dt : List (List (Nat × zx_I))} {E : tj_Ef} {Ψ Ψ' : List Nat} {w w' : List zx_E} {pc mc ms : Nat} {ls : List (Nat × zx_V)} {av : List zx_V} {ts : List tj_y} {F : List tj_f} (ht : ∃ a b g, zx_find (zx_cT dt) pc = some (2, a, b, g)) (hW : tj_W tj_Lam (tj_P tj_c1 w, tj_P tj_c2 w) E Ψ w Ψ' w' mc ms) (hty : tj_typed Ψ' av ts) (hF : ∀ f ∈ F, tj_fd (fun k => (av[k]?).getD (.inr (.inr (.inr 0)))) w' f) : zx_wp K none cap (zx_find (zx_cT dt)) (tj_Post tj_Lam E Ψ w dt [(ts, none, ([], [], F))] av) (pc, ls, [], w', mc, ms) := by
  obtain ⟨a, b, g, ht⟩ := ht
  have hr : tj_retT Ψ' none (none : Option zx_V) := rfl
  refine zx_wp_done ⟨(none, w'), Ψ', _, ⟨Nat.le_refl _, Nat.le_refl _, rfl, ?_⟩, hW.2.1.1, hW.2.1.2, hW.2.2.1, hW.1, hW.2.2.2, List.mem_cons_self, hty, hr, zy_outN hF⟩
  show (match zx_find (zx_cT dt) pc with
    | some (1, _, _, _) => _
    | some (5, _, _, _) => _
    | some (4, _, _, _) => _
    | some (2, _, _, _) => _
    | _ => False)
  rw [ht]
  exact ⟨rfl, rfl⟩
theorem tr_ofNat {x : Int32} (h : 0 ≤ x.toInt) : Int32.ofNat x.toInt.toNat = x := by
  have h2 := Int32.toInt_lt x
  apply Int32.toInt_inj.mp
  rw [tr_c (by omega)]
  omega
set_option maxRecDepth 20000 in
theorem tr_b_layGame0 : tj_KS1 (zx_Cl zx_mt zx_rc zx_mx' 42) tj_Lam tr_h_layGame0 := by
  refine zy_method (d := 41) (dt := zx_d_X12_layGame) (by rw [← zx_q_X12_layGame]; rfl) (by decide +kernel) (by decide +kernel) ?_
  intro Ψ av w hw hty hp
  match av, hty with
  | [v0, v1, v2, v3], ⟨⟨q, hv0, hq⟩, ⟨p, hv1, p1, p2⟩, ⟨n, hv2, n1, n2⟩, ⟨f, hv3, f1, f2⟩, _⟩ =>
    subst hv0
    subst hv1
    subst hv2
    subst hv3
    obtain ⟨ρ, r1, r2, r3⟩ := hp
    have e0 : ρ 0 = (.inr (.inr (.inl q))) := r1 0 _ rfl
    have e1 : ρ 1 = (.inl p) := r1 1 _ rfl
    obtain ⟨bk, hv, pv, dv, tm, ho, pe, cd, rf, rt, hR, hlt⟩ := tr_lp (j := 1) (a := 4) (b := 5) (c := 6) e0 e1 (r3 (0, .inr 0, .inl 13, .inr 4) List.mem_cons_self) (r3 (0, .inr 0, .inl 39, .inr 5) (List.mem_cons_of_mem _ List.mem_cons_self)) (r3 (1, .inr 4, .inr 5, .inr 6) (List.mem_cons_of_mem _ (List.mem_cons_of_mem _ List.mem_cons_self))) (r3 (110, .inr 0, .inr 0, .inr 0) (List.mem_cons_of_mem _ (List.mem_cons_of_mem _ (List.mem_cons_of_mem _ List.mem_cons_self)))) (r3 (9932525098444199596950291534, .inr 1, .inr 6, .inl 0) (List.mem_cons_of_mem _ (List.mem_cons_of_mem _ (List.mem_cons_of_mem _ (List.mem_cons_of_mem _ List.mem_cons_self)))))
    have hR7 := hR
    obtain ⟨h39, h11, h13, h14, h24, h23, h19, h34, h26, h27, hb, hro⟩ := hR
    obtain ⟨al, h49⟩ := tr_all hw hq
    obtain ⟨fs, k0, k39⟩ := id h39
    obtain ⟨a0, b0, pay0, gd0, m53, ha0, ka0, m54, hb0, kb0⟩ := tr_gm hw hq k0
    have hlq : q < w.length := (List.getElem?_eq_some_iff.mp k0).1
    have ip := zx_b_int p
    have in' := zx_b_int n
    have if' := zx_b_int f
    let WP : zx_S → Prop := fun σ => zx_wp (zx_Cl zx_mt zx_rc zx_mx' 41) none (tj_P tj_c1 w, tj_P tj_c2 w) (zx_find (zx_cT zx_d_X12_layGame)) (tj_Post tj_Lam tr_h_layGame0.2.2.1 Ψ w zx_d_X12_layGame tr_h_layGame0.2.2.2.1 [(.inr (.inr (.inl q))), (.inl p), (.inl n), (.inl f)]) σ
    let J : List Nat → List zx_E → Nat → Nat → Prop := fun Ψ' w' mc ms => tj_W tj_Lam (tj_P tj_c1 w, tj_P tj_c2 w) tr_EL Ψ w Ψ' w' mc ms
    have hRJ : ∀ {Ψ' w' mc ms}, J Ψ' w' mc ms → tr_R w' q bk hv pv dv tm ho pe cd rf rt := fun h => tr_R_fr hw h.2.2.2 (by decide +kernel) hR7
    have h49J : ∀ {Ψ' w' mc ms}, J Ψ' w' mc ms → tj_fa w' q 12 49 119 al := fun h => te_fa hw h.2.2.2 (d := tj_dep 16) (by decide +kernel) (by decide +kernel) h49
    have hty2 : ∀ {Ψ'}, tj_le Ψ Ψ' → Ψ'[q]? = some 149 := fun h => h _ _ hq
    let S : (Nat → Int32) → List zx_E → Prop := fun gd w' => tj_fa w' q 12 54 2000 gd
    let PP : Nat → Int32 → Prop := fun j x => x.toInt < (dv bk.toInt.toNat).toInt ∧ (0 ≤ x.toInt → tj_alv al (tj_who bk al tm ho p (al 0 + Int32.ofNat (j / 100))))
    let L : List (Nat × zx_V) → Prop := fun ls => zx_look 0 ls = some (.inr (.inr (.inl q))) ∧ zx_look 1 ls = some (.inl p) ∧ zx_look 2 ls = some (.inl n) ∧ zx_look 3 ls = some (.inl f)
    have Lput : ∀ {ls : List (Nat × zx_V)} {k : Nat} {u : zx_V}, L ls → 4 ≤ k → L (zx_put k u ls) := by
      intro ls k u h hk
      obtain ⟨l0, l1, l2, l3⟩ := h
      exact ⟨zy_look_ne (by omega) rfl l0, zy_look_ne (by omega) rfl l1, zy_look_ne (by omega) rfl l2, zy_look_ne (by omega) rfl l3⟩
    have fin : ∀ (gd : Nat → Int32) (Ψ' : List Nat) (w' : List zx_E) (mc ms : Nat) (ls : List (Nat × zx_V)), J Ψ' w' mc ms → S gd w' → (∀ j : Nat, (j : Int) < 100 * n.toInt → PP j (gd j)) → WP (73, ls, [], w', mc, ms) := by
      intro gd Ψ' w' mc ms ls hJ hS hall
      have hR' := hRJ hJ
      refine tr_retF ⟨_, _, _, rfl⟩ hJ ⟨⟨q, rfl, hty2 hJ.2.2.1⟩, ⟨p, rfl, p1, p2⟩, ⟨n, rfl, n1, n2⟩, ⟨f, rfl, f1, f2⟩, trivial⟩ (fun g hg => ?_)
      have e := List.mem_singleton.mp hg
      subst e
      exact ⟨q, bk, p, n, dv, gd, al, tm, ho, rfl, rfl, rfl, hR'.1, hR'.2.2.2.1, hS, h49J hJ, hR'.2.2.2.2.1, hR'.2.2.2.2.2.1, hall⟩
    have e5 : (Int32.ofNat 4294967295).toInt = -1 := by decide
    have outer : ∀ (m : Nat) (i : Int32) (gd : Nat → Int32) (Ψ' : List Nat) (w' : List zx_E) (mc ms : Nat) (ls : List (Nat × zx_V)), i.toInt + 1 = m → i.toInt < n.toInt → J Ψ' w' mc ms → S gd w' → (∀ j : Nat, 100 * (i.toInt + 1) ≤ (j : Int) → (j : Int) < 100 * n.toInt → PP j (gd j)) → zx_limP w'.length ls = true → L ls → zx_look 4 ls = some (.inl i) → WP (36, ls, [], w', mc, ms) := by
      intro m
      induction m with
      | zero =>
        intro i gd Ψ' w' mc ms ls hm hi hJ hS hall hls hL l4
        have ii := zx_b_int i
        refine zy_li rfl l4 ?_
        refine zy_j0 rfl (fun _ => fin gd _ _ _ _ _ hJ hS (fun j hj => hall j (by omega) hj)) (fun h => ?_)
        have h : 2147483648 ≤ zx_b i := h
        omega
      | succ m ihO =>
        intro i gd Ψ' w' mc ms ls hm hi hJ hS hall hls hL l4
        have ii := zx_b_int i
        refine zy_li rfl l4 ?_
        refine zy_j0 rfl (fun h => ?_) (fun _ => ?_)
        · have h : zx_b i < 2147483648 := h
          omega
        refine zy_ci (n := 1) (c := 0) rfl ?_
        refine zy_si (k := 5) rfl ?_
        have inner : ∀ (m2 : Nat) (l : Int32) (gd : Nat → Int32) (Ψ' : List Nat) (w' : List zx_E) (mc ms : Nat) (ls : List (Nat × zx_V)), l.toInt + m2 = 100 → 0 ≤ l.toInt → J Ψ' w' mc ms → S gd w' → (∀ j : Nat, 100 * i.toInt ≤ (j : Int) → ((j : Int) < 100 * i.toInt + l.toInt ∨ 100 * (i.toInt + 1) ≤ (j : Int)) → (j : Int) < 100 * n.toInt → PP j (gd j)) → zx_limP w'.length ls = true → L ls → zx_look 4 ls = some (.inl i) → zx_look 5 ls = some (.inl l) → WP (44, ls, [], w', mc, ms) := by
          intro m2
          induction m2 with
          | zero =>
            intro l gd Ψ' w' mc ms ls hl hl0 hJ hS hall hls hL l4 l5
            have il := zx_b_int l
            refine zy_li rfl l5 ?_
            refine zy_ci (n := 2) (c := 100) rfl ?_
            refine zy_jt rfl (fun _ => ?_) (fun h => ?_)
            · refine zy_ik (k := 4) (n := 4294967295) rfl l4 ?_
              refine zy_goto rfl ?_
              have ei : (i + Int32.ofNat 4294967295).toInt = i.toInt - 1 := tm_dec (by decide) (by omega)
              generalize i + Int32.ofNat 4294967295 = i1 at ei ⊢
              exact ihO i1 gd Ψ' w' mc ms _ (by omega) (by omega) hJ hS (fun j hj1 hj2 => hall j (by omega) (by omega) hj2) (zy_limP_put hls rfl) (Lput hL (by decide)) zy_look_put
            · have h : zx_b l < zx_b (Int32.ofNat 100) := h
              rw [show zx_b (Int32.ofNat 100) = 2147483748 by decide] at h
              omega
          | succ m2 ih =>
            intro l gd Ψ' w' mc ms ls hl hl0 hJ hS hall hls hL l4 l5
            have il := zx_b_int l
            obtain ⟨l0, l1, l2, l3⟩ := id hL
            refine zy_li rfl l5 ?_
            refine zy_ci (n := 2) (c := 100) rfl ?_
            refine zy_jt rfl (fun h => ?_) (fun _ => ?_)
            · have h : zx_b (Int32.ofNat 100) ≤ zx_b l := h
              rw [show zx_b (Int32.ofNat 100) = 2147483748 by decide] at h
              omega
            refine zy_la rfl l0 (Or.inl ⟨_, rfl⟩) ?_
            refine zy_li rfl l1 ?_
            refine zy_li rfl l4 ?_
            refine zy_li rfl l5 ?_
            refine zy_li rfl l3 ?_
            obtain ⟨r, cy, hK, hroom, er, Ψ2, hle, hwt, hfr, x, hx54, hx1, hx2⟩ := tr_layPlace (p := p) (t := i) (l := l) (f := f) hJ.1 (hty2 hJ.2.2.1) (hRJ hJ) (h49J hJ) hS (by omega) hlt (by omega) (by omega) (by omega)
            refine zy_callX (zx_Cl_le (by decide) hK) hroom hle hwt hfr (n := 5) (st := []) rfl rfl (Nat.zero_le _) hls rfl hJ (by decide +kernel) (by decide +kernel) ?_
            intro hW2 hls2
            rw [er]
            refine zy_ik (k := 5) (n := 1) rfl l5 ?_
            refine zy_goto rfl ?_
            have el : (l + Int32.ofNat 1).toInt = l.toInt + 1 := tm_inc tm_k1 (by omega)
            refine ih (l + Int32.ofNat 1) _ Ψ2 r.2 _ _ _ (by omega) (by omega) hW2 hx54 (fun j hj1 hj2 hj3 => ?_) (zy_limP_put hls2 rfl) (Lput hL (by decide)) (zy_look_ne (by decide) rfl l4) zy_look_put
            by_cases hj : j = 100 * i.toInt.toNat + l.toInt.toNat
            · rw [hj, tg_upd_eq]
              refine ⟨hx1, fun hx0 => ?_⟩
              rw [show (100 * i.toInt.toNat + l.toInt.toNat) / 100 = i.toInt.toNat by omega, tr_ofNat (by omega)]
              exact hx2 hx0
            · rw [tg_upd_ne hj]
              exact hall j hj1 (by omega) hj3
        exact inner 100 (Int32.ofNat 0) gd Ψ' w' mc ms _ (by decide) (by decide) hJ hS (fun j hj1 hj2 hj3 => by
          have z0 : (Int32.ofNat 0).toInt = 0 := by decide
          exact hall j (by omega) hj3) (zy_limP_put hls rfl) (Lput hL (by decide)) (zy_look_ne (by decide) rfl l4) zy_look_put
    have clear : ∀ (m : Nat) (k : Int32) (w' : List zx_E) (ls : List (Nat × zx_V)), k.toInt + m = 300 → 0 ≤ k.toInt → J Ψ w' 0 0 → S gd0 w' → zx_limP w'.length ls = true → L ls → zx_look 4 ls = some (.inl k) → WP (3, ls, [], w', 0, 0) := by
      intro m
      induction m with
      | zero =>
        intro k w' ls hm hk0 hJ hS hls hL l4
        have ik := zx_b_int k
        obtain ⟨l0, l1, l2, l3⟩ := id hL
        refine zy_li rfl l4 ?_
        refine zy_ci (n := 3) (c := 300) rfl ?_
        refine zy_jt rfl (fun _ => ?_) (fun h => ?_)
        · refine zy_li rfl l2 ?_
          refine zy_ci (n := 1) (c := 1) rfl ?_
          refine zy_sub rfl ?_
          refine zy_si (k := 4) rfl ?_
          have e1 : (Int32.ofNat 1).toInt = 1 := by decide
          have en : (n - Int32.ofNat 1).toInt = n.toInt - 1 := by rw [tr_sub (by omega) (by omega), e1]
          exact outer n.toInt.toNat (n - Int32.ofNat 1) gd0 Ψ w' 0 0 _ (by omega) (by omega) hJ hS (fun j hj1 hj2 => by omega) (zy_limP_put hls rfl) (Lput hL (by decide)) zy_look_put
        · have h : zx_b k < zx_b (Int32.ofNat 300) := h
          rw [show zx_b (Int32.ofNat 300) = 2147483948 by decide] at h
          omega
      | succ m ih =>
        intro k w' ls hm hk0 hJ hS hls hL l4
        have ik := zx_b_int k
        obtain ⟨l0, l1, l2, l3⟩ := id hL
        obtain ⟨fs', n0, mm⟩ := (hJ.2.2.2 q 149 hq).1 12 fs k0
        obtain ⟨b1, b2, pay, gd', n53, hb1, kb1, n54, hb2, kb2⟩ := tr_gm hJ.1 hq n0
        have e300 : (Int32.ofNat 300 * n).toInt = 300 * n.toInt := tr_mul (c := 300) (by decide) rfl (by omega) (by omega)
        have eix : (Int32.ofNat 300 * n + k).toInt = 300 * n.toInt + k.toInt := by rw [tr_add (by omega) (by omega), e300]
        refine zy_li rfl l4 ?_
        refine zy_ci (n := 3) (c := 300) rfl ?_
        refine zy_jt rfl (fun h => ?_) (fun _ => ?_)
        · have h : zx_b (Int32.ofNat 300) ≤ zx_b k := h
          rw [show zx_b (Int32.ofNat 300) = 2147483948 by decide] at h
          omega
        refine zy_la rfl l0 (Or.inl ⟨_, rfl⟩) ?_
        refine zy_get rfl n0 n53 ?_
        refine zy_ci (n := 3) (c := 300) rfl ?_
        refine zy_li rfl l2 ?_
        refine zy_mul rfl ?_
        refine zy_li rfl l4 ?_
        refine zy_add rfl ?_
        refine zy_ci (n := 1) (c := 0) rfl ?_
        refine zy_ai rfl kb1 (tr_in (by omega) (by omega)) ?_
        have hv : ∀ a b, tj_sel [(6300, 0, 4294967295)] (Int32.ofNat 300 * n + k).toNatClampNeg = some (a, b) → a ≤ zx_b (Int32.ofNat 0) ∧ zx_b (Int32.ofNat 0) ≤ b := fun a b hs => by
          obtain ⟨e1, e2⟩ := tm_sel1 hs
          have := tj_b_lt (Int32.ofNat 0)
          omega
        have hf1 : tj_fr ([], [123]) Ψ w' (w'.set b1 (.inr (0, 6300, .inl (upd pay (Int32.ofNat 300 * n + k).toNatClampNeg (Int32.ofNat 0))))) := (tg_setA (s := [(6300, 0, 4294967295)]) (tm_W0 (E := ([], [123])) hJ.1) hb1 rfl kb1 hv (by decide +kernel)).2.2.2
        have hJ2 : J Ψ (w'.set b1 (.inr (0, 6300, .inl (upd pay (Int32.ofNat 300 * n + k).toNatClampNeg (Int32.ofNat 0))))) 0 0 := tg_setA (s := [(6300, 0, 4294967295)]) hJ hb1 rfl kb1 hv (by decide +kernel)
        have hS2 : S gd0 (w'.set b1 (.inr (0, 6300, .inl (upd pay (Int32.ofNat 300 * n + k).toNatClampNeg (Int32.ofNat 0))))) := te_fa hJ.1 hf1 (d := tj_dep 9) (by decide +kernel) (by decide +kernel) hS
        have hls2 : zx_limP (w'.set b1 (.inr (0, 6300, .inl (upd pay (Int32.ofNat 300 * n + k).toNatClampNeg (Int32.ofNat 0))))).length ls = true := by rw [List.length_set]; exact hls
        refine zy_ik (k := 4) (n := 1) rfl l4 ?_
        refine zy_goto rfl ?_
        have ek : (k + Int32.ofNat 1).toInt = k.toInt + 1 := tm_inc tm_k1 (by omega)
        exact ih (k + Int32.ofNat 1) _ _ (by omega) (by omega) hJ2 hS2 (zy_limP_put hls2 rfl) (Lput hL (by decide)) zy_look_put
    show WP (0, [(0, (.inr (.inr (.inl q)))), (1, (.inl p)), (2, (.inl n)), (3, (.inl f))], [], w, 0, 0)
    refine zy_ci (n := 1) (c := 0) rfl ?_
    refine zy_si (k := 4) rfl ?_
    exact clear 300 (Int32.ofNat 0) w _ (by decide) (by decide) (tm_W0 hw) ⟨fs, b0, k0, m54, kb0⟩ (zy_limP_put (tm_lim hlq rfl) rfl) ⟨rfl, rfl, rfl, rfl⟩ zy_look_put
set_option maxRecDepth 20000 in
theorem tr_b_layRow0 : tj_KS1 (zx_Cl zx_mt zx_rc zx_mx' 40) tj_Lam tr_h_layRow0 := by
  refine zy_method (d := 39) (dt := zx_d_X12_layRow) (by rw [← zx_q_X12_layRow]; rfl) (by decide +kernel) (by decide +kernel) ?_
  intro Ψ av w hw hty hp
  match av, hty with
  | [v0, v1, v2], ⟨⟨q, hv0, hq⟩, ⟨p, hv1, p1, p2⟩, ⟨n, hv2, n1, n2⟩, _⟩ =>
    subst hv0
    subst hv1
    subst hv2
    obtain ⟨ρ, r1, r2, r3⟩ := hp
    have e0 : ρ 0 = (.inr (.inr (.inl q))) := r1 0 _ rfl
    have e1 : ρ 1 = (.inl p) := r1 1 _ rfl
    have e2 : ρ 2 = (.inl n) := r1 2 _ rfl
    obtain ⟨bk, hv, pv, dv, tm, ho, pe, cd, rf, rt, hR, hlt⟩ := tr_lp (j := 1) (a := 3) (b := 4) (c := 5) e0 e1 (r3 (0, .inr 0, .inl 13, .inr 3) List.mem_cons_self) (r3 (0, .inr 0, .inl 39, .inr 4) (List.mem_cons_of_mem _ List.mem_cons_self)) (r3 (1, .inr 3, .inr 4, .inr 5) (List.mem_cons_of_mem _ (List.mem_cons_of_mem _ List.mem_cons_self))) (r3 (110, .inr 0, .inr 0, .inr 0) (List.mem_cons_of_mem _ (List.mem_cons_of_mem _ (List.mem_cons_of_mem _ List.mem_cons_self)))) (r3 (9932525098444199596950291534, .inr 1, .inr 5, .inl 0) (List.mem_cons_of_mem _ (List.mem_cons_of_mem _ (List.mem_cons_of_mem _ (List.mem_cons_of_mem _ (List.mem_cons_of_mem _ List.mem_cons_self))))))
    have F9 : tj_sm9 (ρ 0) (ρ 1) (ρ 2) w := r3 (112, .inr 0, .inr 1, .inr 2) (List.mem_cons_of_mem _ (List.mem_cons_of_mem _ (List.mem_cons_of_mem _ (List.mem_cons_of_mem _ List.mem_cons_self))))
    rw [e0, e1, e2] at F9
    have hR7 := hR
    obtain ⟨h39, h11, h13, h14, h24, h23, h19, h34, h26, h27, hb, hro⟩ := hR
    obtain ⟨q', bk', p', n', dv', gd, al, tm', ho', x1, x2, x3, y39, y14, h54, h49, y24, y23, hall⟩ := F9
    cases x1
    cases x2
    cases x3
    rw [tr_fi_eq y39 h39, tr_fa_eq y14 h14, tr_fa_eq y24 h24, tr_fa_eq y23 h23] at hall
    obtain ⟨fs, a, k0, k49, ka, ha, t1, t2⟩ := tr_al0 hw hq h49
    have hlq : q < w.length := (List.getElem?_eq_some_iff.mp k0).1
    obtain ⟨al', ka', tA⟩ := tj_iarr hw ha tr_segA (Or.inl rfl)
    rw [ka] at ka'
    cases ka'
    have ip := zx_b_int p
    have in' := zx_b_int n
    have i0 := zx_b_int (al 0)
    have p4 := tr_b4 hw hq h13 (j := bk.toInt.toNat) (by omega)
    have p6 := tr_b6 hw hq h14 (j := bk.toInt.toNat) (by omega)
    have e0n : (Int32.ofNat 0).toNatClampNeg = 0 := by decide
    let WP : zx_S → Prop := fun σ => zx_wp (zx_Cl zx_mt zx_rc zx_mx' 39) none (tj_P tj_c1 w, tj_P tj_c2 w) (zx_find (zx_cT zx_d_X12_layRow)) (tj_Post tj_Lam tr_h_layRow0.2.2.1 Ψ w zx_d_X12_layRow tr_h_layRow0.2.2.2.1 [(.inr (.inr (.inl q))), (.inl p), (.inl n)]) σ
    let J : List Nat → List zx_E → Nat → Nat → Prop := fun Ψ' w' mc ms => tj_W tj_Lam (tj_P tj_c1 w, tj_P tj_c2 w) tr_h_layRow0.2.2.1 Ψ w Ψ' w' mc ms
    have hRJ : ∀ {Ψ' w' mc ms}, J Ψ' w' mc ms → tr_R w' q bk hv pv dv tm ho pe cd rf rt := fun h => tr_R_fr hw h.2.2.2 (by decide +kernel) hR7
    have h49J : ∀ {Ψ' w' mc ms}, J Ψ' w' mc ms → tj_fa w' q 12 49 119 al := fun h => te_fa hw h.2.2.2 (d := tj_dep 16) (by decide +kernel) (by decide +kernel) h49
    have h54J : ∀ {Ψ' w' mc ms}, J Ψ' w' mc ms → tj_fa w' q 12 54 2000 gd := fun h => te_fa hw h.2.2.2 (d := tj_dep 9) (by decide +kernel) (by decide +kernel) h54
    have hty2 : ∀ {Ψ'}, tj_le Ψ Ψ' → Ψ'[q]? = some 149 := fun h => h _ _ hq
    have h16J : ∀ {Ψ' w' mc ms} {d : Int32}, J Ψ' w' mc ms → tj_alv al (tj_who bk al tm ho p d) → tj_sm16 (.inr (.inr (.inl q))) (.inl p) (.inl d) w' := fun {Ψ' w' mc ms d} h hA => te_so16 hw h.2.2.2 (by decide +kernel) ⟨q, bk, p, d, al, tm, ho, rfl, rfl, rfl, h39, h49, h24, h23, hA⟩
    let L : List (Nat × zx_V) → Prop := fun ls => zx_look 0 ls = some (.inr (.inr (.inl q))) ∧ zx_look 1 ls = some (.inl p) ∧ zx_look 2 ls = some (.inl n)
    have Lput : ∀ {ls : List (Nat × zx_V)} {k : Nat} {u : zx_V}, L ls → 3 ≤ k → L (zx_put k u ls) := by
      intro ls k u h hk
      obtain ⟨l0, l1, l2⟩ := h
      exact ⟨zy_look_ne (by omega) rfl l0, zy_look_ne (by omega) rfl l1, zy_look_ne (by omega) rfl l2⟩
    have loop : ∀ (m : Nat) (i l : Int32) (Ψ' : List Nat) (w' : List zx_E) (mc ms : Nat) (ls : List (Nat × zx_V)), i.toInt + m = n.toInt → 0 ≤ i.toInt → 0 ≤ l.toInt → l.toInt ≤ 99 → J Ψ' w' mc ms → zx_limP w'.length ls = true → L ls → zx_look 3 ls = some (.inl l) → zx_look 4 ls = some (.inl i) → WP (12, ls, [], w', mc, ms) := by
      intro m
      induction m with
      | zero =>
        intro i l Ψ' w' mc ms ls hm hi0 hl0 hl1 hJ hls hL l3 l4
        have ii := zx_b_int i
        obtain ⟨l0, l1, l2⟩ := id hL
        have hq1 := hty2 hJ.2.2.1
        obtain ⟨fs', n0, nl, ninv, -⟩ := tj_obj hJ.1 hq1 tr_hd
        refine zy_li rfl l4 ?_
        refine zy_li rfl l2 ?_
        refine zy_jt rfl (fun _ => ?_) (fun h => ?_)
        · refine zy_la rfl l0 (Or.inl ⟨_, rfl⟩) ?_
          refine zy_li rfl l2 ?_
          have l56 : 56 < fs'.length := by rw [nl]; decide
          refine zy_put (k := 56) rfl n0 l56 rfl ?_
          have hJ2 : J Ψ' (w'.set q (.inl (12, (fs'.set 56 (.inl n))))) mc ms := tj_W_field (t := (0, 2147483648, 2147483668)) hJ hq1 tr_hd n0 rfl ⟨n, rfl, by omega, by omega⟩ (tj_invk_ok (by decide) ninv) (by decide) (by decide +kernel)
          exact tr_retN ⟨_, _, _, rfl⟩ hJ2 ⟨⟨q, rfl, hq1⟩, ⟨p, rfl, p1, p2⟩, ⟨n, rfl, n1, n2⟩, trivial⟩
        · have h : zx_b i < zx_b n := h
          omega
      | succ m ih =>
        intro i l Ψ' w' mc ms ls hm hi0 hl0 hl1 hJ hls hL l3 l4
        have ii := zx_b_int i
        have il := zx_b_int l
        obtain ⟨l0, l1, l2⟩ := id hL
        have hq1 := hty2 hJ.2.2.1
        obtain ⟨fs', b2, n0, n54, kb2⟩ := h54J hJ
        obtain ⟨fsT, g1, -, -, g3⟩ := tj_obj hJ.1 hq1 tr_hd
        rw [n0] at g1
        cases g1
        obtain ⟨v, n55, b3, y, hb3⟩ := g3 55 (1, 125, 0) rfl
        subst y
        obtain ⟨lr, kb3, -⟩ := tj_iarr (kd := 0) (n := 20) (s := [(20, 0, 4294967295)]) hJ.1 hb3 rfl (Or.inl rfl)
        have hqb := tm_ne hq1 hb3 (by decide)
        have e100 : (Int32.ofNat 100 * i).toInt = 100 * i.toInt := tr_mul (c := 100) (by decide) rfl (by omega) (by omega)
        have eix : (Int32.ofNat 100 * i + l).toInt = 100 * i.toInt + l.toInt := by rw [tr_add (by omega) (by omega), e100]
        refine zy_li rfl l4 ?_
        refine zy_li rfl l2 ?_
        refine zy_jt rfl (fun h => ?_) (fun _ => ?_)
        · have h : zx_b n ≤ zx_b i := h
          omega
        refine zy_la rfl l0 (Or.inl ⟨_, rfl⟩) ?_
        refine zy_get rfl n0 n55 ?_
        refine zy_li rfl l4 ?_
        refine zy_la rfl l0 (Or.inl ⟨_, rfl⟩) ?_
        refine zy_get rfl n0 n54 ?_
        refine zy_ci (n := 2) (c := 100) rfl ?_
        refine zy_li rfl l4 ?_
        refine zy_mul rfl ?_
        refine zy_li rfl l3 ?_
        refine zy_add rfl ?_
        refine zy_ld rfl kb2 (tr_in (by omega) (by omega)) ?_
        refine zy_ai rfl kb3 (tr_in (by omega) (by omega)) ?_
        have hj : (Int32.ofNat 100 * i + l).toNatClampNeg = 100 * i.toInt.toNat + l.toInt.toNat := by
          show (Int32.ofNat 100 * i + l).toInt.toNat = _
          omega
        obtain ⟨hx1, hx2⟩ := hall (Int32.ofNat 100 * i + l).toNatClampNeg (by omega)
        rw [show (Int32.ofNat 100 * i + l).toNatClampNeg / 100 = i.toInt.toNat by omega, tr_ofNat (by omega)] at hx2
        generalize gd (Int32.ofNat 100 * i + l).toNatClampNeg = x at hx1 hx2 ⊢
        have ix := zx_b_int x
        have hv : ∀ a b, tj_sel [(20, 0, 4294967295)] i.toNatClampNeg = some (a, b) → a ≤ zx_b x ∧ zx_b x ≤ b := fun a b hs => by
          obtain ⟨e1, e2⟩ := tm_sel1 hs
          have := tj_b_lt x
          omega
        have hJ2 : J Ψ' (w'.set b3 (.inr (0, 20, .inl (upd lr i.toNatClampNeg x)))) mc ms := tg_setA (s := [(20, 0, 4294967295)]) hJ hb3 rfl kb3 hv (by decide +kernel)
        have hls2 : zx_limP (w'.set b3 (.inr (0, 20, .inl (upd lr i.toNatClampNeg x)))).length ls = true := by rw [List.length_set]; exact hls
        have n02 : (w'.set b3 (.inr (0, 20, .inl (upd lr i.toNatClampNeg x))))[q]? = some (.inl (12, fs')) := by rw [List.getElem?_set_ne (Ne.symm hqb)]; exact n0
        have kb32 : (w'.set b3 (.inr (0, 20, .inl (upd lr i.toNatClampNeg x))))[b3]? = some (.inr (0, 20, .inl (upd lr i.toNatClampNeg x))) := List.getElem?_set_self (List.getElem?_eq_some_iff.mp kb3).1
        generalize w'.set b3 (.inr (0, 20, .inl (upd lr i.toNatClampNeg x))) = w2 at hJ2 hls2 n02 kb32 ⊢
        have ei1 : (i + Int32.ofNat 1).toInt = i.toInt + 1 := tm_inc tm_k1 (by omega)
        refine zy_la rfl l0 (Or.inl ⟨_, rfl⟩) ?_
        refine zy_get rfl n02 n55 ?_
        refine zy_li rfl l4 ?_
        refine zy_ld rfl kb32 (tr_in (by omega) (by omega)) ?_
        rw [tg_upd_eq]
        refine zy_j0 rfl (fun _ => ?_) (fun h => ?_)
        · refine zy_ik (k := 4) (n := 1) rfl l4 ?_
          refine zy_goto rfl ?_
          exact ih (i + Int32.ofNat 1) l Ψ' w2 mc ms _ (by omega) (by omega) hl0 hl1 hJ2 (zy_limP_put hls2 rfl) (Lput hL (by decide)) (zy_look_ne (by decide) rfl l3) zy_look_put
        have h : 2147483648 ≤ zx_b x := h
        have hx0 : 0 ≤ x.toInt := by omega
        obtain ⟨fs2, a2, m0, m49, na, ha2, -, -⟩ := tr_al0 hJ2.1 hq1 (h49J hJ2)
        have es : (al 0 + i).toInt = (al 0).toInt + i.toInt := tr_add (by omega) (by omega)
        have is' := zx_b_int (al 0 + i)
        refine zy_la rfl l0 (Or.inl ⟨_, rfl⟩) ?_
        refine zy_li rfl l1 ?_
        refine zy_la rfl l0 (Or.inl ⟨_, rfl⟩) ?_
        refine zy_get rfl n02 n55 ?_
        refine zy_li rfl l4 ?_
        refine zy_ld rfl kb32 (tr_in (by omega) (by omega)) ?_
        rw [tg_upd_eq]
        refine zy_la rfl l0 (Or.inl ⟨_, rfl⟩) ?_
        refine zy_get rfl m0 m49 ?_
        refine zy_ci (n := 1) (c := 0) rfl ?_
        refine zy_ld rfl na (by decide) ?_
        rw [e0n]
        refine zy_li rfl l4 ?_
        refine zy_add rfl ?_
        refine zy_li rfl l3 ?_
        have ty : tj_typed Ψ' [(.inr (.inr (.inl q))), (.inl p), (.inl x), (.inl (al 0 + i)), (.inl l)] [(1, 149, 0), (0, 2147483648, 2147483651), (0, 2147483648, 2147483653), (0, 2147483648, 2147485648), (0, 2147483648, 2147483747)] := ⟨⟨q, rfl, hq1⟩, ⟨p, rfl, by omega, by omega⟩, ⟨x, rfl, by omega, by omega⟩, ⟨_, rfl, by omega, by omega⟩, ⟨_, rfl, by omega, by omega⟩, trivial⟩
        refine zy_call (tj_KS1_le (by decide) tr1_p17) (n := 5) (av := [(.inr (.inr (.inl q))), (.inl p), (.inl x), (.inl (al 0 + i)), (.inl l)]) (st := []) rfl rfl (by decide) hls2 rfl hJ2 ty (tr_preJ hJ2.1 hq1 (hRJ hJ2) ty hlt hx1 (h16J hJ2 (hx2 hx0))) (by decide +kernel) (by decide +kernel) ?_
        intro r cy Ψ3 o hW3 hle3 hfr3 hls3 ho' hto hro2 hho
        have e := List.mem_singleton.mp ho'
        subst e
        obtain ⟨c, e1, y, e2, y1, y2⟩ := hro2
        rw [e1, e2]
        have iy := zx_b_int y
        refine zy_si (k := 3) rfl ?_
        refine zy_ik (k := 4) (n := 1) rfl (zy_look_ne (by decide) rfl l4) ?_
        refine zy_goto rfl ?_
        exact ih (i + Int32.ofNat 1) y Ψ3 r.2 _ _ _ (by omega) (by omega) (by omega) (by omega) hW3 (zy_limP_put (zy_limP_put hls3 rfl) rfl) (Lput (Lput hL (by decide)) (by decide)) (zy_look_ne (by decide) rfl zy_look_put) zy_look_put
    have e3 : (Int32.ofNat 3).toInt = 3 := by decide
    have ei3 : (Int32.ofNat 3 + p).toInt = 3 + p.toInt := by rw [tr_add (by omega) (by omega), e3]
    have n3 : (Int32.ofNat 3 + p).toNatClampNeg = (Int32.ofNat 3 + p).toInt.toNat := rfl
    obtain ⟨A3, B3, s3, s4, s5⟩ := tj_rd_ok tr_all3r (Int32.ofNat 3 + p).toNatClampNeg (by omega) (by omega)
    have t3 := tA (Int32.ofNat 3 + p).toNatClampNeg (by omega) A3 B3 s3
    show WP (0, [(0, (.inr (.inr (.inl q)))), (1, (.inl p)), (2, (.inl n))], [], w, 0, 0)
    refine zy_la (k := 0) rfl rfl (Or.inl ⟨_, rfl⟩) ?_
    refine zy_get rfl k0 k49 ?_
    refine zy_ci (n := 1) (c := 3) rfl ?_
    refine zy_li (k := 1) rfl rfl ?_
    refine zy_add rfl ?_
    refine zy_ld rfl ka (tr_in (by omega) (by omega)) ?_
    generalize al (Int32.ofNat 3 + p).toNatClampNeg = l at t3 ⊢
    have il := zx_b_int l
    refine zy_si (k := 3) rfl ?_
    refine zy_ci (n := 1) (c := 0) rfl ?_
    refine zy_si (k := 4) rfl ?_
    have z0 : (Int32.ofNat 0).toInt = 0 := by decide
    exact loop n.toInt.toNat (Int32.ofNat 0) l Ψ w 0 0 _ (by omega) (by omega) (by omega) (by omega) (tm_W0 hw) (zy_limP_put (zy_limP_put (tm_lim hlq rfl) rfl) rfl) ⟨rfl, rfl, rfl⟩ rfl zy_look_put
