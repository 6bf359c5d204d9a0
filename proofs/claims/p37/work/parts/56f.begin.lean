/-! by hand: Sums.begin (SumsF) -/
def tm_EBF : tj_Ef := ([(56, 4), (56, 5), (56, 6), (83, 14), (83, 7)], [54, 78, 74, 76, 75, 80, 79, 77])
def tm_BF : tj_C := (330, [(1, 83, 0)], tm_EBF, [([(1, 83, 0)], none, ([], [], [(106, .inr 0, .inl 32768, .inr 0), (107, .inr 0, .inr 0, .inr 0)]))], ([], [], [(106, .inr 0, .inl 32768, .inr 0)]))
/-- counts up to there are -1 -/
def tm_unF (cF : Nat → Int32) (m : Int) : Prop := ∀ j : Nat, (j : Int) < m → (cF j).toInt = -1
set_option maxRecDepth 20000 in
theorem tm_beginF : tj_KS1 (zx_Cl zx_mt zx_rc zx_mx' 260) tj_Lam tm_BF := by
  refine zy_method (d := 259) (dt := zx_d_X9_begin) (by rw [← zx_q_X9_begin]; rfl) (by decide +kernel) (by decide +kernel) ?_
  intro Ψ av w hw hty hp
  match av, hty with
  | [v0], ⟨⟨q, hv0, hq⟩, _⟩ =>
    subst hv0
    obtain ⟨ρ, r1, r2, r3⟩ := hp
    have e0 : ρ 0 = (.inr (.inr (.inl q))) := r1 0 _ rfl
    have F1 : tj_sm3 (ρ 0) (.inl (Int32.ofNat 32768)) w := r3 (106, .inr 0, .inl 32768, .inr 0) List.mem_cons_self
    rw [e0] at F1
    obtain ⟨g0, kn, s, c, p, L, u, sF, cF, H, hP, bL, bu, bs, bc⟩ := tm_getF hw hq
    have h1 := tm_sm3e hP F1
    rw [show (Int32.ofNat 32768).toInt = 32768 by decide] at h1
    have hBD : ∀ j, j < 2100 → 0 ≤ (sF j).toInt ∧ (sF j).toInt ≤ 32768 := fun j hj => by
      have h1 := bs j hj
      have h2 := zx_b_int (sF j)
      omega
    clear r1 r2 r3 e0 F1 hty bu bs bc
    clear ρ
    have iL := zx_b_int L
    have hL : 0 ≤ L.toInt ∧ L.toInt ≤ 20 := by omega
    have hqg := tm_ne H.1 H.2.1 (by decide)
    have hqs := tm_ne H.1 H.2.2.2.1 (by decide)
    have hqc := tm_ne H.1 H.2.2.2.2.1 (by decide)
    have hsg := tm_ne H.2.2.2.1 H.2.1 (by decide)
    have hsc := tm_ne H.2.2.2.1 H.2.2.2.2.1 (by decide)
    have hcg := tm_ne H.2.2.2.2.1 H.2.1 (by decide)
    have hkq := tm_ne H.2.2.1 H.1 (by decide)
    have hkg := tm_ne H.2.2.1 H.2.1 (by decide)
    have hks := tm_ne H.2.2.1 H.2.2.2.1 (by decide)
    have hkc := tm_ne H.2.2.1 H.2.2.2.2.1 (by decide)
    let WP : zx_S → Prop := fun σ => zx_wp (zx_Cl zx_mt zx_rc zx_mx' 259) none (tj_P tj_c1 w, tj_P tj_c2 w) (zx_find (zx_cT zx_d_X9_begin)) (tj_Post tj_Lam tm_EBF Ψ w zx_d_X9_begin tm_BF.2.2.2.1 [(.inr (.inr (.inl q)))]) σ
    let J : List Nat → List zx_E → Nat → Nat → Int32 → (Nat → Int32) → (Nat → Int32) → Prop := fun Ψ' w' mc ms u sF cF => tj_W tj_Lam (tj_P tj_c1 w, tj_P tj_c2 w) tm_EBF Ψ w Ψ' w' mc ms ∧ tm_HL 83 76 77 78 79 Ψ' q g0 kn s c p ∧ tm_Pk q g0 kn s c p L u sF cF w' ∧ tm_S1 32768 sF cF
    have hsz : ∀ {w' : List zx_E} {u : Int32} {sF cF : Nat → Int32}, tm_Pk q g0 kn s c p L u sF cF w' → q < w'.length ∧ s < w'.length ∧ c < w'.length := fun h => by
      obtain ⟨fs, gs, k0, k1, k4, k5, k6, k7, k8, kg, k9, ks, kc⟩ := h
      exact ⟨(List.getElem?_eq_some_iff.mp k0).1, (List.getElem?_eq_some_iff.mp ks).1, (List.getElem?_eq_some_iff.mp kc).1⟩
    have hLt : ∀ (n w' : Nat), n < w' → zx_lim w' (.inr (.inr (.inl n))) = true := fun n w' h => Nat.ble_eq_true_of_le h
    -- the end
    have hend : ∀ (Ψ' : List Nat) (w' : List zx_E) (mc ms : Nat) (u : Int32) (sF cF : Nat → Int32) (ls : List (Nat × zx_V)), J Ψ' w' mc ms u sF cF → tm_S2 L sF cF → WP (212, ls, [], w', mc, ms) := by
      intro Ψ' w' mc ms u sF cF ls ⟨j1, j2, j3, j4⟩ h2
      have hr : tj_retT Ψ' none (none : Option zx_V) := rfl
      refine zx_wp_done ⟨(none, w'), Ψ', _, ⟨Nat.le_refl _, Nat.le_refl _, rfl, ⟨rfl, rfl⟩⟩, j1.2.1.1, j1.2.1.2, j1.2.2.1, j1.1, j1.2.2.2, List.mem_cons_self, ⟨⟨q, rfl, j2.1⟩, trivial⟩, hr, ⟨fun k => ([(.inr (.inr (.inl q)))][k]?).getD (.inr (.inr (.inr 0))), fun i v hi => ?_, fun j t hj => ?_, fun f hf => ?_⟩⟩
      · have hi : [(.inr (.inr (.inl q)))][i]? = some v := hi
        show ([(.inr (.inr (.inl q)))][i]?).getD _ = v
        rw [hi]
        rfl
      · cases hj
      · rcases List.mem_cons.mp hf with e | hf
        · subst e
          exact tm_sm3 j3 j4 (by decide)
        · have e := List.mem_singleton.mp hf
          subst e
          exact tm_sm4 j3 hL h2
    -- the sums gathered, day by day from the last
    have h164 : ∀ (n : Nat) (t : Int32) (Ψ' : List Nat) (w' : List zx_E) (mc ms : Nat) (u : Int32) (sF cF : Nat → Int32) (ls : List (Nat × zx_V)), t.toInt + 1 = n → t.toInt < L.toInt → J Ψ' w' mc ms u sF cF → tm_S2 L sF cF → (1 ≤ u.toInt ∧ u.toInt ≤ 32768) → zx_limP w'.length ls = true → zx_look 0 ls = some (.inr (.inr (.inl q))) → zx_look 1 ls = some (.inl t) → WP (164, ls, [], w', mc, ms) := by
      intro n
      induction n with
      | zero =>
        intro t Ψ' w' mc ms u sF cF ls hn htL hJ h2 hu hls l0 l1
        have bt := zx_b_int t
        refine zy_li rfl l1 ?_
        refine zy_j0 rfl (fun _ => hend Ψ' w' mc ms u sF cF _ hJ h2) (fun h => ?_)
        have h : 2147483648 ≤ zx_b t := h
        omega
      | succ n ih =>
        intro t Ψ' w' mc ms u sF cF ls hn htL hJ h2 hu hls l0 l1
        have bt := zx_b_int t
        refine zy_li rfl l1 ?_
        refine zy_j0 rfl (fun _ => hend Ψ' w' mc ms u sF cF _ hJ h2) (fun _ => ?_)
        have h170 : ∀ (m : Nat) (l : Int32) (Ψ' : List Nat) (w' : List zx_E) (mc ms : Nat) (u : Int32) (sF cF : Nat → Int32) (ls : List (Nat × zx_V)), l.toInt + m = 100 → 0 ≤ l.toInt → J Ψ' w' mc ms u sF cF → tm_S2 L sF cF → (1 ≤ u.toInt ∧ u.toInt ≤ 32768) → zx_limP w'.length ls = true → zx_look 0 ls = some (.inr (.inr (.inl q))) → zx_look 1 ls = some (.inl t) → zx_look 2 ls = some (.inl l) → WP (170, ls, [], w', mc, ms) := by
          intro m
          induction m with
          | zero =>
            intro l Ψ' w' mc ms u sF cF ls hm hl0 hJ h2 hu hls l0 l1 l2
            have bl := zx_b_int l
            refine zy_li rfl l2 ?_
            refine zy_ci (n := 2) (c := 100) rfl ?_
            refine zy_jt rfl (fun _ => ?_) (fun h => ?_)
            · refine zy_ik (k := 1) (n := 4294967295) rfl l1 ?_
              refine zy_goto rfl ?_
              have et : (t + Int32.ofNat 4294967295).toInt = t.toInt - 1 := tm_dec tg_m1 (by omega)
              exact ih _ Ψ' w' mc ms u sF cF _ (by omega) (by omega) hJ h2 hu (zy_limP_put hls rfl) (zy_look_ne (by decide) rfl l0) zy_look_put
            · have h : zx_b l < zx_b (Int32.ofNat 100) := h
              rw [tm_k100] at h
              omega
          | succ m ihm =>
            intro l Ψ' w' mc ms u sF cF ls hm hl0 hJ h2 hu hls l0 l1 l2
            have bl := zx_b_int l
            refine zy_li rfl l2 ?_
            refine zy_ci (n := 2) (c := 100) rfl ?_
            refine zy_jt rfl (fun h => ?_) (fun _ => ?_)
            · have h : zx_b (Int32.ofNat 100) ≤ zx_b l := h
              rw [tm_k100] at h
              omega
            · have el : (l + Int32.ofNat 1).toInt = l.toInt + 1 := tm_inc tm_k1 (by omega)
              have hnext : ∀ (Ψ' : List Nat) (w' : List zx_E) (mc ms : Nat) (u : Int32) (sF cF : Nat → Int32), J Ψ' w' mc ms u sF cF → tm_S2 L sF cF → (1 ≤ u.toInt ∧ u.toInt ≤ 32768) → zx_limP w'.length ls = true → WP (200, ls, [], w', mc, ms) := by
                intro Ψ' w' mc ms u sF cF hJ h2 hu hls
                refine zy_ik (k := 2) (n := 1) rfl l2 ?_
                refine zy_goto rfl ?_
                exact ihm _ Ψ' w' mc ms u sF cF _ (by omega) (by omega) hJ h2 hu (zy_limP_put hls rfl) (zy_look_ne (by decide) rfl l0) (zy_look_ne (by decide) rfl l1) zy_look_put
              have ty339 : ∀ {Ψ' : List Nat}, Ψ'[q]? = some 83 → tj_typed Ψ' [(.inr (.inr (.inl q))), (.inl t), (.inl l)] [(1, 83, 0), (0, 2147483648, 2147483667), (0, 0, 4294967295)] := fun h => ⟨⟨q, rfl, h⟩, ⟨t, rfl, by omega, by omega⟩, ⟨l, rfl, Nat.zero_le _, by have := tj_b_lt l; omega⟩, trivial⟩
              have ty338 : ∀ {Ψ' : List Nat}, Ψ'[q]? = some 83 → tj_typed Ψ' [(.inr (.inr (.inl q))), (.inl t), (.inl l)] [(1, 83, 0), (0, 2147483648, 2147483667), (0, 2147483648, 2147483747)] := fun h => ⟨⟨q, rfl, h⟩, ⟨t, rfl, by omega, by omega⟩, ⟨l, rfl, by omega, by omega⟩, trivial⟩
              refine zy_la rfl l0 (Or.inl ⟨_, rfl⟩) ?_
              refine zy_li rfl l1 ?_
              refine zy_li rfl l2 ?_
              refine zy_call (tj_KS1_le (by decide) tg_p262) (n := 3) (av := [(.inr (.inr (.inl q))), (.inl t), (.inl l)]) (st := []) rfl rfl (by decide) hls rfl hJ.1 (ty339 hJ.2.1.1) (zy_nopre (ty339 hJ.2.1.1)) (by decide +kernel) (by decide +kernel) ?_
              intro r cy Ψ1 o hW1 hle1 hfr1 hls1 ho hto hro hho
              obtain ⟨x, hx⟩ := zy_retI (by decide +kernel) ho hro
              rw [hx]
              have hJ1 : J Ψ1 r.2 (mc + cy.1) (ms + cy.2) u sF cF := ⟨hW1, tm_HL_le hJ.2.1 hle1, tm_Pk_fr hJ.2.1 hfr1 (by decide +kernel) hJ.2.2.1, hJ.2.2.2⟩
              clear hto hro hho ho hx hW1 hfr1
              generalize r.2 = w1 at hJ1 hls1 ⊢
              generalize mc + cy.1 = mc1 at hJ1 ⊢
              generalize ms + cy.2 = ms1 at hJ1 ⊢
              show WP (182, ls, [(.inl x)], w1, mc1, ms1)
              refine zy_j0 rfl (fun _ => hnext Ψ1 w1 mc1 ms1 u sF cF hJ1 h2 hu hls1) (fun _ => ?_)
              refine zy_la rfl l0 (Or.inl ⟨_, rfl⟩) ?_
              refine zy_li rfl l1 ?_
              refine zy_li rfl l2 ?_
              refine zy_call (tj_KS1_le (by decide) tg_p51) (n := 3) (av := [(.inr (.inr (.inl q))), (.inl t), (.inl l)]) (st := []) rfl rfl (by decide) hls1 rfl hJ1.1 (ty338 hJ1.2.1.1) (zy_nopre (ty338 hJ1.2.1.1)) (by decide +kernel) (by decide +kernel) ?_
              intro r cy Ψ2 o hW2 hle2 hfr2 hls2 ho hto hro hho
              obtain ⟨x, hx⟩ := zy_retI (by decide +kernel) ho hro
              rw [hx]
              have hJ2 : J Ψ2 r.2 (mc1 + cy.1) (ms1 + cy.2) u sF cF := ⟨hW2, tm_HL_le hJ1.2.1 hle2, tm_Pk_fr hJ1.2.1 hfr2 (by decide +kernel) hJ1.2.2.1, hJ1.2.2.2⟩
              clear hto hro hho ho hx hW2 hfr2
              generalize r.2 = w2 at hJ2 hls2 ⊢
              generalize mc1 + cy.1 = mc2 at hJ2 ⊢
              generalize ms1 + cy.2 = ms2 at hJ2 ⊢
              show WP (191, ls, [(.inl x)], w2, mc2, ms2)
              refine zy_j0 rfl (fun _ => hnext Ψ2 w2 mc2 ms2 u sF cF hJ2 h2 hu hls2) (fun _ => ?_)
              obtain ⟨r, cy, hK, hcy, hr0, Ψ3, u', sF', cF', hle3, hwt3, hfr3, hP3, h13, h23, hu3⟩ := tm_gatherF (d := 258) (by decide) (t := t) (l := l) hJ2.1.1 hJ2.2.1 hJ2.2.2.1 hL hJ2.2.2.2 h2 hu ⟨by omega, htL⟩ ⟨hl0, by omega⟩
              obtain ⟨hW3, hm1, hm2⟩ := zy_WK hJ2.1 hcy hle3 hwt3 hfr3 (by decide +kernel) (by decide +kernel)
              refine zy_la rfl l0 (Or.inl ⟨_, rfl⟩) ?_
              refine zy_li rfl l1 ?_
              refine zy_li rfl l2 ?_
              refine zx_wp_call (a := 0) (n := 3) (y := 335) (g := zx_no) (av := [(.inr (.inr (.inl q))), (.inl t), (.inl l)]) (st' := []) (cy := cy) (r := r) rfl rfl (Nat.le_of_ble_eq_true rfl) hls2 rfl hm1 hm2 hK ?_
              rw [hr0]
              have hlen : w2.length ≤ r.2.length := by
                rw [← hJ2.1.1.1, ← hwt3.1]
                exact tj_len_le hle3
              exact hnext Ψ3 r.2 _ _ u' sF' cF' ⟨hW3, tm_HL_le hJ2.2.1 hle3, hP3, h13⟩ h23 hu3 (tj_limP_le hlen hls2)
        refine zy_ci (n := 1) (c := 0) rfl ?_
        refine zy_si (k := 2) rfl ?_
        exact h170 100 _ Ψ' w' mc ms u sF cF _ (by decide) (by decide) hJ h2 hu (zy_limP_put hls rfl) (zy_look_ne (by decide) rfl l0) (zy_look_ne (by decide) rfl l1) zy_look_put
    have tc : ∀ {w' : List zx_E} {u : Int32} {sF cF : Nat → Int32}  , tm_Pk q g0 kn s c p L u sF cF w' → zx_limL w'.length [(.inr (.inr (.inl s)))] = true ∧ zx_limL w'.length [(.inr (.inr (.inl c)))] = true := fun {w' _ _ _} h => by
      obtain ⟨a1, a2, a3⟩ := hsz h
      constructor
      · show (Nat.blt s w'.length && true) = true
        rw [show Nat.blt s w'.length = true from Nat.ble_eq_true_of_le a2]
        rfl
      · show (Nat.blt c w'.length && true) = true
        rw [show Nat.blt c w'.length = true from Nat.ble_eq_true_of_le a3]
        rfl
    let BD : (Nat → Int32) → Prop := fun sF => ∀ j, j < 2100 → 0 ≤ (sF j).toInt ∧ (sF j).toInt ≤ 32768
    -- the stretches behind the last day
    have h108 : ∀ (m : Nat) (l : Int32) (Ψ' : List Nat) (w' : List zx_E) (mc ms : Nat) (u : Int32) (sF cF : Nat → Int32) (ls : List (Nat × zx_V)), l.toInt + m = 100 → 0 ≤ l.toInt → J Ψ' w' mc ms u sF cF → BD sF → u.toInt = 1 → tm_unF cF (100 * L.toInt) → (∀ i : Nat, (i : Int) < l.toInt → (cF (100 * L.toInt.toNat + i)).toInt = 1 ∧ (sF (100 * L.toInt.toNat + i)).toInt = 0) → zx_limP w'.length ls = true → zx_look 0 ls = some (.inr (.inr (.inl q))) → zx_look 1 ls = some (.inl l) → WP (108, ls, [], w', mc, ms) := by
      intro m
      induction m with
      | zero =>
        intro l Ψ' w' mc ms u sF cF ls hm hl0 hJ hB hu hun hin hls l0 l1
        have bl := zx_b_int l
        refine zy_li rfl l1 ?_
        refine zy_ci (n := 2) (c := 100) rfl ?_
        refine zy_jt rfl (fun _ => ?_) (fun h => ?_)
        · obtain ⟨fs, gs, k0, k1, k4, k5, k6, k7, k8, kg, k9, ks, kc⟩ := id hJ.2.2.1
          refine zy_la rfl l0 (Or.inl ⟨_, rfl⟩) ?_
          refine zy_get rfl k0 k1 ?_
          refine zy_get rfl kg k9 ?_
          refine zy_ci (n := 1) (c := 1) rfl ?_
          refine zy_sub rfl ?_
          refine zy_si (k := 1) rfl ?_
          have et : (L - Int32.ofNat 1).toInt = L.toInt - 1 := tm_sub1 tm_k1 (by omega)
          refine h164 L.toInt.toNat _ Ψ' w' mc ms u sF cF _ (by omega) (by omega) hJ ⟨fun i hi => ?_, fun i hi hl hc => ?_⟩ (by omega) (zy_limP_put hls rfl) (zy_look_ne (by decide) rfl l0) zy_look_put
          · have := (hin i (by omega)).1
            omega
          · by_cases e : (i : Int) < 100 * L.toInt
            · have := hun i e
              omega
            · obtain ⟨a1, a2⟩ := hin (i - 100 * L.toInt.toNat) (by omega)
              rw [show 100 * L.toInt.toNat + (i - 100 * L.toInt.toNat) = i by omega] at a1 a2
              omega
        · have h : zx_b l < zx_b (Int32.ofNat 100) := h
          rw [tm_k100] at h
          omega
      | succ m ihm =>
        intro l Ψ' w' mc ms u sF cF ls hm hl0 hJ hB hu hun hin0 hls l0 l1
        have bl := zx_b_int l
        refine zy_li rfl l1 ?_
        refine zy_ci (n := 2) (c := 100) rfl ?_
        refine zy_jt rfl (fun h => ?_) (fun _ => ?_)
        · have h : zx_b (Int32.ofNat 100) ≤ zx_b l := h
          rw [tm_k100] at h
          omega
        · have el : (l + Int32.ofNat 1).toInt = l.toInt + 1 := tm_inc tm_k1 (by omega)
          obtain ⟨fs, gs, k0, k1, k4, k5, k6, k7, k8, kg, k9, ks, kc⟩ := id hJ.2.2.1
          obtain ⟨v, hK, m1, m2⟩ := tg_cellK (w := w') (x := L) (l := l) (by omega) (by omega)
          have ecl : tj_cl l.toInt = l.toInt.toNat := by
            unfold tj_cl
            rw [if_neg (by omega), if_neg (by omega)]
          have bv := zx_b_int v
          obtain ⟨hin, hiv⟩ := tj_in (x := v) (n := 2100) (by omega) (by omega)
          refine zy_la rfl l0 (Or.inl ⟨_, rfl⟩) ?_
          refine zy_get rfl k0 k5 ?_
          refine zy_la rfl l0 (Or.inl ⟨_, rfl⟩) ?_
          refine zy_get rfl k0 k1 ?_
          refine zy_get rfl kg k9 ?_
          refine zy_li rfl l1 ?_
          refine zx_wp_call (a := 0) (n := 2) (y := 217) (g := zx_no) (av := [(.inl L), (.inl l)]) (st' := [(.inr (.inr (.inl s)))]) (cy := (0, 0)) (r := (some (.inl v), w')) rfl rfl (Nat.le_of_ble_eq_true rfl) hls (tc hJ.2.2.1).1 (Nat.le_trans (Nat.le_add_right mc _) hJ.1.2.1.1) (Nat.le_trans (Nat.le_add_right ms _) hJ.1.2.1.2) (zx_Cl_le (by decide) hK) ?_
          refine zy_ci (n := 1) (c := 0) rfl ?_
          refine zy_ai rfl ks hin ?_
          have i0 : (Int32.ofNat 0).toInt = 0 := by decide
          have i1 : (Int32.ofNat 1).toInt = 1 := by decide
          have hW3 := tg_setA hJ.1 hJ.2.1.2.2.2.1 (i := v.toNatClampNeg) (x := Int32.ofNat 0) (s := [(2100, 2147483648, 2147483648 + 32768)]) rfl ks (fun a b hs => by
            obtain ⟨e1, e2⟩ := tm_sel1 hs
            rw [e1, e2]
            decide) (by decide +kernel)
          have hP3 := tm_Pk_s (sF' := upd sF v.toNatClampNeg (Int32.ofNat 0)) hJ.2.2.1 (Ne.symm hqs) hsg hsc
          have hl3 : zx_limP (w'.set s (.inr (0, 2100, .inl (upd sF v.toNatClampNeg (Int32.ofNat 0))))).length ls = true := by rw [List.length_set]; exact hls
          show WP (131, ls, [], w'.set s (.inr (0, 2100, .inl (upd sF v.toNatClampNeg (Int32.ofNat 0)))), mc, ms)
          generalize w'.set s (.inr (0, 2100, .inl (upd sF v.toNatClampNeg (Int32.ofNat 0)))) = w3 at hW3 hP3 hl3 ⊢
          clear k0 k1 k4 k5 k6 k7 k8 kg k9 ks kc hK
          clear fs gs
          obtain ⟨fs, gs, k0, k1, k4, k5, k6, k7, k8, kg, k9, ks, kc⟩ := id hP3
          obtain ⟨v', hK, m1', m2'⟩ := tg_cellK (w := w3) (x := L) (l := l) (by omega) (by omega)
          have bv' := zx_b_int v'
          have hvv : v'.toNatClampNeg = v.toNatClampNeg := by
            obtain ⟨-, e⟩ := tj_in (x := v') (n := 2100) (by omega) (by omega)
            omega
          obtain ⟨hin', -⟩ := tj_in (x := v') (n := 2100) (by omega) (by omega)
          refine zy_la rfl l0 (Or.inl ⟨_, rfl⟩) ?_
          refine zy_get rfl k0 k6 ?_
          refine zy_la rfl l0 (Or.inl ⟨_, rfl⟩) ?_
          refine zy_get rfl k0 k1 ?_
          refine zy_get rfl kg k9 ?_
          refine zy_li rfl l1 ?_
          refine zx_wp_call (a := 0) (n := 2) (y := 217) (g := zx_no) (av := [(.inl L), (.inl l)]) (st' := [(.inr (.inr (.inl c)))]) (cy := (0, 0)) (r := (some (.inl v'), w3)) rfl rfl (Nat.le_of_ble_eq_true rfl) hl3 (tc hP3).2 (Nat.le_trans (Nat.le_add_right mc _) hW3.2.1.1) (Nat.le_trans (Nat.le_add_right ms _) hW3.2.1.2) (zx_Cl_le (by decide) hK) ?_
          refine zy_ci (n := 1) (c := 1) rfl ?_
          refine zy_ai rfl kc hin' ?_
          rw [hvv]
          have hW4 := tg_setA hW3 hJ.2.1.2.2.2.2.1 (i := v.toNatClampNeg) (x := Int32.ofNat 1) (s := [(2100, 2147483647, 2147483648 + 32768)]) rfl kc (fun a b hs => by
            obtain ⟨e1, e2⟩ := tm_sel1 hs
            rw [e1, e2]
            decide) (by decide +kernel)
          have hP4 := tm_Pk_c (cF' := upd cF v.toNatClampNeg (Int32.ofNat 1)) hP3 (Ne.symm hqc) hcg (Ne.symm hsc)
          have hl4 : zx_limP (w3.set c (.inr (0, 2100, .inl (upd cF v.toNatClampNeg (Int32.ofNat 1))))).length ls = true := by rw [List.length_set]; exact hl3
          show WP (148, ls, [], w3.set c (.inr (0, 2100, .inl (upd cF v.toNatClampNeg (Int32.ofNat 1)))), mc, ms)
          generalize w3.set c (.inr (0, 2100, .inl (upd cF v.toNatClampNeg (Int32.ofNat 1)))) = w4 at hW4 hP4 hl4 ⊢
          refine zy_ik (k := 1) (n := 1) rfl l1 ?_
          refine zy_goto rfl ?_
          have evi : v.toNatClampNeg = 100 * L.toInt.toNat + l.toInt.toNat := by omega
          refine ihm _ Ψ' w4 mc ms u _ _ _ (by omega) (by omega) ⟨hW4, hJ.2.1, hP4, tg_so1 hJ.2.2.2 (by omega)⟩ (fun j hj => ?_) hu (fun j hj => ?_) (fun i hi => ?_) (zy_limP_put hl4 rfl) (zy_look_ne (by decide) rfl l0) zy_look_put
          · by_cases e : j = v.toNatClampNeg
            · rw [e, tg_upd_eq, i0]
              decide
            · rw [tg_upd_ne e]
              exact hB j hj
          · rw [tg_upd_ne (by omega)]
            exact hun j hj
          · by_cases e : i = l.toInt.toNat
            · rw [show 100 * L.toInt.toNat + i = v.toNatClampNeg by omega, tg_upd_eq, tg_upd_eq]
              exact ⟨i1, i0⟩
            · rw [tg_upd_ne (by omega), tg_upd_ne (by omega)]
              exact hin0 i (by omega)
    -- what is not known yet
    have h7 : ∀ (n : Nat) (t : Int32) (Ψ' : List Nat) (w' : List zx_E) (mc ms : Nat) (u : Int32) (sF cF : Nat → Int32) (ls : List (Nat × zx_V)), t.toInt + n = L.toInt → 0 ≤ t.toInt → J Ψ' w' mc ms u sF cF → BD sF → tm_unF cF (100 * t.toInt) → zx_limP w'.length ls = true → zx_look 0 ls = some (.inr (.inr (.inl q))) → zx_look 1 ls = some (.inl t) → WP (7, ls, [], w', mc, ms) := by
      intro n
      induction n with
      | zero =>
        intro t Ψ' w' mc ms u sF cF ls hn ht0 hJ hB hun hls l0 l1
        have bt := zx_b_int t
        obtain ⟨fs, gs, k0, k1, k4, k5, k6, k7, k8, kg, k9, ks, kc⟩ := id hJ.2.2.1
        obtain ⟨fk, hfk, -⟩ := tj_iarr (kd := 0) (n := 32768) (s := [(32768, 0, 4294967295)]) hJ.1.1 hJ.2.1.2.2.1 rfl (Or.inl rfl)
        refine zy_li rfl l1 ?_
        refine zy_la rfl l0 (Or.inl ⟨_, rfl⟩) ?_
        refine zy_get rfl k0 k1 ?_
        refine zy_get rfl kg k9 ?_
        refine zy_jt rfl (fun _ => ?_) (fun h => ?_)
        · refine zy_la rfl l0 (Or.inl ⟨_, rfl⟩) ?_
          refine zy_get rfl k0 k4 ?_
          refine zy_ci (n := 1) (c := 0) rfl ?_
          refine zy_ci (n := 1) (c := 0) rfl ?_
          refine zy_ai rfl hfk (by decide +kernel) ?_
          have hW3 := tg_setA hJ.1 hJ.2.1.2.2.1 (i := (Int32.ofNat 0).toNatClampNeg) (x := Int32.ofNat 0) (s := [(32768, 0, 4294967295)]) rfl hfk (fun a b hs => by
            obtain ⟨e1, e2⟩ := tm_sel1 hs
            rw [e1, e2]
            decide) (by decide +kernel)
          have hP3 := tm_Pk_set (e := .inr (0, 32768, .inl (upd fk (Int32.ofNat 0).toNatClampNeg (Int32.ofNat 0)))) hJ.2.2.1 hkq hkg hks hkc
          have hl3 : zx_limP (w'.set kn (.inr (0, 32768, .inl (upd fk (Int32.ofNat 0).toNatClampNeg (Int32.ofNat 0))))).length ls = true := by rw [List.length_set]; exact hls
          show WP (101, ls, [], w'.set kn (.inr (0, 32768, .inl (upd fk (Int32.ofNat 0).toNatClampNeg (Int32.ofNat 0)))), mc, ms)
          generalize w'.set kn (.inr (0, 32768, .inl (upd fk (Int32.ofNat 0).toNatClampNeg (Int32.ofNat 0)))) = w3 at hW3 hP3 hl3 ⊢
          clear k0 k1 k4 k5 k6 k7 k8 kg k9 ks kc hfk
          clear fs gs
          obtain ⟨fs, gs, k0, k1, k4, k5, k6, k7, k8, kg, k9, ks, kc⟩ := id hP3
          refine zy_la rfl l0 (Or.inl ⟨_, rfl⟩) ?_
          refine zy_ci (n := 1) (c := 1) rfl ?_
          refine zy_put rfl k0 (List.getElem?_eq_some_iff.mp k7).1 rfl ?_
          have hd2 : ∃ fts, tj_Lam[83]? = some (.inl (9, 0, fts)) ∧ fts[7]? = some (0, 2147483648, 2147483648 + 32768) := ⟨_, rfl, rfl⟩
          obtain ⟨fts, hd2, t7⟩ := hd2
          have hW5 := tj_W_field hW3 hJ.2.1.1 hd2 k0 t7 (v := (.inl (Int32.ofNat 1))) ⟨_, rfl, by decide, by decide⟩ trivial rfl (by decide +kernel)
          have hP5 := tm_Pk_u (x := Int32.ofNat 1) hP3 k0 hqg hqs hqc
          refine zy_ci (n := 1) (c := 0) rfl ?_
          refine zy_si (k := 1) rfl ?_
          exact h108 100 _ Ψ' _ mc ms _ sF cF _ (by decide) (by decide) ⟨hW5, hJ.2.1, hP5, hJ.2.2.2⟩ hB (by decide) (fun j hj => hun j (by omega)) (fun i hi => by
            have h0 : (Int32.ofNat 0).toInt = 0 := by decide
            omega) (zy_limP_put (by rw [List.length_set]; exact hl3) rfl) (zy_look_ne (by decide) rfl l0) zy_look_put
        · have h : zx_b t < zx_b L := h
          omega
      | succ n ih =>
        intro t Ψ' w' mc ms u sF cF ls hn ht0 hJ hB hun hls l0 l1
        have bt := zx_b_int t
        obtain ⟨fs, gs, k0, k1, k4, k5, k6, k7, k8, kg, k9, ks, kc⟩ := id hJ.2.2.1
        refine zy_li rfl l1 ?_
        refine zy_la rfl l0 (Or.inl ⟨_, rfl⟩) ?_
        refine zy_get rfl k0 k1 ?_
        refine zy_get rfl kg k9 ?_
        refine zy_jt rfl (fun h => ?_) (fun _ => ?_)
        · have h : zx_b L ≤ zx_b t := h
          omega
        have h50 : ∀ (m : Nat) (l : Int32) (Ψ' : List Nat) (w' : List zx_E) (mc ms : Nat) (u : Int32) (sF cF : Nat → Int32) (ls : List (Nat × zx_V)), l.toInt + m = 100 → 0 ≤ l.toInt → J Ψ' w' mc ms u sF cF → BD sF → tm_unF cF (100 * t.toInt + l.toInt) → zx_limP w'.length ls = true → zx_look 0 ls = some (.inr (.inr (.inl q))) → zx_look 1 ls = some (.inl t) → zx_look 2 ls = some (.inl l) → WP (50, ls, [], w', mc, ms) := by
          intro m
          induction m with
          | zero =>
            intro l Ψ' w' mc ms u sF cF ls hm hl0 hJ hB hun hls l0 l1 l2
            have bl := zx_b_int l
            refine zy_li rfl l2 ?_
            refine zy_ci (n := 2) (c := 100) rfl ?_
            refine zy_jt rfl (fun _ => ?_) (fun h => ?_)
            · refine zy_ik (k := 1) (n := 1) rfl l1 ?_
              refine zy_goto rfl ?_
              have et : (t + Int32.ofNat 1).toInt = t.toInt + 1 := tm_inc tm_k1 (by omega)
              exact ih _ Ψ' w' mc ms u sF cF _ (by omega) (by omega) hJ hB (fun j hj => hun j (by omega)) (zy_limP_put hls rfl) (zy_look_ne (by decide) rfl l0) zy_look_put
            · have h : zx_b l < zx_b (Int32.ofNat 100) := h
              rw [tm_k100] at h
              omega
          | succ m ihm =>
            intro l Ψ' w' mc ms u sF cF ls hm hl0 hJ hB hun hls l0 l1 l2
            have bl := zx_b_int l
            refine zy_li rfl l2 ?_
            refine zy_ci (n := 2) (c := 100) rfl ?_
            refine zy_jt rfl (fun h => ?_) (fun _ => ?_)
            · have h : zx_b (Int32.ofNat 100) ≤ zx_b l := h
              rw [tm_k100] at h
              omega
            · have el : (l + Int32.ofNat 1).toInt = l.toInt + 1 := tm_inc tm_k1 (by omega)
              obtain ⟨fs, gs, k0, k1, k4, k5, k6, k7, k8, kg, k9, ks, kc⟩ := id hJ.2.2.1
              obtain ⟨v, hK, m1, m2⟩ := tg_cellK (w := w') (x := t) (l := l) (by omega) (by omega)
              have ecl : tj_cl l.toInt = l.toInt.toNat := by
                unfold tj_cl
                rw [if_neg (by omega), if_neg (by omega)]
              have bv := zx_b_int v
              obtain ⟨hin, hiv⟩ := tj_in (x := v) (n := 2100) (by omega) (by omega)
              refine zy_la rfl l0 (Or.inl ⟨_, rfl⟩) ?_
              refine zy_get rfl k0 k6 ?_
              refine zy_li rfl l1 ?_
              refine zy_li rfl l2 ?_
              refine zx_wp_call (a := 0) (n := 2) (y := 217) (g := zx_no) (av := [(.inl t), (.inl l)]) (st' := [(.inr (.inr (.inl c)))]) (cy := (0, 0)) (r := (some (.inl v), w')) rfl rfl (Nat.le_of_ble_eq_true rfl) hls (tc hJ.2.2.1).2 (Nat.le_trans (Nat.le_add_right mc _) hJ.1.2.1.1) (Nat.le_trans (Nat.le_add_right ms _) hJ.1.2.1.2) (zx_Cl_le (by decide) hK) ?_
              refine zy_ci (n := 1) (c := 4294967295) rfl ?_
              refine zy_ai rfl kc hin ?_
              have im : (Int32.ofNat 4294967295).toInt = -1 := by decide
              have hW4 := tg_setA hJ.1 hJ.2.1.2.2.2.2.1 (i := v.toNatClampNeg) (x := Int32.ofNat 4294967295) (s := [(2100, 2147483647, 2147483648 + 32768)]) rfl kc (fun a b hs => by
                obtain ⟨e1, e2⟩ := tm_sel1 hs
                rw [e1, e2]
                decide) (by decide +kernel)
              have hP4 := tm_Pk_c (cF' := upd cF v.toNatClampNeg (Int32.ofNat 4294967295)) hJ.2.2.1 (Ne.symm hqc) hcg (Ne.symm hsc)
              have hl4 : zx_limP (w'.set c (.inr (0, 2100, .inl (upd cF v.toNatClampNeg (Int32.ofNat 4294967295))))).length ls = true := by rw [List.length_set]; exact hls
              show WP (67, ls, [], w'.set c (.inr (0, 2100, .inl (upd cF v.toNatClampNeg (Int32.ofNat 4294967295)))), mc, ms)
              generalize w'.set c (.inr (0, 2100, .inl (upd cF v.toNatClampNeg (Int32.ofNat 4294967295)))) = w4 at hW4 hP4 hl4 ⊢
              have hvl : v.toNatClampNeg < 2100 := by omega
              have hJ4 : J Ψ' w4 mc ms u sF (upd cF v.toNatClampNeg (Int32.ofNat 4294967295)) := ⟨hW4, hJ.2.1, hP4, fun j hj => by
                by_cases e : j = v.toNatClampNeg
                · rw [e, tg_upd_eq, im]
                  have := (hB v.toNatClampNeg hvl).2
                  omega
                · rw [tg_upd_ne e]
                  exact hJ.2.2.2 j hj⟩
              have hun4 : tm_unF (upd cF v.toNatClampNeg (Int32.ofNat 4294967295)) (100 * t.toInt + (l + Int32.ofNat 1).toInt) := fun j hj => by
                by_cases e : j = v.toNatClampNeg
                · rw [e, tg_upd_eq, im]
                · rw [tg_upd_ne e]
                  exact hun j (by omega)
              have hnext : ∀ (Ψ' : List Nat) (w' : List zx_E) (mc ms : Nat), J Ψ' w' mc ms u sF (upd cF v.toNatClampNeg (Int32.ofNat 4294967295)) → zx_limP w'.length ls = true → WP (82, ls, [], w', mc, ms) := by
                intro Ψ' w' mc ms hJ hls
                refine zy_ik (k := 2) (n := 1) rfl l2 ?_
                refine zy_goto rfl ?_
                exact ihm _ Ψ' w' mc ms u sF _ _ (by omega) (by omega) hJ hB hun4 (zy_limP_put hls rfl) (zy_look_ne (by decide) rfl l0) (zy_look_ne (by decide) rfl l1) zy_look_put
              clear hJ hls hK k0 k1 k4 k5 k6 k7 k8 kg k9 ks kc hW4 hP4
              clear fs gs
              have ty339 : ∀ {Ψ' : List Nat}, Ψ'[q]? = some 83 → tj_typed Ψ' [(.inr (.inr (.inl q))), (.inl t), (.inl l)] [(1, 83, 0), (0, 2147483648, 2147483667), (0, 0, 4294967295)] := fun h => ⟨⟨q, rfl, h⟩, ⟨t, rfl, by omega, by omega⟩, ⟨l, rfl, Nat.zero_le _, by have := tj_b_lt l; omega⟩, trivial⟩
              have ty343 : ∀ {Ψ' : List Nat}, Ψ'[q]? = some 83 → tj_typed Ψ' [(.inr (.inr (.inl q))), (.inl t), (.inl l)] [(1, 83, 0), (0, 2147483648, 2147483667), (0, 2147483648, 2147483747)] := fun h => ⟨⟨q, rfl, h⟩, ⟨t, rfl, by omega, by omega⟩, ⟨l, rfl, by omega, by omega⟩, trivial⟩
              refine zy_la rfl l0 (Or.inl ⟨_, rfl⟩) ?_
              refine zy_li rfl l1 ?_
              refine zy_li rfl l2 ?_
              refine zy_call (tj_KS1_le (by decide) tg_p262) (n := 3) (av := [(.inr (.inr (.inl q))), (.inl t), (.inl l)]) (st := []) rfl rfl (by decide) hl4 rfl hJ4.1 (ty339 hJ4.2.1.1) (zy_nopre (ty339 hJ4.2.1.1)) (by decide +kernel) (by decide +kernel) ?_
              intro r cy Ψ1 o hW1 hle1 hfr1 hls1 ho hto hro hho
              obtain ⟨x, hx⟩ := zy_retI (by decide +kernel) ho hro
              rw [hx]
              have hJ1 : J Ψ1 r.2 (mc + cy.1) (ms + cy.2) u sF (upd cF v.toNatClampNeg (Int32.ofNat 4294967295)) := ⟨hW1, tm_HL_le hJ4.2.1 hle1, tm_Pk_fr hJ4.2.1 hfr1 (by decide +kernel) hJ4.2.2.1, hJ4.2.2.2⟩
              clear hto hro hho ho hx hW1 hfr1
              generalize r.2 = w1 at hJ1 hls1 ⊢
              generalize mc + cy.1 = mc1 at hJ1 ⊢
              generalize ms + cy.2 = ms1 at hJ1 ⊢
              show WP (73, ls, [(.inl x)], w1, mc1, ms1)
              refine zy_j0 rfl (fun _ => hnext Ψ1 w1 mc1 ms1 hJ1 hls1) (fun _ => ?_)
              refine zy_la rfl l0 (Or.inl ⟨_, rfl⟩) ?_
              refine zy_li rfl l1 ?_
              refine zy_li rfl l2 ?_
              refine zy_call (tj_KS1_le (by decide) tg_p49) (n := 3) (av := [(.inr (.inr (.inl q))), (.inl t), (.inl l)]) (st := []) rfl rfl (by decide) hls1 rfl hJ1.1 (ty343 hJ1.2.1.1) (zy_nopre (ty343 hJ1.2.1.1)) (by decide +kernel) (by decide +kernel) ?_
              intro r cy Ψ2 o hW2 hle2 hfr2 hls2 ho hto hro hho
              rw [zy_retN (by decide +kernel) ho hro]
              exact hnext Ψ2 r.2 _ _ ⟨hW2, tm_HL_le hJ1.2.1 hle2, tm_Pk_fr hJ1.2.1 hfr2 (by decide +kernel) hJ1.2.2.1, hJ1.2.2.2⟩ hls2
        have hdg : ∃ gts, tj_Lam[61]? = some (.inl (1, 0, gts)) ∧ gts[1]? = some (1, 33, 0) ∧ gts[2]? = some (1, 56, 0) ∧ gts[8]? = some (0, 2147483648, 2147483651) := ⟨_, rfl, rfl, rfl, rfl⟩
        obtain ⟨gts, hdg, u1, u2, u8⟩ := hdg
        have hdn : ∃ nts, tj_Lam[33]? = some (.inl (8, 0, nts)) ∧ nts[0]? = some (0, 0, 4294967295) := ⟨_, rfl, rfl⟩
        obtain ⟨nts, hdn, u0⟩ := hdn
        obtain ⟨gs', hg', -, -, htg⟩ := tj_obj hJ.1.1 hJ.2.1.2.1 hdg
        rw [kg] at hg'
        cases hg'
        obtain ⟨x1, g1, nw, y1, p1⟩ := htg 1 _ u1
        obtain ⟨x2, g2, co, y2, p2⟩ := htg 2 _ u2
        obtain ⟨x8, g8, ps, y8, p8⟩ := htg 8 _ u8
        subst y1 y2 y8
        obtain ⟨ns, hn', -, -, htn⟩ := tj_obj hJ.1.1 p1 hdn
        obtain ⟨x0, n0, dy, y0, p0⟩ := htn 0 _ u0
        subst y0
        refine zy_la rfl l0 (Or.inl ⟨_, rfl⟩) ?_
        refine zy_get rfl k0 k1 ?_
        refine zy_get rfl kg g2 ?_
        refine zy_la rfl l0 (Or.inl ⟨_, rfl⟩) ?_
        refine zy_get rfl k0 k1 ?_
        refine zy_get rfl kg g8 ?_
        refine zy_la rfl l0 (Or.inl ⟨_, rfl⟩) ?_
        refine zy_get rfl k0 k1 ?_
        refine zy_get rfl kg g1 ?_
        refine zy_get rfl hn' n0 ?_
        refine zy_li rfl l1 ?_
        refine zy_add rfl ?_
        have ty19 : tj_typed Ψ' [(.inr (.inr (.inl co))), (.inl ps), (.inl (dy + t))] [(1, 56, 0), (0, 0, 4294967295), (0, 0, 4294967295)] := ⟨⟨co, rfl, p2⟩, ⟨ps, rfl, Nat.zero_le _, by have := tj_b_lt ps; omega⟩, ⟨_, rfl, Nat.zero_le _, by have := tj_b_lt (dy + t); omega⟩, trivial⟩
        refine zy_call (tj_KS1_le (by decide) te_p86) (n := 3) (av := [(.inr (.inr (.inl co))), (.inl ps), (.inl (dy + t))]) (st := []) rfl rfl (by decide) hls rfl hJ.1 ty19 (zy_nopre ty19) (by decide +kernel) (by decide +kernel) ?_
        intro r cy Ψ1 o hW1 hle1 hfr1 hls1 ho hto hro hho
        obtain ⟨x, hx⟩ := zy_retI (by decide +kernel) ho hro
        rw [hx]
        refine zy_popI rfl ?_
        refine zy_ci (n := 1) (c := 0) rfl ?_
        refine zy_si (k := 2) rfl ?_
        exact h50 100 _ Ψ1 r.2 _ _ u sF cF _ (by decide) (by decide) ⟨hW1, tm_HL_le hJ.2.1 hle1, tm_Pk_fr hJ.2.1 hfr1 (by decide +kernel) hJ.2.2.1, hJ.2.2.2⟩ hB (fun j hj => hun j (by
          have h0 : (Int32.ofNat 0).toInt = 0 := by decide
          omega)) (zy_limP_put hls1 rfl) (zy_look_ne (by decide) rfl l0) (zy_look_ne (by decide) rfl l1) zy_look_put
    have hd2 : ∃ fts, tj_Lam[83]? = some (.inl (9, 0, fts)) ∧ fts.length = 17 ∧ fts[14]? = some (0, 2147483648, 2147483649) := ⟨_, rfl, rfl, rfl⟩
    obtain ⟨fts, hd2, hl2, t14⟩ := hd2
    obtain ⟨fs, gs, k0, k1, k4, k5, k6, k7, k8, kg, k9, ks, kc⟩ := id hP
    obtain ⟨fs', hf', hlen, -, -⟩ := tj_obj hw hq hd2
    rw [k0] at hf'
    cases hf'
    have hW0 := tm_W0 (E := tm_EBF) hw
    show WP (0, [(0, (.inr (.inr (.inl q))))], [], w, 0, 0)
    refine zy_la (k := 0) rfl rfl (Or.inl ⟨_, rfl⟩) ?_
    refine zy_ci (n := 1) (c := 0) rfl ?_
    refine zy_put rfl k0 (by rw [hlen, hl2]; decide) rfl ?_
    have hW1 := tj_W_field hW0 hq hd2 k0 t14 (v := (.inl (Int32.ofNat 0))) ⟨_, rfl, by decide, by decide⟩ trivial rfl (by decide +kernel)
    have hP1 := tm_Pk_q (v := (.inl (Int32.ofNat 0))) hP k0 hqg hqs hqc (k := 14) (by decide)
    refine zy_ci (n := 1) (c := 0) rfl ?_
    refine zy_si (k := 1) rfl ?_
    have h0 : (Int32.ofNat 0).toInt = 0 := by decide
    exact h7 L.toInt.toNat _ Ψ _ 0 0 u sF cF _ (by omega) (by omega) ⟨hW1, H, hP1, h1⟩ hBD (fun j hj => by omega) (zy_limP_put (tm_lim (k := 0) (hsz hP1).1 rfl) rfl) (zy_look_ne (by decide) rfl rfl) zy_look_put
