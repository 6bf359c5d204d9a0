/-! by hand: goThrough -/
set_option maxRecDepth 20000 in
theorem tr_bitsK {w : List zx_E} (s : Int32) : ∃ v : Int32, zx_Cl zx_mt zx_rc zx_mx' 1 90 [(.inl s)] w (0, 0) (some (.inl v), w) := by
  let P : zx_R → Prop := fun r => r.2 = w ∧ ∃ x : Int32, r.1 = some (.inl x)
  let WP : zx_S → Prop := fun σ => zx_wp (zx_Cl zx_mt zx_rc zx_mx' 0) none (0, 0) (zx_find (zx_cT zx_d_X12_bitsOf)) (fun σ => ∃ r, zx_ret (zx_find (zx_cT zx_d_X12_bitsOf)) (0, 0) σ r ∧ P r) σ
  have loop : ∀ (m : Nat) (k n : Int32) (ls : List (Nat × zx_V)), k.toBitVec.toNat = m → zx_look 1 ls = some (.inl n) → zx_look 2 ls = some (.inl k) → WP (4, ls, [], w, 0, 0) := by
    intro m
    induction m using Nat.strongRecOn with
    | _ m ih =>
      intro k n ls hm l1 l2
      refine zy_li rfl l2 ?_
      refine zy_j0 rfl (fun _ => ?_) (fun hne => ?_)
      · refine zy_li rfl l1 ?_
        exact zx_wp_done ⟨(some (.inl n), w), ⟨Nat.le_refl _, Nat.le_refl _, rfl, ⟨_, rfl, rfl⟩⟩, rfl, n, rfl⟩
      · have hne : zx_b k ≠ 2147483648 := hne
        have hk : k ≠ 0 := fun e => by
          rw [e] at hne
          exact hne (by decide)
        have hlt := tr_bits k hk
        refine zy_ik (k := 1) (n := 1) rfl l1 ?_
        have l2' : zx_look 2 (zx_put 1 (.inl (n + Int32.ofNat 1)) ls) = some (.inl k) := zy_look_ne (by decide) rfl l2
        refine zy_li rfl l2' ?_
        refine zy_li rfl l2' ?_
        refine zy_ci (n := 1) (c := 1) rfl ?_
        refine zy_sub rfl ?_
        refine zy_and rfl ?_
        refine zy_si (k := 2) rfl ?_
        refine zy_goto rfl ?_
        exact ih _ (by rw [← hm]; exact hlt) _ (n + Int32.ofNat 1) _ rfl (zy_look_ne (by decide) rfl zy_look_put) zy_look_put
  have key : ∃ r, zx_Cl zx_mt zx_rc zx_mx' 1 90 [(.inl s)] w (0, 0) r ∧ P r := by
    refine zy_funE (d := 0) (dt := zx_d_X12_bitsOf) (by rw [← zx_q_X12_bitsOf]; rfl) (by rw [(by decide +kernel : zx_rc 90 = 0)]; trivial) (by decide +kernel : 1 ≤ zx_mx' 90) ?_
    show WP (0, [(0, (.inl s))], [], w, 0, 0)
    refine zy_ci (n := 1) (c := 0) rfl ?_
    refine zy_si (k := 1) rfl ?_
    refine zy_li (k := 0) rfl rfl ?_
    refine zy_si (k := 2) rfl ?_
    exact loop _ s (Int32.ofNat 0) _ rfl rfl rfl
  obtain ⟨⟨r1, r2⟩, hr, e1, v, e2⟩ := key
  have e1 : r2 = w := e1
  have e2 : r1 = some (.inl v) := e2
  subst e1
  subst e2
  exact ⟨v, hr⟩
set_option maxRecDepth 20000 in
theorem tr_b_goThrough0 : tj_KS1 (zx_Cl zx_mt zx_rc zx_mx' 6) tj_Lam tr_h_goThrough0 := by
  refine zy_method (d := 5) (dt := zx_d_X12_goThrough) (by rw [← zx_q_X12_goThrough]; rfl) (by decide +kernel) (by decide +kernel) ?_
  intro Ψ av w hw hty _
  match av, hty with
  | [v0, v1], ⟨⟨q, hv0, hq⟩, ⟨mo, hv1, mo1, mo2⟩, _⟩ =>
    subst hv0
    subst hv1
    have hty2 : tj_typed Ψ [(.inr (.inr (.inl q))), (.inl mo)] [(1, 149, 0), (0, 2147483648, 2147483649)] := ⟨⟨q, rfl, hq⟩, ⟨mo, rfl, mo1, mo2⟩, trivial⟩
    -- what stands in the object
    obtain ⟨al, h49⟩ := tr_all hw hq
    obtain ⟨fs, a, k0, k49, ka, ha, -, -⟩ := tr_al0 hw hq h49
    have hlq : q < w.length := (List.getElem?_eq_some_iff.mp k0).1
    obtain ⟨fsT, f1, fl, finv, f3⟩ := tj_obj hw hq tr_hd
    rw [k0] at f1
    cases f1
    obtain ⟨v, k39, bk, y, bk1, bk2⟩ := f3 39 (0, 2147483648, 2147483649) rfl
    subst y
    obtain ⟨v, k11, b11, y, hb11⟩ := f3 11 (1, 103, 0) rfl
    subst y
    obtain ⟨hv, kb11, bN⟩ := tj_iarr (kd := 0) (n := 2) (s := [(2, 2147483648, 2147483656)]) hw hb11 rfl (Or.inl rfl)
    obtain ⟨v, k59, b59, y, hb59⟩ := f3 59 (1, 127, 0) rfl
    subst y
    obtain ⟨O0, kb59, bO0⟩ := tj_iarr (kd := 0) (n := 8) (s := [(8, 2147483647, 2147483655)]) hw hb59 rfl (Or.inl rfl)
    obtain ⟨v, k62, b62, y, hb62⟩ := f3 62 (1, 129, 0) rfl
    subst y
    obtain ⟨P0, kb62, bP0⟩ := tj_iarr (kd := 0) (n := 9) (s := [(9, 2147483647, 2147483655)]) hw hb62 rfl (Or.inl rfl)
    obtain ⟨v, k21, b21, y, hb21⟩ := f3 21 (1, 113, 0) rfl
    subst y
    obtain ⟨lk, kb21, -⟩ := tj_iarr (kd := 0) (n := 128) (s := [(128, 2147483648, 2147483657)]) hw hb21 rfl (Or.inl rfl)
    obtain ⟨v, k61, x61, y, -, -⟩ := f3 61 (0, 0, 4294967295) rfl
    subst y
    have ibk := zx_b_int bk
    have hb : bk.toInt = 0 ∨ bk.toInt = 1 := by omega
    have h39 : tj_fi w q 12 39 bk := ⟨fs, k0, k39⟩
    have h11 : tj_fa w q 12 11 2 hv := ⟨fs, b11, k0, k11, kb11⟩
    have h21 : tj_fa w q 12 21 128 lk := ⟨fs, b21, k0, k21, kb21⟩
    have bN1 := bN bk.toInt.toNat (by omega) 2147483648 2147483656 (by
      unfold tj_sel
      rw [show Nat.blt bk.toInt.toNat 2 = true from Nat.ble_eq_true_of_le (by omega)])
    have ebn : bk.toNatClampNeg = bk.toInt.toNat := rfl
    have iN := zx_b_int (hv bk.toInt.toNat)
    have hN0 : 0 ≤ (hv bk.toInt.toNat).toInt := by omega
    have hN8 : (hv bk.toInt.toNat).toInt ≤ 8 := by omega
    have e0n : (Int32.ofNat 0).toNatClampNeg = 0 := by decide
    have e2n : (Int32.ofNat 2).toNatClampNeg = 2 := by decide
    have em1 : (Int32.ofNat 4294967295).toInt = -1 := by decide
    have ez : (Int32.ofNat 0).toInt = 0 := by decide
    let WP : zx_S → Prop := fun σ => zx_wp (zx_Cl zx_mt zx_rc zx_mx' 5) none (tj_P tj_c1 w, tj_P tj_c2 w) (zx_find (zx_cT zx_d_X12_goThrough)) (tj_Post tj_Lam tr_h_goThrough0.2.2.1 Ψ w zx_d_X12_goThrough tr_h_goThrough0.2.2.2.1 [(.inr (.inr (.inl q))), (.inl mo)]) σ
    let J : List Nat → List zx_E → Nat → Nat → Prop := fun Ψ' w' mc ms => tj_W tj_Lam (tj_P tj_c1 w, tj_P tj_c2 w) tr_h_goThrough0.2.2.1 Ψ w Ψ' w' mc ms
    have hty3 : ∀ {Ψ'}, tj_le Ψ Ψ' → Ψ'[q]? = some 149 := fun h => h _ _ hq
    let OP : (Nat → Int32) → (Nat → Int32) → List zx_E → Prop := fun O P w' => tj_fa w' q 12 59 8 O ∧ tj_fa w' q 12 62 9 P
    have hGJ : ∀ {Ψ' w' mc ms O P}, J Ψ' w' mc ms → OP O P w' → tr_G w' q bk hv al O lk := fun h hO => ⟨te_fi hw h.2.2.2 (d := tj_dep 7) (by decide +kernel) (by decide +kernel) h39, te_fa hw h.2.2.2 (d := tj_dep 7) (by decide +kernel) (by decide +kernel) h11, te_fa hw h.2.2.2 (d := tj_dep 16) (by decide +kernel) (by decide +kernel) h49, hO.1, te_fa hw h.2.2.2 (d := ([(149, 21)], [113])) (by decide +kernel) (by decide +kernel) h21, hb, hN0, hN8⟩
    -- the cells of both arrays, in any world on the way; one of them written
    have cells : ∀ {Ψ' w' mc ms O P}, J Ψ' w' mc ms → OP O P w' → ∃ fs' b c, w'[q]? = some (.inl (12, fs')) ∧ fs'[59]? = some (.inr (.inr (.inl b))) ∧ fs'[62]? = some (.inr (.inr (.inl c))) ∧ w'[b]? = some (.inr (0, 8, .inl O)) ∧ w'[c]? = some (.inr (0, 9, .inl P)) ∧ b < w'.length ∧ c < w'.length ∧ (∀ (i : Nat) (x : Int32), -1 ≤ x.toInt → x.toInt ≤ 7 → J Ψ' (w'.set b (.inr (0, 8, .inl (upd O i x)))) mc ms ∧ OP (upd O i x) P (w'.set b (.inr (0, 8, .inl (upd O i x)))) ∧ (w'.set b (.inr (0, 8, .inl (upd O i x)))).length = w'.length) ∧ (∀ (i : Nat) (x : Int32), -1 ≤ x.toInt → x.toInt ≤ 7 → J Ψ' (w'.set c (.inr (0, 9, .inl (upd P i x)))) mc ms ∧ OP O (upd P i x) (w'.set c (.inr (0, 9, .inl (upd P i x)))) ∧ (w'.set c (.inr (0, 9, .inl (upd P i x)))).length = w'.length) := by
      intro Ψ' w' mc ms O P hJ hO
      obtain ⟨⟨fs', b, m0, m59, kb⟩, fs2, c, m0', m62, kc⟩ := hO
      rw [m0] at m0'
      cases m0'
      have hq1 := hty3 hJ.2.2.1
      obtain ⟨fsT, f1, -, -, f3⟩ := tj_obj hJ.1 hq1 tr_hd
      rw [m0] at f1
      cases f1
      obtain ⟨v, g, b', y, hb'⟩ := f3 59 (1, 127, 0) rfl
      rw [m59] at g
      cases g
      cases y
      obtain ⟨v, g, c', y, hc'⟩ := f3 62 (1, 129, 0) rfl
      rw [m62] at g
      cases g
      cases y
      have hqb := tm_ne hq1 hb' (by decide)
      have hqc := tm_ne hq1 hc' (by decide)
      have hcb := tm_ne hc' hb' (by decide)
      have hlb := (List.getElem?_eq_some_iff.mp kb).1
      have hlc := (List.getElem?_eq_some_iff.mp kc).1
      refine ⟨fs', b, c, m0, m59, m62, kb, kc, hlb, hlc, fun i x x1 x2 => ?_, fun i x x1 x2 => ?_⟩
      · have ix := zx_b_int x
        have hv1 : ∀ a b, tj_sel [(8, 2147483647, 2147483655)] i = some (a, b) → a ≤ zx_b x ∧ zx_b x ≤ b := fun a b hs => by
          obtain ⟨e1, e2⟩ := tm_sel1 hs
          omega
        exact ⟨tg_setA (s := [(8, 2147483647, 2147483655)]) hJ hb' rfl kb hv1 (by decide +kernel), ⟨⟨fs', b, by rw [List.getElem?_set_ne (Ne.symm hqb)]; exact m0, m59, List.getElem?_set_self hlb⟩, ⟨fs', c, by rw [List.getElem?_set_ne (Ne.symm hqb)]; exact m0, m62, by rw [List.getElem?_set_ne (Ne.symm hcb)]; exact kc⟩⟩, List.length_set⟩
      · have ix := zx_b_int x
        have hv1 : ∀ a b, tj_sel [(9, 2147483647, 2147483655)] i = some (a, b) → a ≤ zx_b x ∧ zx_b x ≤ b := fun a b hs => by
          obtain ⟨e1, e2⟩ := tm_sel1 hs
          omega
        exact ⟨tg_setA (s := [(9, 2147483647, 2147483655)]) hJ hc' rfl kc hv1 (by decide +kernel), ⟨⟨fs', b, by rw [List.getElem?_set_ne (Ne.symm hqc)]; exact m0, m59, by rw [List.getElem?_set_ne hcb]; exact kb⟩, ⟨fs', c, by rw [List.getElem?_set_ne (Ne.symm hqc)]; exact m0, m62, List.getElem?_set_self hlc⟩⟩, List.length_set⟩
    have cntK : ∀ {Ψ' w' mc ms}, J Ψ' w' mc ms → ∃ fs' b, w'[q]? = some (.inl (12, fs')) ∧ fs'[11]? = some (.inr (.inr (.inl b))) ∧ fs'[39]? = some (.inl bk) ∧ w'[b]? = some (.inr (0, 2, .inl hv)) := by
      intro Ψ' w' mc ms hJ
      obtain ⟨fs', m0, m39⟩ := te_fi hw hJ.2.2.2 (d := tj_dep 7) (by decide +kernel) (by decide +kernel) h39
      obtain ⟨fs2, b, m0', m11, kb⟩ := te_fa hw hJ.2.2.2 (d := tj_dep 7) (by decide +kernel) (by decide +kernel) h11
      rw [m0] at m0'
      cases m0'
      exact ⟨fs', b, m0, m11, m39, kb⟩
    -- the end
    have fin : ∀ (Ψ' : List Nat) (w' : List zx_E) (mc ms : Nat) (best : Int32) (ls : List (Nat × zx_V)), J Ψ' w' mc ms → zx_look 0 ls = some (.inr (.inr (.inl q))) → zx_look 5 ls = some (.inl best) → WP (310, ls, [], w', mc, ms) := by
      intro Ψ' w' mc ms best ls hJ l0 l5
      have hq1 := hty3 hJ.2.2.1
      obtain ⟨fs', n0, nl, ninv, -⟩ := tj_obj hJ.1 hq1 tr_hd
      refine zy_la rfl l0 (Or.inl ⟨_, rfl⟩) ?_
      refine zy_li rfl l5 ?_
      have l63 : 63 < fs'.length := by rw [nl]; decide
      refine zy_put (k := 63) rfl n0 l63 rfl ?_
      have hJ2 : J Ψ' (w'.set q (.inl (12, (fs'.set 63 (.inl best))))) mc ms := tj_W_field (t := (0, 0, 4294967295)) hJ hq1 tr_hd n0 rfl (tr_full _) (tj_invk_ok (r := 3) (k := 63) rfl ninv) rfl (by decide +kernel)
      exact tr_retN ⟨_, _, _, rfl⟩ hJ2 ⟨⟨q, rfl, hq1⟩, ⟨mo, rfl, mo1, mo2⟩, trivial⟩
    -- the search
    have main : ∀ (m : Nat) (s : List (Nat × Nat)) (O P : Nat → Int32) (odd lf dp best from' x : Int32) (Ψ' : List Nat) (w' : List zx_E) (mc ms : Nat) (ls : List (Nat × zx_V)), 512000000000 - (tr_mv s + 2 * (from'.toInt + 1).toNat * tr_wt s.length) = m → tr_gd al (hv bk.toInt.toNat).toInt s → s.length ≤ 8 → tr_sk P s → P s.length = x → tr_FF al (hv bk.toInt.toNat).toInt (tr_ex s) x → -1 ≤ from'.toInt → from'.toInt ≤ 8 → (0 ≤ x.toInt → 0 ≤ from'.toInt) → (∀ j, j < 8 → O j = tr_ex s j) → dp.toInt = s.length → J Ψ' w' mc ms → OP O P w' → zx_limP w'.length ls = true → zx_look 0 ls = some (.inr (.inr (.inl q))) → zx_look 1 ls = some (.inl mo) → zx_look 2 ls = some (.inl odd) → zx_look 3 ls = some (.inl lf) → zx_look 4 ls = some (.inl dp) → zx_look 5 ls = some (.inl best) → zx_look 6 ls = some (.inl from') → WP (78, ls, [], w', mc, ms) := by
      intro m
      induction m using Nat.strongRecOn with
      | _ m ih =>
        intro s O P odd lf dp best from' x Ψ' w' mc ms ls hm hgd hsl hsk hPx hFF hf1 hf2 hfx hOx hdp hJ hO hls l0 l1 l2 l3 l4 l5 l6
        have idp := zx_b_int dp
        have ix := zx_b_int x
        have hmv := tr_mv_le hgd hsl
        have hwp := tr_wt_p (d := s.length)
        obtain ⟨fs', b, c, m0, m59, m62, kb, kc, hlb, hlc, wO, wP⟩ := cells hJ hO
        obtain ⟨fs'', cb, m0', m11, m39, kcb⟩ := cntK hJ
        rw [m0] at m0'
        cases m0'
        have hdn : dp.toNatClampNeg = s.length := by
          show dp.toInt.toNat = _
          omega
        have hmul : 2 * (from'.toInt + 1).toNat * tr_wt s.length ≤ 18 * tr_wt s.length := Nat.mul_le_mul_right _ (by omega)
        -- one pair less
        have pop : ∀ (best' : Int32) (Ψ2 : List Nat) (w2 : List zx_E) (mc2 ms2 : Nat) (ls2 : List (Nat × zx_V)), J Ψ2 w2 mc2 ms2 → OP O P w2 → zx_limP w2.length ls2 = true → zx_look 0 ls2 = some (.inr (.inr (.inl q))) → zx_look 1 ls2 = some (.inl mo) → zx_look 2 ls2 = some (.inl odd) → zx_look 3 ls2 = some (.inl lf) → zx_look 4 ls2 = some (.inl dp) → zx_look 5 ls2 = some (.inl best') → WP (239, ls2, [], w2, mc2, ms2) := by
          intro best' Ψ2 w2 mc2 ms2 ls2 hJ2 hO2 hls2 n0 n1 n2 n3 n4 n5
          have ed : (dp + Int32.ofNat 4294967295).toInt = dp.toInt - 1 := tm_dec (by decide) (by omega)
          have id1 := zx_b_int (dp + Int32.ofNat 4294967295)
          refine zy_ik (k := 4) (n := 4294967295) rfl n4 ?_
          have q0 : zx_look 0 (zx_put 4 (.inl (dp + Int32.ofNat 4294967295)) ls2) = some (.inr (.inr (.inl q))) := zy_look_ne (by decide) rfl n0
          have q1 : zx_look 1 (zx_put 4 (.inl (dp + Int32.ofNat 4294967295)) ls2) = some (.inl mo) := zy_look_ne (by decide) rfl n1
          have q2 : zx_look 2 (zx_put 4 (.inl (dp + Int32.ofNat 4294967295)) ls2) = some (.inl odd) := zy_look_ne (by decide) rfl n2
          have q3 : zx_look 3 (zx_put 4 (.inl (dp + Int32.ofNat 4294967295)) ls2) = some (.inl lf) := zy_look_ne (by decide) rfl n3
          have q5 : zx_look 5 (zx_put 4 (.inl (dp + Int32.ofNat 4294967295)) ls2) = some (.inl best') := zy_look_ne (by decide) rfl n5
          have q4 : zx_look 4 (zx_put 4 (.inl (dp + Int32.ofNat 4294967295)) ls2) = some (.inl (dp + Int32.ofNat 4294967295)) := zy_look_put
          have hls3 : zx_limP w2.length (zx_put 4 (.inl (dp + Int32.ofNat 4294967295)) ls2) = true := zy_limP_put hls2 rfl
          generalize zx_put 4 (.inl (dp + Int32.ofNat 4294967295)) ls2 = ls3 at q0 q1 q2 q3 q4 q5 hls3 ⊢
          generalize dp + Int32.ofNat 4294967295 = d1 at ed id1 q4
          have d1n : d1.toNatClampNeg = d1.toInt.toNat := rfl
          refine zy_li rfl q4 ?_
          match s, hgd, hsl, hsk, hOx, hdp, hm, hmv, hwp, hmul with
          | [], _, _, _, _, hdp, _, _, _, _ =>
            have hdp : dp.toInt = 0 := hdp
            refine zy_j0 rfl (fun h => ?_) (fun _ => ?_)
            · have h : 2147483648 ≤ zx_b d1 := h
              omega
            refine zy_goto rfl ?_
            refine zy_li rfl q4 ?_
            refine zy_j0 rfl (fun _ => fin _ _ _ _ best' _ hJ2 q0 q5) (fun h => ?_)
            have h : 2147483648 ≤ zx_b d1 := h
            omega
          | (h, o) :: s', hgd, hsl, hsk, hOx, hdp, hm, hmv, hwp, hmul =>
            have hdp : dp.toInt = ((s'.length + 1 : Nat) : Int) := hdp
            have hsl : s'.length + 1 ≤ 8 := hsl
            obtain ⟨g1, g2, g3, g4, g5, g6⟩ := hgd
            have c1 := tr_c0 g3
            have c2 := tr_c0 g4
            obtain ⟨k1, k2⟩ := hsk
            obtain ⟨fs2, b2, c2', p0, p59, p62, pb, pc, hlb2, hlc2, wO2, wP2⟩ := cells hJ2 hO2
            refine zy_j0 rfl (fun _ => ?_) (fun h' => ?_)
            rotate_left
            · have h' : zx_b d1 < 2147483648 := h'
              omega
            have hd1 : d1.toNatClampNeg = s'.length := by omega
            refine zy_la rfl q0 (Or.inl ⟨_, rfl⟩) ?_
            refine zy_get rfl p0 p62 ?_
            refine zy_li rfl q4 ?_
            refine zy_ld rfl pc (tr_in (by omega) (by omega)) ?_
            rw [hd1, k2]
            refine zy_si (k := 7) rfl ?_
            refine zy_la rfl (zy_look_ne (by decide) rfl q0) (Or.inl ⟨_, rfl⟩) ?_
            refine zy_get rfl p0 p59 ?_
            refine zy_li rfl zy_look_put ?_
            refine zy_ld rfl pb (tr_in (by omega) (by omega)) ?_
            have hhn : (Int32.ofNat h).toNatClampNeg = h := by
              show (Int32.ofNat h).toInt.toNat = h
              omega
            have hon : (Int32.ofNat o).toNatClampNeg = o := by
              show (Int32.ofNat o).toInt.toNat = o
              omega
            rw [hhn, hOx h g3, tr_ex_h]
            refine zy_si (k := 8) rfl ?_
            have hls4 : zx_limP w2.length (zx_put 8 (.inl (Int32.ofNat o)) (zx_put 7 (.inl (Int32.ofNat h)) ls3)) = true := zy_limP_put (zy_limP_put hls3 rfl) rfl
            have r0 : zx_look 0 (zx_put 8 (.inl (Int32.ofNat o)) (zx_put 7 (.inl (Int32.ofNat h)) ls3)) = some (.inr (.inr (.inl q))) := zy_look_ne (by decide) rfl (zy_look_ne (by decide) rfl q0)
            have r1 : zx_look 1 (zx_put 8 (.inl (Int32.ofNat o)) (zx_put 7 (.inl (Int32.ofNat h)) ls3)) = some (.inl mo) := zy_look_ne (by decide) rfl (zy_look_ne (by decide) rfl q1)
            have r2 : zx_look 2 (zx_put 8 (.inl (Int32.ofNat o)) (zx_put 7 (.inl (Int32.ofNat h)) ls3)) = some (.inl odd) := zy_look_ne (by decide) rfl (zy_look_ne (by decide) rfl q2)
            have r3 : zx_look 3 (zx_put 8 (.inl (Int32.ofNat o)) (zx_put 7 (.inl (Int32.ofNat h)) ls3)) = some (.inl lf) := zy_look_ne (by decide) rfl (zy_look_ne (by decide) rfl q3)
            have r4 : zx_look 4 (zx_put 8 (.inl (Int32.ofNat o)) (zx_put 7 (.inl (Int32.ofNat h)) ls3)) = some (.inl d1) := zy_look_ne (by decide) rfl (zy_look_ne (by decide) rfl q4)
            have r5 : zx_look 5 (zx_put 8 (.inl (Int32.ofNat o)) (zx_put 7 (.inl (Int32.ofNat h)) ls3)) = some (.inl best') := zy_look_ne (by decide) rfl (zy_look_ne (by decide) rfl q5)
            have r7 : zx_look 7 (zx_put 8 (.inl (Int32.ofNat o)) (zx_put 7 (.inl (Int32.ofNat h)) ls3)) = some (.inl (Int32.ofNat h)) := zy_look_ne (by decide) rfl zy_look_put
            have r8 : zx_look 8 (zx_put 8 (.inl (Int32.ofNat o)) (zx_put 7 (.inl (Int32.ofNat h)) ls3)) = some (.inl (Int32.ofNat o)) := zy_look_put
            generalize zx_put 8 (.inl (Int32.ofNat o)) (zx_put 7 (.inl (Int32.ofNat h)) ls3) = ls4 at hls4 r0 r1 r2 r3 r4 r5 r7 r8 ⊢
            have back : ∀ lf2 : Int32, WP (284, ls4, [(.inl lf2)], w2, mc2, ms2) := by
              intro lf2
              refine zy_si (k := 3) rfl ?_
              refine zy_la rfl (zy_look_ne (by decide) rfl r0) (Or.inl ⟨_, rfl⟩) ?_
              refine zy_get rfl p0 p59 ?_
              refine zy_li rfl (zy_look_ne (by decide) rfl r8) ?_
              refine zy_ci (n := 1) (c := 4294967295) rfl ?_
              refine zy_ai rfl pb (tr_in (by omega) (by omega)) ?_
              rw [hon]
              obtain ⟨hJ3, hO3, hl3⟩ := wO2 o (Int32.ofNat 4294967295) (by omega) (by omega)
              have hls5 : zx_limP (w2.set b2 (.inr (0, 8, .inl (upd O o (Int32.ofNat 4294967295))))).length ls4 = true := by rw [hl3]; exact hls4
              generalize w2.set b2 (.inr (0, 8, .inl (upd O o (Int32.ofNat 4294967295)))) = w3 at hJ3 hO3 hls5 ⊢
              obtain ⟨fs3, b3, c3, s0, s59, s62, sb, sc, hlb3, hlc3, wO3, wP3⟩ := cells hJ3 hO3
              refine zy_la rfl (zy_look_ne (by decide) rfl r0) (Or.inl ⟨_, rfl⟩) ?_
              refine zy_get rfl s0 s59 ?_
              refine zy_li rfl (zy_look_ne (by decide) rfl r7) ?_
              refine zy_ci (n := 1) (c := 4294967295) rfl ?_
              refine zy_ai rfl sb (tr_in (by omega) (by omega)) ?_
              rw [hhn]
              obtain ⟨hJ4, hO4, hl4⟩ := wO3 h (Int32.ofNat 4294967295) (by omega) (by omega)
              have hls6 : zx_limP (w3.set b3 (.inr (0, 8, .inl (upd (upd O o (Int32.ofNat 4294967295)) h (Int32.ofNat 4294967295))))).length ls4 = true := by rw [hl4]; exact hls5
              generalize w3.set b3 (.inr (0, 8, .inl (upd (upd O o (Int32.ofNat 4294967295)) h (Int32.ofNat 4294967295)))) = w4 at hJ4 hO4 hls6 ⊢
              refine zy_li rfl (zy_look_ne (by decide) rfl r8) ?_
              refine zy_ci (n := 1) (c := 1) rfl ?_
              refine zy_add rfl ?_
              refine zy_si (k := 6) rfl ?_
              refine zy_goto rfl ?_
              have e1 : (Int32.ofNat 1).toInt = 1 := by decide
              have eo1 : (Int32.ofNat o + Int32.ofNat 1).toInt = o + 1 := by rw [tr_add (by omega) (by omega), c2, e1]
              have hw8 := tr_wt_s (d := s'.length) (by omega)
              have hmm : tr_mv ((h, o) :: s') = tr_mv s' + (2 * o + 3) * tr_wt s'.length := rfl
              have hlen : ((h, o) :: s').length = s'.length + 1 := rfl
              rw [hmm, hlen] at hm hmv
              rw [hlen] at hmul hwp
              have hnew : 2 * ((Int32.ofNat o + Int32.ofNat 1).toInt + 1).toNat * tr_wt s'.length = (2 * o + 3) * tr_wt s'.length + tr_wt s'.length := by
                rw [eo1, show ((o : Int) + 1 + 1).toNat = o + 2 by omega, ← Nat.succ_mul]
                rfl
              have hmv' := tr_mv_le g1 (by omega)
              have h18 : (2 * o + 3) * tr_wt s'.length ≤ 17 * tr_wt s'.length := Nat.mul_le_mul_right _ (by omega)
              refine ih (512000000000 - (tr_mv s' + 2 * ((Int32.ofNat o + Int32.ofNat 1).toInt + 1).toNat * tr_wt s'.length)) ?_ s' (upd (upd O o (Int32.ofNat 4294967295)) h (Int32.ofNat 4294967295)) P odd lf2 d1 best' (Int32.ofNat o + Int32.ofNat 1) (Int32.ofNat h) Ψ2 w4 mc2 ms2 _ rfl g1 (by omega) k1 k2 g2 (by omega) (by omega) (fun _ => by omega) ?_ (by omega) hJ4 hO4 (zy_limP_put (zy_limP_put hls6 rfl) rfl) (zy_look_ne (by decide) rfl (zy_look_ne (by decide) rfl r0)) (zy_look_ne (by decide) rfl (zy_look_ne (by decide) rfl r1)) (zy_look_ne (by decide) rfl (zy_look_ne (by decide) rfl r2)) (zy_look_ne (by decide) rfl zy_look_put) (zy_look_ne (by decide) rfl (zy_look_ne (by decide) rfl r4)) (zy_look_ne (by decide) rfl (zy_look_ne (by decide) rfl r5)) zy_look_put
              · rw [hnew]
                generalize (2 * o + 3) * tr_wt s'.length = A at hm hmv hnew h18 ⊢
                generalize 2 * (from'.toInt + 1).toNat * tr_wt (s'.length + 1) = B at hm hmul
                omega
              · intro j hj
                by_cases ejh : j = h
                · rw [ejh, tg_upd_eq]
                  rcases g2 with ⟨e, -⟩ | ⟨u1, u2, u3, u4, u5⟩
                  · omega
                  · have u4' : (tr_ex s' h).toInt < 0 := by
                      rw [show (Int32.ofNat h).toInt.toNat = h by omega] at u4
                      exact u4
                    have := tr_ex_le g1 h
                    exact Int32.toInt_inj.mp (by omega)
                · rw [tg_upd_ne ejh]
                  by_cases ejo : j = o
                  · rw [ejo, tg_upd_eq]
                    have := tr_ex_le g1 o
                    exact Int32.toInt_inj.mp (by omega)
                  · rw [tg_upd_ne ejo, hOx j hj, tr_ex_ne ejh ejo]
            refine zy_li rfl r3 ?_
            refine zy_j0 rfl (fun _ => ?_) (fun _ => ?_)
            · refine zy_ci (n := 1) (c := 0) rfl ?_
              exact back _
            · refine zy_li rfl r8 ?_
              refine zy_li rfl r7 ?_
              refine zy_jt rfl (fun _ => ?_) (fun _ => ?_)
              · refine zy_ci (n := 1) (c := 0) rfl ?_
                exact back _
              · refine zy_ci (n := 1) (c := 1) rfl ?_
                refine zy_goto rfl ?_
                exact back _
        -- from 225 on
        have at225 : ∀ (ls2 : List (Nat × zx_V)), zx_limP w'.length ls2 = true → zx_look 0 ls2 = some (.inr (.inr (.inl q))) → zx_look 1 ls2 = some (.inl mo) → zx_look 2 ls2 = some (.inl odd) → zx_look 3 ls2 = some (.inl lf) → zx_look 4 ls2 = some (.inl dp) → zx_look 5 ls2 = some (.inl best) → zx_look 7 ls2 = some (.inl x) → WP (225, ls2, [], w', mc, ms) := by
          intro ls2 hls2 n0 n1 n2 n3 n4 n5 n7
          refine zy_li rfl n7 ?_
          refine zy_j0 rfl (fun _ => pop best _ _ _ _ ls2 hJ hO hls2 n0 n1 n2 n3 n4 n5) (fun h => ?_)
          have h : zx_b x < 2147483648 := h
          have hFF' := hFF
          rcases hFF' with ⟨ex, hall⟩ | ⟨u1, -⟩
          rotate_left
          · omega
          refine zy_la rfl n0 (Or.inl ⟨_, rfl⟩) ?_
          refine zy_li rfl n5 ?_
          refine zy_li rfl n1 ?_
          obtain ⟨r, cy, hK, hroom, ⟨v, ev⟩, Ψ2, hle, hwt, hfr⟩ := tr_takes (best := best) (f := mo) hJ.1 (hty3 hJ.2.2.1) (hGJ hJ hO) (fun j hj => by rw [hOx j hj]; exact tr_ex_le hgd j) (fun j j1 j2 jA => by rw [hOx _ (by omega)]; exact hall j j1 j2 jA)
          refine zy_callX (zx_Cl_le (by decide) hK) hroom hle hwt hfr (n := 3) (st := []) rfl rfl (Nat.zero_le _) hls2 rfl hJ (by decide +kernel) (by decide +kernel) ?_
          intro hW2 hls3
          rw [ev]
          have hO2 : OP O P r.2 := ⟨te_fa hJ.1 hfr (d := ([(149, 59)], [127])) (by decide +kernel) (by decide +kernel) hO.1, te_fa hJ.1 hfr (d := ([(149, 62)], [129])) (by decide +kernel) (by decide +kernel) hO.2⟩
          refine zy_si (k := 5) rfl ?_
          exact pop v _ _ _ _ _ hW2 hO2 (zy_limP_put hls3 rfl) (zy_look_ne (by decide) rfl n0) (zy_look_ne (by decide) rfl n1) (zy_look_ne (by decide) rfl n2) (zy_look_ne (by decide) rfl n3) (zy_look_ne (by decide) rfl n4) zy_look_put
        -- one pair more
        have push : ∀ (o : Int32) (ls2 : List (Nat × zx_V)), 0 ≤ x.toInt → from'.toInt ≤ o.toInt → o.toInt < (hv bk.toInt.toNat).toInt → x.toInt ≤ o.toInt → (tr_ex s o.toInt.toNat).toInt < 0 → zx_limP w'.length ls2 = true → zx_look 0 ls2 = some (.inr (.inr (.inl q))) → zx_look 1 ls2 = some (.inl mo) → zx_look 2 ls2 = some (.inl odd) → zx_look 3 ls2 = some (.inl lf) → zx_look 4 ls2 = some (.inl dp) → zx_look 5 ls2 = some (.inl best) → zx_look 7 ls2 = some (.inl x) → zx_look 8 ls2 = some (.inl o) → WP (164, ls2, [], w', mc, ms) := by
          intro o ls2 hx0 hfo hoN hxo hoe hls2 n0 n1 n2 n3 n4 n5 n7 n8
          have io := zx_b_int o
          have hxn : x.toNatClampNeg = x.toInt.toNat := rfl
          have hon : o.toNatClampNeg = o.toInt.toNat := rfl
          have hlen8 := tr_FF_len hgd hFF hx0
          have hx7 : x.toInt ≤ 7 := by omega
          refine zy_la rfl n0 (Or.inl ⟨_, rfl⟩) ?_
          refine zy_get rfl m0 m59 ?_
          refine zy_li rfl n7 ?_
          refine zy_li rfl n8 ?_
          refine zy_ai rfl kb (tr_in (by omega) (by omega)) ?_
          rw [hxn]
          obtain ⟨hJ2, hO2, hl2⟩ := wO x.toInt.toNat o (by omega) (by omega)
          have hls3 : zx_limP (w'.set b (.inr (0, 8, .inl (upd O x.toInt.toNat o)))).length ls2 = true := by rw [hl2]; exact hls2
          generalize w'.set b (.inr (0, 8, .inl (upd O x.toInt.toNat o))) = w2 at hJ2 hO2 hls3 ⊢
          obtain ⟨fs2, b2, c2, p0, p59, p62, pb, pc, hlb2, hlc2, wO2, wP2⟩ := cells hJ2 hO2
          refine zy_la rfl n0 (Or.inl ⟨_, rfl⟩) ?_
          refine zy_get rfl p0 p59 ?_
          refine zy_li rfl n8 ?_
          refine zy_li rfl n7 ?_
          refine zy_ai rfl pb (tr_in (by omega) (by omega)) ?_
          rw [hon]
          obtain ⟨hJ3, hO3, hl3⟩ := wO2 o.toInt.toNat x (by omega) (by omega)
          have hls4 : zx_limP (w2.set b2 (.inr (0, 8, .inl (upd (upd O x.toInt.toNat o) o.toInt.toNat x)))).length ls2 = true := by rw [hl3]; exact hls3
          generalize w2.set b2 (.inr (0, 8, .inl (upd (upd O x.toInt.toNat o) o.toInt.toNat x))) = w3 at hJ3 hO3 hls4 ⊢
          have go : ∀ lf2 : Int32, WP (198, ls2, [(.inl lf2)], w3, mc, ms) := by
            intro lf2
            refine zy_si (k := 3) rfl ?_
            refine zy_ik (k := 4) (n := 1) rfl (zy_look_ne (by decide) rfl n4) ?_
            have ed : (dp + Int32.ofNat 1).toInt = dp.toInt + 1 := tm_inc tm_k1 (by omega)
            have hls5 : zx_limP w3.length (zx_put 4 (.inl (dp + Int32.ofNat 1)) (zx_put 3 (.inl lf2) ls2)) = true := zy_limP_put (zy_limP_put hls4 rfl) rfl
            have r0 : zx_look 0 (zx_put 4 (.inl (dp + Int32.ofNat 1)) (zx_put 3 (.inl lf2) ls2)) = some (.inr (.inr (.inl q))) := zy_look_ne (by decide) rfl (zy_look_ne (by decide) rfl n0)
            have r1 : zx_look 1 (zx_put 4 (.inl (dp + Int32.ofNat 1)) (zx_put 3 (.inl lf2) ls2)) = some (.inl mo) := zy_look_ne (by decide) rfl (zy_look_ne (by decide) rfl n1)
            have r2 : zx_look 2 (zx_put 4 (.inl (dp + Int32.ofNat 1)) (zx_put 3 (.inl lf2) ls2)) = some (.inl odd) := zy_look_ne (by decide) rfl (zy_look_ne (by decide) rfl n2)
            have r3 : zx_look 3 (zx_put 4 (.inl (dp + Int32.ofNat 1)) (zx_put 3 (.inl lf2) ls2)) = some (.inl lf2) := zy_look_ne (by decide) rfl zy_look_put
            have r4 : zx_look 4 (zx_put 4 (.inl (dp + Int32.ofNat 1)) (zx_put 3 (.inl lf2) ls2)) = some (.inl (dp + Int32.ofNat 1)) := zy_look_put
            have r5 : zx_look 5 (zx_put 4 (.inl (dp + Int32.ofNat 1)) (zx_put 3 (.inl lf2) ls2)) = some (.inl best) := zy_look_ne (by decide) rfl (zy_look_ne (by decide) rfl n5)
            generalize zx_put 4 (.inl (dp + Int32.ofNat 1)) (zx_put 3 (.inl lf2) ls2) = ls3 at hls5 r0 r1 r2 r3 r4 r5 ⊢
            generalize dp + Int32.ofNat 1 = d1 at ed r4
            have id1 := zx_b_int d1
            have hd1n : d1.toNatClampNeg = d1.toInt.toNat := rfl
            have hOs : ∀ j, j < 8 → upd (upd O x.toInt.toNat o) o.toInt.toNat x j = tr_ex ((x.toInt.toNat, o.toInt.toNat) :: s) j := by
              intro j hj
              show _ = upd (upd (tr_ex s) x.toInt.toNat (Int32.ofNat o.toInt.toNat)) o.toInt.toNat (Int32.ofNat x.toInt.toNat) j
              rw [tr_ofNat (by omega), tr_ofNat (by omega)]
              by_cases e1 : j = o.toInt.toNat
              · rw [e1, tg_upd_eq, tg_upd_eq]
              · rw [tg_upd_ne e1, tg_upd_ne e1]
                by_cases e2 : j = x.toInt.toNat
                · rw [e2, tg_upd_eq, tg_upd_eq]
                · rw [tg_upd_ne e2, tg_upd_ne e2]
                  exact hOx j hj
            have hgd2 : tr_gd al (hv bk.toInt.toNat).toInt ((x.toInt.toNat, o.toInt.toNat) :: s) := ⟨hgd, by rw [tr_ofNat hx0]; exact hFF, by omega, by omega, by omega, hoe⟩
            obtain ⟨fs3, b3, c3, s0, s59, s62, sb, sc, hlb3, hlc3, wO3, wP3⟩ := cells hJ3 hO3
            obtain ⟨x2, hx2, hF2⟩ := tr_firstFreeK (hGJ hJ3 hO3)
            have hF3 := tr_FF_eq (by omega) hOs hF2
            have hx2b : -1 ≤ x2.toInt ∧ x2.toInt ≤ 7 := by
              rcases hF2 with ⟨e, -⟩ | ⟨u1, u2, -⟩
              · omega
              · omega
            refine zy_la rfl r0 (Or.inl ⟨_, rfl⟩) ?_
            refine zy_get rfl s0 s62 ?_
            refine zy_li rfl r4 ?_
            refine zy_la rfl r0 (Or.inl ⟨_, rfl⟩) ?_
            refine zy_callK (a := 0) (n := 1) (st := [(.inl d1), (.inr (.inr (.inl c3)))]) (zx_Cl_le (by decide) hx2) rfl rfl (Nat.le_of_ble_eq_true rfl) hls5 (tr_lim2 (tr_lim1 hlc3 rfl)) (by have := hJ3.2.1; omega) (by have := hJ3.2.1; omega) ?_
            refine zy_ai rfl sc (tr_in (by omega) (by omega)) ?_
            obtain ⟨hJ4, hO4, hl4⟩ := wP3 d1.toNatClampNeg x2 hx2b.1 hx2b.2
            have hls6 : zx_limP (w3.set c3 (.inr (0, 9, .inl (upd P d1.toNatClampNeg x2)))).length ls3 = true := by rw [hl4]; exact hls5
            generalize w3.set c3 (.inr (0, 9, .inl (upd P d1.toNatClampNeg x2))) = w4 at hJ4 hO4 hls6 ⊢
            obtain ⟨fs4, b4, c4, t0, t59, t62, tb, tc, hlb4, hlc4, wO4, wP4⟩ := cells hJ4 hO4
            refine zy_la rfl r0 (Or.inl ⟨_, rfl⟩) ?_
            refine zy_get rfl t0 t62 ?_
            refine zy_li rfl r4 ?_
            refine zy_ld rfl tc (tr_in (by omega) (by omega)) ?_
            rw [tg_upd_eq]
            refine zy_si (k := 6) rfl ?_
            refine zy_goto rfl ?_
            have hlen : ((x.toInt.toNat, o.toInt.toNat) :: s).length = s.length + 1 := rfl
            have hd1s : d1.toNatClampNeg = s.length + 1 := by omega
            have hmm : tr_mv ((x.toInt.toNat, o.toInt.toNat) :: s) = tr_mv s + (2 * o.toInt.toNat + 3) * tr_wt s.length := rfl
            have hmv2 := tr_mv_le hgd2 (by rw [hlen]; omega)
            have hmul2 : 2 * (x2.toInt + 1).toNat * tr_wt (s.length + 1) ≤ 16 * tr_wt (s.length + 1) := Nat.mul_le_mul_right _ (by omega)
            have hup : 2 * (from'.toInt + 1).toNat * tr_wt s.length ≤ (2 * o.toInt.toNat + 2) * tr_wt s.length := Nat.mul_le_mul_right _ (by omega)
            have hup2 : (2 * o.toInt.toNat + 3) * tr_wt s.length = (2 * o.toInt.toNat + 2) * tr_wt s.length + tr_wt s.length := by rw [← Nat.succ_mul]
            refine ih (512000000000 - (tr_mv ((x.toInt.toNat, o.toInt.toNat) :: s) + 2 * (x2.toInt + 1).toNat * tr_wt (((x.toInt.toNat, o.toInt.toNat) :: s).length))) ?_ ((x.toInt.toNat, o.toInt.toNat) :: s) _ _ odd lf2 d1 best x2 x2 Ψ' w4 mc ms _ rfl hgd2 (by rw [hlen]; omega) ⟨tr_sk_upd (by omega) hsk, by rw [tg_upd_ne (by omega), hPx, tr_ofNat hx0]⟩ (by rw [hlen, hd1s, tg_upd_eq]) hF3 hx2b.1 (by omega) (fun h => h) hOs (by rw [hlen]; omega) hJ4 hO4 (zy_limP_put hls6 rfl) (zy_look_ne (by decide) rfl r0) (zy_look_ne (by decide) rfl r1) (zy_look_ne (by decide) rfl r2) (zy_look_ne (by decide) rfl r3) (zy_look_ne (by decide) rfl r4) (zy_look_ne (by decide) rfl r5) zy_look_put
            rw [hmm] at hmv2 ⊢
            rw [hlen] at hmv2 ⊢
            generalize (2 * o.toInt.toNat + 3) * tr_wt s.length = A at hmv2 hup2 ⊢
            generalize 2 * (x2.toInt + 1).toNat * tr_wt (s.length + 1) = B at hmul2 ⊢
            generalize 2 * (from'.toInt + 1).toNat * tr_wt s.length = C at hm hmul hup
            omega
          refine zy_li rfl n3 ?_
          refine zy_j0 rfl (fun _ => ?_) (fun _ => ?_)
          · refine zy_ci (n := 1) (c := 1) rfl ?_
            refine zy_goto rfl ?_
            exact go _
          · refine zy_li rfl n8 ?_
            refine zy_li rfl n7 ?_
            refine zy_jt rfl (fun _ => ?_) (fun _ => ?_)
            · refine zy_ci (n := 1) (c := 0) rfl ?_
              exact go _
            · refine zy_ci (n := 1) (c := 1) rfl ?_
              refine zy_goto rfl ?_
              exact go _
        -- the next one that can be had
        have inner : ∀ (n : Nat) (o : Int32) (ls2 : List (Nat × zx_V)), o.toInt + n = 8 → from'.toInt ≤ o.toInt → zx_limP w'.length ls2 = true → zx_look 0 ls2 = some (.inr (.inr (.inl q))) → zx_look 1 ls2 = some (.inl mo) → zx_look 2 ls2 = some (.inl odd) → zx_look 3 ls2 = some (.inl lf) → zx_look 4 ls2 = some (.inl dp) → zx_look 5 ls2 = some (.inl best) → zx_look 7 ls2 = some (.inl x) → zx_look 8 ls2 = some (.inl o) → WP (96, ls2, [], w', mc, ms) := by
          intro n
          induction n with
          | zero =>
            intro o ls2 hn hfo hls2 n0 n1 n2 n3 n4 n5 n7 n8
            have io := zx_b_int o
            have no : 0 ≤ x.toInt → WP (145, ls2, [], w', mc, ms) := by
              intro hx0
              refine zy_li rfl n7 ?_
              refine zy_j0 rfl (fun _ => at225 ls2 hls2 n0 n1 n2 n3 n4 n5 n7) (fun _ => ?_)
              refine zy_li rfl n8 ?_
              refine zy_la rfl n0 (Or.inl ⟨_, rfl⟩) ?_
              refine zy_get rfl m0 m11 ?_
              refine zy_la rfl n0 (Or.inl ⟨_, rfl⟩) ?_
              refine zy_get rfl m0 m39 ?_
              refine zy_ld rfl kcb (tr_in (by omega) (by omega)) ?_
              rw [ebn]
              refine zy_jt rfl (fun _ => at225 ls2 hls2 n0 n1 n2 n3 n4 n5 n7) (fun h => ?_)
              have h : zx_b o < zx_b (hv bk.toInt.toNat) := h
              omega
            refine zy_li rfl n7 ?_
            refine zy_j0 rfl (fun h => ?_) (fun h => ?_)
            · refine zy_li rfl n7 ?_
              refine zy_j0 rfl (fun _ => at225 ls2 hls2 n0 n1 n2 n3 n4 n5 n7) (fun h2 => ?_)
              have h : zx_b x < 2147483648 := h
              have h2 : 2147483648 ≤ zx_b x := h2
              omega
            have h : 2147483648 ≤ zx_b x := h
            refine zy_li rfl n8 ?_
            refine zy_la rfl n0 (Or.inl ⟨_, rfl⟩) ?_
            refine zy_get rfl m0 m11 ?_
            refine zy_la rfl n0 (Or.inl ⟨_, rfl⟩) ?_
            refine zy_get rfl m0 m39 ?_
            refine zy_ld rfl kcb (tr_in (by omega) (by omega)) ?_
            rw [ebn]
            refine zy_jt rfl (fun _ => no (by omega)) (fun h2 => ?_)
            have h2 : zx_b o < zx_b (hv bk.toInt.toNat) := h2
            omega
          | succ n ihI =>
            intro o ls2 hn hfo hls2 n0 n1 n2 n3 n4 n5 n7 n8
            have io := zx_b_int o
            refine zy_li rfl n7 ?_
            refine zy_j0 rfl (fun h => ?_) (fun h => ?_)
            · refine zy_li rfl n7 ?_
              refine zy_j0 rfl (fun _ => at225 ls2 hls2 n0 n1 n2 n3 n4 n5 n7) (fun h2 => ?_)
              have h : zx_b x < 2147483648 := h
              have h2 : 2147483648 ≤ zx_b x := h2
              omega
            have h : 2147483648 ≤ zx_b x := h
            have hx0 : 0 ≤ x.toInt := by omega
            have hf0 := hfx hx0
            -- 145, knowing whether there is another one
            have at145 : (o.toInt < (hv bk.toInt.toNat).toInt → x.toInt ≤ o.toInt ∧ (tr_ex s o.toInt.toNat).toInt < 0) → WP (145, ls2, [], w', mc, ms) := by
              intro hyes
              refine zy_li rfl n7 ?_
              refine zy_j0 rfl (fun _ => at225 ls2 hls2 n0 n1 n2 n3 n4 n5 n7) (fun _ => ?_)
              refine zy_li rfl n8 ?_
              refine zy_la rfl n0 (Or.inl ⟨_, rfl⟩) ?_
              refine zy_get rfl m0 m11 ?_
              refine zy_la rfl n0 (Or.inl ⟨_, rfl⟩) ?_
              refine zy_get rfl m0 m39 ?_
              refine zy_ld rfl kcb (tr_in (by omega) (by omega)) ?_
              rw [ebn]
              refine zy_jt rfl (fun _ => at225 ls2 hls2 n0 n1 n2 n3 n4 n5 n7) (fun h2 => ?_)
              have h2 : zx_b o < zx_b (hv bk.toInt.toNat) := h2
              obtain ⟨y1, y2⟩ := hyes (by omega)
              exact push o ls2 hx0 hfo (by omega) y1 y2 hls2 n0 n1 n2 n3 n4 n5 n7 n8
            refine zy_li rfl n8 ?_
            refine zy_la rfl n0 (Or.inl ⟨_, rfl⟩) ?_
            refine zy_get rfl m0 m11 ?_
            refine zy_la rfl n0 (Or.inl ⟨_, rfl⟩) ?_
            refine zy_get rfl m0 m39 ?_
            refine zy_ld rfl kcb (tr_in (by omega) (by omega)) ?_
            rw [ebn]
            refine zy_jt rfl (fun h2 => ?_) (fun h2 => ?_)
            · have h2 : zx_b (hv bk.toInt.toNat) ≤ zx_b o := h2
              exact at145 (fun h3 => by omega)
            have h2 : zx_b o < zx_b (hv bk.toInt.toNat) := h2
            have hlq1 : q < w'.length := (List.getElem?_eq_some_iff.mp m0).1
            have ask : ∀ f : Int32, WP (133, ls2, [(.inl f), (.inl o), (.inl x), (.inr (.inr (.inl q)))], w', mc, ms) := by
              intro f
              obtain ⟨u, hu, hu'⟩ := tr_canHaveK (hGJ hJ hO) (h := x) (o := o) (f := f) (by omega)
              refine zy_callK (a := 0) (n := 4) (st := []) (zx_Cl_le (by decide) hu) rfl rfl (Nat.le_of_ble_eq_true rfl) hls2 rfl (by have := hJ.2.1; omega) (by have := hJ.2.1; omega) ?_
              rcases hu' with eu | ⟨eu, y1, y2⟩
              · subst eu
                refine zy_j0 rfl (fun e => absurd (by decide : zx_b (Int32.ofNat 0) = 2147483648) e) (fun _ => ?_)
                refine zy_ik (k := 8) (n := 1) rfl n8 ?_
                refine zy_goto rfl ?_
                have ek : (o + Int32.ofNat 1).toInt = o.toInt + 1 := tm_inc tm_k1 (by omega)
                exact ihI (o + Int32.ofNat 1) _ (by omega) (by omega) (zy_limP_put hls2 rfl) (zy_look_ne (by decide) rfl n0) (zy_look_ne (by decide) rfl n1) (zy_look_ne (by decide) rfl n2) (zy_look_ne (by decide) rfl n3) (zy_look_ne (by decide) rfl n4) (zy_look_ne (by decide) rfl n5) (zy_look_ne (by decide) rfl n7) zy_look_put
              · subst eu
                refine zy_j0 rfl (fun _ => at145 (fun _ => ⟨y1, by rw [← hOx _ (by omega)]; exact y2⟩)) (fun e => absurd e (by decide : ¬ zx_b (Int32.ofNat 1) = 2147483648))
            refine zy_la rfl n0 (Or.inl ⟨_, rfl⟩) ?_
            refine zy_li rfl n7 ?_
            refine zy_li rfl n8 ?_
            refine zy_li rfl n2 ?_
            refine zy_j0 rfl (fun _ => ?_) (fun _ => ?_)
            · refine zy_ci (n := 1) (c := 0) rfl ?_
              exact ask _
            · refine zy_li rfl n3 ?_
              refine zy_j0 rfl (fun _ => ?_) (fun _ => ?_)
              · refine zy_ci (n := 1) (c := 0) rfl ?_
                exact ask _
              · refine zy_ci (n := 1) (c := 1) rfl ?_
                refine zy_goto rfl ?_
                exact ask _
        refine zy_li rfl l4 ?_
        refine zy_j0 rfl (fun h => ?_) (fun _ => ?_)
        · have h : zx_b dp < 2147483648 := h
          omega
        refine zy_la rfl l0 (Or.inl ⟨_, rfl⟩) ?_
        refine zy_get rfl m0 m62 ?_
        refine zy_li rfl l4 ?_
        refine zy_ld rfl kc (tr_in (by omega) (by omega)) ?_
        rw [hdn, hPx]
        refine zy_si (k := 7) rfl ?_
        refine zy_li rfl (zy_look_ne (by decide) rfl l6) ?_
        refine zy_si (k := 8) rfl ?_
        exact inner (8 - from'.toInt).toNat from' _ (by omega) (by omega) (zy_limP_put (zy_limP_put hls rfl) rfl) (zy_look_ne (by decide) rfl (zy_look_ne (by decide) rfl l0)) (zy_look_ne (by decide) rfl (zy_look_ne (by decide) rfl l1)) (zy_look_ne (by decide) rfl (zy_look_ne (by decide) rfl l2)) (zy_look_ne (by decide) rfl (zy_look_ne (by decide) rfl l3)) (zy_look_ne (by decide) rfl (zy_look_ne (by decide) rfl l4)) (zy_look_ne (by decide) rfl (zy_look_ne (by decide) rfl l5)) (zy_look_ne (by decide) rfl zy_look_put) zy_look_put
    -- before the search
    have start : ∀ (odd lf dp best : Int32) (O : Nat → Int32) (w' : List zx_E) (ls : List (Nat × zx_V)), dp.toInt = 0 → J Ψ w' 0 0 → OP O P0 w' → (∀ j, j < 8 → O j = Int32.ofNat 4294967295) → zx_limP w'.length ls = true → zx_look 0 ls = some (.inr (.inr (.inl q))) → zx_look 1 ls = some (.inl mo) → zx_look 2 ls = some (.inl odd) → zx_look 3 ls = some (.inl lf) → zx_look 4 ls = some (.inl dp) → zx_look 5 ls = some (.inl best) → WP (60, ls, [], w', 0, 0) := by
      intro odd lf dp best O w' ls hdp hJ hO hOm hls l0 l1 l2 l3 l4 l5
      obtain ⟨fs', b, c, m0, m59, m62, kb, kc, hlb, hlc, wO, wP⟩ := cells hJ hO
      obtain ⟨x, hx, hF⟩ := tr_firstFreeK (hGJ hJ hO)
      have hOs : ∀ j, j < 8 → O j = tr_ex [] j := hOm
      have hF3 := tr_FF_eq (by omega) hOs hF
      have hxb : -1 ≤ x.toInt ∧ x.toInt ≤ 7 := by
        rcases hF with ⟨e, -⟩ | ⟨u1, u2, -⟩
        · omega
        · omega
      refine zy_la rfl l0 (Or.inl ⟨_, rfl⟩) ?_
      refine zy_get rfl m0 m62 ?_
      refine zy_ci (n := 1) (c := 0) rfl ?_
      refine zy_la rfl l0 (Or.inl ⟨_, rfl⟩) ?_
      refine zy_callK (a := 0) (n := 1) (st := [(.inl (Int32.ofNat 0)), (.inr (.inr (.inl c)))]) (zx_Cl_le (by decide) hx) rfl rfl (Nat.le_of_ble_eq_true rfl) hls (tr_lim2 (tr_lim1 hlc rfl)) (Nat.zero_le _) (Nat.zero_le _) ?_
      refine zy_ai rfl kc (by decide) ?_
      rw [e0n]
      obtain ⟨hJ2, hO2, hl2⟩ := wP 0 x hxb.1 hxb.2
      have hls2 : zx_limP (w'.set c (.inr (0, 9, .inl (upd P0 0 x)))).length ls = true := by rw [hl2]; exact hls
      generalize w'.set c (.inr (0, 9, .inl (upd P0 0 x))) = w2 at hJ2 hO2 hls2 ⊢
      obtain ⟨fs4, b4, c4, t0, t59, t62, tb, tc, hlb4, hlc4, wO4, wP4⟩ := cells hJ2 hO2
      refine zy_la rfl l0 (Or.inl ⟨_, rfl⟩) ?_
      refine zy_get rfl t0 t62 ?_
      refine zy_ci (n := 1) (c := 0) rfl ?_
      refine zy_ld rfl tc (by decide) ?_
      rw [e0n, tg_upd_eq]
      refine zy_si (k := 6) rfl ?_
      exact main _ [] O (upd P0 0 x) odd lf dp best x x Ψ w2 0 0 _ rfl trivial (by decide) trivial tg_upd_eq hF3 hxb.1 (by omega) (fun h => h) hOs hdp hJ2 hO2 (zy_limP_put hls2 rfl) (zy_look_ne (by decide) rfl l0) (zy_look_ne (by decide) rfl l1) (zy_look_ne (by decide) rfl l2) (zy_look_ne (by decide) rfl l3) (zy_look_ne (by decide) rfl l4) (zy_look_ne (by decide) rfl l5) zy_look_put
    have clear : ∀ (n : Nat) (k odd lf dp best : Int32) (O : Nat → Int32) (w' : List zx_E) (ls : List (Nat × zx_V)), k.toInt + n = 8 → 0 ≤ k.toInt → dp.toInt = 0 → J Ψ w' 0 0 → OP O P0 w' → (∀ j : Nat, (j : Int) < k.toInt → O j = Int32.ofNat 4294967295) → zx_limP w'.length ls = true → zx_look 0 ls = some (.inr (.inr (.inl q))) → zx_look 1 ls = some (.inl mo) → zx_look 2 ls = some (.inl odd) → zx_look 3 ls = some (.inl lf) → zx_look 4 ls = some (.inl dp) → zx_look 5 ls = some (.inl best) → zx_look 6 ls = some (.inl k) → WP (39, ls, [], w', 0, 0) := by
      intro n
      induction n with
      | zero =>
        intro k odd lf dp best O w' ls hn hk0 hdp hJ hO hOm hls l0 l1 l2 l3 l4 l5 l6
        have ik := zx_b_int k
        refine zy_li rfl l6 ?_
        refine zy_ci (n := 2) (c := 8) rfl ?_
        refine zy_jt rfl (fun _ => start odd lf dp best O w' ls hdp hJ hO (fun j hj => hOm j (by omega)) hls l0 l1 l2 l3 l4 l5) (fun h => ?_)
        have h : zx_b k < zx_b (Int32.ofNat 8) := h
        rw [show zx_b (Int32.ofNat 8) = 2147483656 by decide] at h
        omega
      | succ n ih =>
        intro k odd lf dp best O w' ls hn hk0 hdp hJ hO hOm hls l0 l1 l2 l3 l4 l5 l6
        have ik := zx_b_int k
        have hkn : k.toNatClampNeg = k.toInt.toNat := rfl
        obtain ⟨fs', b, c, m0, m59, m62, kb, kc, hlb, hlc, wO, wP⟩ := cells hJ hO
        refine zy_li rfl l6 ?_
        refine zy_ci (n := 2) (c := 8) rfl ?_
        refine zy_jt rfl (fun h => ?_) (fun _ => ?_)
        · have h : zx_b (Int32.ofNat 8) ≤ zx_b k := h
          rw [show zx_b (Int32.ofNat 8) = 2147483656 by decide] at h
          omega
        refine zy_la rfl l0 (Or.inl ⟨_, rfl⟩) ?_
        refine zy_get rfl m0 m59 ?_
        refine zy_li rfl l6 ?_
        refine zy_ci (n := 1) (c := 4294967295) rfl ?_
        refine zy_ai rfl kb (tr_in (by omega) (by omega)) ?_
        obtain ⟨hJ2, hO2, hl2⟩ := wO k.toNatClampNeg (Int32.ofNat 4294967295) (by omega) (by omega)
        have hls2 : zx_limP (w'.set b (.inr (0, 8, .inl (upd O k.toNatClampNeg (Int32.ofNat 4294967295))))).length ls = true := by rw [hl2]; exact hls
        refine zy_ik (k := 6) (n := 1) rfl l6 ?_
        refine zy_goto rfl ?_
        have ek : (k + Int32.ofNat 1).toInt = k.toInt + 1 := tm_inc tm_k1 (by omega)
        refine ih (k + Int32.ofNat 1) odd lf dp best _ _ _ (by omega) (by omega) hdp hJ2 hO2 (fun j hj => ?_) (zy_limP_put hls2 rfl) (zy_look_ne (by decide) rfl l0) (zy_look_ne (by decide) rfl l1) (zy_look_ne (by decide) rfl l2) (zy_look_ne (by decide) rfl l3) (zy_look_ne (by decide) rfl l4) (zy_look_ne (by decide) rfl l5) zy_look_put
        by_cases e : j = k.toNatClampNeg
        · rw [e, tg_upd_eq]
        · rw [tg_upd_ne e]
          exact hOm j (by omega)
    show WP (0, [(0, (.inr (.inr (.inl q)))), (1, (.inl mo))], [], w, 0, 0)
    refine zy_la (k := 0) rfl rfl (Or.inl ⟨_, rfl⟩) ?_
    refine zy_get rfl k0 k49 ?_
    refine zy_ci (n := 1) (c := 2) rfl ?_
    refine zy_ld rfl ka (by decide) ?_
    rw [e2n]
    have hls0 : zx_limP w.length [(0, (.inr (.inr (.inl q)))), (1, (.inl mo))] = true := tm_lim hlq rfl
    obtain ⟨z, hz⟩ := tr_bitsK (w := w) (al 2)
    refine zy_callK (a := 0) (n := 1) (st := []) (zx_Cl_le (by decide) hz) rfl rfl (Nat.le_of_ble_eq_true rfl) hls0 rfl (Nat.zero_le _) (Nat.zero_le _) ?_
    have rest : ∀ odd : Int32, WP (20, [(0, (.inr (.inr (.inl q)))), (1, (.inl mo))], [(.inl odd)], w, 0, 0) := by
      intro odd
      refine zy_si (k := 2) rfl ?_
      refine zy_ci (n := 1) (c := 0) rfl ?_
      refine zy_si (k := 3) rfl ?_
      refine zy_ci (n := 1) (c := 0) rfl ?_
      refine zy_si (k := 4) rfl ?_
      refine zy_ci (n := 3) (c := 3294967296) rfl ?_
      refine zy_si (k := 5) rfl ?_
      refine zy_la (k := 0) rfl rfl (Or.inl ⟨_, rfl⟩) ?_
      refine zy_ci (n := 1) (c := 0) rfl ?_
      have l61 : 61 < fs.length := by rw [fl]; decide
      refine zy_put (k := 61) rfl k0 l61 rfl ?_
      have hJ : J Ψ (w.set q (.inl (12, (fs.set 61 (.inl (Int32.ofNat 0)))))) 0 0 := tj_W_field (t := (0, 0, 4294967295)) (tm_W0 hw) hq tr_hd k0 rfl (tr_full _) (tj_invk_ok (r := 3) (k := 61) rfl finv) rfl (by decide +kernel)
      have hfr61 : tj_fr ([(149, 61)], []) Ψ w (w.set q (.inl (12, (fs.set 61 (.inl (Int32.ofNat 0)))))) := (tj_W_field (t := (0, 0, 4294967295)) (tm_W0 (E := ([(149, 61)], [])) hw) hq tr_hd k0 rfl (tr_full _) (tj_invk_ok (r := 3) (k := 61) rfl finv) rfl (by decide +kernel)).2.2.2
      have hO : OP O0 P0 (w.set q (.inl (12, (fs.set 61 (.inl (Int32.ofNat 0)))))) := ⟨te_fa hw hfr61 (d := ([(149, 59)], [127])) (by decide +kernel) (by decide +kernel) ⟨fs, b59, k0, k59, kb59⟩, te_fa hw hfr61 (d := ([(149, 62)], [129])) (by decide +kernel) (by decide +kernel) ⟨fs, b62, k0, k62, kb62⟩⟩
      have hls1 : zx_limP (w.set q (.inl (12, (fs.set 61 (.inl (Int32.ofNat 0)))))).length (zx_put 5 (.inl (Int32.ofNat 3294967296)) (zx_put 4 (.inl (Int32.ofNat 0)) (zx_put 3 (.inl (Int32.ofNat 0)) (zx_put 2 (.inl odd) [(0, (.inr (.inr (.inl q)))), (1, (.inl mo))])))) = true := by
        rw [List.length_set]
        exact zy_limP_put (zy_limP_put (zy_limP_put (zy_limP_put hls0 rfl) rfl) rfl) rfl
      generalize w.set q (.inl (12, (fs.set 61 (.inl (Int32.ofNat 0))))) = w2 at hJ hO hls1 ⊢
      refine zy_ci (n := 1) (c := 0) rfl ?_
      refine zy_si (k := 6) rfl ?_
      exact clear 8 (Int32.ofNat 0) odd (Int32.ofNat 0) (Int32.ofNat 0) (Int32.ofNat 3294967296) O0 w2 _ (by decide) (by decide) (by decide) hJ hO (fun j hj => by omega) (zy_limP_put hls1 rfl) rfl rfl rfl rfl rfl rfl zy_look_put
    refine zy_ci (n := 1) (c := 2) rfl ?_
    refine zy_rem rfl (by decide) ?_
    refine zy_ci (n := 1) (c := 1) rfl ?_
    refine zy_jt rfl (fun _ => ?_) (fun _ => ?_)
    · refine zy_ci (n := 1) (c := 0) rfl ?_
      exact rest _
    · refine zy_ci (n := 1) (c := 1) rfl ?_
      refine zy_goto rfl ?_
      exact rest _
