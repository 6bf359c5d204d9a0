/-! by hand: pairings -/
theorem zy_funE {d y : Nat} {dt : List (List (Nat × zx_I))} {av : List zx_V} {w : List zx_E} {P : zx_R → Prop} (hmt : zx_mt y = some (zx_find (zx_cT dt))) (hrc : zx_rok w (zx_rc y) av) (hml : zx_words av ≤ zx_mx' y) (hrun : zx_wp (zx_Cl zx_mt zx_rc zx_mx' d) none (0, 0) (zx_find (zx_cT dt)) (fun σ => ∃ r, zx_ret (zx_find (zx_cT dt)) (0, 0) σ r ∧ P r) (0, zx_args 0 av, [], w, 0, 0)) : ∃ r, zx_Cl zx_mt zx_rc zx_mx' (d + 1) y av w (0, 0) r ∧ P r := by
  obtain ⟨n, σ, h1, r, h2, h3⟩ := hrun
  exact ⟨r, ⟨_, hmt, hrc, hml, n, σ, h1, h2⟩, h3⟩
theorem zy_callK {K : zx_K} {X : zx_X} {cap : Nat × Nat} {tab : Nat → Option zx_Q} {Q : zx_S → Prop} {pc mc ms n y a : Nat} {g : zx_F} {ls : List (Nat × zx_V)} {st0 av st : List zx_V} {w : List zx_E} {v : zx_V} (hK : K y av w (0, 0) (some v, w)) (ht : tab pc = some (3, y, n, g)) (htk : zx_take n [] st0 = some (av, st)) (h8 : zx_words st ≤ 8) (hls : zx_limP w.length ls = true) (hst : zx_limL w.length st = true) (hc : mc ≤ cap.1) (hm : ms ≤ cap.2) (kk : zx_wp K X cap tab Q (pc + 3, ls, v :: st, w, mc, ms)) : zx_wp K X cap tab Q (pc, ls, st0, w, mc, ms) :=
  zx_wp_call (a := a) (g := g) (cy := (0, 0)) (r := (some v, w)) ht htk h8 hls hst hc hm hK kk
def tr_G (w : List zx_E) (q : Nat) (bk : Int32) (hv al O lk : Nat → Int32) : Prop := tj_fi w q 12 39 bk ∧ tj_fa w q 12 11 2 hv ∧ tj_fa w q 12 49 119 al ∧ tj_fa w q 12 59 8 O ∧ tj_fa w q 12 21 128 lk ∧ (bk.toInt = 0 ∨ bk.toInt = 1) ∧ 0 ≤ (hv bk.toInt.toNat).toInt ∧ (hv bk.toInt.toNat).toInt ≤ 8
/-- the first that is free -/
def tr_FF (al : Nat → Int32) (n : Int) (O : Nat → Int32) (x : Int32) : Prop := (x.toInt = -1 ∧ ∀ j : Int32, 0 ≤ j.toInt → j.toInt < n → tj_alv al j → 0 ≤ (O j.toInt.toNat).toInt) ∨ (0 ≤ x.toInt ∧ x.toInt < n ∧ tj_alv al x ∧ (O x.toInt.toNat).toInt < 0 ∧ ∀ j : Int32, 0 ≤ j.toInt → j.toInt < x.toInt → tj_alv al j → 0 ≤ (O j.toInt.toNat).toInt)
section trPair
variable {w : List zx_E} {q : Nat} {bk : Int32} {hv al O lk : Nat → Int32}
set_option maxRecDepth 20000 in
theorem tr_likeOfK (hG : tr_G w q bk hv al O lk) {a b : Int32} (ha : 0 ≤ a.toInt ∧ a.toInt ≤ 7) (hb' : 0 ≤ b.toInt ∧ b.toInt ≤ 7) : ∃ v : Int32, zx_Cl zx_mt zx_rc zx_mx' 1 167 [(.inr (.inr (.inl q))), (.inl a), (.inl b)] w (0, 0) (some (.inl v), w) := by
  obtain ⟨h39, h11, h49, h59, h21, hb, -, -⟩ := hG
  obtain ⟨fs, k0, k39⟩ := id h39
  obtain ⟨fs', l, k0', k21, kl⟩ := id h21
  rw [k0] at k0'
  cases k0'
  have e64 : (Int32.ofNat 64 * bk).toInt = 64 * bk.toInt := tr_mul (c := 64) (by decide) rfl (by omega) (by omega)
  have e8 : (Int32.ofNat 8 * a).toInt = 8 * a.toInt := tr_mul (c := 8) (by decide) rfl (by omega) (by omega)
  have e1 : (Int32.ofNat 64 * bk + Int32.ofNat 8 * a).toInt = 64 * bk.toInt + 8 * a.toInt := by rw [tr_add (by omega) (by omega), e64, e8]
  have e2 : (Int32.ofNat 64 * bk + Int32.ofNat 8 * a + b).toInt = 64 * bk.toInt + 8 * a.toInt + b.toInt := by rw [tr_add (by omega) (by omega), e1]
  refine ⟨lk (Int32.ofNat 64 * bk + Int32.ofNat 8 * a + b).toNatClampNeg, ?_⟩
  refine zy_fun (d := 0) (dt := zx_d_X12_likeOf) (by rw [← zx_q_X12_likeOf]; rfl) (by rw [(by decide +kernel : zx_rc 167 = 13)]; exact ⟨q, _, fs, rfl, k0⟩) (by decide +kernel : 3 ≤ zx_mx' 167) ?_
  show zx_wp _ none _ _ _ (0, [(0, (.inr (.inr (.inl q)))), (1, (.inl a)), (2, (.inl b))], [], w, 0, 0)
  refine zy_la (k := 0) rfl rfl (Or.inl ⟨_, rfl⟩) ?_
  refine zy_get rfl k0 k21 ?_
  refine zy_ci (n := 2) (c := 64) rfl ?_
  refine zy_la (k := 0) rfl rfl (Or.inl ⟨_, rfl⟩) ?_
  refine zy_get rfl k0 k39 ?_
  refine zy_mul rfl ?_
  refine zy_ci (n := 2) (c := 8) rfl ?_
  refine zy_li (k := 1) rfl rfl ?_
  refine zy_mul rfl ?_
  refine zy_add rfl ?_
  refine zy_li (k := 2) rfl rfl ?_
  refine zy_add rfl ?_
  refine zy_ld rfl kl (tr_in (by omega) (by omega)) ?_
  exact zx_wp_done ⟨Nat.le_refl _, Nat.le_refl _, rfl, ⟨_, rfl, rfl⟩⟩
set_option maxRecDepth 20000 in
theorem tr_likingK (hG : tr_G w q bk hv al O lk) {h : Int32} (hh : 0 ≤ h.toInt ∧ h.toInt ≤ 7) (ho : 0 ≤ (O h.toInt.toNat).toInt ∧ (O h.toInt.toNat).toInt ≤ 7) : ∃ v : Int32, zx_Cl zx_mt zx_rc zx_mx' 2 170 [(.inr (.inr (.inl q))), (.inl h)] w (0, 0) (some (.inl v), w) := by
  obtain ⟨u, hu⟩ := tr_likeOfK hG hh ho
  obtain ⟨h39, h11, h49, h59, h21, hb, -, -⟩ := hG
  obtain ⟨fs, b, k0, k59, kb⟩ := id h59
  have hlw : q < w.length := (List.getElem?_eq_some_iff.mp k0).1
  have en : h.toNatClampNeg = h.toInt.toNat := rfl
  have key : ∃ r, zx_Cl zx_mt zx_rc zx_mx' 2 170 [(.inr (.inr (.inl q))), (.inl h)] w (0, 0) r ∧ (r.2 = w ∧ ∃ v : Int32, r.1 = some (.inl v)) := by
    refine zy_funE (d := 1) (dt := zx_d_X12_liking) (by rw [← zx_q_X12_liking]; rfl) (by rw [(by decide +kernel : zx_rc 170 = 13)]; exact ⟨q, _, fs, rfl, k0⟩) (by decide +kernel : 2 ≤ zx_mx' 170) ?_
    show zx_wp _ none _ _ _ (0, [(0, (.inr (.inr (.inl q)))), (1, (.inl h))], [], w, 0, 0)
    refine zy_la (k := 0) rfl rfl (Or.inl ⟨_, rfl⟩) ?_
    refine zy_get rfl k0 k59 ?_
    refine zy_li (k := 1) rfl rfl ?_
    refine zy_ld rfl kb (tr_in (by omega) (by omega)) ?_
    refine zy_li (k := 1) rfl rfl ?_
    refine zy_jt rfl (fun _ => ?_) (fun _ => ?_)
    · refine zy_la (k := 0) rfl rfl (Or.inl ⟨_, rfl⟩) ?_
      refine zy_li (k := 1) rfl rfl ?_
      refine zy_la (k := 0) rfl rfl (Or.inl ⟨_, rfl⟩) ?_
      refine zy_get rfl k0 k59 ?_
      refine zy_li (k := 1) rfl rfl ?_
      refine zy_ld rfl kb (tr_in (by omega) (by omega)) ?_
      rw [en]
      refine zy_callK (a := 0) (n := 3) (st := []) hu rfl rfl (Nat.le_of_ble_eq_true rfl) (tm_lim hlw rfl) rfl (Nat.zero_le _) (Nat.zero_le _) ?_
      exact zx_wp_done ⟨(some (.inl u), w), ⟨Nat.le_refl _, Nat.le_refl _, rfl, ⟨_, rfl, rfl⟩⟩, rfl, u, rfl⟩
    · refine zy_ci (n := 1) (c := 4294967295) rfl ?_
      refine zy_goto rfl ?_
      exact zx_wp_done ⟨(some (.inl (Int32.ofNat 4294967295)), w), ⟨Nat.le_refl _, Nat.le_refl _, rfl, ⟨_, rfl, rfl⟩⟩, rfl, _, rfl⟩
  obtain ⟨⟨r1, r2⟩, hr, e1, v, e2⟩ := key
  have e1 : r2 = w := e1
  have e2 : r1 = some (.inl v) := e2
  subst e1
  subst e2
  exact ⟨v, hr⟩
set_option maxRecDepth 20000 in
theorem tr_canHaveK (hG : tr_G w q bk hv al O lk) {h o f : Int32} (ho : 0 ≤ o.toInt ∧ o.toInt ≤ 7) : ∃ v : Int32, zx_Cl zx_mt zx_rc zx_mx' 2 93 [(.inr (.inr (.inl q))), (.inl h), (.inl o), (.inl f)] w (0, 0) (some (.inl v), w) ∧ (v = Int32.ofNat 0 ∨ (v = Int32.ofNat 1 ∧ h.toInt ≤ o.toInt ∧ (O o.toInt.toNat).toInt < 0)) := by
  obtain ⟨h39, h11, h49, h59, h21, hb, -, -⟩ := hG
  obtain ⟨fs, b, k0, k59, kb⟩ := id h59
  obtain ⟨fs', a, k0', k49, ka⟩ := id h49
  rw [k0] at k0'
  cases k0'
  have hlw : q < w.length := (List.getElem?_eq_some_iff.mp k0).1
  obtain ⟨u, hu, hu'⟩ := tr_aliveK (q := q) (h := o) k0 k49 ka
  have io := zx_b_int o
  have ih := zx_b_int h
  have ix := zx_b_int (O o.toInt.toNat)
  have en : o.toNatClampNeg = o.toInt.toNat := rfl
  let P : zx_R → Prop := fun r => r.2 = w ∧ ∃ v : Int32, r.1 = some (.inl v) ∧ (v = Int32.ofNat 0 ∨ (v = Int32.ofNat 1 ∧ h.toInt ≤ o.toInt ∧ (O o.toInt.toNat).toInt < 0))
  let WP : zx_S → Prop := fun σ => zx_wp (zx_Cl zx_mt zx_rc zx_mx' 1) none (0, 0) (zx_find (zx_cT zx_d_X12_canHave)) (fun σ => ∃ r, zx_ret (zx_find (zx_cT zx_d_X12_canHave)) (0, 0) σ r ∧ P r) σ
  have no : ∀ ls, WP (22, ls, [], w, 0, 0) := fun ls => by
    refine zy_ci (n := 1) (c := 0) rfl ?_
    exact zx_wp_done ⟨(some (.inl (Int32.ofNat 0)), w), ⟨Nat.le_refl _, Nat.le_refl _, rfl, ⟨_, rfl, Or.inl rfl, rfl⟩⟩, rfl, _, rfl, Or.inl rfl⟩
  have key : ∃ r, zx_Cl zx_mt zx_rc zx_mx' 2 93 [(.inr (.inr (.inl q))), (.inl h), (.inl o), (.inl f)] w (0, 0) r ∧ P r := by
    refine zy_funE (d := 1) (dt := zx_d_X12_canHave) (by rw [← zx_q_X12_canHave]; rfl) (by rw [(by decide +kernel : zx_rc 93 = 13)]; exact ⟨q, _, fs, rfl, k0⟩) (by decide +kernel : 4 ≤ zx_mx' 93) ?_
    show WP (0, [(0, (.inr (.inr (.inl q)))), (1, (.inl h)), (2, (.inl o)), (3, (.inl f))], [], w, 0, 0)
    refine zy_la (k := 0) rfl rfl (Or.inl ⟨_, rfl⟩) ?_
    refine zy_li (k := 2) rfl rfl ?_
    refine zy_callK (a := 0) (n := 2) (st := []) hu rfl rfl (Nat.le_of_ble_eq_true rfl) (tm_lim hlw rfl) rfl (Nat.zero_le _) (Nat.zero_le _) ?_
    rcases hu' with ⟨eu, hA⟩ | ⟨eu, hA⟩
    rotate_left
    · subst eu
      refine zy_j0 rfl (fun _ => no _) (fun e => absurd (by decide : zx_b (Int32.ofNat 0) = 2147483648) e)
    subst eu
    refine zy_j0 rfl (fun e => absurd e (by decide : ¬ zx_b (Int32.ofNat 1) = 2147483648)) (fun _ => ?_)
    refine zy_li (k := 2) rfl rfl ?_
    refine zy_li (k := 1) rfl rfl ?_
    refine zy_jt rfl (fun _ => no _) (fun hge => ?_)
    have hge : zx_b h ≤ zx_b o := hge
    refine zy_la (k := 0) rfl rfl (Or.inl ⟨_, rfl⟩) ?_
    refine zy_get rfl k0 k59 ?_
    refine zy_li (k := 2) rfl rfl ?_
    refine zy_ld rfl kb (tr_in (by omega) (by omega)) ?_
    rw [en]
    refine zy_j0 rfl (fun hlt => ?_) (fun _ => no _)
    have hlt : zx_b (O o.toInt.toNat) < 2147483648 := hlt
    have yes : ∀ ls, WP (33, ls, [], w, 0, 0) := fun ls => by
      refine zy_ci (n := 1) (c := 1) rfl ?_
      refine zy_goto rfl ?_
      exact zx_wp_done ⟨(some (.inl (Int32.ofNat 1)), w), ⟨Nat.le_refl _, Nat.le_refl _, rfl, ⟨_, rfl, Or.inr rfl, rfl⟩⟩, rfl, _, rfl, Or.inr ⟨rfl, by omega, by omega⟩⟩
    refine zy_li (k := 2) rfl rfl ?_
    refine zy_li (k := 1) rfl rfl ?_
    refine zy_jt rfl (fun _ => yes _) (fun _ => ?_)
    refine zy_li (k := 3) rfl rfl ?_
    refine zy_j0 rfl (fun _ => ?_) (fun _ => yes _)
    refine zy_ci (n := 1) (c := 0) rfl ?_
    exact zx_wp_done ⟨(some (.inl (Int32.ofNat 0)), w), ⟨Nat.le_refl _, Nat.le_refl _, rfl, ⟨_, rfl, Or.inl rfl, rfl⟩⟩, rfl, _, rfl, Or.inl rfl⟩
  obtain ⟨⟨r1, r2⟩, hr, e1, v, e2, e3⟩ := key
  have e1 : r2 = w := e1
  have e2 : r1 = some (.inl v) := e2
  subst e1
  subst e2
  exact ⟨v, hr, e3⟩
set_option maxRecDepth 20000 in
theorem tr_firstFreeK (hG : tr_G w q bk hv al O lk) : ∃ x : Int32, zx_Cl zx_mt zx_rc zx_mx' 2 120 [(.inr (.inr (.inl q)))] w (0, 0) (some (.inl x), w) ∧ tr_FF al (hv bk.toInt.toNat).toInt O x := by
  obtain ⟨h39, h11, h49, h59, h21, hb, hN0, hN8⟩ := hG
  obtain ⟨fs, b, k0, k59, kb⟩ := id h59
  obtain ⟨fs', a, k0', k49, ka⟩ := id h49
  rw [k0] at k0'
  cases k0'
  obtain ⟨fs', c, k0', k11, kc⟩ := id h11
  rw [k0] at k0'
  cases k0'
  obtain ⟨fs', k0', k39⟩ := id h39
  rw [k0] at k0'
  cases k0'
  have hlw : q < w.length := (List.getElem?_eq_some_iff.mp k0).1
  have ebn : bk.toNatClampNeg = bk.toInt.toNat := rfl
  generalize hNd : hv bk.toInt.toNat = N at hN0 hN8 ⊢
  have iN := zx_b_int N
  let P : zx_R → Prop := fun r => r.2 = w ∧ ∃ x : Int32, r.1 = some (.inl x) ∧ tr_FF al N.toInt O x
  let WP : zx_S → Prop := fun σ => zx_wp (zx_Cl zx_mt zx_rc zx_mx' 1) none (0, 0) (zx_find (zx_cT zx_d_X12_firstFree)) (fun σ => ∃ r, zx_ret (zx_find (zx_cT zx_d_X12_firstFree)) (0, 0) σ r ∧ P r) σ
  have loop : ∀ (n : Nat) (k : Int32) (ls : List (Nat × zx_V)), k.toInt + n = N.toInt → 0 ≤ k.toInt → (∀ j : Int32, 0 ≤ j.toInt → j.toInt < k.toInt → tj_alv al j → 0 ≤ (O j.toInt.toNat).toInt) → zx_limP w.length ls = true → zx_look 0 ls = some (.inr (.inr (.inl q))) → zx_look 1 ls = some (.inl k) → WP (2, ls, [], w, 0, 0) := by
    intro n
    induction n with
    | zero =>
      intro k ls hn hk0 hj hls l0 l1
      have ik := zx_b_int k
      refine zy_li rfl l1 ?_
      refine zy_la rfl l0 (Or.inl ⟨_, rfl⟩) ?_
      refine zy_get rfl k0 k11 ?_
      refine zy_la rfl l0 (Or.inl ⟨_, rfl⟩) ?_
      refine zy_get rfl k0 k39 ?_
      refine zy_ld rfl kc (tr_in (by omega) (by omega)) ?_
      rw [ebn, hNd]
      refine zy_jt rfl (fun _ => ?_) (fun h => ?_)
      · refine zy_ci (n := 1) (c := 4294967295) rfl ?_
        exact zx_wp_done ⟨(some (.inl (Int32.ofNat 4294967295)), w), ⟨Nat.le_refl _, Nat.le_refl _, rfl, ⟨_, rfl, rfl⟩⟩, rfl, _, rfl, Or.inl ⟨by decide, fun j j1 j2 => hj j j1 (by omega)⟩⟩
      · have h : zx_b k < zx_b N := h
        omega
    | succ n ih =>
      intro k ls hn hk0 hj hls l0 l1
      have ik := zx_b_int k
      obtain ⟨u, hu, hu'⟩ := tr_aliveK (q := q) (h := k) k0 k49 ka
      have en : k.toNatClampNeg = k.toInt.toNat := rfl
      have ix := zx_b_int (O k.toInt.toNat)
      have nx : ∀ ls2, ls2 = ls → (tj_alv al k → 0 ≤ (O k.toInt.toNat).toInt) → WP (34, ls2, [], w, 0, 0) := by
        intro ls2 e hk
        subst e
        refine zy_ik (k := 1) (n := 1) rfl l1 ?_
        refine zy_goto rfl ?_
        have ek : (k + Int32.ofNat 1).toInt = k.toInt + 1 := tm_inc tm_k1 (by omega)
        refine ih (k + Int32.ofNat 1) _ (by omega) (by omega) (fun j j1 j2 jA => ?_) (zy_limP_put hls rfl) (zy_look_ne (by decide) rfl l0) zy_look_put
        by_cases e : j.toInt = k.toInt
        · have e : j = k := Int32.toInt_inj.mp e
          subst e
          exact hk jA
        · exact hj j j1 (by omega) jA
      refine zy_li rfl l1 ?_
      refine zy_la rfl l0 (Or.inl ⟨_, rfl⟩) ?_
      refine zy_get rfl k0 k11 ?_
      refine zy_la rfl l0 (Or.inl ⟨_, rfl⟩) ?_
      refine zy_get rfl k0 k39 ?_
      refine zy_ld rfl kc (tr_in (by omega) (by omega)) ?_
      rw [ebn, hNd]
      refine zy_jt rfl (fun h => ?_) (fun _ => ?_)
      · have h : zx_b N ≤ zx_b k := h
        omega
      refine zy_la rfl l0 (Or.inl ⟨_, rfl⟩) ?_
      refine zy_li rfl l1 ?_
      refine zy_callK (a := 0) (n := 2) (st := []) hu rfl rfl (Nat.le_of_ble_eq_true rfl) hls rfl (Nat.zero_le _) (Nat.zero_le _) ?_
      rcases hu' with ⟨eu, hA⟩ | ⟨eu, hA⟩
      rotate_left
      · subst eu
        refine zy_j0 rfl (fun _ => nx _ rfl (fun hA' => absurd hA' hA)) (fun e => absurd (by decide : zx_b (Int32.ofNat 0) = 2147483648) e)
      subst eu
      refine zy_j0 rfl (fun e => absurd e (by decide : ¬ zx_b (Int32.ofNat 1) = 2147483648)) (fun _ => ?_)
      refine zy_la rfl l0 (Or.inl ⟨_, rfl⟩) ?_
      refine zy_get rfl k0 k59 ?_
      refine zy_li rfl l1 ?_
      refine zy_ld rfl kb (tr_in (by omega) (by omega)) ?_
      rw [en]
      refine zy_j0 rfl (fun hge => ?_) (fun hlt => ?_)
      · have hge : 2147483648 ≤ zx_b (O k.toInt.toNat) := hge
        exact nx _ rfl (fun _ => by omega)
      · have hlt : zx_b (O k.toInt.toNat) < 2147483648 := hlt
        refine zy_li rfl l1 ?_
        exact zx_wp_done ⟨(some (.inl k), w), ⟨Nat.le_refl _, Nat.le_refl _, rfl, ⟨_, rfl, rfl⟩⟩, rfl, k, rfl, Or.inr ⟨hk0, by omega, hA, by omega, hj⟩⟩
  have key : ∃ r, zx_Cl zx_mt zx_rc zx_mx' 2 120 [(.inr (.inr (.inl q)))] w (0, 0) r ∧ P r := by
    refine zy_funE (d := 1) (dt := zx_d_X12_firstFree) (by rw [← zx_q_X12_firstFree]; rfl) (by rw [(by decide +kernel : zx_rc 120 = 13)]; exact ⟨q, _, fs, rfl, k0⟩) (by decide +kernel : 1 ≤ zx_mx' 120) ?_
    show WP (0, [(0, (.inr (.inr (.inl q))))], [], w, 0, 0)
    refine zy_ci (n := 1) (c := 0) rfl ?_
    refine zy_si (k := 1) rfl ?_
    have z0 : (Int32.ofNat 0).toInt = 0 := by decide
    exact loop N.toInt.toNat (Int32.ofNat 0) _ (by omega) (by omega) (fun j j1 j2 => by omega) (zy_limP_put (tm_lim hlw rfl) rfl) rfl zy_look_put
  obtain ⟨⟨r1, r2⟩, hr, e1, v, e2, e3⟩ := key
  have e1 : r2 = w := e1
  have e2 : r1 = some (.inl v) := e2
  subst e1
  subst e2
  exact ⟨v, hr, e3⟩
set_option maxRecDepth 20000 in
theorem tr_isFastK (hG : tr_G w q bk hv al O lk) (hO : ∀ j : Nat, j < 8 → (O j).toInt ≤ 7) (hall : ∀ j : Int32, 0 ≤ j.toInt → j.toInt < (hv bk.toInt.toNat).toInt → tj_alv al j → 0 ≤ (O j.toInt.toNat).toInt) : ∃ v : Int32, zx_Cl zx_mt zx_rc zx_mx' 3 142 [(.inr (.inr (.inl q)))] w (0, 0) (some (.inl v), w) := by
  have hG0 := hG
  obtain ⟨h39, h11, h49, h59, h21, hb, hN0, hN8⟩ := hG
  obtain ⟨fs, b, k0, k59, kb⟩ := id h59
  obtain ⟨fs', a, k0', k49, ka⟩ := id h49
  rw [k0] at k0'
  cases k0'
  obtain ⟨fs', c, k0', k11, kc⟩ := id h11
  rw [k0] at k0'
  cases k0'
  obtain ⟨fs', k0', k39⟩ := id h39
  rw [k0] at k0'
  cases k0'
  have hlw : q < w.length := (List.getElem?_eq_some_iff.mp k0).1
  have ebn : bk.toNatClampNeg = bk.toInt.toNat := rfl
  generalize hNd : hv bk.toInt.toNat = N at hN0 hN8 hall
  have iN := zx_b_int N
  let P : zx_R → Prop := fun r => r.2 = w ∧ ∃ x : Int32, r.1 = some (.inl x)
  let WP : zx_S → Prop := fun σ => zx_wp (zx_Cl zx_mt zx_rc zx_mx' 2) none (0, 0) (zx_find (zx_cT zx_d_X12_isFast)) (fun σ => ∃ r, zx_ret (zx_find (zx_cT zx_d_X12_isFast)) (0, 0) σ r ∧ P r) σ
  have outer : ∀ (n : Nat) (x : Int32) (ls : List (Nat × zx_V)), x.toInt + n = N.toInt → 0 ≤ x.toInt → zx_limP w.length ls = true → zx_look 0 ls = some (.inr (.inr (.inl q))) → zx_look 1 ls = some (.inl x) → WP (2, ls, [], w, 0, 0) := by
    intro n
    induction n with
    | zero =>
      intro x ls hn hx0 hls l0 l1
      have ix := zx_b_int x
      refine zy_li rfl l1 ?_
      refine zy_la rfl l0 (Or.inl ⟨_, rfl⟩) ?_
      refine zy_get rfl k0 k11 ?_
      refine zy_la rfl l0 (Or.inl ⟨_, rfl⟩) ?_
      refine zy_get rfl k0 k39 ?_
      refine zy_ld rfl kc (tr_in (by omega) (by omega)) ?_
      rw [ebn, hNd]
      refine zy_jt rfl (fun _ => ?_) (fun h => ?_)
      · refine zy_ci (n := 1) (c := 1) rfl ?_
        exact zx_wp_done ⟨(some (.inl (Int32.ofNat 1)), w), ⟨Nat.le_refl _, Nat.le_refl _, rfl, ⟨_, rfl, Or.inr rfl, rfl⟩⟩, rfl, _, rfl⟩
      · have h : zx_b x < zx_b N := h
        omega
    | succ n ihO =>
      intro x ls hn hx0 hls l0 l1
      have ix := zx_b_int x
      obtain ⟨u, hu, hu'⟩ := tr_aliveK (q := q) (h := x) k0 k49 ka
      have enx : x.toNatClampNeg = x.toInt.toNat := rfl
      refine zy_li rfl l1 ?_
      refine zy_la rfl l0 (Or.inl ⟨_, rfl⟩) ?_
      refine zy_get rfl k0 k11 ?_
      refine zy_la rfl l0 (Or.inl ⟨_, rfl⟩) ?_
      refine zy_get rfl k0 k39 ?_
      refine zy_ld rfl kc (tr_in (by omega) (by omega)) ?_
      rw [ebn, hNd]
      refine zy_jt rfl (fun h => ?_) (fun _ => ?_)
      · have h : zx_b N ≤ zx_b x := h
        omega
      have inner : ∀ (m : Nat) (y : Int32) (ls : List (Nat × zx_V)), y.toInt + m = x.toInt → 0 ≤ y.toInt → zx_limP w.length ls = true → zx_look 0 ls = some (.inr (.inr (.inl q))) → zx_look 1 ls = some (.inl x) → zx_look 2 ls = some (.inl y) → WP (17, ls, [], w, 0, 0) := by
        intro m
        induction m with
        | zero =>
          intro y ls hm hy0 hls l0 l1 l2
          have iy := zx_b_int y
          refine zy_li rfl l2 ?_
          refine zy_li rfl l1 ?_
          refine zy_jt rfl (fun _ => ?_) (fun h => ?_)
          · refine zy_ik (k := 1) (n := 1) rfl l1 ?_
            refine zy_goto rfl ?_
            have ek : (x + Int32.ofNat 1).toInt = x.toInt + 1 := tm_inc tm_k1 (by omega)
            exact ihO (x + Int32.ofNat 1) _ (by omega) (by omega) (zy_limP_put hls rfl) (zy_look_ne (by decide) rfl l0) zy_look_put
          · have h : zx_b y < zx_b x := h
            omega
        | succ m ih =>
          intro y ls hm hy0 hls l0 l1 l2
          have iy := zx_b_int y
          have nx : WP (81, ls, [], w, 0, 0) := by
            refine zy_ik (k := 2) (n := 1) rfl l2 ?_
            refine zy_goto rfl ?_
            have ek : (y + Int32.ofNat 1).toInt = y.toInt + 1 := tm_inc tm_k1 (by omega)
            exact ih (y + Int32.ofNat 1) _ (by omega) (by omega) (zy_limP_put hls rfl) (zy_look_ne (by decide) rfl l0) (zy_look_ne (by decide) rfl l1) zy_look_put
          obtain ⟨t, ht, ht'⟩ := tr_aliveK (q := q) (h := y) k0 k49 ka
          refine zy_li rfl l2 ?_
          refine zy_li rfl l1 ?_
          refine zy_jt rfl (fun h => ?_) (fun _ => ?_)
          · have h : zx_b x ≤ zx_b y := h
            omega
          refine zy_la rfl l0 (Or.inl ⟨_, rfl⟩) ?_
          refine zy_li rfl l1 ?_
          refine zy_callK (a := 0) (n := 2) (st := []) (zx_Cl_le (by decide) hu) rfl rfl (Nat.le_of_ble_eq_true rfl) hls rfl (Nat.zero_le _) (Nat.zero_le _) ?_
          rcases hu' with ⟨eu, hA⟩ | ⟨eu, hA⟩
          rotate_left
          · subst eu
            refine zy_j0 rfl (fun _ => nx) (fun e => absurd (by decide : zx_b (Int32.ofNat 0) = 2147483648) e)
          subst eu
          refine zy_j0 rfl (fun e => absurd e (by decide : ¬ zx_b (Int32.ofNat 1) = 2147483648)) (fun _ => ?_)
          refine zy_la rfl l0 (Or.inl ⟨_, rfl⟩) ?_
          refine zy_li rfl l2 ?_
          refine zy_callK (a := 0) (n := 2) (st := []) (zx_Cl_le (by decide) ht) rfl rfl (Nat.le_of_ble_eq_true rfl) hls rfl (Nat.zero_le _) (Nat.zero_le _) ?_
          rcases ht' with ⟨et, hB⟩ | ⟨et, hB⟩
          rotate_left
          · subst et
            refine zy_j0 rfl (fun _ => nx) (fun e => absurd (by decide : zx_b (Int32.ofNat 0) = 2147483648) e)
          subst et
          refine zy_j0 rfl (fun e => absurd e (by decide : ¬ zx_b (Int32.ofNat 1) = 2147483648)) (fun _ => ?_)
          have hx := hall x (by omega) (by omega) hA
          have hy := hall y (by omega) (by omega) hB
          obtain ⟨v1, hv1⟩ := tr_likeOfK hG0 (a := x) (b := y) (by omega) (by omega)
          obtain ⟨v2, hv2⟩ := tr_likingK hG0 (h := x) (by omega) ⟨hx, hO _ (by omega)⟩
          obtain ⟨v3, hv3⟩ := tr_likeOfK hG0 (a := y) (b := x) (by omega) (by omega)
          obtain ⟨v4, hv4⟩ := tr_likingK hG0 (h := y) (by omega) ⟨hy, hO _ (by omega)⟩
          refine zy_la rfl l0 (Or.inl ⟨_, rfl⟩) ?_
          refine zy_get rfl k0 k59 ?_
          refine zy_li rfl l1 ?_
          refine zy_ld rfl kb (tr_in (by omega) (by omega)) ?_
          refine zy_li rfl l2 ?_
          refine zy_jt rfl (fun _ => ?_) (fun _ => ?_)
          rotate_left
          · exact zy_goto rfl nx
          refine zy_la rfl l0 (Or.inl ⟨_, rfl⟩) ?_
          refine zy_li rfl l1 ?_
          refine zy_li rfl l2 ?_
          refine zy_callK (a := 0) (n := 3) (st := []) (zx_Cl_le (by decide) hv1) rfl rfl (Nat.le_of_ble_eq_true rfl) hls rfl (Nat.zero_le _) (Nat.zero_le _) ?_
          refine zy_la rfl l0 (Or.inl ⟨_, rfl⟩) ?_
          refine zy_li rfl l1 ?_
          refine zy_callK (a := 0) (n := 2) (st := [(.inl v1)]) hv2 rfl rfl (Nat.le_of_ble_eq_true rfl) hls rfl (Nat.zero_le _) (Nat.zero_le _) ?_
          refine zy_jt rfl (fun _ => nx) (fun _ => ?_)
          refine zy_la rfl l0 (Or.inl ⟨_, rfl⟩) ?_
          refine zy_li rfl l2 ?_
          refine zy_li rfl l1 ?_
          refine zy_callK (a := 0) (n := 3) (st := []) (zx_Cl_le (by decide) hv3) rfl rfl (Nat.le_of_ble_eq_true rfl) hls rfl (Nat.zero_le _) (Nat.zero_le _) ?_
          refine zy_la rfl l0 (Or.inl ⟨_, rfl⟩) ?_
          refine zy_li rfl l2 ?_
          refine zy_callK (a := 0) (n := 2) (st := [(.inl v3)]) hv4 rfl rfl (Nat.le_of_ble_eq_true rfl) hls rfl (Nat.zero_le _) (Nat.zero_le _) ?_
          refine zy_jt rfl (fun _ => nx) (fun _ => ?_)
          refine zy_ci (n := 1) (c := 0) rfl ?_
          exact zx_wp_done ⟨(some (.inl (Int32.ofNat 0)), w), ⟨Nat.le_refl _, Nat.le_refl _, rfl, ⟨_, rfl, Or.inl rfl, rfl⟩⟩, rfl, _, rfl⟩
      refine zy_ci (n := 1) (c := 0) rfl ?_
      refine zy_si (k := 2) rfl ?_
      have z0 : (Int32.ofNat 0).toInt = 0 := by decide
      exact inner x.toInt.toNat (Int32.ofNat 0) _ (by omega) (by omega) (zy_limP_put hls rfl) (zy_look_ne (by decide) rfl l0) (zy_look_ne (by decide) rfl l1) zy_look_put
  have key : ∃ r, zx_Cl zx_mt zx_rc zx_mx' 3 142 [(.inr (.inr (.inl q)))] w (0, 0) r ∧ P r := by
    refine zy_funE (d := 2) (dt := zx_d_X12_isFast) (by rw [← zx_q_X12_isFast]; rfl) (by rw [(by decide +kernel : zx_rc 142 = 13)]; exact ⟨q, _, fs, rfl, k0⟩) (by decide +kernel : 1 ≤ zx_mx' 142) ?_
    show WP (0, [(0, (.inr (.inr (.inl q))))], [], w, 0, 0)
    refine zy_ci (n := 1) (c := 0) rfl ?_
    refine zy_si (k := 1) rfl ?_
    have z0 : (Int32.ofNat 0).toInt = 0 := by decide
    exact outer N.toInt.toNat (Int32.ofNat 0) _ (by omega) (by omega) (zy_limP_put (tm_lim hlw rfl) rfl) rfl zy_look_put
  obtain ⟨⟨r1, r2⟩, hr, e1, v, e2⟩ := key
  have e1 : r2 = w := e1
  have e2 : r1 = some (.inl v) := e2
  subst e1
  subst e2
  exact ⟨v, hr⟩
set_option maxRecDepth 20000 in
theorem tr_likedInAllK (hG : tr_G w q bk hv al O lk) (hO : ∀ j : Nat, j < 8 → (O j).toInt ≤ 7) (hall : ∀ j : Int32, 0 ≤ j.toInt → j.toInt < (hv bk.toInt.toNat).toInt → tj_alv al j → 0 ≤ (O j.toInt.toNat).toInt) : ∃ v : Int32, zx_Cl zx_mt zx_rc zx_mx' 3 168 [(.inr (.inr (.inl q)))] w (0, 0) (some (.inl v), w) := by
  have hG0 := hG
  obtain ⟨h39, h11, h49, h59, h21, hb, hN0, hN8⟩ := hG
  obtain ⟨fs, a, k0, k49, ka⟩ := id h49
  obtain ⟨fs', c, k0', k11, kc⟩ := id h11
  rw [k0] at k0'
  cases k0'
  obtain ⟨fs', k0', k39⟩ := id h39
  rw [k0] at k0'
  cases k0'
  have hlw : q < w.length := (List.getElem?_eq_some_iff.mp k0).1
  have ebn : bk.toNatClampNeg = bk.toInt.toNat := rfl
  generalize hNd : hv bk.toInt.toNat = N at hN0 hN8 hall
  have iN := zx_b_int N
  let P : zx_R → Prop := fun r => r.2 = w ∧ ∃ x : Int32, r.1 = some (.inl x)
  let WP : zx_S → Prop := fun σ => zx_wp (zx_Cl zx_mt zx_rc zx_mx' 2) none (0, 0) (zx_find (zx_cT zx_d_X12_likedInAll)) (fun σ => ∃ r, zx_ret (zx_find (zx_cT zx_d_X12_likedInAll)) (0, 0) σ r ∧ P r) σ
  have loop : ∀ (n : Nat) (k s : Int32) (ls : List (Nat × zx_V)), k.toInt + n = N.toInt → 0 ≤ k.toInt → zx_limP w.length ls = true → zx_look 0 ls = some (.inr (.inr (.inl q))) → zx_look 1 ls = some (.inl s) → zx_look 2 ls = some (.inl k) → WP (4, ls, [], w, 0, 0) := by
    intro n
    induction n with
    | zero =>
      intro k s ls hn hk0 hls l0 l1 l2
      have ik := zx_b_int k
      refine zy_li rfl l2 ?_
      refine zy_la rfl l0 (Or.inl ⟨_, rfl⟩) ?_
      refine zy_get rfl k0 k11 ?_
      refine zy_la rfl l0 (Or.inl ⟨_, rfl⟩) ?_
      refine zy_get rfl k0 k39 ?_
      refine zy_ld rfl kc (tr_in (by omega) (by omega)) ?_
      rw [ebn, hNd]
      refine zy_jt rfl (fun _ => ?_) (fun h => ?_)
      · refine zy_li rfl l1 ?_
        exact zx_wp_done ⟨(some (.inl s), w), ⟨Nat.le_refl _, Nat.le_refl _, rfl, ⟨_, rfl, rfl⟩⟩, rfl, s, rfl⟩
      · have h : zx_b k < zx_b N := h
        omega
    | succ n ih =>
      intro k s ls hn hk0 hls l0 l1 l2
      have ik := zx_b_int k
      obtain ⟨u, hu, hu'⟩ := tr_aliveK (q := q) (h := k) k0 k49 ka
      have nx : ∀ t : Int32, WP (35, ls, [(.inl t), (.inl s)], w, 0, 0) := by
        intro t
        refine zy_add rfl ?_
        refine zy_si (k := 1) rfl ?_
        refine zy_ik (k := 2) (n := 1) rfl (zy_look_ne (by decide) rfl l2) ?_
        refine zy_goto rfl ?_
        have ek : (k + Int32.ofNat 1).toInt = k.toInt + 1 := tm_inc tm_k1 (by omega)
        exact ih (k + Int32.ofNat 1) (s + t) _ (by omega) (by omega) (zy_limP_put (zy_limP_put hls rfl) rfl) (zy_look_ne (by decide) rfl (zy_look_ne (by decide) rfl l0)) (zy_look_ne (by decide) rfl zy_look_put) zy_look_put
      refine zy_li rfl l2 ?_
      refine zy_la rfl l0 (Or.inl ⟨_, rfl⟩) ?_
      refine zy_get rfl k0 k11 ?_
      refine zy_la rfl l0 (Or.inl ⟨_, rfl⟩) ?_
      refine zy_get rfl k0 k39 ?_
      refine zy_ld rfl kc (tr_in (by omega) (by omega)) ?_
      rw [ebn, hNd]
      refine zy_jt rfl (fun h => ?_) (fun _ => ?_)
      · have h : zx_b N ≤ zx_b k := h
        omega
      refine zy_li rfl l1 ?_
      refine zy_la rfl l0 (Or.inl ⟨_, rfl⟩) ?_
      refine zy_li rfl l2 ?_
      refine zy_callK (a := 0) (n := 2) (st := [(.inl s)]) (zx_Cl_le (by decide) hu) rfl rfl (Nat.le_of_ble_eq_true rfl) hls rfl (Nat.zero_le _) (Nat.zero_le _) ?_
      rcases hu' with ⟨eu, hA⟩ | ⟨eu, hA⟩
      · subst eu
        refine zy_j0 rfl (fun e => absurd e (by decide : ¬ zx_b (Int32.ofNat 1) = 2147483648)) (fun _ => ?_)
        obtain ⟨v, hv'⟩ := tr_likingK hG0 (h := k) (by omega) ⟨hall k (by omega) (by omega) hA, hO _ (by omega)⟩
        refine zy_la rfl l0 (Or.inl ⟨_, rfl⟩) ?_
        refine zy_li rfl l2 ?_
        refine zy_callK (a := 0) (n := 2) (st := [(.inl s)]) hv' rfl rfl (Nat.le_of_ble_eq_true rfl) hls rfl (Nat.zero_le _) (Nat.zero_le _) ?_
        refine zy_goto rfl ?_
        exact nx v
      · subst eu
        refine zy_j0 rfl (fun _ => ?_) (fun e => absurd (by decide : zx_b (Int32.ofNat 0) = 2147483648) e)
        refine zy_ci (n := 1) (c := 0) rfl ?_
        exact nx _
  have key : ∃ r, zx_Cl zx_mt zx_rc zx_mx' 3 168 [(.inr (.inr (.inl q)))] w (0, 0) r ∧ P r := by
    refine zy_funE (d := 2) (dt := zx_d_X12_likedInAll) (by rw [← zx_q_X12_likedInAll]; rfl) (by rw [(by decide +kernel : zx_rc 168 = 13)]; exact ⟨q, _, fs, rfl, k0⟩) (by decide +kernel : 1 ≤ zx_mx' 168) ?_
    show WP (0, [(0, (.inr (.inr (.inl q))))], [], w, 0, 0)
    refine zy_ci (n := 1) (c := 0) rfl ?_
    refine zy_si (k := 1) rfl ?_
    refine zy_ci (n := 1) (c := 0) rfl ?_
    refine zy_si (k := 2) rfl ?_
    have z0 : (Int32.ofNat 0).toInt = 0 := by decide
    exact loop N.toInt.toNat (Int32.ofNat 0) (Int32.ofNat 0) _ (by omega) (by omega) (zy_limP_put (zy_limP_put (tm_lim hlw rfl) rfl) rfl) rfl rfl zy_look_put
  obtain ⟨⟨r1, r2⟩, hr, e1, v, e2⟩ := key
  have e1 : r2 = w := e1
  have e2 : r1 = some (.inl v) := e2
  subst e1
  subst e2
  exact ⟨v, hr⟩
end trPair
