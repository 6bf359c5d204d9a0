/-! by hand: acts, images, bargains of the reference -/
set_option maxRecDepth 20000 in
theorem tr_isDeedK {Ψ : List Nat} {w : List zx_E} {q : Nat} {bk h : Int32} {hv : Nat → Int32} (h39 : tj_fi w q 12 39 bk) (h14 : tj_fa w q 12 14 2 hv) (hb : bk.toInt = 0 ∨ bk.toInt = 1) (h8 : 0 ≤ (hv bk.toInt.toNat).toInt ∧ (hv bk.toInt.toNat).toInt ≤ 6) : ∃ v, zx_Cl zx_mt zx_rc zx_mx' 2 140 [(.inr (.inr (.inl q))), (.inl h)] w (0, 0) (some (.inl v), w) ∧ ((v = Int32.ofNat 1 ∧ 0 ≤ h.toInt ∧ h.toInt < (hv bk.toInt.toNat).toInt) ∨ (v = Int32.ofNat 0 ∧ ¬ (0 ≤ h.toInt ∧ h.toInt < (hv bk.toInt.toNat).toInt))) := by
  obtain ⟨fs, k0, k39⟩ := id h39
  obtain ⟨fs', a, k0', k14, ka⟩ := id h14
  rw [k0] at k0'
  cases k0'
  have hlw : q < w.length := (List.getElem?_eq_some_iff.mp k0).1
  have eb : bk.toNatClampNeg = bk.toInt.toNat := rfl
  have e1 : (Int32.ofNat 1).toInt = 1 := by decide
  have e0 : (Int32.ofNat 0).toInt = 0 := by decide
  have es : (hv bk.toInt.toNat - Int32.ofNat 1).toInt = (hv bk.toInt.toNat).toInt - 1 := by rw [tr_sub (by omega) (by omega), e1]
  obtain ⟨v, hK, hv'⟩ := tr_isInK (w := w) (x := h) (a := Int32.ofNat 0) (b := hv bk.toInt.toNat - Int32.ofNat 1)
  rw [es, e0] at hv'
  refine ⟨v, ?_, ?_⟩
  · refine zy_fun (d := 1) (dt := zx_d_X12_isDeed) (by rw [← zx_q_X12_isDeed]; rfl) (by rw [(by decide +kernel : zx_rc 140 = 13)]; exact ⟨q, _, fs, rfl, k0⟩) (by decide +kernel : 2 ≤ zx_mx' 140) ?_
    show zx_wp _ none _ _ _ (0, [(0, (.inr (.inr (.inl q)))), (1, (.inl h))], [], w, 0, 0)
    refine zy_li (k := 1) rfl rfl ?_
    refine zy_ci (n := 1) (c := 0) rfl ?_
    refine zy_la (k := 0) rfl rfl (Or.inl ⟨_, rfl⟩) ?_
    refine zy_get rfl k0 k14 ?_
    refine zy_la (k := 0) rfl rfl (Or.inl ⟨_, rfl⟩) ?_
    refine zy_get rfl k0 k39 ?_
    refine zy_ld rfl ka (tr_in (by omega) (by omega)) ?_
    rw [eb]
    refine zy_ci (n := 1) (c := 1) rfl ?_
    refine zy_sub rfl ?_
    refine zx_wp_call (a := 0) (n := 3) (y := 146) (g := zx_no) (av := [(.inl h), (.inl (Int32.ofNat 0)), (.inl (hv bk.toInt.toNat - Int32.ofNat 1))]) (st' := []) (cy := (0, 0)) (r := (some (.inl v), w)) rfl rfl (Nat.le_of_ble_eq_true rfl) (tm_lim hlw rfl) rfl (Nat.le_refl _) (Nat.le_refl _) hK ?_
    refine zx_wp_done ⟨Nat.le_refl _, Nat.le_refl _, rfl, ⟨v, rfl, ?_, rfl⟩⟩
    rcases hv' with ⟨e, -⟩ | ⟨e, -⟩
    · exact Or.inr e
    · exact Or.inl e
  · rcases hv' with ⟨e, h1, h2⟩ | ⟨e, hn⟩
    · exact Or.inl ⟨e, h1, by omega⟩
    · exact Or.inr ⟨e, fun hh => hn ⟨hh.1, by omega⟩⟩
/-- deeds: at most 6 -/
theorem tr_b6 {Ψ : List Nat} {w : List zx_E} {q : Nat} {hv : Nat → Int32} (hw : tj_wt tj_Lam Ψ w) (hq : Ψ[q]? = some 149) (h14 : tj_fa w q 12 14 2 hv) {j : Nat} (hj : j < 2) : 0 ≤ (hv j).toInt ∧ (hv j).toInt ≤ 6 := by
  obtain ⟨fs, a, k0, k14, ka⟩ := h14
  obtain ⟨fsT, f1, -, -, f3⟩ := tj_obj hw hq tr_hd
  rw [k0] at f1
  cases f1
  obtain ⟨v, g, p, y, hp⟩ := f3 14 (1, 106, 0) rfl
  rw [k14] at g
  cases g
  cases y
  obtain ⟨g', kg, bg⟩ := tj_iarr (kd := 0) (n := 2) (s := [(2, 2147483648, 2147483654)]) hw hp rfl (Or.inl rfl)
  rw [ka] at kg
  cases kg
  have h := bg j hj 2147483648 2147483654 (by
    unfold tj_sel
    rw [show Nat.blt j 2 = true from Nat.ble_eq_true_of_le hj])
  have b := zx_b_int (hv j)
  omega

theorem zy_ldz {K : zx_K} {X : zx_X} {cap : Nat × Nat} {tab : Nat → Option zx_Q} {Q : zx_S → Prop} {pc mc ms q n : Nat} {ls : List (Nat × zx_V)} {st : List zx_V} {w : List zx_E} {i : Int32} {g : Nat → Int32} (ht : tab pc = some (zx_ld 2)) (hq : w[q]? = some (.inr (2, n, .inl g))) (hin : zx_in i n = true) (kk : zx_wp K X cap tab Q (pc + 1, ls, (.inl (g i.toNatClampNeg)) :: st, w, mc, ms)) : zx_wp K X cap tab Q (pc, ls, (.inl i) :: (.inr (.inr (.inl q))) :: st, w, mc, ms) := by
  refine zx_wp_pure (μ := (pc + 1, ls, (.inl (g i.toNatClampNeg)) :: st, w, mc, ms)) ht ?_ kk
  show zx_ald 2 X _ = _
  simp only [zx_ald, hq, zx_beqT (rfl : (2 : Nat) = 2), hin, Bool.and_self]
def tr_seg (l : Nat) : List tj_y := tr_go (tj_Lam[l]?)
theorem tr_segA : tj_Lam[139]? = some (.inr (0, 119, tr_seg 139)) := rfl
theorem tr_segW : tj_Lam[140]? = some (.inr (0, 4879, tr_seg 140)) := rfl
theorem tr_segB : tj_Lam[141]? = some (.inr (0, 357, tr_seg 141)) := rfl
theorem tr_sel_app1 {X : List tj_y} : ∀ {s : List tj_y} {j : Nat} {q : Nat × Nat}, tj_sel s j = some q → tj_sel (s ++ X) j = some q
  | [], _, _, h => by cases h
  | (u, a, b) :: s, j, q, h => by
    show tj_sel ((u, a, b) :: (s ++ X)) j = _
    unfold tj_sel at h ⊢
    split at h
    next => exact h
    next => exact tr_sel_app1 h
theorem tr_sel_app0 {X : List tj_y} {n : Nat} : ∀ {s : List tj_y} {j : Nat}, s.all (fun q => Nat.ble q.1 n) = true → n ≤ j → tj_sel (s ++ X) j = tj_sel X j
  | [], _, _, _ => rfl
  | (u, a, b) :: s, j, h, hj => by
    rw [List.all_cons, Bool.and_eq_true] at h
    have hu : u ≤ n := Nat.le_of_ble_eq_true h.1
    have e : Nat.blt j u = false := tl_bltF (by omega)
    show (match Nat.blt j u with
      | true => some (a, b)
      | false => tj_sel (s ++ X) j) = _
    rw [e]
    exact tr_sel_app0 h.2 hj
def tr_sh (n : Nat) (s : List tj_y) : List tj_y := s.map (fun q => (q.1 + n, q.2.1, q.2.2))
theorem tr_sel_sh {n : Nat} : ∀ {s : List tj_y} {j : Nat}, tj_sel (tr_sh n s) (j + n) = tj_sel s j
  | [], _ => rfl
  | (u, a, b) :: s, j => by
    show tj_sel ((u + n, a, b) :: tr_sh n s) (j + n) = _
    unfold tj_sel
    have e : Nat.blt (j + n) (u + n) = Nat.blt j u := by
      cases h : Nat.blt j u with
      | true =>
        have := tj_blt_t h
        exact Nat.ble_eq_true_of_le (by omega)
      | false => exact tl_bltF (by have := tj_blt_f h; omega)
    rw [e]
    split
    next => rfl
    next => exact tr_sel_sh
def tr_per : Nat → List tj_y
  | 0 => []
  | m + 1 => tr_seg 139 ++ tr_sh 119 (tr_per m)
theorem tr_selA {j : Nat} (h : j < 119) : ∃ q, tj_sel (tr_seg 139) j = some q := by
  have hB : (List.range 119).all (fun i => (tj_sel (tr_seg 139) i).isSome) = true := by decide +kernel
  have := List.all_eq_true.mp hB j (List.mem_range.mpr h)
  exact Option.isSome_iff_exists.mp this
theorem tr_sel_per : ∀ {m j : Nat}, j < 119 * m → tj_sel (tr_per m) j = tj_sel (tr_seg 139) (j % 119)
  | 0, j, h => absurd h (by omega)
  | m + 1, j, h => by
    show tj_sel (tr_seg 139 ++ tr_sh 119 (tr_per m)) j = _
    by_cases hj : j < 119
    · obtain ⟨q, hq⟩ := tr_selA hj
      rw [tr_sel_app1 hq, Nat.mod_eq_of_lt hj, hq]
    · rw [tr_sel_app0 (n := 119) (by decide +kernel) (by omega), show j = (j - 119) + 119 by omega, tr_sel_sh, tr_sel_per (m := m) (by omega), Nat.add_mod_right]
def tr_eqL : List tj_y → List tj_y → Bool
  | [], [] => true
  | (a, b, c) :: s, (a', b', c') :: t => Nat.beq a a' && (Nat.beq b b' && (Nat.beq c c' && tr_eqL s t))
  | _, _ => false
theorem tr_eqL_ok : ∀ {s t : List tj_y}, tr_eqL s t = true → s = t
  | [], [], _ => rfl
  | (a, b, c) :: s, (a', b', c') :: t, h => by
    have h : (Nat.beq a a' && (Nat.beq b b' && (Nat.beq c c' && tr_eqL s t))) = true := h
    simp only [Bool.and_eq_true] at h
    obtain ⟨h1, h2, h3, h4⟩ := h
    rw [Nat.eq_of_beq_eq_true h1, Nat.eq_of_beq_eq_true h2, Nat.eq_of_beq_eq_true h3, tr_eqL_ok h4]
  | [], _ :: _, h => by cases h
  | _ :: _, [], h => by cases h
set_option maxRecDepth 100000 in
theorem tr_perW {i : Nat} (h : i < 4879) : tj_sel (tr_seg 140) i = tj_sel (tr_seg 139) (i % 119) := by
  rw [tr_eqL_ok (s := tr_seg 140) (t := tr_per 41) (by decide +kernel)]
  exact tr_sel_per (by omega)
set_option maxRecDepth 100000 in
theorem tr_perB {i : Nat} (h : i < 357) : tj_sel (tr_seg 141) i = tj_sel (tr_seg 139) (i % 119) := by
  rw [tr_eqL_ok (s := tr_seg 141) (t := tr_per 3) (by decide +kernel)]
  exact tr_sel_per (by omega)
/-- an int that fits at an index -/
def tr_ok (l i : Nat) (x : Int32) : Prop := ∀ a b, tj_sel (tr_seg l) i = some (a, b) → a ≤ zx_b x ∧ zx_b x ≤ b
theorem tr_okWA {i k : Nat} {x : Int32} (h : tr_ok 140 i x) (hi : i < 4879) (hk : i % 119 = k) : tr_ok 139 k x := fun a b hs => h a b (by rw [tr_perW hi, hk]; exact hs)
theorem tr_okAW {i k : Nat} {x : Int32} (h : tr_ok 139 k x) (hi : i < 4879) (hk : i % 119 = k) : tr_ok 140 i x := fun a b hs => h a b (by rw [tr_perW hi, hk] at hs; exact hs)
theorem tr_okBA {i k : Nat} {x : Int32} (h : tr_ok 141 i x) (hi : i < 357) (hk : i % 119 = k) : tr_ok 139 k x := fun a b hs => h a b (by rw [tr_perB hi, hk]; exact hs)
theorem tr_okAB {i k : Nat} {x : Int32} (h : tr_ok 139 k x) (hi : i < 357) (hk : i % 119 = k) : tr_ok 141 i x := fun a b hs => h a b (by rw [tr_perB hi, hk] at hs; exact hs)
/-- the reference's fields: all, was, boxes; acts and undone -/
theorem tr_rows {Ψ : List Nat} {w : List zx_E} {q : Nat} (hw : tj_wt tj_Lam Ψ w) (hq : Ψ[q]? = some 149) : ∃ fs a b c x y, w[q]? = some (.inl (12, fs)) ∧ fs.length = tr_fts.length ∧ fs[49]? = some (.inr (.inr (.inl a))) ∧ fs[50]? = some (.inr (.inr (.inl b))) ∧ fs[78]? = some (.inr (.inr (.inl c))) ∧ Ψ[a]? = some 139 ∧ Ψ[b]? = some 140 ∧ Ψ[c]? = some 141 ∧ fs[51]? = some (.inl x) ∧ fs[52]? = some (.inl y) ∧ 2147483648 ≤ zx_b x ∧ 2147483648 ≤ zx_b y ∧ zx_b x + zx_b y ≤ 4294967336 := by
  obtain ⟨fs, f1, f2, f4, f3⟩ := tj_obj hw hq tr_hd
  obtain ⟨x, y, h1, h2, h3⟩ := f4
  obtain ⟨v49, g49, p49, y49, hp49⟩ := f3 49 (1, 139, 0) rfl
  obtain ⟨v50, g50, p50, y50, hp50⟩ := f3 50 (1, 140, 0) rfl
  obtain ⟨v78, g78, p78, y78, hp78⟩ := f3 78 (1, 141, 0) rfl
  subst y49 y50 y78
  obtain ⟨v51, g51, x51, e51, b51, -⟩ := f3 51 (0, 2147483648, 2147483688) rfl
  obtain ⟨v52, g52, x52, e52, b52, -⟩ := f3 52 (0, 2147483648, 2147483688) rfl
  rw [h1] at g51
  cases g51
  cases e51
  rw [h2] at g52
  cases g52
  cases e52
  exact ⟨fs, p49, p50, p78, x, y, f1, f2, g49, g50, g78, hp49, hp50, hp78, h1, h2, b51, b52, h3⟩
/-- acts and undone replaced -/
theorem tr_objW {cap : Nat × Nat} {E : tj_Ef} {Ψ0 Ψ : List Nat} {w0 w : List zx_E} {mc ms : Nat} (h : tj_W tj_Lam cap E Ψ0 w0 Ψ w mc ms) {q : Nat} {fs fs2 : List zx_V} {a b : Int32} (hq : Ψ[q]? = some 149) (hf : w[q]? = some (.inl (12, fs))) (hl : fs2.length = fs.length) (h51 : fs2[51]? = some (.inl a)) (h52 : fs2[52]? = some (.inl b)) (hk : ∀ k, k ≠ 51 → k ≠ 52 → fs2[k]? = fs[k]?) (ha : 2147483648 ≤ zx_b a) (hb : 2147483648 ≤ zx_b b) (hab : zx_b a + zx_b b ≤ 4294967336) (h4 : tj_h2 149 51 E.1 = true) (h5 : tj_h2 149 52 E.1 = true) : tj_W tj_Lam cap E Ψ0 w0 Ψ (w.set q (.inl (12, fs2))) mc ms := by
  obtain ⟨fs', f1, f2, -, f3⟩ := tj_obj h.1 hq tr_hd
  rw [hf] at f1
  cases f1
  refine tj_W_obj h hq tr_hd hf (by rw [hl, f2]) (fun k t v hkt hv => ?_) ⟨a, b, h51, h52, hab⟩ (by decide) (fun k hE => ?_)
  · by_cases e1 : k = 51
    · subst e1
      rw [h51] at hv
      cases hv
      have e : tr_fts[51]? = some (0, 2147483648, 2147483688) := rfl
      rw [e] at hkt
      cases hkt
      exact ⟨a, rfl, ha, by omega⟩
    · by_cases e2 : k = 52
      · subst e2
        rw [h52] at hv
        cases hv
        have e : tr_fts[52]? = some (0, 2147483648, 2147483688) := rfl
        rw [e] at hkt
        cases hkt
        exact ⟨b, rfl, hb, by omega⟩
      · rw [hk k e1 e2] at hv
        obtain ⟨v', g1, g2⟩ := f3 k t hkt
        rw [g1] at hv
        cases hv
        exact g2
  · have e1 : k ≠ 51 := fun e => by rw [e, h4] at hE; cases hE
    have e2 : k ≠ 52 := fun e => by rw [e, h5] at hE; cases hE
    exact hk k e1 e2
/-- an int of all, was or a box replaced -/
theorem tr_setA {cap : Nat × Nat} {E : tj_Ef} {Ψ0 Ψ : List Nat} {w0 w : List zx_E} {mc ms : Nat} (h : tj_W tj_Lam cap E Ψ0 w0 Ψ w mc ms) {q l n i : Nat} {g : Nat → Int32} {x : Int32} (hq : Ψ[q]? = some l) (hd : tj_Lam[l]? = some (.inr (0, n, tr_seg l))) (hf : w[q]? = some (.inr (0, n, .inl g))) (hv : tr_ok l i x) (hE : tj_h1 l E.2 = true) : tj_W tj_Lam cap E Ψ0 w0 Ψ (w.set q (.inr (0, n, .inl (upd g i x)))) mc ms := tg_setA h hq hd hf hv hE
theorem tr_retN {K : zx_K} {cap : Nat × Nat} {dt : List (List (Nat × zx_I))} {E : tj_Ef} {Ψ Ψ' : List Nat} {w w' : List zx_E} {pc mc ms : Nat} {ls : List (Nat × zx_V)} {av : List zx_V} {ts : List tj_y} (ht : ∃ a b g, zx_find (zx_cT dt) pc = some (2, a, b, g)) (hW : tj_W tj_Lam (tj_P tj_c1 w, tj_P tj_c2 w) E Ψ w Ψ' w' mc ms) (hty : tj_typed Ψ' av ts) : zx_wp K none cap (zx_find (zx_cT dt)) (tj_Post tj_Lam E Ψ w dt [(ts, none, ([], [], []))] av) (pc, ls, [], w', mc, ms) := by
  obtain ⟨a, b, g, ht⟩ := ht
  have hr : tj_retT Ψ' none (none : Option zx_V) := rfl
  refine zx_wp_done ⟨(none, w'), Ψ', _, ⟨Nat.le_refl _, Nat.le_refl _, rfl, ?_⟩, hW.2.1.1, hW.2.1.2, hW.2.2.1, hW.1, hW.2.2.2, List.mem_cons_self, hty, hr, zy_noout hr⟩
  show (match zx_find (zx_cT dt) pc with
    | some (1, _, _, _) => _
    | some (5, _, _, _) => _
    | some (4, _, _, _) => _
    | some (2, _, _, _) => _
    | _ => False)
  rw [ht]
  exact ⟨rfl, rfl⟩
theorem tr_k119 {k : Int32} : zx_b (Int32.ofNat 119) = 2147483767 := by decide
set_option maxRecDepth 20000 in
theorem tr_b_keepAct0 : tj_KS1 (zx_Cl zx_mt zx_rc zx_mx' 1) tj_Lam tr_h_keepAct0 := by
  refine zy_method (d := 0) (dt := zx_d_X12_keepAct) (by rw [← zx_q_X12_keepAct]; rfl) (by decide +kernel) (by decide +kernel) ?_
  intro Ψ av w hw hty _
  match av, hty with
  | [v0], ⟨⟨q, hv0, hq⟩, _⟩ =>
    subst hv0
    obtain ⟨fs, a, b, c, x, y, k0, kl, k49, k50, k78, ha, hb, hc, k51, k52, bx, hby, hxy⟩ := tr_rows hw hq
    have hqb := tm_ne hq hb (by decide)
    have hqa := tm_ne hq ha (by decide)
    have hab := tm_ne ha hb (by decide)
    have ix := zx_b_int x
    have c119 : (Int32.ofNat 119).toInt = 119 := by decide
    let WP : zx_S → Prop := fun σ => zx_wp (zx_Cl zx_mt zx_rc zx_mx' 0) none (tj_P tj_c1 w, tj_P tj_c2 w) (zx_find (zx_cT zx_d_X12_keepAct)) (tj_Post tj_Lam tr_h_keepAct0.2.2.1 Ψ w zx_d_X12_keepAct tr_h_keepAct0.2.2.2.1 [(.inr (.inr (.inl q)))]) σ
    let J : List zx_E → Prop := fun w' => tj_W tj_Lam (tj_P tj_c1 w, tj_P tj_c2 w) tr_h_keepAct0.2.2.1 Ψ w Ψ w' 0 0
    have hA : ∀ {w' : List zx_E}, J w' → ∃ g, w'[a]? = some (.inr (0, 119, .inl g)) ∧ ∀ j, j < 119 → tr_ok 139 j (g j) := fun h => tj_iarr h.1 ha tr_segA (Or.inl rfl)
    have hB : ∀ {w' : List zx_E}, J w' → ∃ g, w'[b]? = some (.inr (0, 4879, .inl g)) ∧ ∀ j, j < 4879 → tr_ok 140 j (g j) := fun h => tj_iarr h.1 hb tr_segW (Or.inl rfl)
    -- the row laid down
    have h51 : ∀ (n : Nat) (k z : Int32) (fs2 : List zx_V) (w' : List zx_E) (ls : List (Nat × zx_V)), k.toInt + n = 119 → 0 ≤ k.toInt → J w' → w'[q]? = some (.inl (12, fs2)) → fs2.length = fs.length → (∀ j, j ≠ 51 → fs2[j]? = fs[j]?) → fs2[51]? = some (.inl z) → 0 ≤ z.toInt → z.toInt ≤ 39 → zx_look 0 ls = some (.inr (.inr (.inl q))) → zx_look 1 ls = some (.inl k) → WP (51, ls, [], w', 0, 0) := by
      intro n
      induction n with
      | zero =>
        intro k z fs2 w' ls hn hk0 hJ m0 ml mk mz z1 z2 l0 l1
        have bk := zx_b_int k
        have bz := zx_b_int z
        refine zy_li rfl l1 ?_
        refine zy_ci (n := 2) (c := 119) rfl ?_
        refine zy_jt rfl (fun _ => ?_) (fun h => ?_)
        · refine zy_la rfl l0 (Or.inl ⟨_, rfl⟩) ?_
          refine zy_dup rfl ?_
          refine zy_get rfl m0 mz ?_
          refine zy_ci (n := 1) (c := 1) rfl ?_
          refine zy_add rfl ?_
          have l51 : 51 < fs2.length := (List.getElem?_eq_some_iff.mp mz).1
          have l52 : 52 < fs2.length := by rw [ml]; exact (List.getElem?_eq_some_iff.mp k52).1
          have hlq : q < w'.length := (List.getElem?_eq_some_iff.mp m0).1
          refine zy_put rfl m0 l51 rfl ?_
          refine zy_la rfl l0 (Or.inl ⟨_, rfl⟩) ?_
          refine zy_ci (n := 1) (c := 0) rfl ?_
          refine zy_put rfl (List.getElem?_set_self hlq) (by rw [List.length_set]; exact l52) rfl ?_
          rw [List.set_set]
          have ez : (z + Int32.ofNat 1).toInt = z.toInt + 1 := tm_inc tm_k1 (by omega)
          have bz1 := zx_b_int (z + Int32.ofNat 1)
          have hJ2 := tr_objW (a := z + Int32.ofNat 1) (b := Int32.ofNat 0) (fs2 := (fs2.set 51 (.inl (z + Int32.ofNat 1))).set 52 (.inl (Int32.ofNat 0))) hJ hq m0 (by rw [List.length_set, List.length_set]) (by rw [List.getElem?_set_ne (by decide), List.getElem?_set_self l51]) (List.getElem?_set_self (by rw [List.length_set]; exact l52)) (fun j j1 j2 => by rw [List.getElem?_set_ne (Ne.symm j2), List.getElem?_set_ne (Ne.symm j1)]) (by omega) (by decide) (by rw [show zx_b (Int32.ofNat 0) = 2147483648 by decide]; omega) (by decide +kernel) (by decide +kernel)
          exact tr_retN ⟨_, _, _, rfl⟩ hJ2 ⟨⟨q, rfl, hq⟩, trivial⟩
        · have h : zx_b k < zx_b (Int32.ofNat 119) := h
          rw [show zx_b (Int32.ofNat 119) = 2147483767 by decide] at h
          omega
      | succ n ih =>
        intro k z fs2 w' ls hn hk0 hJ m0 ml mk mz z1 z2 l0 l1
        have bk := zx_b_int k
        refine zy_li rfl l1 ?_
        refine zy_ci (n := 2) (c := 119) rfl ?_
        refine zy_jt rfl (fun h => ?_) (fun _ => ?_)
        · have h : zx_b (Int32.ofNat 119) ≤ zx_b k := h
          rw [show zx_b (Int32.ofNat 119) = 2147483767 by decide] at h
          omega
        · obtain ⟨gA, hgA, tA⟩ := hA hJ
          obtain ⟨gB, hgB, tB⟩ := hB hJ
          have em : (Int32.ofNat 119 * z).toInt = 119 * z.toInt := tr_mul (c := 119) (by decide) rfl (by omega) (by omega)
          have ei : (Int32.ofNat 119 * z + k).toInt = 119 * z.toInt + k.toInt := by rw [tr_add (by omega) (by omega), em]
          have ein : (Int32.ofNat 119 * z + k).toNatClampNeg = 119 * z.toInt.toNat + k.toNatClampNeg := by
            show (Int32.ofNat 119 * z + k).toInt.toNat = 119 * z.toInt.toNat + k.toInt.toNat
            omega
          have ekn : k.toNatClampNeg = k.toInt.toNat := rfl
          refine zy_la rfl l0 (Or.inl ⟨_, rfl⟩) ?_
          refine zy_get rfl m0 ((mk 50 (by decide)).trans k50) ?_
          refine zy_ci (n := 2) (c := 119) rfl ?_
          refine zy_la rfl l0 (Or.inl ⟨_, rfl⟩) ?_
          refine zy_get rfl m0 mz ?_
          refine zy_mul rfl ?_
          refine zy_li rfl l1 ?_
          refine zy_add rfl ?_
          refine zy_la rfl l0 (Or.inl ⟨_, rfl⟩) ?_
          refine zy_get rfl m0 ((mk 49 (by decide)).trans k49) ?_
          refine zy_li rfl l1 ?_
          refine zy_ld rfl hgA (tr_in hk0 (by omega)) ?_
          refine zy_ai rfl hgB (tr_in (by omega) (by omega)) ?_
          have hJ2 := tr_setA (i := (Int32.ofNat 119 * z + k).toNatClampNeg) hJ hb tr_segW hgB (tr_okAW (tA k.toNatClampNeg (by omega)) (by omega) (by rw [ein]; omega)) (by decide +kernel)
          refine zy_ik (k := 1) (n := 1) rfl l1 ?_
          refine zy_goto rfl ?_
          have ek : (k + Int32.ofNat 1).toInt = k.toInt + 1 := tm_inc tm_k1 (by omega)
          exact ih _ z fs2 _ _ (by omega) (by omega) hJ2 (by rw [List.getElem?_set_ne (Ne.symm hqb)]; exact m0) ml mk mz z1 z2 (zy_look_ne (by decide) rfl l0) zy_look_put
    have h49 : ∀ (z : Int32) (fs2 : List zx_V) (w' : List zx_E) (ls : List (Nat × zx_V)), J w' → w'[q]? = some (.inl (12, fs2)) → fs2.length = fs.length → (∀ j, j ≠ 51 → fs2[j]? = fs[j]?) → fs2[51]? = some (.inl z) → 0 ≤ z.toInt → z.toInt ≤ 39 → zx_look 0 ls = some (.inr (.inr (.inl q))) → WP (49, ls, [], w', 0, 0) := by
      intro z fs2 w' ls hJ m0 ml mk mz z1 z2 l0
      refine zy_ci (n := 1) (c := 0) rfl ?_
      refine zy_si (k := 1) rfl ?_
      have e0 : (Int32.ofNat 0).toInt = 0 := by decide
      exact h51 119 _ z fs2 w' _ (by omega) (by omega) hJ m0 ml mk mz z1 z2 (zy_look_ne (by decide) rfl l0) zy_look_put
    -- the rows moved down by one
    have h11 : x.toInt = 40 → ∀ (n : Nat) (k : Int32) (w' : List zx_E) (ls : List (Nat × zx_V)), k.toInt + n = 4760 → 0 ≤ k.toInt → J w' → w'[q]? = some (.inl (12, fs)) → zx_look 0 ls = some (.inr (.inr (.inl q))) → zx_look 1 ls = some (.inl k) → WP (11, ls, [], w', 0, 0) := by
      intro hx40 n
      induction n with
      | zero =>
        intro k w' ls hn hk0 hJ m0 l0 l1
        have bk := zx_b_int k
        refine zy_li rfl l1 ?_
        refine zy_ci (n := 3) (c := 4760) rfl ?_
        refine zy_jt rfl (fun _ => ?_) (fun h => ?_)
        · refine zy_la rfl l0 (Or.inl ⟨_, rfl⟩) ?_
          refine zy_dup rfl ?_
          refine zy_get rfl m0 k51 ?_
          refine zy_ci (n := 1) (c := 1) rfl ?_
          refine zy_sub rfl ?_
          have l51 : 51 < fs.length := (List.getElem?_eq_some_iff.mp k51).1
          have hlq : q < w'.length := (List.getElem?_eq_some_iff.mp m0).1
          refine zy_put rfl m0 l51 rfl ?_
          have ez : (x - Int32.ofNat 1).toInt = x.toInt - 1 := tm_sub1 tm_k1 (by omega)
          have bz1 := zx_b_int (x - Int32.ofNat 1)
          have hJ2 := tr_objW (a := x - Int32.ofNat 1) (b := y) (fs2 := fs.set 51 (.inl (x - Int32.ofNat 1))) hJ hq m0 (by rw [List.length_set]) (List.getElem?_set_self l51) (by rw [List.getElem?_set_ne (by decide)]; exact k52) (fun j j1 j2 => by rw [List.getElem?_set_ne (Ne.symm j1)]) (by omega) hby (by omega) (by decide +kernel) (by decide +kernel)
          exact h49 (x - Int32.ofNat 1) (fs.set 51 (.inl (x - Int32.ofNat 1))) _ ls hJ2 (List.getElem?_set_self hlq) (by rw [List.length_set]) (fun j hj => by rw [List.getElem?_set_ne (Ne.symm hj)]) (List.getElem?_set_self l51) (by omega) (by omega) l0
        · have h : zx_b k < zx_b (Int32.ofNat 4760) := h
          rw [show zx_b (Int32.ofNat 4760) = 2147488408 by decide] at h
          omega
      | succ n ih =>
        intro k w' ls hn hk0 hJ m0 l0 l1
        have bk := zx_b_int k
        refine zy_li rfl l1 ?_
        refine zy_ci (n := 3) (c := 4760) rfl ?_
        refine zy_jt rfl (fun h => ?_) (fun _ => ?_)
        · have h : zx_b (Int32.ofNat 4760) ≤ zx_b k := h
          rw [show zx_b (Int32.ofNat 4760) = 2147488408 by decide] at h
          omega
        · obtain ⟨gB, hgB, tB⟩ := hB hJ
          have ei : (k + Int32.ofNat 119).toInt = k.toInt + 119 := by rw [tr_add (by omega) (by omega), c119]
          have ein : (k + Int32.ofNat 119).toNatClampNeg = k.toNatClampNeg + 119 := by
            show (k + Int32.ofNat 119).toInt.toNat = k.toInt.toNat + 119
            omega
          have ekn : k.toNatClampNeg = k.toInt.toNat := rfl
          refine zy_la rfl l0 (Or.inl ⟨_, rfl⟩) ?_
          refine zy_get rfl m0 k50 ?_
          refine zy_li rfl l1 ?_
          refine zy_la rfl l0 (Or.inl ⟨_, rfl⟩) ?_
          refine zy_get rfl m0 k50 ?_
          refine zy_li rfl l1 ?_
          refine zy_ci (n := 2) (c := 119) rfl ?_
          refine zy_add rfl ?_
          refine zy_ld rfl hgB (tr_in (by omega) (by omega)) ?_
          refine zy_ai rfl hgB (tr_in hk0 (by omega)) ?_
          have hJ2 := tr_setA (i := k.toNatClampNeg) hJ hb tr_segW hgB (tr_okAW (tr_okWA (tB (k + Int32.ofNat 119).toNatClampNeg (by omega)) (by omega) rfl) (by omega) (by omega)) (by decide +kernel)
          refine zy_ik (k := 1) (n := 1) rfl l1 ?_
          refine zy_goto rfl ?_
          have ek : (k + Int32.ofNat 1).toInt = k.toInt + 1 := tm_inc tm_k1 (by omega)
          exact ih _ _ _ (by omega) (by omega) hJ2 (by rw [List.getElem?_set_ne (Ne.symm hqb)]; exact m0) (zy_look_ne (by decide) rfl l0) zy_look_put
    have hJ0 : J w := tm_W0 hw
    show WP (0, [(0, (.inr (.inr (.inl q))))], [], w, 0, 0)
    refine zy_la (k := 0) rfl rfl (Or.inl ⟨_, rfl⟩) ?_
    refine zy_get rfl k0 k51 ?_
    refine zy_ci (n := 2) (c := 40) rfl ?_
    refine zy_jt rfl (fun hne => ?_) (fun he => ?_)
    · have hne : zx_b x ≠ zx_b (Int32.ofNat 40) := hne
      rw [show zx_b (Int32.ofNat 40) = 2147483688 by decide] at hne
      exact h49 x fs w _ hJ0 k0 rfl (fun _ _ => rfl) k51 (by omega) (by omega) rfl
    · have he : zx_b x = zx_b (Int32.ofNat 40) := he
      rw [show zx_b (Int32.ofNat 40) = 2147483688 by decide] at he
      refine zy_ci (n := 1) (c := 0) rfl ?_
      refine zy_si (k := 1) rfl ?_
      have e0 : (Int32.ofNat 0).toInt = 0 := by decide
      exact h11 (by omega) 4760 _ w _ (by omega) (by omega) hJ0 k0 rfl rfl
