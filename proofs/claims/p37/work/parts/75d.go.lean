/-! by hand: takes, goThrough -/
/-- other halves by the pairs chosen so far -/
def tr_ex : List (Nat × Nat) → Nat → Int32
  | [] => fun _ => Int32.ofNat 4294967295
  | (h, o) :: s => upd (upd (tr_ex s) h (Int32.ofNat o)) o (Int32.ofNat h)
def tr_gd (al : Nat → Int32) (n : Int) : List (Nat × Nat) → Prop
  | [] => True
  | (h, o) :: s => tr_gd al n s ∧ tr_FF al n (tr_ex s) (Int32.ofNat h) ∧ h < 8 ∧ o < 8 ∧ h ≤ o ∧ (tr_ex s o).toInt < 0
def tr_sk (P : Nat → Int32) : List (Nat × Nat) → Prop
  | [] => True
  | (h, _) :: s => tr_sk P s ∧ P s.length = Int32.ofNat h
theorem tr_sk_upd {P : Nat → Int32} {k : Nat} {x : Int32} : ∀ {s : List (Nat × Nat)}, s.length ≤ k → tr_sk P s → tr_sk (upd P k x) s
  | [], _, _ => trivial
  | (h, o) :: s, hk, ⟨h1, h2⟩ => by
    have hk : s.length + 1 ≤ k := hk
    refine ⟨tr_sk_upd (by omega) h1, ?_⟩
    rw [tg_upd_ne (by omega)]
    exact h2
theorem tr_c0 {n : Nat} (h : n < 8) : (Int32.ofNat n).toInt = n := tr_c (by omega)
theorem tr_ex_le : ∀ {s : List (Nat × Nat)} {al : Nat → Int32} {n : Int}, tr_gd al n s → ∀ j, -1 ≤ (tr_ex s j).toInt ∧ (tr_ex s j).toInt ≤ 7
  | [], _, _, _, j => by
    show -1 ≤ (Int32.ofNat 4294967295).toInt ∧ (Int32.ofNat 4294967295).toInt ≤ 7
    decide
  | (h, o) :: s, al, n, ⟨g1, g2, g3, g4, g5, g6⟩, j => by
    show -1 ≤ (upd (upd (tr_ex s) h (Int32.ofNat o)) o (Int32.ofNat h) j).toInt ∧ (upd (upd (tr_ex s) h (Int32.ofNat o)) o (Int32.ofNat h) j).toInt ≤ 7
    have c1 := tr_c0 g3
    have c2 := tr_c0 g4
    by_cases e : j = o
    · rw [e, tg_upd_eq]
      omega
    · rw [tg_upd_ne e]
      by_cases e : j = h
      · rw [e, tg_upd_eq]
        omega
      · rw [tg_upd_ne e]
        exact tr_ex_le g1 j
/-- at a pair, behind it -/
theorem tr_ex_h {h o : Nat} {s : List (Nat × Nat)} : tr_ex ((h, o) :: s) h = Int32.ofNat o := by
  show upd (upd (tr_ex s) h (Int32.ofNat o)) o (Int32.ofNat h) h = _
  by_cases e : h = o
  · rw [e, tg_upd_eq]
  · rw [tg_upd_ne e, tg_upd_eq]
theorem tr_ex_o {h o : Nat} {s : List (Nat × Nat)} : tr_ex ((h, o) :: s) o = Int32.ofNat h := tg_upd_eq
theorem tr_ex_ne {h o j : Nat} {s : List (Nat × Nat)} (h1 : j ≠ h) (h2 : j ≠ o) : tr_ex ((h, o) :: s) j = tr_ex s j := by
  show upd (upd (tr_ex s) h (Int32.ofNat o)) o (Int32.ofNat h) j = _
  rw [tg_upd_ne h2, tg_upd_ne h1]
theorem tr_FF_len {al : Nat → Int32} {n : Int} : ∀ {s : List (Nat × Nat)} {x : Int32}, tr_gd al n s → tr_FF al n (tr_ex s) x → 0 ≤ x.toInt → (s.length : Int) ≤ x.toInt
  | [], x, _, _, hx => hx
  | (h, o) :: s, x, ⟨g1, g2, g3, g4, g5, g6⟩, hF, hx => by
    have c1 := tr_c0 g3
    have c2 := tr_c0 g4
    have ih := tr_FF_len g1 g2 (by omega)
    rcases hF with ⟨e, -⟩ | ⟨f1, f2, f3, f4, f5⟩
    · omega
    have hl : (((h, o) :: s).length : Int) = s.length + 1 := by
      rw [List.length_cons]
      omega
    rw [hl]
    have hxh : x.toInt.toNat ≠ h := fun e => by
      rw [e, tr_ex_h] at f4
      omega
    have hxo : x.toInt.toNat ≠ o := fun e => by
      rw [e, tr_ex_o] at f4
      omega
    rw [tr_ex_ne hxh hxo] at f4
    rcases g2 with ⟨e, -⟩ | ⟨k1, k2, k3, k4, k5⟩
    · omega
    refine Int.not_lt.mp (fun hlt => ?_)
    have hlt2 : x.toInt < (Int32.ofNat h).toInt := by omega
    have := k5 x f1 hlt2 f3
    omega
theorem tr_FF_eq {al O O' : Nat → Int32} {n : Int} {x : Int32} (hn : n ≤ 8) (h : ∀ j, j < 8 → O j = O' j) (hF : tr_FF al n O x) : tr_FF al n O' x := by
  rcases hF with ⟨e, h1⟩ | ⟨f1, f2, f3, f4, f5⟩
  · exact Or.inl ⟨e, fun j j1 j2 jA => by rw [← h j.toInt.toNat (by omega)]; exact h1 j j1 j2 jA⟩
  · exact Or.inr ⟨f1, f2, f3, by rw [← h x.toInt.toNat (by omega)]; exact f4, fun j j1 j2 jA => by rw [← h j.toInt.toNat (by omega)]; exact f5 j j1 j2 jA⟩
def tr_wt (d : Nat) : Nat := 20 ^ (8 - d)
theorem tr_wt_s {d : Nat} (h : d < 8) : tr_wt d = 20 * tr_wt (d + 1) := by
  unfold tr_wt
  rw [show 8 - d = (8 - (d + 1)) + 1 by omega, Nat.pow_succ, Nat.mul_comm]
theorem tr_wt_p {d : Nat} : 1 ≤ tr_wt d := Nat.pos_of_ne_zero (by
  unfold tr_wt
  exact Nat.ne_of_gt (Nat.pow_pos (by decide)))
def tr_mv : List (Nat × Nat) → Nat
  | [] => 0
  | (_, o) :: s => tr_mv s + (2 * o + 3) * tr_wt s.length
theorem tr_mv_le {al : Nat → Int32} {n : Int} : ∀ {s : List (Nat × Nat)}, tr_gd al n s → s.length ≤ 8 → tr_mv s + 20 * tr_wt s.length ≤ 512000000000
  | [], _, _ => by decide
  | (h, o) :: s, ⟨g1, g2, g3, g4, g5, g6⟩, hl => by
    have hl : s.length + 1 ≤ 8 := hl
    have ih := tr_mv_le g1 (by omega)
    have e := tr_wt_s (d := s.length) (by omega)
    show tr_mv s + (2 * o + 3) * tr_wt s.length + 20 * tr_wt (s.length + 1) ≤ _
    have h1 : (2 * o + 3) * tr_wt s.length ≤ 17 * tr_wt s.length := Nat.mul_le_mul_right _ (by omega)
    omega
theorem tr_mv_push {o f W : Nat} (h : f ≤ o) : 2 * (f + 1) * W < (2 * o + 3) * W + 0 ∨ W = 0 := by
  rcases Nat.eq_zero_or_pos W with e | e
  · exact Or.inr e
  · refine Or.inl ?_
    have h1 : 2 * (f + 1) * W ≤ (2 * o + 2) * W := Nat.mul_le_mul_right _ (by omega)
    have h2 : (2 * o + 3) * W = (2 * o + 2) * W + W := by rw [← Nat.succ_mul]
    omega
set_option maxRecDepth 20000 in
/-- takes: the best kept, how many are fast -/
theorem tr_takes {Ψ : List Nat} {w : List zx_E} {q : Nat} {bk best f : Int32} {hv al O lk : Nat → Int32} (hw : tj_wt tj_Lam Ψ w) (hq : Ψ[q]? = some 149) (hG : tr_G w q bk hv al O lk) (hO : ∀ j : Nat, j < 8 → -1 ≤ (O j).toInt ∧ (O j).toInt ≤ 7) (hall : ∀ j : Int32, 0 ≤ j.toInt → j.toInt < (hv bk.toInt.toNat).toInt → tj_alv al j → 0 ≤ (O j.toInt.toNat).toInt) : ∃ (r : zx_R) (cy : Nat × Nat), zx_Cl zx_mt zx_rc zx_mx' (3 + 1) 203 [(.inr (.inr (.inl q))), (.inl best), (.inl f)] w cy r ∧ (cy.1 + tj_P tj_c1 r.2 ≤ tj_P tj_c1 w ∧ cy.2 + tj_P tj_c2 r.2 ≤ tj_P tj_c2 w) ∧ ((∃ v : Int32, r.1 = some (.inl v)) ∧ ∃ Ψ' : List Nat, tj_le Ψ Ψ' ∧ tj_wt tj_Lam Ψ' r.2 ∧ tj_fr ([(149, 61)], [128]) Ψ w r.2) := by
  have hG0 := hG
  obtain ⟨h39, h11, h49, h59, h21, hb, hN0, hN8⟩ := hG
  obtain ⟨fs, k0, k39⟩ := id h39
  have hlw : q < w.length := (List.getElem?_eq_some_iff.mp k0).1
  obtain ⟨v, hv1⟩ := tr_isFastK hG0 (fun j hj => (hO j hj).2) hall
  let Q : zx_R → Prop := fun r => (∃ v : Int32, r.1 = some (.inl v)) ∧ ∃ Ψ' : List Nat, tj_le Ψ Ψ' ∧ tj_wt tj_Lam Ψ' r.2 ∧ tj_fr ([(149, 61)], [128]) Ψ w r.2
  refine zy_meth (Q := Q) (dt := zx_d_X12_takes) (by rw [← zx_q_X12_takes]; rfl) (by rw [(by decide +kernel : zx_rc 203 = 13)]; exact ⟨q, _, fs, rfl, k0⟩) (by decide +kernel : 3 ≤ zx_mx' 203) ?_
  let WP : zx_S → Prop := fun σ => zx_wp (zx_Cl zx_mt zx_rc zx_mx' 3) none (tj_P tj_c1 w, tj_P tj_c2 w) (zx_find (zx_cT zx_d_X12_takes)) (fun τ => ∃ r : zx_R, zx_ret (zx_find (zx_cT zx_d_X12_takes)) τ.2.2.2.2 τ r ∧ (τ.2.2.2.2.1 + tj_P tj_c1 r.2 ≤ tj_P tj_c1 w ∧ τ.2.2.2.2.2 + tj_P tj_c2 r.2 ≤ tj_P tj_c2 w) ∧ Q r) σ
  let J : List zx_E → Prop := fun w' => tj_W tj_Lam (tj_P tj_c1 w, tj_P tj_c2 w) ([(149, 61)], [128]) Ψ w Ψ w' 0 0
  have done : ∀ (x : Int32) (w' : List zx_E) (pc : Nat) (ls : List (Nat × zx_V)), (∃ a b g, zx_find (zx_cT zx_d_X12_takes) pc = some (1, a, b, g)) → J w' → WP (pc, ls, [(.inl x)], w', 0, 0) := by
    intro x w' pc ls ht hJ
    obtain ⟨a, b, g, ht⟩ := ht
    refine zx_wp_done ⟨(some (.inl x), w'), ⟨Nat.le_refl _, Nat.le_refl _, rfl, ?_⟩, hJ.2.1, ⟨x, rfl⟩, Ψ, hJ.2.2.1, hJ.1, hJ.2.2.2⟩
    show (match zx_find (zx_cT zx_d_X12_takes) pc with
      | some (1, _, _, _) => _
      | some (5, _, _, _) => _
      | some (4, _, _, _) => _
      | some (2, _, _, _) => _
      | _ => False)
    rw [ht]
    exact ⟨_, rfl, rfl⟩
  have hGJ : ∀ {w'}, J w' → tr_G w' q bk hv al O lk := fun h => ⟨te_fi hw h.2.2.2 (d := tj_dep 7) (by decide +kernel) (by decide +kernel) h39, te_fa hw h.2.2.2 (d := tj_dep 7) (by decide +kernel) (by decide +kernel) h11, te_fa hw h.2.2.2 (d := tj_dep 16) (by decide +kernel) (by decide +kernel) h49, te_fa hw h.2.2.2 (d := ([(149, 59)], [127])) (by decide +kernel) (by decide +kernel) h59, te_fa hw h.2.2.2 (d := ([(149, 21)], [113])) (by decide +kernel) (by decide +kernel) h21, hb, hN0, hN8⟩
  -- the best kept
  have copy : ∀ (n : Nat) (k its : Int32) (w' : List zx_E) (ls : List (Nat × zx_V)), k.toInt + n = 8 → 0 ≤ k.toInt → J w' → zx_look 0 ls = some (.inr (.inr (.inl q))) → zx_look 4 ls = some (.inl its) → zx_look 5 ls = some (.inl k) → WP (58, ls, [], w', 0, 0) := by
    intro n
    induction n with
    | zero =>
      intro k its w' ls hn hk0 hJ l0 l4 l5
      have ik := zx_b_int k
      refine zy_li rfl l5 ?_
      refine zy_ci (n := 2) (c := 8) rfl ?_
      refine zy_jt rfl (fun _ => ?_) (fun h => ?_)
      · refine zy_li rfl l4 ?_
        exact done its w' _ _ ⟨_, _, _, rfl⟩ hJ
      · have h : zx_b k < zx_b (Int32.ofNat 8) := h
        rw [show zx_b (Int32.ofNat 8) = 2147483656 by decide] at h
        omega
    | succ n ih =>
      intro k its w' ls hn hk0 hJ l0 l4 l5
      have ik := zx_b_int k
      obtain ⟨fs', b, n0, n59, kb⟩ := (hGJ hJ).2.2.2.1
      obtain ⟨fsT, f1, -, -, f3⟩ := tj_obj hJ.1 hq tr_hd
      rw [n0] at f1
      cases f1
      obtain ⟨u, n60, b2, y, hb2⟩ := f3 60 (1, 128, 0) rfl
      subst y
      obtain ⟨g2, kb2, -⟩ := tj_iarr (kd := 0) (n := 8) (s := [(8, 2147483647, 2147483655)]) hJ.1 hb2 rfl (Or.inl rfl)
      have en : k.toNatClampNeg = k.toInt.toNat := rfl
      have ex := hO k.toInt.toNat (by omega)
      have ix := zx_b_int (O k.toInt.toNat)
      refine zy_li rfl l5 ?_
      refine zy_ci (n := 2) (c := 8) rfl ?_
      refine zy_jt rfl (fun h => ?_) (fun _ => ?_)
      · have h : zx_b (Int32.ofNat 8) ≤ zx_b k := h
        rw [show zx_b (Int32.ofNat 8) = 2147483656 by decide] at h
        omega
      refine zy_la rfl l0 (Or.inl ⟨_, rfl⟩) ?_
      refine zy_get rfl n0 n60 ?_
      refine zy_li rfl l5 ?_
      refine zy_la rfl l0 (Or.inl ⟨_, rfl⟩) ?_
      refine zy_get rfl n0 n59 ?_
      refine zy_li rfl l5 ?_
      refine zy_ld rfl kb (tr_in (by omega) (by omega)) ?_
      rw [en]
      refine zy_ai rfl kb2 (tr_in (by omega) (by omega)) ?_
      have hJ2 := tg_setA (s := [(8, 2147483647, 2147483655)]) (i := k.toNatClampNeg) (x := O k.toInt.toNat) hJ hb2 rfl kb2 (fun a b hs => by
        obtain ⟨e1, e2⟩ := tm_sel1 hs
        omega) (by decide +kernel)
      refine zy_ik (k := 5) (n := 1) rfl l5 ?_
      refine zy_goto rfl ?_
      have ek : (k + Int32.ofNat 1).toInt = k.toInt + 1 := tm_inc tm_k1 (by omega)
      exact ih (k + Int32.ofNat 1) its _ _ (by omega) (by omega) hJ2 (zy_look_ne (by decide) rfl l0) (zy_look_ne (by decide) rfl l4) zy_look_put
  have take : ∀ (its : Int32) (w' : List zx_E) (ls : List (Nat × zx_V)), J w' → zx_look 0 ls = some (.inr (.inr (.inl q))) → zx_look 4 ls = some (.inl its) → WP (55, ls, [], w', 0, 0) := by
    intro its w' ls hJ l0 l4
    refine zy_ci (n := 1) (c := 0) rfl ?_
    refine zy_si (k := 5) rfl ?_
    exact copy 8 (Int32.ofNat 0) its w' _ (by decide) (by decide) hJ (zy_look_ne (by decide) rfl l0) (zy_look_ne (by decide) rfl l4) zy_look_put
  have leave : ∀ (w' : List zx_E) (ls : List (Nat × zx_V)), J w' → zx_look 1 ls = some (.inl best) → WP (53, ls, [], w', 0, 0) := by
    intro w' ls hJ l1
    refine zy_li rfl l1 ?_
    exact done best w' _ _ ⟨_, _, _, rfl⟩ hJ
  show WP (0, [(0, (.inr (.inr (.inl q)))), (1, (.inl best)), (2, (.inl f))], [], w, 0, 0)
  refine zy_la (k := 0) rfl rfl (Or.inl ⟨_, rfl⟩) ?_
  refine zy_callK (a := 0) (n := 1) (st := []) hv1 rfl rfl (Nat.le_of_ble_eq_true rfl) (tm_lim hlw rfl) rfl (Nat.zero_le _) (Nat.zero_le _) ?_
  refine zy_si (k := 3) rfl ?_
  refine zy_la (k := 0) rfl rfl (Or.inl ⟨_, rfl⟩) ?_
  refine zy_dup rfl ?_
  obtain ⟨fsT, f1, fl, finv, f3⟩ := tj_obj hw hq tr_hd
  rw [k0] at f1
  cases f1
  obtain ⟨u, k61, x61, y61, -, -⟩ := f3 61 (0, 0, 4294967295) rfl
  subst y61
  refine zy_get rfl k0 k61 ?_
  have rest : ∀ c : Int32, WP (19, zx_put 3 (.inl v) [(0, (.inr (.inr (.inl q)))), (1, (.inl best)), (2, (.inl f))], [(.inl c), (.inl x61), (.inr (.inr (.inl q)))], w, 0, 0) := by
    intro c
    refine zy_add rfl ?_
    have l61 : 61 < fs.length := by rw [fl]; decide
    refine zy_put (k := 61) rfl k0 l61 rfl ?_
    have hJ : J (w.set q (.inl (12, (fs.set 61 (.inl (x61 + c)))))) := tj_W_field (t := (0, 0, 4294967295)) (tm_W0 hw) hq tr_hd k0 rfl (tr_full _) (tj_invk_ok (r := 3) (k := 61) rfl finv) rfl (by decide +kernel)
    obtain ⟨z, hz⟩ := tr_likedInAllK (hGJ hJ) (fun j hj => (hO j hj).2) hall
    have hlw2 : zx_limP (w.set q (.inl (12, (fs.set 61 (.inl (x61 + c)))))).length (zx_put 3 (.inl v) [(0, (.inr (.inr (.inl q)))), (1, (.inl best)), (2, (.inl f))]) = true := by rw [List.length_set]; exact zy_limP_put (tm_lim hlw rfl) rfl
    generalize w.set q (.inl (12, (fs.set 61 (.inl (x61 + c))))) = w2 at hJ hz hlw2 ⊢
    refine zy_la (k := 0) rfl rfl (Or.inl ⟨_, rfl⟩) ?_
    refine zy_callK (a := 0) (n := 1) (st := []) hz rfl rfl (Nat.le_of_ble_eq_true rfl) hlw2 rfl (Nat.zero_le _) (Nat.zero_le _) ?_
    refine zy_si (k := 4) rfl ?_
    refine zy_li (k := 2) rfl rfl ?_
    refine zy_j0 rfl (fun _ => ?_) (fun _ => ?_)
    · refine zy_li (k := 3) rfl rfl ?_
      refine zy_j0 rfl (fun _ => leave _ _ hJ rfl) (fun _ => ?_)
      refine zy_li (k := 1) rfl rfl ?_
      refine zy_ci (n := 3) (c := 3294967296) rfl ?_
      refine zy_jt rfl (fun _ => take z _ _ hJ rfl rfl) (fun _ => leave _ _ hJ rfl)
    · refine zy_li (k := 4) rfl rfl ?_
      refine zy_li (k := 1) rfl rfl ?_
      refine zy_jt rfl (fun _ => take z _ _ hJ rfl rfl) (fun _ => ?_)
      refine zy_goto rfl ?_
      exact leave _ _ hJ rfl
  refine zy_li (k := 3) rfl rfl ?_
  refine zy_j0 rfl (fun _ => ?_) (fun _ => ?_)
  · refine zy_ci (n := 1) (c := 0) rfl ?_
    exact rest _
  · refine zy_ci (n := 1) (c := 1) rfl ?_
    refine zy_goto rfl ?_
    exact rest _
