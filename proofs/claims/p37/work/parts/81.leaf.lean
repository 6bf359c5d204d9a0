/-! by hand: small methods of the parser, exactly -/
def tr_endK (dt : List (List (Nat × zx_I))) (w : List zx_E) (F : Int32 → Prop) : zx_S → Prop := fun σ => ∃ v : Int32, zx_ret (zx_find (zx_cT dt)) (0, 0) σ (some (.inl v), w) ∧ F v
theorem tr_funK {d y : Nat} {dt : List (List (Nat × zx_I))} {av : List zx_V} {w : List zx_E} {F : Int32 → Prop} (hmt : zx_mt y = some (zx_find (zx_cT dt))) (hrc : zx_rok w (zx_rc y) av) (hml : zx_words av ≤ zx_mx' y) (hrun : zx_wp (zx_Cl zx_mt zx_rc zx_mx' d) none (0, 0) (zx_find (zx_cT dt)) (tr_endK dt w F) (0, zx_args 0 av, [], w, 0, 0)) : ∃ v : Int32, zx_Cl zx_mt zx_rc zx_mx' (d + 1) y av w (0, 0) (some (.inl v), w) ∧ F v := by
  obtain ⟨n, σ, h1, v, h2, h3⟩ := hrun
  exact ⟨v, ⟨_, hmt, hrc, hml, n, σ, h1, h2⟩, h3⟩
section trEK
variable {K : zx_K} {cap : Nat × Nat} {dt : List (List (Nat × zx_I))} {w : List zx_E} {pc : Nat} {ls : List (Nat × zx_V)} {F : Int32 → Prop} {x : Int32}
theorem tr_eI (ht : ∃ a b g, zx_find (zx_cT dt) pc = some (1, a, b, g)) (hF : F x) : zx_wp K none cap (zx_find (zx_cT dt)) (tr_endK dt w F) (pc, ls, [(.inl x)], w, 0, 0) := by
  obtain ⟨a, b, g, ht⟩ := ht
  refine zx_wp_done ⟨x, ⟨Nat.le_refl _, Nat.le_refl _, rfl, ?_⟩, hF⟩
  show (match zx_find (zx_cT dt) pc with
    | some (1, _, _, _) => _
    | some (5, _, _, _) => _
    | some (4, _, _, _) => _
    | some (2, _, _, _) => _
    | _ => False)
  rw [ht]
  exact ⟨_, rfl, rfl⟩
theorem tr_eZ (ht : ∃ a b g, zx_find (zx_cT dt) pc = some (5, a, b, g)) (hx : x = 0 ∨ x = 1) (hF : F x) : zx_wp K none cap (zx_find (zx_cT dt)) (tr_endK dt w F) (pc, ls, [(.inl x)], w, 0, 0) := by
  obtain ⟨a, b, g, ht⟩ := ht
  refine zx_wp_done ⟨x, ⟨Nat.le_refl _, Nat.le_refl _, rfl, ?_⟩, hF⟩
  show (match zx_find (zx_cT dt) pc with
    | some (1, _, _, _) => _
    | some (5, _, _, _) => _
    | some (4, _, _, _) => _
    | some (2, _, _, _) => _
    | _ => False)
  rw [ht]
  exact ⟨_, rfl, hx, rfl⟩
end trEK
theorem tr_z1 : zx_b (Int32.ofNat 1) = 2147483649 := by decide
theorem tr_z0 : zx_b (Int32.ofNat 0) = 2147483648 := by decide
theorem tr_no1 : ¬ zx_b (Int32.ofNat 1) = 2147483648 := by decide
/-- a byte of the text -/
def tr_sg (tx : Nat → Int32) (sz k : Int32) : Int32 := if k.toInt < sz.toInt then tx k.toInt.toNat &&& Int32.ofNat 255 else Int32.ofNat 0
theorem tr_sg_b {tx : Nat → Int32} {sz k : Int32} : 0 ≤ (tr_sg tx sz k).toInt ∧ (tr_sg tx sz k).toInt ≤ 255 := by
  unfold tr_sg
  split
  · have h := tj_b_and (x := tx k.toInt.toNat) (y := Int32.ofNat 255) (by decide)
    have e : zx_b (Int32.ofNat 255) = 2147483903 := by decide
    have b := zx_b_int (tx k.toInt.toNat &&& Int32.ofNat 255)
    rw [e] at h
    omega
  · decide
def tr_lt (c : Int32) : Prop := 97 ≤ c.toInt ∧ c.toInt ≤ 122
theorem tr_cmp_eq {x : Int64} : zx_b (lg_cmp x x) = 2147483648 := by
  rw [(lg_cmp_eq x x).mpr rfl]
  decide
theorem tr_cmp_0 {x y : Int64} (h : zx_b (lg_cmp x y) = 2147483648) : x = y := (lg_cmp_eq _ _).mp (tj_b_inj (by rw [h]; decide))
section trLeaf
variable {w : List zx_E} {q : Nat}

set_option maxRecDepth 20000 in
theorem tr_isGoodK {fk : Int32} (h4 : tj_fi w q 12 4 fk) : ∃ v : Int32, zx_Cl zx_mt zx_rc zx_mx' 1 144 [(.inr (.inr (.inl q)))] w (0, 0) (some (.inl v), w) ∧ ((v = Int32.ofNat 1 ∧ fk.toInt = 0) ∨ (v = Int32.ofNat 0 ∧ fk.toInt ≠ 0)) := by
  obtain ⟨fs, k0, k4⟩ := h4
  have i := zx_b_int fk
  refine tr_funK (d := 0) (dt := zx_d_X12_isGood) (by rw [← zx_q_X12_isGood]; rfl) (by rw [(by decide +kernel : zx_rc 144 = 13)]; exact ⟨q, _, fs, rfl, k0⟩) (by decide +kernel : 1 ≤ zx_mx' 144) ?_
  refine zy_la (k := 0) rfl rfl (Or.inl ⟨_, rfl⟩) ?_
  refine zy_get rfl k0 k4 ?_
  refine zy_j0 rfl (fun h => ?_) (fun h => ?_)
  · have h : zx_b fk ≠ 2147483648 := h
    refine zy_ci (n := 1) (c := 0) rfl ?_
    exact tr_eZ ⟨_, _, _, rfl⟩ (Or.inl rfl) (Or.inr ⟨rfl, by omega⟩)
  · have h : zx_b fk = 2147483648 := h
    refine zy_ci (n := 1) (c := 1) rfl ?_
    refine zy_goto rfl ?_
    exact tr_eZ ⟨_, _, _, rfl⟩ (Or.inr rfl) (Or.inl ⟨rfl, by omega⟩)

set_option maxRecDepth 20000 in
theorem tr_signK {sz k : Int32} {tx : Nat → Int32} (h3 : tj_fi w q 12 3 sz) (h1 : tr_fy 3 w q 1 1600 tx) (hk : 0 ≤ k.toInt) (hs : sz.toInt ≤ 1600) : ∃ v : Int32, zx_Cl zx_mt zx_rc zx_mx' 1 198 [(.inr (.inr (.inl q))), (.inl k)] w (0, 0) (some (.inl v), w) ∧ (v = tr_sg tx sz k) := by
  obtain ⟨fs, p, k0, k1, kp⟩ := h1
  have k3 := tr_fiK k0 h3
  have i := zx_b_int k
  have i2 := zx_b_int sz
  have en : k.toNatClampNeg = k.toInt.toNat := rfl
  refine tr_funK (d := 0) (dt := zx_d_X12_sign) (by rw [← zx_q_X12_sign]; rfl) (by rw [(by decide +kernel : zx_rc 198 = 13)]; exact ⟨q, _, fs, rfl, k0⟩) (by decide +kernel : 2 ≤ zx_mx' 198) ?_
  refine zy_li (k := 1) rfl rfl ?_
  refine zy_la (k := 0) rfl rfl (Or.inl ⟨_, rfl⟩) ?_
  refine zy_get rfl k0 k3 ?_
  refine zy_jt rfl (fun h => ?_) (fun h => ?_)
  · have h : zx_b sz ≤ zx_b k := h
    refine zy_ci (n := 1) (c := 0) rfl ?_
    refine tr_eI ⟨_, _, _, rfl⟩ ?_
    unfold tr_sg
    rw [if_neg (by omega)]
  · have h : zx_b k < zx_b sz := h
    refine zy_la (k := 0) rfl rfl (Or.inl ⟨_, rfl⟩) ?_
    refine zy_get rfl k0 k1 ?_
    refine zy_li (k := 1) rfl rfl ?_
    refine zy_ldb rfl kp (tr_in (by omega) (by omega)) ?_
    refine zy_ci (n := 3) (c := 255) rfl ?_
    refine zy_and rfl ?_
    refine zy_goto rfl ?_
    refine tr_eI ⟨_, _, _, rfl⟩ ?_
    unfold tr_sg
    rw [if_pos (by omega), en]

set_option maxRecDepth 20000 in
theorem tr_isDigitK {x : Int32} : ∃ v : Int32, zx_Cl zx_mt zx_rc zx_mx' 1 141 [(.inl x)] w (0, 0) (some (.inl v), w) ∧ ((v = Int32.ofNat 1 ∧ 48 ≤ x.toInt ∧ x.toInt ≤ 57) ∨ (v = Int32.ofNat 0 ∧ ¬ (48 ≤ x.toInt ∧ x.toInt ≤ 57))) := by
  have i := zx_b_int x
  refine tr_funK (d := 0) (dt := zx_d_X12_isDigit) (by rw [← zx_q_X12_isDigit]; rfl) (by rw [(by decide +kernel : zx_rc 141 = 0)]; trivial) (by decide +kernel : 1 ≤ zx_mx' 141) ?_
  refine zy_li (k := 0) rfl rfl ?_
  refine zy_ci (n := 2) (c := 48) rfl ?_
  refine zy_jt rfl (fun h => ?_) (fun h => ?_)
  · have h : zx_b x < zx_b (Int32.ofNat 48) := h
    rw [show zx_b (Int32.ofNat 48) = 2147483696 by decide] at h
    refine zy_ci (n := 1) (c := 0) rfl ?_
    exact tr_eZ ⟨_, _, _, rfl⟩ (Or.inl rfl) (Or.inr ⟨rfl, by omega⟩)
  have h : zx_b (Int32.ofNat 48) ≤ zx_b x := h
  rw [show zx_b (Int32.ofNat 48) = 2147483696 by decide] at h
  refine zy_li (k := 0) rfl rfl ?_
  refine zy_ci (n := 2) (c := 57) rfl ?_
  refine zy_jt rfl (fun h2 => ?_) (fun h2 => ?_)
  · have h2 : zx_b (Int32.ofNat 57) < zx_b x := h2
    rw [show zx_b (Int32.ofNat 57) = 2147483705 by decide] at h2
    refine zy_ci (n := 1) (c := 0) rfl ?_
    exact tr_eZ ⟨_, _, _, rfl⟩ (Or.inl rfl) (Or.inr ⟨rfl, by omega⟩)
  have h2 : zx_b x ≤ zx_b (Int32.ofNat 57) := h2
  rw [show zx_b (Int32.ofNat 57) = 2147483705 by decide] at h2
  refine zy_ci (n := 1) (c := 1) rfl ?_
  refine zy_goto rfl ?_
  exact tr_eZ ⟨_, _, _, rfl⟩ (Or.inr rfl) (Or.inl ⟨rfl, by omega, by omega⟩)

set_option maxRecDepth 20000 in
theorem tr_isSignK {x : Int32} : ∃ v : Int32, zx_Cl zx_mt zx_rc zx_mx' 1 151 [(.inl x)] w (0, 0) (some (.inl v), w) ∧ (v = Int32.ofNat 0 ∨ v = Int32.ofNat 1) := by
  refine tr_funK (d := 0) (dt := zx_d_X12_isSign) (by rw [← zx_q_X12_isSign]; rfl) (by rw [(by decide +kernel : zx_rc 151 = 0)]; trivial) (by decide +kernel : 1 ≤ zx_mx' 151) ?_
  have yes : ∀ ls, zx_wp (zx_Cl zx_mt zx_rc zx_mx' 0) none (0, 0) (zx_find (zx_cT zx_d_X12_isSign)) (tr_endK zx_d_X12_isSign w (fun v => v = Int32.ofNat 0 ∨ v = Int32.ofNat 1)) (66, ls, [], w, 0, 0) := fun ls => by
    refine zy_ci (n := 1) (c := 1) rfl ?_
    refine zy_goto rfl ?_
    exact tr_eZ ⟨_, _, _, rfl⟩ (Or.inr rfl) (Or.inr rfl)
  refine zy_li (k := 0) rfl rfl ?_
  refine zy_ci (n := 2) (c := 59) rfl ?_
  refine zy_jt rfl (fun _ => yes _) (fun _ => ?_)
  refine zy_li (k := 0) rfl rfl ?_
  refine zy_ci (n := 2) (c := 40) rfl ?_
  refine zy_jt rfl (fun _ => yes _) (fun _ => ?_)
  refine zy_li (k := 0) rfl rfl ?_
  refine zy_ci (n := 2) (c := 41) rfl ?_
  refine zy_jt rfl (fun _ => yes _) (fun _ => ?_)
  refine zy_li (k := 0) rfl rfl ?_
  refine zy_ci (n := 2) (c := 60) rfl ?_
  refine zy_jt rfl (fun _ => yes _) (fun _ => ?_)
  refine zy_li (k := 0) rfl rfl ?_
  refine zy_ci (n := 2) (c := 62) rfl ?_
  refine zy_jt rfl (fun _ => yes _) (fun _ => ?_)
  refine zy_li (k := 0) rfl rfl ?_
  refine zy_ci (n := 2) (c := 61) rfl ?_
  refine zy_jt rfl (fun _ => yes _) (fun _ => ?_)
  refine zy_li (k := 0) rfl rfl ?_
  refine zy_ci (n := 2) (c := 43) rfl ?_
  refine zy_jt rfl (fun _ => yes _) (fun _ => ?_)
  refine zy_li (k := 0) rfl rfl ?_
  refine zy_ci (n := 2) (c := 45) rfl ?_
  refine zy_jt rfl (fun _ => yes _) (fun _ => ?_)
  refine zy_li (k := 0) rfl rfl ?_
  refine zy_ci (n := 2) (c := 42) rfl ?_
  refine zy_jt rfl (fun _ => yes _) (fun _ => ?_)
  refine zy_li (k := 0) rfl rfl ?_
  refine zy_ci (n := 2) (c := 47) rfl ?_
  refine zy_jt rfl (fun _ => yes _) (fun _ => ?_)
  refine zy_li (k := 0) rfl rfl ?_
  refine zy_ci (n := 2) (c := 37) rfl ?_
  refine zy_jt rfl (fun _ => ?_) (fun _ => yes _)
  refine zy_ci (n := 1) (c := 0) rfl ?_
  exact tr_eZ ⟨_, _, _, rfl⟩ (Or.inl rfl) (Or.inl rfl)

set_option maxRecDepth 20000 in
theorem tr_isKeptK {x : Int64} : ∃ v : Int32, zx_Cl zx_mt zx_rc zx_mx' 1 147 [(.inr (.inl x))] w (0, 0) (some (.inl v), w) ∧ (v = Int32.ofNat 0 ∨ v = Int32.ofNat 1) := by
  refine tr_funK (d := 0) (dt := zx_d_X12_isKept) (by rw [← zx_q_X12_isKept]; rfl) (by rw [(by decide +kernel : zx_rc 147 = 0)]; trivial) (by decide +kernel : 2 ≤ zx_mx' 147) ?_
  have yes : ∀ ls, zx_wp (zx_Cl zx_mt zx_rc zx_mx' 0) none (0, 0) (zx_find (zx_cT zx_d_X12_isKept)) (tr_endK zx_d_X12_isKept w (fun v => v = Int32.ofNat 0 ∨ v = Int32.ofNat 1)) (154, ls, [], w, 0, 0) := fun ls => by
    refine zy_ci (n := 1) (c := 1) rfl ?_
    refine zy_goto rfl ?_
    exact tr_eZ ⟨_, _, _, rfl⟩ (Or.inr rfl) (Or.inr rfl)
  have two : ∀ (o : Int32) (ls : List (Nat × zx_V)), zx_look 0 ls = some (.inr (.inl x)) → zx_wp (zx_Cl zx_mt zx_rc zx_mx' 0) none (0, 0) (zx_find (zx_cT zx_d_X12_isKept)) (tr_endK zx_d_X12_isKept w (fun v => v = Int32.ofNat 0 ∨ v = Int32.ofNat 1)) (77, ls, [(.inl o)], w, 0, 0) := fun o ls l0 => by
    refine zy_si (k := 2) rfl ?_
    have m0 : zx_look 0 (zx_put 2 (.inl o) ls) = some (.inr (.inl x)) := zy_look_ne2 (by decide) (by decide) l0
    refine zy_li (k := 2) rfl zy_look_put ?_
    refine zy_j0 rfl (fun _ => yes _) (fun _ => ?_)
    refine zy_lj rfl m0 ?_
    refine zy_cj (n := 3) (c := 6975353) rfl ?_
    refine zy_lcmp rfl ?_
    refine zy_j0 rfl (fun _ => yes _) (fun _ => ?_)
    refine zy_lj rfl m0 ?_
    refine zy_cj (n := 3) (c := 1819238756) rfl ?_
    refine zy_lcmp rfl ?_
    refine zy_j0 rfl (fun _ => yes _) (fun _ => ?_)
    refine zy_lj rfl m0 ?_
    refine zy_cj (n := 3) (c := 112568784876914) rfl ?_
    refine zy_lcmp rfl ?_
    refine zy_j0 rfl (fun _ => yes _) (fun _ => ?_)
    refine zy_lj rfl m0 ?_
    refine zy_cj (n := 3) (c := 1685217655) rfl ?_
    refine zy_lcmp rfl ?_
    refine zy_j0 rfl (fun _ => yes _) (fun _ => ?_)
    refine zy_lj rfl m0 ?_
    refine zy_cj (n := 3) (c := 6578553) rfl ?_
    refine zy_lcmp rfl ?_
    refine zy_j0 rfl (fun _ => yes _) (fun _ => ?_)
    refine zy_lj rfl m0 ?_
    refine zy_cj (n := 3) (c := 418346264942) rfl ?_
    refine zy_lcmp rfl ?_
    refine zy_j0 rfl (fun _ => yes _) (fun _ => ?_)
    refine zy_lj rfl m0 ?_
    refine zy_cj (n := 3) (c := 28530) rfl ?_
    refine zy_lcmp rfl ?_
    refine zy_j0 rfl (fun _ => yes _) (fun _ => ?_)
    refine zy_lj rfl m0 ?_
    refine zy_cj (n := 3) (c := 6385252) rfl ?_
    refine zy_lcmp rfl ?_
    refine zy_j0 rfl (fun _ => yes _) (fun _ => ?_)
    refine zy_lj rfl m0 ?_
    refine zy_cj (n := 3) (c := 7237492) rfl ?_
    refine zy_lcmp rfl ?_
    refine zy_j0 rfl (fun _ => ?_) (fun _ => yes _)
    refine zy_ci (n := 1) (c := 0) rfl ?_
    exact tr_eZ ⟨_, _, _, rfl⟩ (Or.inl rfl) (Or.inl rfl)
  have one : ∀ ls, zx_look 0 ls = some (.inr (.inl x)) → zx_wp (zx_Cl zx_mt zx_rc zx_mx' 0) none (0, 0) (zx_find (zx_cT zx_d_X12_isKept)) (tr_endK zx_d_X12_isKept w (fun v => v = Int32.ofNat 0 ∨ v = Int32.ofNat 1)) (72, ls, [], w, 0, 0) := fun ls l0 => by
    refine zy_ci (n := 1) (c := 1) rfl ?_
    refine zy_goto rfl ?_
    exact two _ _ l0
  refine zy_lj (k := 0) rfl rfl ?_
  refine zy_cj (n := 3) (c := 1751215206) rfl ?_
  refine zy_lcmp rfl ?_
  refine zy_j0 rfl (fun _ => one _ rfl) (fun _ => ?_)
  refine zy_lj (k := 0) rfl rfl ?_
  refine zy_cj (n := 3) (c := 495723310188) rfl ?_
  refine zy_lcmp rfl ?_
  refine zy_j0 rfl (fun _ => one _ rfl) (fun _ => ?_)
  refine zy_lj (k := 0) rfl rfl ?_
  refine zy_cj (n := 3) (c := 426836649331) rfl ?_
  refine zy_lcmp rfl ?_
  refine zy_j0 rfl (fun _ => one _ rfl) (fun _ => ?_)
  refine zy_lj (k := 0) rfl rfl ?_
  refine zy_cj (n := 3) (c := 1818848101) rfl ?_
  refine zy_lcmp rfl ?_
  refine zy_j0 rfl (fun _ => one _ rfl) (fun _ => ?_)
  refine zy_lj (k := 0) rfl rfl ?_
  refine zy_cj (n := 3) (c := 29807) rfl ?_
  refine zy_lcmp rfl ?_
  refine zy_j0 rfl (fun _ => one _ rfl) (fun _ => ?_)
  refine zy_lj (k := 0) rfl rfl ?_
  refine zy_cj (n := 3) (c := 123581014175598) rfl ?_
  refine zy_lcmp rfl ?_
  refine zy_j0 rfl (fun _ => one _ rfl) (fun _ => ?_)
  refine zy_lj (k := 0) rfl rfl ?_
  refine zy_cj (n := 3) (c := 28518) rfl ?_
  refine zy_lcmp rfl ?_
  refine zy_j0 rfl (fun _ => one _ rfl) (fun _ => ?_)
  refine zy_lj (k := 0) rfl rfl ?_
  refine zy_cj (n := 3) (c := 1953854062) rfl ?_
  refine zy_lcmp rfl ?_
  refine zy_j0 rfl (fun _ => one _ rfl) (fun _ => ?_)
  refine zy_lj (k := 0) rfl rfl ?_
  refine zy_cj (n := 3) (c := 1684366692) rfl ?_
  refine zy_lcmp rfl ?_
  refine zy_j0 rfl (fun _ => ?_) (fun _ => one _ rfl)
  refine zy_ci (n := 1) (c := 0) rfl ?_
  exact two _ _ rfl

set_option maxRecDepth 20000 in
theorem tr_isSignHereK {sz at' tk c : Int32} {tx : Nat → Int32} (h3 : tj_fi w q 12 3 sz) (h1 : tr_fy 3 w q 1 1600 tx) (h6 : tj_fi w q 12 6 at') (h8 : tj_fi w q 12 8 tk) (hk : 0 ≤ at'.toInt) (hs : sz.toInt ≤ 1600) : ∃ v : Int32, zx_Cl zx_mt zx_rc zx_mx' 2 152 [(.inr (.inr (.inl q))), (.inl c)] w (0, 0) (some (.inl v), w) ∧ ((v = Int32.ofNat 0 ∨ (v = Int32.ofNat 1 ∧ tk.toInt = 5 ∧ tr_sg tx sz at' = c))) := by
  obtain ⟨u, hu, eu⟩ := tr_signK h3 h1 hk hs
  obtain ⟨fs, k0, k8⟩ := h8
  have k6 := tr_fiK k0 h6
  have i := zx_b_int tk
  have hlw : q < w.length := (List.getElem?_eq_some_iff.mp k0).1
  have no : ∀ ls, zx_wp (zx_Cl zx_mt zx_rc zx_mx' 1) none (0, 0) (zx_find (zx_cT zx_d_X12_isSignHere)) (tr_endK zx_d_X12_isSignHere w (fun v => v = Int32.ofNat 0 ∨ (v = Int32.ofNat 1 ∧ tk.toInt = 5 ∧ tr_sg tx sz at' = c))) (24, ls, [], w, 0, 0) := fun ls => by
    refine zy_ci (n := 1) (c := 0) rfl ?_
    exact tr_eZ ⟨_, _, _, rfl⟩ (Or.inl rfl) (Or.inl rfl)
  refine tr_funK (d := 1) (dt := zx_d_X12_isSignHere) (by rw [← zx_q_X12_isSignHere]; rfl) (by rw [(by decide +kernel : zx_rc 152 = 13)]; exact ⟨q, _, fs, rfl, k0⟩) (by decide +kernel : 2 ≤ zx_mx' 152) ?_
  refine zy_la (k := 0) rfl rfl (Or.inl ⟨_, rfl⟩) ?_
  refine zy_get rfl k0 k8 ?_
  refine zy_ci (n := 1) (c := 5) rfl ?_
  refine zy_jt rfl (fun _ => no _) (fun h => ?_)
  have h : zx_b tk = zx_b (Int32.ofNat 5) := h
  rw [show zx_b (Int32.ofNat 5) = 2147483653 by decide] at h
  refine zy_la (k := 0) rfl rfl (Or.inl ⟨_, rfl⟩) ?_
  refine zy_la (k := 0) rfl rfl (Or.inl ⟨_, rfl⟩) ?_
  refine zy_get rfl k0 k6 ?_
  refine zy_callK (a := 0) (n := 2) (st := []) hu rfl rfl (Nat.le_of_ble_eq_true rfl) (tm_lim hlw rfl) rfl (Nat.zero_le _) (Nat.zero_le _) ?_
  refine zy_li (k := 1) rfl rfl ?_
  refine zy_jt rfl (fun _ => no _) (fun h2 => ?_)
  have h2 : zx_b u = zx_b c := h2
  refine zy_ci (n := 1) (c := 1) rfl ?_
  refine zy_goto rfl ?_
  exact tr_eZ ⟨_, _, _, rfl⟩ (Or.inr rfl) (Or.inr ⟨rfl, by omega, by rw [← eu]; exact tr_beq h2⟩)

set_option maxRecDepth 20000 in
theorem tr_isWordK {tk : Int32} {nm c : Int64} (h8 : tj_fi w q 12 8 tk) (h10 : tr_fj w q 10 nm) : ∃ v : Int32, zx_Cl zx_mt zx_rc zx_mx' 1 154 [(.inr (.inr (.inl q))), (.inr (.inl c))] w (0, 0) (some (.inl v), w) ∧ ((v = Int32.ofNat 0 ∧ ¬ (tk.toInt = 3 ∧ nm = c)) ∨ (v = Int32.ofNat 1 ∧ tk.toInt = 3 ∧ nm = c)) := by
  obtain ⟨fs, k0, k8⟩ := h8
  have k10 := tr_fjK k0 h10
  have i := zx_b_int tk
  have no : ∀ ls, ¬ (tk.toInt = 3 ∧ nm = c) → zx_wp (zx_Cl zx_mt zx_rc zx_mx' 0) none (0, 0) (zx_find (zx_cT zx_d_X12_isWord)) (tr_endK zx_d_X12_isWord w (fun v => (v = Int32.ofNat 0 ∧ ¬ (tk.toInt = 3 ∧ nm = c)) ∨ (v = Int32.ofNat 1 ∧ tk.toInt = 3 ∧ nm = c))) (21, ls, [], w, 0, 0) := fun ls hn => by
    refine zy_ci (n := 1) (c := 0) rfl ?_
    exact tr_eZ ⟨_, _, _, rfl⟩ (Or.inl rfl) (Or.inl ⟨rfl, hn⟩)
  refine tr_funK (d := 0) (dt := zx_d_X12_isWord) (by rw [← zx_q_X12_isWord]; rfl) (by rw [(by decide +kernel : zx_rc 154 = 13)]; exact ⟨q, _, fs, rfl, k0⟩) (by decide +kernel : 3 ≤ zx_mx' 154) ?_
  refine zy_la (k := 0) rfl rfl (Or.inl ⟨_, rfl⟩) ?_
  refine zy_get rfl k0 k8 ?_
  refine zy_ci (n := 1) (c := 3) rfl ?_
  refine zy_jt rfl (fun h => ?_) (fun h => ?_)
  · have h : zx_b tk ≠ zx_b (Int32.ofNat 3) := h
    rw [show zx_b (Int32.ofNat 3) = 2147483651 by decide] at h
    exact no _ (fun hh => by omega)
  have h : zx_b tk = zx_b (Int32.ofNat 3) := h
  rw [show zx_b (Int32.ofNat 3) = 2147483651 by decide] at h
  refine zy_la (k := 0) rfl rfl (Or.inl ⟨_, rfl⟩) ?_
  refine zy_get rfl k0 k10 ?_
  refine zy_lj (k := 1) rfl rfl ?_
  refine zy_lcmp rfl ?_
  refine zy_j0 rfl (fun h2 => no _ (fun hh => ?_)) (fun h2 => ?_)
  · have h2 : zx_b (lg_cmp nm c) ≠ 2147483648 := h2
    exact h2 (by rw [hh.2]; exact tr_cmp_eq)
  have h2 : zx_b (lg_cmp nm c) = 2147483648 := h2
  refine zy_ci (n := 1) (c := 1) rfl ?_
  refine zy_goto rfl ?_
  exact tr_eZ ⟨_, _, _, rfl⟩ (Or.inr rfl) (Or.inr ⟨rfl, by omega, tr_cmp_0 h2⟩)

set_option maxRecDepth 20000 in
theorem tr_wordHereK {tk : Int32} {nm : Int64} (h8 : tj_fi w q 12 8 tk) (h10 : tr_fj w q 10 nm) : ∃ v : Int32, zx_Cl zx_mt zx_rc zx_mx' 2 213 [(.inr (.inr (.inl q)))] w (0, 0) (some (.inl v), w) ∧ (v = Int32.ofNat 0 ∨ (97 ≤ v.toInt ∧ v.toInt ≤ 122 ∧ tk.toInt = 3)) := by
  obtain ⟨fs, k0, k8⟩ := id h8
  have hlw : q < w.length := (List.getElem?_eq_some_iff.mp k0).1
  obtain ⟨u0, hu0, eu0⟩ := tr_isWordK (c := Int64.ofNat 1819238756) h8 h10
  obtain ⟨u1, hu1, eu1⟩ := tr_isWordK (c := Int64.ofNat 6578553) h8 h10
  obtain ⟨u2, hu2, eu2⟩ := tr_isWordK (c := Int64.ofNat 495723310188) h8 h10
  obtain ⟨u3, hu3, eu3⟩ := tr_isWordK (c := Int64.ofNat 418346264942) h8 h10
  refine tr_funK (d := 1) (dt := zx_d_X12_wordHere) (by rw [← zx_q_X12_wordHere]; rfl) (by rw [(by decide +kernel : zx_rc 213 = 13)]; exact ⟨q, _, fs, rfl, k0⟩) (by decide +kernel : 1 ≤ zx_mx' 213) ?_
  refine zy_la (k := 0) rfl rfl (Or.inl ⟨_, rfl⟩) ?_
  refine zy_cj (n := 3) (c := 1819238756) rfl ?_
  refine zy_callK (a := 0) (n := 2) (st := []) hu0 rfl rfl (Nat.le_of_ble_eq_true rfl) (tm_lim hlw rfl) rfl (Nat.zero_le _) (Nat.zero_le _) ?_
  refine zy_j0 rfl (fun _ => ?_) (fun h => ?_)
  rotate_left
  · refine zy_ci (n := 2) (c := 108) rfl ?_
    rcases eu0 with ⟨e, -⟩ | ⟨-, e, -⟩
    · subst e
      exact absurd tr_z0 h
    · exact tr_eI ⟨_, _, _, rfl⟩ (Or.inr ⟨by decide, by decide, e⟩)
  refine zy_la (k := 0) rfl rfl (Or.inl ⟨_, rfl⟩) ?_
  refine zy_cj (n := 3) (c := 6578553) rfl ?_
  refine zy_callK (a := 0) (n := 2) (st := []) hu1 rfl rfl (Nat.le_of_ble_eq_true rfl) (tm_lim hlw rfl) rfl (Nat.zero_le _) (Nat.zero_le _) ?_
  refine zy_j0 rfl (fun _ => ?_) (fun h => ?_)
  rotate_left
  · refine zy_ci (n := 2) (c := 100) rfl ?_
    rcases eu1 with ⟨e, -⟩ | ⟨-, e, -⟩
    · subst e
      exact absurd tr_z0 h
    · exact tr_eI ⟨_, _, _, rfl⟩ (Or.inr ⟨by decide, by decide, e⟩)
  refine zy_la (k := 0) rfl rfl (Or.inl ⟨_, rfl⟩) ?_
  refine zy_cj (n := 3) (c := 495723310188) rfl ?_
  refine zy_callK (a := 0) (n := 2) (st := []) hu2 rfl rfl (Nat.le_of_ble_eq_true rfl) (tm_lim hlw rfl) rfl (Nat.zero_le _) (Nat.zero_le _) ?_
  refine zy_j0 rfl (fun _ => ?_) (fun h => ?_)
  rotate_left
  · refine zy_ci (n := 2) (c := 115) rfl ?_
    rcases eu2 with ⟨e, -⟩ | ⟨-, e, -⟩
    · subst e
      exact absurd tr_z0 h
    · exact tr_eI ⟨_, _, _, rfl⟩ (Or.inr ⟨by decide, by decide, e⟩)
  refine zy_la (k := 0) rfl rfl (Or.inl ⟨_, rfl⟩) ?_
  refine zy_cj (n := 3) (c := 418346264942) rfl ?_
  refine zy_callK (a := 0) (n := 2) (st := []) hu3 rfl rfl (Nat.le_of_ble_eq_true rfl) (tm_lim hlw rfl) rfl (Nat.zero_le _) (Nat.zero_le _) ?_
  refine zy_j0 rfl (fun _ => ?_) (fun h => ?_)
  · refine zy_ci (n := 1) (c := 0) rfl ?_
    exact tr_eI ⟨_, _, _, rfl⟩ (Or.inl rfl)
  · refine zy_ci (n := 2) (c := 97) rfl ?_
    refine zy_goto rfl ?_
    rcases eu3 with ⟨e, -⟩ | ⟨-, e, -⟩
    · subst e
      exact absurd tr_z0 h
    · exact tr_eI ⟨_, _, _, rfl⟩ (Or.inr ⟨by decide, by decide, e⟩)

set_option maxRecDepth 20000 in
theorem tr_rankHereK {sz at' tk : Int32} {nm : Int64} (h8 : tj_fi w q 12 8 tk) (h10 : tr_fj w q 10 nm) {tx : Nat → Int32} (h3 : tj_fi w q 12 3 sz) (h1 : tr_fy 3 w q 1 1600 tx) (h6 : tj_fi w q 12 6 at') (hk : 0 ≤ at'.toInt) (hs : sz.toInt ≤ 1600) : ∃ v : Int32, zx_Cl zx_mt zx_rc zx_mx' 3 185 [(.inr (.inr (.inl q)))] w (0, 0) (some (.inl v), w) ∧ (v = Int32.ofNat 0 ∨ v = Int32.ofNat 1 ∨ v = Int32.ofNat 2 ∨ ((v = Int32.ofNat 4 ∨ v = Int32.ofNat 5 ∨ v = Int32.ofNat 6) ∧ 0 ≤ (tr_sg tx sz at').toInt ∧ (tr_sg tx sz at').toInt < 97)) := by
  obtain ⟨fs, k0, k8⟩ := id h8
  have hlw : q < w.length := (List.getElem?_eq_some_iff.mp k0).1
  obtain ⟨u6385252, hu6385252, eu6385252⟩ := tr_isWordK (c := Int64.ofNat 6385252) h8 h10
  obtain ⟨u28530, hu28530, eu28530⟩ := tr_isWordK (c := Int64.ofNat 28530) h8 h10
  obtain ⟨u60, hu60, eu60⟩ := tr_isSignHereK (c := Int32.ofNat 60) h3 h1 h6 h8 hk hs
  obtain ⟨u62, hu62, eu62⟩ := tr_isSignHereK (c := Int32.ofNat 62) h3 h1 h6 h8 hk hs
  obtain ⟨u61, hu61, eu61⟩ := tr_isSignHereK (c := Int32.ofNat 61) h3 h1 h6 h8 hk hs
  obtain ⟨u43, hu43, eu43⟩ := tr_isSignHereK (c := Int32.ofNat 43) h3 h1 h6 h8 hk hs
  obtain ⟨u45, hu45, eu45⟩ := tr_isSignHereK (c := Int32.ofNat 45) h3 h1 h6 h8 hk hs
  obtain ⟨u42, hu42, eu42⟩ := tr_isSignHereK (c := Int32.ofNat 42) h3 h1 h6 h8 hk hs
  obtain ⟨u47, hu47, eu47⟩ := tr_isSignHereK (c := Int32.ofNat 47) h3 h1 h6 h8 hk hs
  obtain ⟨u37, hu37, eu37⟩ := tr_isSignHereK (c := Int32.ofNat 37) h3 h1 h6 h8 hk hs
  have yes51 : ∀ ls (c : Int32), 0 ≤ c.toInt → c.toInt < 97 → tr_sg tx sz at' = c → zx_wp (zx_Cl zx_mt zx_rc zx_mx' 2) none (0, 0) (zx_find (zx_cT zx_d_X12_rankHere)) (tr_endK zx_d_X12_rankHere w (fun v => v = Int32.ofNat 0 ∨ v = Int32.ofNat 1 ∨ v = Int32.ofNat 2 ∨ ((v = Int32.ofNat 4 ∨ v = Int32.ofNat 5 ∨ v = Int32.ofNat 6) ∧ 0 ≤ (tr_sg tx sz at').toInt ∧ (tr_sg tx sz at').toInt < 97))) (51, ls, [], w, 0, 0) := fun ls c c1 c2 ec => by
    refine zy_ci (n := 1) (c := 4) rfl ?_
    exact tr_eI ⟨_, _, _, rfl⟩ (Or.inr (Or.inr (Or.inr ⟨Or.inl rfl, by rw [ec]; exact c1, by rw [ec]; exact c2⟩)))
  have yes71 : ∀ ls (c : Int32), 0 ≤ c.toInt → c.toInt < 97 → tr_sg tx sz at' = c → zx_wp (zx_Cl zx_mt zx_rc zx_mx' 2) none (0, 0) (zx_find (zx_cT zx_d_X12_rankHere)) (tr_endK zx_d_X12_rankHere w (fun v => v = Int32.ofNat 0 ∨ v = Int32.ofNat 1 ∨ v = Int32.ofNat 2 ∨ ((v = Int32.ofNat 4 ∨ v = Int32.ofNat 5 ∨ v = Int32.ofNat 6) ∧ 0 ≤ (tr_sg tx sz at').toInt ∧ (tr_sg tx sz at').toInt < 97))) (71, ls, [], w, 0, 0) := fun ls c c1 c2 ec => by
    refine zy_ci (n := 1) (c := 5) rfl ?_
    exact tr_eI ⟨_, _, _, rfl⟩ (Or.inr (Or.inr (Or.inr ⟨Or.inr (Or.inl rfl), by rw [ec]; exact c1, by rw [ec]; exact c2⟩)))
  have yes100 : ∀ ls (c : Int32), 0 ≤ c.toInt → c.toInt < 97 → tr_sg tx sz at' = c → zx_wp (zx_Cl zx_mt zx_rc zx_mx' 2) none (0, 0) (zx_find (zx_cT zx_d_X12_rankHere)) (tr_endK zx_d_X12_rankHere w (fun v => v = Int32.ofNat 0 ∨ v = Int32.ofNat 1 ∨ v = Int32.ofNat 2 ∨ ((v = Int32.ofNat 4 ∨ v = Int32.ofNat 5 ∨ v = Int32.ofNat 6) ∧ 0 ≤ (tr_sg tx sz at').toInt ∧ (tr_sg tx sz at').toInt < 97))) (100, ls, [], w, 0, 0) := fun ls c c1 c2 ec => by
    refine zy_ci (n := 2) (c := 6) rfl ?_
    refine zy_goto rfl ?_
    exact tr_eI ⟨_, _, _, rfl⟩ (Or.inr (Or.inr (Or.inr ⟨Or.inr (Or.inr rfl), by rw [ec]; exact c1, by rw [ec]; exact c2⟩)))
  refine tr_funK (d := 2) (dt := zx_d_X12_rankHere) (by rw [← zx_q_X12_rankHere]; rfl) (by rw [(by decide +kernel : zx_rc 185 = 13)]; exact ⟨q, _, fs, rfl, k0⟩) (by decide +kernel : 1 ≤ zx_mx' 185) ?_
  refine zy_la (k := 0) rfl rfl (Or.inl ⟨_, rfl⟩) ?_
  refine zy_cj (n := 3) (c := 6385252) rfl ?_
  refine zy_callK (a := 0) (n := 2) (st := []) (zx_Cl_le (by decide) hu6385252) rfl rfl (Nat.le_of_ble_eq_true rfl) (tm_lim hlw rfl) rfl (Nat.zero_le _) (Nat.zero_le _) ?_
  refine zy_j0 rfl (fun _ => ?_) (fun _ => ?_)
  rotate_left
  · refine zy_ci (n := 1) (c := 2) rfl ?_
    exact tr_eI ⟨_, _, _, rfl⟩ (Or.inr (Or.inr (Or.inl rfl)))
  refine zy_la (k := 0) rfl rfl (Or.inl ⟨_, rfl⟩) ?_
  refine zy_cj (n := 3) (c := 28530) rfl ?_
  refine zy_callK (a := 0) (n := 2) (st := []) (zx_Cl_le (by decide) hu28530) rfl rfl (Nat.le_of_ble_eq_true rfl) (tm_lim hlw rfl) rfl (Nat.zero_le _) (Nat.zero_le _) ?_
  refine zy_j0 rfl (fun _ => ?_) (fun _ => ?_)
  rotate_left
  · refine zy_ci (n := 1) (c := 1) rfl ?_
    exact tr_eI ⟨_, _, _, rfl⟩ (Or.inr (Or.inl rfl))
  refine zy_la (k := 0) rfl rfl (Or.inl ⟨_, rfl⟩) ?_
  refine zy_ci (n := 2) (c := 60) rfl ?_
  refine zy_callK (a := 0) (n := 2) (st := []) (zx_Cl_le (by decide) hu60) rfl rfl (Nat.le_of_ble_eq_true rfl) (tm_lim hlw rfl) rfl (Nat.zero_le _) (Nat.zero_le _) ?_
  refine zy_j0 rfl (fun h => ?_) (fun _ => ?_)
  · rcases eu60 with e | ⟨-, -, e⟩
    · subst e
      exact absurd tr_z0 h
    · exact yes51 _ _ (by decide) (by decide) e
  refine zy_la (k := 0) rfl rfl (Or.inl ⟨_, rfl⟩) ?_
  refine zy_ci (n := 2) (c := 62) rfl ?_
  refine zy_callK (a := 0) (n := 2) (st := []) (zx_Cl_le (by decide) hu62) rfl rfl (Nat.le_of_ble_eq_true rfl) (tm_lim hlw rfl) rfl (Nat.zero_le _) (Nat.zero_le _) ?_
  refine zy_j0 rfl (fun h => ?_) (fun _ => ?_)
  · rcases eu62 with e | ⟨-, -, e⟩
    · subst e
      exact absurd tr_z0 h
    · exact yes51 _ _ (by decide) (by decide) e
  refine zy_la (k := 0) rfl rfl (Or.inl ⟨_, rfl⟩) ?_
  refine zy_ci (n := 2) (c := 61) rfl ?_
  refine zy_callK (a := 0) (n := 2) (st := []) (zx_Cl_le (by decide) hu61) rfl rfl (Nat.le_of_ble_eq_true rfl) (tm_lim hlw rfl) rfl (Nat.zero_le _) (Nat.zero_le _) ?_
  refine zy_j0 rfl (fun _ => ?_) (fun h => ?_)
  rotate_left
  · rcases eu61 with e | ⟨-, -, e⟩
    · subst e
      exact absurd tr_z0 h
    · exact yes51 _ _ (by decide) (by decide) e
  refine zy_la (k := 0) rfl rfl (Or.inl ⟨_, rfl⟩) ?_
  refine zy_ci (n := 2) (c := 43) rfl ?_
  refine zy_callK (a := 0) (n := 2) (st := []) (zx_Cl_le (by decide) hu43) rfl rfl (Nat.le_of_ble_eq_true rfl) (tm_lim hlw rfl) rfl (Nat.zero_le _) (Nat.zero_le _) ?_
  refine zy_j0 rfl (fun h => ?_) (fun _ => ?_)
  · rcases eu43 with e | ⟨-, -, e⟩
    · subst e
      exact absurd tr_z0 h
    · exact yes71 _ _ (by decide) (by decide) e
  refine zy_la (k := 0) rfl rfl (Or.inl ⟨_, rfl⟩) ?_
  refine zy_ci (n := 2) (c := 45) rfl ?_
  refine zy_callK (a := 0) (n := 2) (st := []) (zx_Cl_le (by decide) hu45) rfl rfl (Nat.le_of_ble_eq_true rfl) (tm_lim hlw rfl) rfl (Nat.zero_le _) (Nat.zero_le _) ?_
  refine zy_j0 rfl (fun _ => ?_) (fun h => ?_)
  rotate_left
  · rcases eu45 with e | ⟨-, -, e⟩
    · subst e
      exact absurd tr_z0 h
    · exact yes71 _ _ (by decide) (by decide) e
  refine zy_la (k := 0) rfl rfl (Or.inl ⟨_, rfl⟩) ?_
  refine zy_ci (n := 2) (c := 42) rfl ?_
  refine zy_callK (a := 0) (n := 2) (st := []) (zx_Cl_le (by decide) hu42) rfl rfl (Nat.le_of_ble_eq_true rfl) (tm_lim hlw rfl) rfl (Nat.zero_le _) (Nat.zero_le _) ?_
  refine zy_j0 rfl (fun h => ?_) (fun _ => ?_)
  · rcases eu42 with e | ⟨-, -, e⟩
    · subst e
      exact absurd tr_z0 h
    · exact yes100 _ _ (by decide) (by decide) e
  refine zy_la (k := 0) rfl rfl (Or.inl ⟨_, rfl⟩) ?_
  refine zy_ci (n := 2) (c := 47) rfl ?_
  refine zy_callK (a := 0) (n := 2) (st := []) (zx_Cl_le (by decide) hu47) rfl rfl (Nat.le_of_ble_eq_true rfl) (tm_lim hlw rfl) rfl (Nat.zero_le _) (Nat.zero_le _) ?_
  refine zy_j0 rfl (fun h => ?_) (fun _ => ?_)
  · rcases eu47 with e | ⟨-, -, e⟩
    · subst e
      exact absurd tr_z0 h
    · exact yes100 _ _ (by decide) (by decide) e
  refine zy_la (k := 0) rfl rfl (Or.inl ⟨_, rfl⟩) ?_
  refine zy_ci (n := 2) (c := 37) rfl ?_
  refine zy_callK (a := 0) (n := 2) (st := []) (zx_Cl_le (by decide) hu37) rfl rfl (Nat.le_of_ble_eq_true rfl) (tm_lim hlw rfl) rfl (Nat.zero_le _) (Nat.zero_le _) ?_
  refine zy_j0 rfl (fun _ => ?_) (fun h => ?_)
  rotate_left
  · rcases eu37 with e | ⟨-, -, e⟩
    · subst e
      exact absurd tr_z0 h
    · exact yes100 _ _ (by decide) (by decide) e
  refine zy_ci (n := 1) (c := 0) rfl ?_
  exact tr_eI ⟨_, _, _, rfl⟩ (Or.inl rfl)

set_option maxRecDepth 20000 in
theorem tr_isFullK {rb tk : Int32} {nm : Int64} (h8 : tj_fi w q 12 8 tk) (h10 : tr_fj w q 10 nm) {hv lk pv dv bz : Nat → Int32} (h40 : tj_fi w q 12 40 rb) (h11 : tj_fa w q 12 11 2 hv) (h12 : tj_fa w q 12 12 2 lk) (h13 : tj_fa w q 12 13 2 pv) (h14 : tj_fa w q 12 14 2 dv) (h28 : tr_fy 2 w q 28 2 bz) (hb : rb.toInt = 0 ∨ rb.toInt = 1) : ∃ v : Int32, zx_Cl zx_mt zx_rc zx_mx' 2 143 [(.inr (.inr (.inl q)))] w (0, 0) (some (.inl v), w) ∧ ((v = Int32.ofNat 0 ∧ tk.toInt = 3 ∧ (nm = Int64.ofNat 1751215206 → (hv rb.toInt.toNat).toInt ≠ 8) ∧ (nm = Int64.ofNat 1818848101 → (lk rb.toInt.toNat).toInt ≠ 30) ∧ (nm = Int64.ofNat 123581014175598 → (pv rb.toInt.toNat).toInt ≠ 4) ∧ (nm = Int64.ofNat 1684366692 → (dv rb.toInt.toNat).toInt ≠ 6)) ∨ v = Int32.ofNat 1) := by
  obtain ⟨fs, k0, k8⟩ := id h8
  have hlw : q < w.length := (List.getElem?_eq_some_iff.mp k0).1
  have k40 := tr_fiK k0 h40
  have en : rb.toNatClampNeg = rb.toInt.toNat := rfl
  obtain ⟨fs', a11, k0', k11, ka11⟩ := id h11
  rw [k0] at k0'
  cases k0'
  have i11 := zx_b_int (hv rb.toInt.toNat)
  obtain ⟨fs', a12, k0', k12, ka12⟩ := id h12
  rw [k0] at k0'
  cases k0'
  have i12 := zx_b_int (lk rb.toInt.toNat)
  obtain ⟨fs', a13, k0', k13, ka13⟩ := id h13
  rw [k0] at k0'
  cases k0'
  have i13 := zx_b_int (pv rb.toInt.toNat)
  obtain ⟨fs', a14, k0', k14, ka14⟩ := id h14
  rw [k0] at k0'
  cases k0'
  have i14 := zx_b_int (dv rb.toInt.toNat)
  obtain ⟨fs', a28, k0', k28, ka28⟩ := id h28
  rw [k0] at k0'
  cases k0'
  obtain ⟨u1751215206, hu1751215206, eu1751215206⟩ := tr_isWordK (c := Int64.ofNat 1751215206) h8 h10
  obtain ⟨u1818848101, hu1818848101, eu1818848101⟩ := tr_isWordK (c := Int64.ofNat 1818848101) h8 h10
  obtain ⟨u123581014175598, hu123581014175598, eu123581014175598⟩ := tr_isWordK (c := Int64.ofNat 123581014175598) h8 h10
  obtain ⟨u1684366692, hu1684366692, eu1684366692⟩ := tr_isWordK (c := Int64.ofNat 1684366692) h8 h10
  obtain ⟨u112568784876914, hu112568784876914, eu112568784876914⟩ := tr_isWordK (c := Int64.ofNat 112568784876914) h8 h10
  obtain ⟨u1685217655, hu1685217655, eu1685217655⟩ := tr_isWordK (c := Int64.ofNat 1685217655) h8 h10
  refine tr_funK (d := 1) (dt := zx_d_X12_isFull) (by rw [← zx_q_X12_isFull]; rfl) (by rw [(by decide +kernel : zx_rc 143 = 13)]; exact ⟨q, _, fs, rfl, k0⟩) (by decide +kernel : 1 ≤ zx_mx' 143) ?_
  refine zy_la (k := 0) rfl rfl (Or.inl ⟨_, rfl⟩) ?_
  refine zy_cj (n := 3) (c := 1751215206) rfl ?_
  refine zy_callK (a := 0) (n := 2) (st := []) (zx_Cl_le (by decide) hu1751215206) rfl rfl (Nat.le_of_ble_eq_true rfl) (tm_lim hlw rfl) rfl (Nat.zero_le _) (Nat.zero_le _) ?_
  refine zy_j0 rfl (fun g0 => ?_) (fun h => ?_)
  rotate_left
  · refine zy_la (k := 0) rfl rfl (Or.inl ⟨_, rfl⟩) ?_
    refine zy_get rfl k0 k11 ?_
    refine zy_la (k := 0) rfl rfl (Or.inl ⟨_, rfl⟩) ?_
    refine zy_get rfl k0 k40 ?_
    refine zy_ld rfl ka11 (tr_in (by omega) (by omega)) ?_
    rw [en]
    refine zy_ci (n := 2) (c := 8) rfl ?_
    rcases eu1751215206 with ⟨e, -⟩ | ⟨-, e, en2⟩
    · subst e
      exact absurd tr_z0 h
    refine zy_jt rfl (fun h2 => ?_) (fun _ => ?_)
    · have h2 : zx_b (hv rb.toInt.toNat) ≠ zx_b (Int32.ofNat 8) := h2
      rw [show zx_b (Int32.ofNat 8) = 2147483656 by decide] at h2
      refine zy_ci (n := 1) (c := 0) rfl ?_
      exact tr_eZ ⟨_, _, _, rfl⟩ (Or.inl rfl) (Or.inl ⟨rfl, e, fun _ => by omega, fun e3 => absurd (en2.symm.trans e3) (by decide), fun e3 => absurd (en2.symm.trans e3) (by decide), fun e3 => absurd (en2.symm.trans e3) (by decide)⟩)
    · refine zy_ci (n := 1) (c := 1) rfl ?_
      refine zy_goto rfl ?_
      exact tr_eZ ⟨_, _, _, rfl⟩ (Or.inr rfl) (Or.inr rfl)
  refine zy_la (k := 0) rfl rfl (Or.inl ⟨_, rfl⟩) ?_
  refine zy_cj (n := 3) (c := 1818848101) rfl ?_
  refine zy_callK (a := 0) (n := 2) (st := []) (zx_Cl_le (by decide) hu1818848101) rfl rfl (Nat.le_of_ble_eq_true rfl) (tm_lim hlw rfl) rfl (Nat.zero_le _) (Nat.zero_le _) ?_
  refine zy_j0 rfl (fun g1 => ?_) (fun h => ?_)
  rotate_left
  · refine zy_la (k := 0) rfl rfl (Or.inl ⟨_, rfl⟩) ?_
    refine zy_get rfl k0 k12 ?_
    refine zy_la (k := 0) rfl rfl (Or.inl ⟨_, rfl⟩) ?_
    refine zy_get rfl k0 k40 ?_
    refine zy_ld rfl ka12 (tr_in (by omega) (by omega)) ?_
    rw [en]
    refine zy_ci (n := 2) (c := 30) rfl ?_
    rcases eu1818848101 with ⟨e, -⟩ | ⟨-, e, en2⟩
    · subst e
      exact absurd tr_z0 h
    refine zy_jt rfl (fun h2 => ?_) (fun _ => ?_)
    · have h2 : zx_b (lk rb.toInt.toNat) ≠ zx_b (Int32.ofNat 30) := h2
      rw [show zx_b (Int32.ofNat 30) = 2147483678 by decide] at h2
      refine zy_ci (n := 1) (c := 0) rfl ?_
      exact tr_eZ ⟨_, _, _, rfl⟩ (Or.inl rfl) (Or.inl ⟨rfl, e, fun e3 => absurd (en2.symm.trans e3) (by decide), fun _ => by omega, fun e3 => absurd (en2.symm.trans e3) (by decide), fun e3 => absurd (en2.symm.trans e3) (by decide)⟩)
    · refine zy_ci (n := 1) (c := 1) rfl ?_
      refine zy_goto rfl ?_
      exact tr_eZ ⟨_, _, _, rfl⟩ (Or.inr rfl) (Or.inr rfl)
  refine zy_la (k := 0) rfl rfl (Or.inl ⟨_, rfl⟩) ?_
  refine zy_cj (n := 3) (c := 123581014175598) rfl ?_
  refine zy_callK (a := 0) (n := 2) (st := []) (zx_Cl_le (by decide) hu123581014175598) rfl rfl (Nat.le_of_ble_eq_true rfl) (tm_lim hlw rfl) rfl (Nat.zero_le _) (Nat.zero_le _) ?_
  refine zy_j0 rfl (fun g2 => ?_) (fun h => ?_)
  rotate_left
  · refine zy_la (k := 0) rfl rfl (Or.inl ⟨_, rfl⟩) ?_
    refine zy_get rfl k0 k13 ?_
    refine zy_la (k := 0) rfl rfl (Or.inl ⟨_, rfl⟩) ?_
    refine zy_get rfl k0 k40 ?_
    refine zy_ld rfl ka13 (tr_in (by omega) (by omega)) ?_
    rw [en]
    refine zy_ci (n := 1) (c := 4) rfl ?_
    rcases eu123581014175598 with ⟨e, -⟩ | ⟨-, e, en2⟩
    · subst e
      exact absurd tr_z0 h
    refine zy_jt rfl (fun h2 => ?_) (fun _ => ?_)
    · have h2 : zx_b (pv rb.toInt.toNat) ≠ zx_b (Int32.ofNat 4) := h2
      rw [show zx_b (Int32.ofNat 4) = 2147483652 by decide] at h2
      refine zy_ci (n := 1) (c := 0) rfl ?_
      exact tr_eZ ⟨_, _, _, rfl⟩ (Or.inl rfl) (Or.inl ⟨rfl, e, fun e3 => absurd (en2.symm.trans e3) (by decide), fun e3 => absurd (en2.symm.trans e3) (by decide), fun _ => by omega, fun e3 => absurd (en2.symm.trans e3) (by decide)⟩)
    · refine zy_ci (n := 1) (c := 1) rfl ?_
      refine zy_goto rfl ?_
      exact tr_eZ ⟨_, _, _, rfl⟩ (Or.inr rfl) (Or.inr rfl)
  refine zy_la (k := 0) rfl rfl (Or.inl ⟨_, rfl⟩) ?_
  refine zy_cj (n := 3) (c := 1684366692) rfl ?_
  refine zy_callK (a := 0) (n := 2) (st := []) (zx_Cl_le (by decide) hu1684366692) rfl rfl (Nat.le_of_ble_eq_true rfl) (tm_lim hlw rfl) rfl (Nat.zero_le _) (Nat.zero_le _) ?_
  refine zy_j0 rfl (fun g3 => ?_) (fun h => ?_)
  rotate_left
  · refine zy_la (k := 0) rfl rfl (Or.inl ⟨_, rfl⟩) ?_
    refine zy_get rfl k0 k14 ?_
    refine zy_la (k := 0) rfl rfl (Or.inl ⟨_, rfl⟩) ?_
    refine zy_get rfl k0 k40 ?_
    refine zy_ld rfl ka14 (tr_in (by omega) (by omega)) ?_
    rw [en]
    refine zy_ci (n := 2) (c := 6) rfl ?_
    rcases eu1684366692 with ⟨e, -⟩ | ⟨-, e, en2⟩
    · subst e
      exact absurd tr_z0 h
    refine zy_jt rfl (fun h2 => ?_) (fun _ => ?_)
    · have h2 : zx_b (dv rb.toInt.toNat) ≠ zx_b (Int32.ofNat 6) := h2
      rw [show zx_b (Int32.ofNat 6) = 2147483654 by decide] at h2
      refine zy_ci (n := 1) (c := 0) rfl ?_
      exact tr_eZ ⟨_, _, _, rfl⟩ (Or.inl rfl) (Or.inl ⟨rfl, e, fun e3 => absurd (en2.symm.trans e3) (by decide), fun e3 => absurd (en2.symm.trans e3) (by decide), fun e3 => absurd (en2.symm.trans e3) (by decide), fun _ => by omega⟩)
    · refine zy_ci (n := 1) (c := 1) rfl ?_
      refine zy_goto rfl ?_
      exact tr_eZ ⟨_, _, _, rfl⟩ (Or.inr rfl) (Or.inr rfl)
  refine zy_la (k := 0) rfl rfl (Or.inl ⟨_, rfl⟩) ?_
  refine zy_cj (n := 3) (c := 112568784876914) rfl ?_
  refine zy_callK (a := 0) (n := 2) (st := []) (zx_Cl_le (by decide) hu112568784876914) rfl rfl (Nat.le_of_ble_eq_true rfl) (tm_lim hlw rfl) rfl (Nat.zero_le _) (Nat.zero_le _) ?_
  refine zy_j0 rfl (fun _ => ?_) (fun h => ?_)
  rotate_left
  · refine zy_ci (n := 1) (c := 0) rfl ?_
    rcases eu112568784876914 with ⟨e, -⟩ | ⟨-, e, en2⟩
    · subst e
      exact absurd tr_z0 h
    exact tr_eZ ⟨_, _, _, rfl⟩ (Or.inl rfl) (Or.inl ⟨rfl, e, fun e3 => absurd (en2.symm.trans e3) (by decide), fun e3 => absurd (en2.symm.trans e3) (by decide), fun e3 => absurd (en2.symm.trans e3) (by decide), fun e3 => absurd (en2.symm.trans e3) (by decide)⟩)
  refine zy_la (k := 0) rfl rfl (Or.inl ⟨_, rfl⟩) ?_
  refine zy_cj (n := 3) (c := 1685217655) rfl ?_
  refine zy_callK (a := 0) (n := 2) (st := []) (zx_Cl_le (by decide) hu1685217655) rfl rfl (Nat.le_of_ble_eq_true rfl) (tm_lim hlw rfl) rfl (Nat.zero_le _) (Nat.zero_le _) ?_
  refine zy_j0 rfl (fun _ => ?_) (fun h => ?_)
  · refine zy_ci (n := 1) (c := 1) rfl ?_
    refine zy_goto rfl ?_
    exact tr_eZ ⟨_, _, _, rfl⟩ (Or.inr rfl) (Or.inr rfl)
  refine zy_la (k := 0) rfl rfl (Or.inl ⟨_, rfl⟩) ?_
  refine zy_get rfl k0 k28 ?_
  refine zy_la (k := 0) rfl rfl (Or.inl ⟨_, rfl⟩) ?_
  refine zy_get rfl k0 k40 ?_
  refine zy_ldz rfl ka28 (tr_in (by omega) (by omega)) ?_
  refine zy_j0 rfl (fun _ => ?_) (fun _ => ?_)
  · refine zy_ci (n := 1) (c := 0) rfl ?_
    rcases eu1685217655 with ⟨e, -⟩ | ⟨-, e, en2⟩
    · subst e
      exact absurd tr_z0 h
    exact tr_eZ ⟨_, _, _, rfl⟩ (Or.inl rfl) (Or.inl ⟨rfl, e, fun e3 => absurd (en2.symm.trans e3) (by decide), fun e3 => absurd (en2.symm.trans e3) (by decide), fun e3 => absurd (en2.symm.trans e3) (by decide), fun e3 => absurd (en2.symm.trans e3) (by decide)⟩)
  · refine zy_ci (n := 1) (c := 1) rfl ?_
    refine zy_goto rfl ?_
    exact tr_eZ ⟨_, _, _, rfl⟩ (Or.inr rfl) (Or.inr rfl)

end trLeaf
