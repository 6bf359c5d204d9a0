/-! by hand: the law: its calls one by one -/
abbrev tz_K : zx_K := zx_Cl zx_mt zx_rc zx_mx' 420
abbrev tz_cap : Nat × Nat := (600000, 7302250)
def tz_room (w : List zx_E) (mc ms : Nat) : Prop := mc + tj_P tj_c1 w ≤ tz_cap.1 ∧ ms + tj_P tj_c2 w ≤ tz_cap.2
/-- the locals within a turn: the script, both objects, the place; a whole row lies there -/
def tz_Lo (L m : Nat) (x : Int32) (ls : List (Nat × zx_V)) : Prop := zx_look 0 ls = some (.inr (.inr (.inr 2))) ∧ zx_look 1 ls = some (.inr (.inr (.inl 0))) ∧ zx_look 2 ls = some (.inr (.inr (.inl m))) ∧ zx_look 3 ls = some (.inl x) ∧ 0 ≤ x.toInt ∧ x.toInt + 6 ≤ L ∧ L ≤ 3072
theorem tz_fi (Ψ : List Nat) (a : Int32) : tj_vt Ψ (0, 0, 4294967295) (.inl a) := ⟨a, rfl, Nat.zero_le _, Nat.le_of_lt_succ (tj_b_lt a)⟩
theorem tz_fr (m : Nat) (l : Nat) (Ψ : List Nat) (h : Ψ[m]? = some l) : tj_vt Ψ (1, l, 0) (.inr (.inr (.inl m))) := ⟨m, rfl, h⟩
section tzLaw
variable {L : Nat} {xs : Nat → Int32} {Q : zx_S → Prop} {pc mc ms m : Nat} {x : Int32} {ls : List (Nat × zx_V)} {st : List zx_V} {w : List zx_E} {tab : Nat → Option zx_Q}
/-- an int of the script -/
theorem tz_arg {k : Nat} (r0 : tab pc = some (zx_la 1 0)) (r1 : tab (pc + 1) = some (zx_li 1 3)) (r2 : tab (pc + 2) = some (zx_ci 1 k)) (r3 : tab (pc + 3) = some zx_o_iadd) (r4 : tab (pc + 4) = some (zx_ld 0)) (hk : Nat.ble k 5 = true) (hl : tz_Lo L m x ls) (kk : zx_wp tz_K (some (L, xs)) tz_cap tab Q (pc + 5, ls, (.inl (xs (x + Int32.ofNat k).toNatClampNeg)) :: st, w, mc, ms)) : zx_wp tz_K (some (L, xs)) tz_cap tab Q (pc, ls, st, w, mc, ms) := by
  obtain ⟨l0, l1, l2, l3, x0, x6, hL⟩ := hl
  have hk := Nat.le_of_ble_eq_true hk
  have ek : (Int32.ofNat k).toInt = k := tr_c (by omega)
  have es : (x + Int32.ofNat k).toInt = x.toInt + k := by
    rw [← ek]
    exact tr_add (by omega) (by omega)
  have hin : zx_in (x + Int32.ofNat k) L = true := tr_in (by omega) (by omega)
  refine zx_wp_pure (μ := (pc + 1, ls, (.inr (.inr (.inr 2))) :: st, w, mc, ms)) r0 ?_ ?_
  · show zx_ldA 1 0 _ = _
    simp only [zx_ldA, l0, zx_push]
  refine zy_li r1 l3 ?_
  refine zy_ci r2 ?_
  refine zy_add r3 ?_
  refine zx_wp_pure (μ := (pc + 5, ls, (.inl (xs (x + Int32.ofNat k).toNatClampNeg)) :: st, w, mc, ms)) r4 ?_ kk
  show zx_ald 0 _ _ = _
  simp only [zx_ald, zx_beqT (rfl : (0 : Nat) = 0), hin, Bool.and_self]
/-- a call -/
theorem tz_call {y n : Nat} {g : zx_F} {P : Int32 → List Nat → List zx_E → Prop} {av st0 : List zx_V} (hD : tz_Do y av w P) (ht : tab pc = some (3, y, n, g)) (htk : zx_take n [] st0 = some (av, st)) (h8 : zx_words st ≤ 8) (hls : zx_limP w.length ls = true) (hst : zx_limL w.length st = true) (hr : tz_room w mc ms) (kk : ∀ (v : Int32) (Ψ' : List Nat) (w' : List zx_E) (mc' ms' : Nat), P v Ψ' w' → tz_room w' mc' ms' → zx_limP w'.length ls = true → zx_wp tz_K (some (L, xs)) tz_cap tab Q (pc + 3, ls, (.inl v) :: st, w', mc', ms')) : zx_wp tz_K (some (L, xs)) tz_cap tab Q (pc, ls, st0, w, mc, ms) := by
  obtain ⟨r, cy, v, Ψ', hK, hroom, e, hlen, hP⟩ := hD
  obtain ⟨q1, q2⟩ := hr
  refine zx_wp_call (a := 0) (g := g) (y := y) (n := n) (cy := cy) (r := r) ht htk h8 hls hst (by omega) (by omega) hK ?_
  rw [e]
  exact kk v Ψ' r.2 _ _ hP ⟨by omega, by omega⟩ (tj_limP_le hlen hls)
end tzLaw
abbrev tz_tab : Nat → Option zx_Q := zx_find zx_t_L_law
/-- a turn of the law from pc on comes to 1418 -/
def tz_Bd (pc : Nat) : Prop := ∀ (L : Nat) (xs : Nat → Int32) (Q : zx_S → Prop) (m : Nat) (x : Int32) (Ψ : List Nat) (ls : List (Nat × zx_V)) (w : List zx_E) (mc ms : Nat), tz_Lo L m x ls → tz_In m Ψ w → tz_room w mc ms → zx_limP w.length ls = true → (∀ (Ψ' : List Nat) (w' : List zx_E) (mc' ms' : Nat), tz_In m Ψ' w' → tz_room w' mc' ms' → zx_limP w'.length ls = true → zx_wp tz_K (some (L, xs)) tz_cap tz_tab Q (1418, ls, [], w', mc', ms')) → zx_wp tz_K (some (L, xs)) tz_cap tz_tab Q (pc, ls, [], w, mc, ms)
