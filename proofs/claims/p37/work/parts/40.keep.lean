/-! by hand: a world with a new State in it -/
theorem tj_at_le {Ψ Ψ' : List Nat} (h : tj_le Ψ Ψ') {kd n : Nat} {s : List tj_y} : ∀ {f : zx_A}, tj_at Ψ kd n s f → tj_at Ψ' kd n s f
  | .inl _, hf => hf
  | .inr (.inl _), hf => hf
  | .inr (.inr _), ⟨h1, h2, h3⟩ => ⟨h1, h2, fun o ho => tj_vt_le h (h3 o ho)⟩
theorem tj_ct_le {Ψ Ψ' : List Nat} (h : tj_le Ψ Ψ') : ∀ {d : tj_D} {e : zx_E}, tj_ct Ψ d e → tj_ct Ψ' d e
  | .inl _, .inl _, ⟨h1, h2, h3, h4⟩ => ⟨h1, h2, fun k t v hk hv => tj_vt_le h (h3 k t v hk hv), h4⟩
  | .inr _, .inr _, ⟨h1, h2, h3⟩ => ⟨h1, h2, tj_at_le h h3⟩
  | .inl _, .inr _, hf => hf.elim
  | .inr _, .inl _, hf => hf.elim
theorem tj_le_app {Ψ Δ : List Nat} : tj_le Ψ (Ψ ++ Δ) := fun q l h => by
  rw [List.getElem?_append_left (List.getElem?_eq_some_iff.mp h).1]
  exact h
theorem tj_wt_app {Λ : List tj_D} {Ψ Δ : List Nat} {w e : List zx_E} (hw : tj_wt Λ Ψ w) (hl : Δ.length = e.length) (he : ∀ (j : Nat) (x : zx_E), e[j]? = some x → ∃ l d, Δ[j]? = some l ∧ Λ[l]? = some d ∧ tj_ct (Ψ ++ Δ) d x) : tj_wt Λ (Ψ ++ Δ) (w ++ e) := by
  refine ⟨by rw [List.length_append, List.length_append, hw.1, hl], fun q x hx => ?_⟩
  by_cases hq : q < w.length
  · rw [List.getElem?_append_left hq] at hx
    obtain ⟨l, d, h1, h2, h3⟩ := hw.2 q x hx
    exact ⟨l, d, tj_le_app q l h1, h2, tj_ct_le tj_le_app h3⟩
  · rw [List.getElem?_append_right (by omega)] at hx
    obtain ⟨l, d, h1, h2, h3⟩ := he _ x hx
    refine ⟨l, d, ?_, h2, h3⟩
    rw [List.getElem?_append_right (by rw [hw.1]; omega), hw.1]
    exact h1
theorem tj_P_app {c : Nat × Nat × Nat} : ∀ {w e : List zx_E}, tj_P c (w ++ e) = tj_P c w + tj_P c e
  | [], e => (Nat.zero_add _).symm
  | x :: w, e => by
    show tj_p c x + tj_P c (w ++ e) = tj_p c x + tj_P c w + tj_P c e
    rw [tj_P_app, Nat.add_assoc]
theorem tj_P_set2 {c : Nat × Nat × Nat} {e e' : zx_E} {m : Nat} (he : tj_p c e' + m = tj_p c e) : ∀ {w : List zx_E} {q : Nat}, w[q]? = some e → tj_P c (w.set q e') + m = tj_P c w
  | [], _, h => by cases h
  | x :: w, 0, h => by
    cases h
    show tj_p c e' + tj_P c w + m = tj_p c e + tj_P c w
    omega
  | x :: w, q + 1, h => by
    have ih := tj_P_set2 he (w := w) (q := q) h
    show tj_p c x + tj_P c (w.set q e') + m = tj_p c x + tj_P c w
    omega
theorem tj_nn_set : ∀ {l : List (Option Nat)} {i v : Nat}, l[i]? = some none → tj_nn (l.set i (some v)) + 1 = tj_nn l
  | [], _, _, h => by cases h
  | x :: l, 0, v, h => by
    cases h
    show tj_nn l + 1 = 1 + tj_nn l
    omega
  | none :: l, i + 1, v, h => by
    have ih := tj_nn_set (l := l) (i := i) (v := v) h
    show 1 + tj_nn (l.set i (some v)) + 1 = 1 + tj_nn l
    omega
  | some _ :: l, i + 1, v, h => by
    have ih := tj_nn_set (l := l) (i := i) (v := v) h
    show tj_nn (l.set i (some v)) + 1 = tj_nn l
    exact ih
def te_d8 : List Nat := [39, 34, 35, 36, 37, 38]
/-- typed with the new State -/
theorem te_wt8 {Ψ : List Nat} {w : List zx_E} (hw : tj_wt tj_Lam Ψ w) : tj_wt tj_Lam (Ψ ++ te_d8) (w ++ te_w8 w.length) := by
  have hz : zx_b 0 = 2147483648 := by decide
  have hin : ∀ j l, te_d8[j]? = some l → (Ψ ++ te_d8)[w.length + j]? = some l := fun j l h => by
    rw [List.getElem?_append_right (by rw [hw.1]; omega), hw.1, Nat.add_sub_cancel_left]
    exact h
  have harr : ∀ (n lo hi : Nat), lo ≤ 2147483648 → 2147483648 ≤ hi → tj_ct (Ψ ++ te_d8) (.inr (0, n, [(n, lo, hi)])) (.inr (0, n, .inl (fun _ => 0))) := by
    intro n lo hi h1 h2
    refine ⟨rfl, rfl, Or.inl rfl, fun j hj a b hs => ?_⟩
    unfold tj_sel at hs
    rw [show Nat.blt j n = true from Nat.ble_eq_true_of_le hj] at hs
    cases hs
    rw [hz]
    exact ⟨h1, h2⟩
  refine tj_wt_app hw rfl (fun j x hx => ?_)
  match j, hx with
  | 0, hx =>
    cases hx
    refine ⟨39, .inl (8, 0, [(0, 0, 4294967295), (0, 2147483648, 2147484647), (1, 34, 0), (1, 35, 0), (1, 36, 0), (1, 37, 0), (1, 38, 0)]), rfl, rfl, rfl, rfl, fun k t v hk hv => ?_, trivial⟩
    match k, hk, hv with
    | 0, hk, hv => cases hk; cases hv; exact ⟨0, rfl, by omega, by omega⟩
    | 1, hk, hv => cases hk; cases hv; exact ⟨0, rfl, by omega, by omega⟩
    | 2, hk, hv => cases hk; cases hv; exact ⟨_, rfl, hin 1 34 rfl⟩
    | 3, hk, hv => cases hk; cases hv; exact ⟨_, rfl, hin 2 35 rfl⟩
    | 4, hk, hv => cases hk; cases hv; exact ⟨_, rfl, hin 3 36 rfl⟩
    | 5, hk, hv => cases hk; cases hv; exact ⟨_, rfl, hin 4 37 rfl⟩
    | 6, hk, hv => cases hk; cases hv; exact ⟨_, rfl, hin 5 38 rfl⟩
    | k + 7, hk, hv => cases hk
  | 1, hx => cases hx; exact ⟨34, _, rfl, rfl, harr 4 _ _ (by decide) (by decide)⟩
  | 2, hx => cases hx; exact ⟨35, _, rfl, rfl, harr 56 _ _ (by decide) (by decide)⟩
  | 3, hx => cases hx; exact ⟨36, _, rfl, rfl, harr 8 _ _ (by decide) (by decide)⟩
  | 4, hx => cases hx; exact ⟨37, _, rfl, rfl, harr 48 _ _ (by decide) (by decide)⟩
  | 5, hx => cases hx; exact ⟨38, _, rfl, rfl, harr 8 _ _ (by decide) (by decide)⟩
  | j + 6, hx => cases hx
/-- every typed cell speaks of cells that are there -/
theorem tj_wt_lim {Λ : List tj_D} {Ψ : List Nat} {w : List zx_E} (hw : tj_wt Λ Ψ w) : w.all (zx_limE w.length) = true := by
  refine List.all_eq_true.mpr (fun x hx => ?_)
  obtain ⟨q, hq, e⟩ := List.getElem_of_mem hx
  obtain ⟨l, d, h1, h2, h3⟩ := hw.2 q x (by rw [List.getElem?_eq_getElem hq, e])
  match d, x, h3 with
  | .inl (ci, r, fts), .inl (c, fs), ⟨_, hl, ht, _⟩ =>
    refine List.all_eq_true.mpr (fun v hv => ?_)
    obtain ⟨k, hk, ek⟩ := List.getElem_of_mem hv
    have hkf : k < fts.length := by rw [← hl]; exact hk
    exact tj_vlim hw (ht k _ v (List.getElem?_eq_getElem hkf) (by rw [List.getElem?_eq_getElem hk, ek]))
  | .inr (kd, n, s), .inr (kd', n', .inl g), _ => rfl
  | .inr (kd, n, s), .inr (kd', n', .inr (.inl g)), _ => rfl
  | .inr (kd, n, s), .inr (kd', n', .inr (.inr lr)), ⟨_, _, _, _, ht⟩ =>
    refine List.all_eq_true.mpr (fun o ho => ?_)
    have := tj_vlim hw (ht o ho)
    match o, this with
    | none, _ => rfl
    | some p, hp => exact hp
