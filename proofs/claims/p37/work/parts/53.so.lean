/-! by hand: what is known of all stretches of sums, where one is laid down anew -/
theorem tg_so1 {s c : Nat → Int32} {room : Int} {i : Nat} {u n : Int32} (h : ∀ j : Nat, j < 2100 → (s j).toInt + (c j).toInt ≤ room) (hu : u.toInt + n.toInt ≤ room) : ∀ j : Nat, j < 2100 → (upd s i u j).toInt + (upd c i n j).toInt ≤ room := by
  intro j hj
  by_cases e : j = i
  · subst e
    rw [tg_upd_eq, tg_upd_eq]
    exact hu
  · rw [tg_upd_ne e, tg_upd_ne e]
    exact h j hj
theorem tg_so2 {s c : Nat → Int32} {L : Int} {i : Nat} {u n : Int32} (h : ∀ j : Nat, j < 2100 → (j : Int) < 100 * (L + 1) → 0 ≤ (c j).toInt → 1 ≤ (s j).toInt + (c j).toInt) (hu : 1 ≤ u.toInt + n.toInt) : ∀ j : Nat, j < 2100 → (j : Int) < 100 * (L + 1) → 0 ≤ (upd c i n j).toInt → 1 ≤ (upd s i u j).toInt + (upd c i n j).toInt := by
  intro j hj hl
  by_cases e : j = i
  · subst e
    rw [tg_upd_eq, tg_upd_eq]
    exact fun _ => hu
  · rw [tg_upd_ne e, tg_upd_ne e]
    exact h j hj hl
/-- the stretches behind the last day stay known -/
theorem tg_so3 {c : Nat → Int32} {L : Int} {i : Nat} {n : Int32} (h : ∀ l : Nat, l < 100 → 0 ≤ (c (100 * L.toNat + l)).toInt) (hi : i < 100 * L.toNat) : ∀ l : Nat, l < 100 → 0 ≤ (upd c i n (100 * L.toNat + l)).toInt := by
  intro l hl
  rw [tg_upd_ne (by omega)]
  exact h l hl
