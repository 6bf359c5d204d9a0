/-! equality of states, by a program -/
noncomputable def sx_eqV : sx_V → sx_V → Bool
  | .inl a, .inl b => Nat.beq a b
  | .inr (.inl a), .inr (.inl b) => Nat.beq a b
  | .inr (.inr (.inl a)), .inr (.inr (.inl b)) => Nat.beq a b
  | .inr (.inr (.inr a)), .inr (.inr (.inr b)) => Nat.beq a b
  | _, _ => false
theorem sx_eqV_ok : ∀ a b : sx_V, sx_eqV a b = true → a = b
  | .inl a, .inl b, h => by rw [Nat.eq_of_beq_eq_true h]
  | .inr (.inl a), .inr (.inl b), h => by rw [Nat.eq_of_beq_eq_true h]
  | .inr (.inr (.inl a)), .inr (.inr (.inl b)), h => by rw [Nat.eq_of_beq_eq_true h]
  | .inr (.inr (.inr a)), .inr (.inr (.inr b)), h => by rw [Nat.eq_of_beq_eq_true h]
  | .inl _, .inr _, h => by simp [sx_eqV] at h
  | .inr (.inl _), .inl _, h => by simp [sx_eqV] at h
  | .inr (.inl _), .inr (.inr _), h => by simp [sx_eqV] at h
  | .inr (.inr (.inl _)), .inl _, h => by simp [sx_eqV] at h
  | .inr (.inr (.inl _)), .inr (.inl _), h => by simp [sx_eqV] at h
  | .inr (.inr (.inl _)), .inr (.inr (.inr _)), h => by simp [sx_eqV] at h
  | .inr (.inr (.inr _)), .inl _, h => by simp [sx_eqV] at h
  | .inr (.inr (.inr _)), .inr (.inl _), h => by simp [sx_eqV] at h
  | .inr (.inr (.inr _)), .inr (.inr (.inl _)), h => by simp [sx_eqV] at h
noncomputable def sx_eqL {α : Type} (f : α → α → Bool) : List α → List α → Bool
  | [], [] => true
  | a :: l, b :: m => f a b && sx_eqL f l m
  | _, _ => false
theorem sx_eqL_ok {α : Type} {f : α → α → Bool} (hf : ∀ a b, f a b = true → a = b) : ∀ l m : List α, sx_eqL f l m = true → l = m
  | [], [], _ => rfl
  | a :: l, b :: m, h => by
    simp only [sx_eqL, Bool.and_eq_true] at h
    rw [hf a b h.1, sx_eqL_ok hf l m h.2]
  | [], _ :: _, h => by simp [sx_eqL] at h
  | _ :: _, [], h => by simp [sx_eqL] at h
noncomputable def sx_eqP (a b : Nat × sx_V) : Bool := Nat.beq a.1 b.1 && sx_eqV a.2 b.2
theorem sx_eqP_ok (a b : Nat × sx_V) (h : sx_eqP a b = true) : a = b := by
  simp only [sx_eqP, Bool.and_eq_true] at h
  exact Prod.ext (Nat.eq_of_beq_eq_true h.1) (sx_eqV_ok _ _ h.2)
noncomputable def sx_eqN (a b : Nat × Nat) : Bool := Nat.beq a.1 b.1 && Nat.beq a.2 b.2
theorem sx_eqN_ok (a b : Nat × Nat) (h : sx_eqN a b = true) : a = b := by
  simp only [sx_eqN, Bool.and_eq_true] at h
  exact Prod.ext (Nat.eq_of_beq_eq_true h.1) (Nat.eq_of_beq_eq_true h.2)
noncomputable def sx_eqE : sx_E → sx_E → Bool
  | .inl (a, l), .inl (b, m) => Nat.beq a b && sx_eqL sx_eqV l m
  | .inr (a, n, l), .inr (b, k, m) => Nat.beq a b && (Nat.beq n k && sx_eqL sx_eqP l m)
  | _, _ => false
theorem sx_eqE_ok : ∀ a b : sx_E, sx_eqE a b = true → a = b
  | .inl (a, l), .inl (b, m), h => by
    simp only [sx_eqE, Bool.and_eq_true] at h
    rw [Nat.eq_of_beq_eq_true h.1, sx_eqL_ok sx_eqV_ok l m h.2]
  | .inr (a, n, l), .inr (b, k, m), h => by
    simp only [sx_eqE, Bool.and_eq_true] at h
    rw [Nat.eq_of_beq_eq_true h.1, Nat.eq_of_beq_eq_true h.2.1, sx_eqL_ok sx_eqP_ok l m h.2.2]
  | .inl _, .inr _, h => by simp [sx_eqE] at h
  | .inr _, .inl _, h => by simp [sx_eqE] at h
noncomputable def sx_eqS (a b : sx_S) : Bool := Nat.beq a.1 b.1 && (sx_eqL sx_eqP a.2.1 b.2.1 && (sx_eqL sx_eqV a.2.2.1 b.2.2.1 && (sx_eqL sx_eqE a.2.2.2.1 b.2.2.2.1 && (sx_eqL sx_eqN a.2.2.2.2.1 b.2.2.2.2.1 && sx_eqN a.2.2.2.2.2 b.2.2.2.2.2))))
theorem sx_eqS_ok (a b : sx_S) (h : sx_eqS a b = true) : a = b := by
  simp only [sx_eqS, Bool.and_eq_true] at h
  exact Prod.ext (Nat.eq_of_beq_eq_true h.1) (Prod.ext (sx_eqL_ok sx_eqP_ok _ _ h.2.1) (Prod.ext (sx_eqL_ok sx_eqV_ok _ _ h.2.2.1) (Prod.ext (sx_eqL_ok sx_eqE_ok _ _ h.2.2.2.1) (Prod.ext (sx_eqL_ok sx_eqN_ok _ _ h.2.2.2.2.1) (sx_eqN_ok _ _ h.2.2.2.2.2)))))
noncomputable def sx_eqO : sx_N → List sx_S → Bool
  | some l, m => sx_eqL sx_eqS l m
  | none, _ => false
theorem sx_eqO_ok : ∀ (r : sx_N) (m : List sx_S), sx_eqO r m = true → r = some m
  | some l, m, h => by rw [sx_eqL_ok sx_eqS_ok l m h]
  | none, _, h => by simp [sx_eqO] at h
