/-! what a state of the executor says of the machine -/
noncomputable def sx_cv (ρ : Nat → Int32) (ad : Nat → Nat) (b : Nat) : sx_V → Value
  | (.inl n) => .int (Int32.ofNat n)
  | (.inr (.inl k)) => .int (ρ k)
  | (.inr (.inr (.inl k))) => .ref (ad k)
  | (.inr (.inr (.inr 0))) => .null
  | (.inr (.inr (.inr 1))) => .long 0
  | _ => .ref b
noncomputable def sx_xi (ρ : Nat → Int32) : sx_V → Int32
  | (.inl n) => Int32.ofNat n
  | (.inr (.inl k)) => ρ k
  | _ => 0
noncomputable def sx_xr (ad : Nat → Nat) : sx_V → Option Nat
  | (.inr (.inr (.inl k))) => some (ad k)
  | _ => none
noncomputable def sx_cE (ρ : Nat → Int32) (ad : Nat → Nat) (b : Nat) (cA : Nat → ClassId) : sx_E → va_E
  | .inl (ci, fs) => .inr (ci, fs.map (sx_cv ρ ad b))
  | .inr (kd, n, up) => .inl (cA kd, n, match kd with
    | 1 => .inr (.inl (fun _ => 0))
    | 4 => .inr (.inr (.inr (.inr (fun j => sx_xr ad (sx_ald 4 up j)))))
    | _ => .inl (fun j => sx_xi ρ (sx_ald 0 up j)))
noncomputable def sx_cW (ρ : Nat → Int32) (ad : Nat → Nat) (b : Nat) (cA : Nat → ClassId) (w : List sx_E) : va_W := w.mapIdx (fun k e => (ad k, sx_cE ρ ad b cA e))
noncomputable def sx_cL (ρ : Nat → Int32) (ad : Nat → Nat) (b : Nat) (l : List (Nat × sx_V)) : List (Nat × Value) := l.map (fun q => (q.1, sx_cv ρ ad b q.2))
def sx_ivOk (ρ : Nat → Int32) (iv : sx_Iv) : Prop := ∀ (k lo hi : Nat), iv[k]? = some (lo, hi) → lo ≤ sx_b (ρ k) ∧ sx_b (ρ k) ≤ hi
def sx_tys (cA : Nat → ClassId) : List (ClassId × FieldType) := [(cA 0, .int), (cA 1, .long), (cA 2, .boolean), (cA 3, .byte), (cA 4, .object "TwoInOne$State")]
/-- the machine goes on from there, whatever the variables and the addresses are -/
def sx_Ok (p : Program) (l : Launch) (e : Env) (R : Room) (s : State) (m : MethodId) (args : Array Value) (below : List Frame) (meth : Method) (c : Code) (Q : State → Prop) (D : va_G) (cA : Nat → ClassId) (A : Nat → Prop) (b nL : Nat) (ρ0 : Nat → Int32) (ad0 : Nat → Nat) (n0 m0 : Nat) (σ : sx_S) : Prop :=
  ∀ (ρ : Nat → Int32) (ad : Nat → Nat) (H : Heap) (locs : List Loc) (ls : Array Slot), sx_ivOk ρ σ.2.2.2.2.1 → (∀ k, k < n0 → ρ k = ρ0 k) → (∀ k, k < m0 → ad k = ad0 k) → n0 ≤ σ.2.2.2.2.1.length → m0 ≤ σ.2.2.2.1.length →
    va_P D sx_clL (sx_cW ρ ad b cA σ.2.2.2.1) H → va_D A (sx_cW ρ ad b cA σ.2.2.2.1) → va_S A s.heap H locs → lv_has ls nL (sx_cL ρ ad b σ.2.1) →
    W p l e R s m args below meth c H locs σ.2.2.2.2.2.1 σ.2.2.2.2.2.2 Q (F0 m σ.1 ls (σ.2.2.1.map (sx_cv ρ ad b)))
theorem sx_cv_int {ρ : Nat → Int32} {ad : Nat → Nat} {b : Nat} : ∀ {v : sx_V}, sx_isInt v = true → sx_cv ρ ad b v = .int (sx_xi ρ v)
  | (.inl _), _ => rfl
  | (.inr (.inl _)), _ => rfl
  | .inr (.inr (.inl _)), h => by simp [sx_isInt] at h
  | .inr (.inr (.inr _)), h => by simp [sx_isInt] at h
theorem sx_cv_ref {ρ : Nat → Int32} {ad : Nat → Nat} {b : Nat} : ∀ {v : sx_V}, sx_isRef v = true → ∃ k, v = (.inr (.inr (.inl k))) ∧ sx_cv ρ ad b v = .ref (ad k)
  | .inr (.inr (.inl k)), _ => ⟨k, rfl, rfl⟩
  | .inl _, h => by simp [sx_isRef] at h
  | .inr (.inl _), h => by simp [sx_isRef] at h
  | .inr (.inr (.inr _)), h => by simp [sx_isRef] at h
theorem sx_cv_adr {ρ : Nat → Int32} {ad : Nat → Nat} {b : Nat} : ∀ {v : sx_V}, sx_isAdr v = true → ∃ a, sx_cv ρ ad b v = .ref a
  | .inr (.inr (.inl k)), _ => ⟨ad k, rfl⟩
  | .inr (.inr (.inr 2)), _ => ⟨b, rfl⟩
  | .inl _, h => by simp [sx_isAdr] at h
  | .inr (.inl _), h => by simp [sx_isAdr] at h
  | .inr (.inr (.inr 0)), h => by simp [sx_isAdr] at h
  | .inr (.inr (.inr 1)), h => by simp [sx_isAdr] at h
  | .inr (.inr (.inr (k + 3))), h => by simp [sx_isAdr] at h
theorem sx_cat_eq {ρ : Nat → Int32} {ad : Nat → Nat} {b : Nat} : ∀ (v : sx_V), ((sx_cv ρ ad b v).category == 2) = sx_cat v
  | .inl _ => rfl
  | .inr (.inl _) => rfl
  | .inr (.inr (.inl _)) => rfl
  | .inr (.inr (.inr 0)) => rfl
  | .inr (.inr (.inr 1)) => rfl
  | .inr (.inr (.inr (_ + 2))) => rfl
theorem sx_cat1 {ρ : Nat → Int32} {ad : Nat → Nat} {b : Nat} {v : sx_V} (h : sx_cat v = false) : (sx_cv ρ ad b v).category = 1 := by
  have h1 := sx_cat_eq (ρ := ρ) (ad := ad) (b := b) v
  rw [h] at h1
  rcases lv_cat (sx_cv ρ ad b v) with h2 | h2
  · exact h2
  · rw [h2] at h1; cases h1
theorem sx_look_mem {k : Nat} {v : sx_V} : ∀ {l : List (Nat × sx_V)}, sx_look k l = some v → (k, v) ∈ l
  | [], h => by simp [sx_look] at h
  | (j, u) :: l, h => by
    unfold sx_look at h
    split at h
    next hj =>
      cases h
      rw [Nat.eq_of_beq_eq_true hj]
      exact List.mem_cons_self
    next => exact List.mem_cons_of_mem _ (sx_look_mem h)
theorem sx_cL_at {ρ : Nat → Int32} {ad : Nat → Nat} {b nL k : Nat} {v : sx_V} {L : List (Nat × sx_V)} {ls : Array Slot} (hl : lv_has ls nL (sx_cL ρ ad b L)) (h : sx_look k L = some v) : ls[k]? = some (.val (sx_cv ρ ad b v)) :=
  hl.2.2 (k, sx_cv ρ ad b v) (List.mem_map.mpr ⟨(k, v), sx_look_mem h, rfl⟩)
theorem sx_beq (a b : Nat) : (a == b) = Nat.beq a b := by
  rw [Bool.eq_iff_iff, beq_iff_eq]
  exact ⟨fun h => by rw [h]; exact Nat.beq_refl b, Nat.eq_of_beq_eq_true⟩
theorem sx_cL_put {ρ : Nat → Int32} {ad : Nat → Nat} {b k : Nat} {v : sx_V} {L : List (Nat × sx_V)} : (k, sx_cv ρ ad b v) :: (sx_cL ρ ad b L).filter (fun q => !(q.1 == k) && !(q.1 + 1 == k && q.2.category == 2)) = sx_cL ρ ad b (sx_put k v L) := by
  have e : (fun q : Nat × sx_V => !(Nat.beq q.1 k) && !(Nat.beq (q.1 + 1) k && sx_cat q.2)) = (fun q : Nat × sx_V => !(q.1 == k) && !(q.1 + 1 == k && (sx_cv ρ ad b q.2).category == 2)) := by
    funext q
    rw [sx_cat_eq, sx_beq, sx_beq]
  unfold sx_put sx_cL
  rw [e, List.map_cons, List.filter_map]
  rfl
theorem sx_nm_eq {ρ : Nat → Int32} {ad : Nat → Nat} {b : Nat} {iv : sx_Iv} (h : sx_ivOk ρ iv) : ∀ (v : sx_V), sx_cv ρ ad b (sx_nm iv v) = sx_cv ρ ad b v
  | .inl _ => rfl
  | .inr (.inr (.inl _)) => rfl
  | .inr (.inr (.inr _)) => rfl
  | .inr (.inl k) => by
    simp only [sx_nm, sx_nth_eq]
    cases hk : iv[k]? with
    | none => rfl
    | some q =>
      obtain ⟨lo, hi⟩ := q
      dsimp only
      cases hb : Nat.beq lo hi with
      | false => rfl
      | true =>
        have h1 := h k lo hi hk
        have h2 := Nat.eq_of_beq_eq_true hb
        have h3 : sx_b (ρ k) = lo := by omega
        show Value.int (Int32.ofNat (sx_bias lo)) = Value.int (ρ k)
        rw [← h3, sx_of_b]
