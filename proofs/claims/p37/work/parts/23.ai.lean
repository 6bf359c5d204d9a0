/-! THE ABSTRACT EXECUTOR over typed worlds: values are inl n (the int n), inr k (the name k); a state: pc, locals, stack, types of names, facts. Facts: (0, r, inl k, v): field k of the object r is v; (n + 1, a, b, c): c is the operation n of a and b -/
abbrev ti_a : Type := Nat ⊕ Nat
abbrev ti_f : Type := Nat × ti_a × ti_a × ti_a
abbrev ti_S : Type := Nat × List (Nat × ti_a) × List ti_a × List ti_y × List ti_f
def ti_v (ρ : Nat → zx_V) : ti_a → zx_V
  | .inl n => (.inl (Int32.ofNat n))
  | .inr k => ρ k
def ti_op : Nat → Int32 → Int32 → Int32
  | 0 => fun x y => x + y
  | 1 => fun x y => x - y
  | 2 => fun x y => x * y
  | 3 => fun x y => x &&& y
  | 4 => fun x y => x - x / y * y
  | 5 => fun x y => x / y
  | _ => fun x _ => x
def ti_fd (ρ : Nat → zx_V) (w : List zx_E) : ti_f → Prop
  | (0, r, .inl k, v) => ∃ q ci fs, ti_v ρ r = (.inr (.inr (.inl q))) ∧ w[q]? = some (.inl (ci, fs)) ∧ fs[k]? = some (ti_v ρ v)
  | (0, _, .inr _, _) => True
  | (n + 1, a, b, c) => ∃ x y, ti_v ρ a = (.inl x) ∧ ti_v ρ b = (.inl y) ∧ ti_v ρ c = (.inl (ti_op n x y))
/-- the states that an abstract one speaks of -/
def ti_G (Λ : List ti_D) (Ψ : List Nat) (mc ms : Nat) (A : ti_S) (ρ : Nat → zx_V) (σ : zx_S) : Prop := ∃ w, σ = (A.1, A.2.1.map (fun q => (q.1, ti_v ρ q.2)), A.2.2.1.map (ti_v ρ), w, mc, ms) ∧ ti_wt Λ Ψ w ∧ (∀ k t, A.2.2.2.1[k]? = some t → ti_vt Ψ t (ρ k)) ∧ ∀ f ∈ A.2.2.2.2, ti_fd ρ w f
/-- names are there -/
def ti_lim (n : Nat) : ti_a → Bool
  | .inl _ => true
  | .inr k => Nat.blt k n
def ti_limS (n : Nat) (L : List (Nat × ti_a)) (st : List ti_a) (F : List ti_f) : Bool := L.all (fun q => ti_lim n q.2) && (st.all (ti_lim n) && F.all (fun f => ti_lim n f.2.1 && (ti_lim n f.2.2.1 && ti_lim n f.2.2.2)))
theorem ti_lim_v {ρ ρ' : Nat → zx_V} {n : Nat} (h : ∀ k, k < n → ρ' k = ρ k) : ∀ {a : ti_a}, ti_lim n a = true → ti_v ρ' a = ti_v ρ a
  | .inl _, _ => rfl
  | .inr k, ha => h k (Nat.le_of_ble_eq_true ha)
theorem ti_lim_f {ρ ρ' : Nat → zx_V} {n : Nat} {w : List zx_E} (h : ∀ k, k < n → ρ' k = ρ k) : ∀ {f : ti_f}, (ti_lim n f.2.1 && (ti_lim n f.2.2.1 && ti_lim n f.2.2.2)) = true → ti_fd ρ w f → ti_fd ρ' w f
  | (0, r, .inl k, v), hl, hf => by
    simp only [Bool.and_eq_true] at hl
    obtain ⟨q, ci, fs, h1, h2, h3⟩ := hf
    exact ⟨q, ci, fs, by rw [ti_lim_v h hl.1]; exact h1, h2, by rw [ti_lim_v h hl.2.2]; exact h3⟩
  | (0, _, .inr _, _), _, _ => trivial
  | (n + 1, a, b, c), hl, hf => by
    simp only [Bool.and_eq_true] at hl
    obtain ⟨x, y, h1, h2, h3⟩ := hf
    exact ⟨x, y, by rw [ti_lim_v h hl.1]; exact h1, by rw [ti_lim_v h hl.2.1]; exact h2, by rw [ti_lim_v h hl.2.2]; exact h3⟩
/-- what a step of the exact machine from such a state comes to -/
def ti_sim (S : zx_S → Option zx_S) (Λ : List ti_D) (Ψ : List Nat) (mc ms : Nat) (A : ti_S) (As : List ti_S) : Prop := ∀ ρ σ, ti_G Λ Ψ mc ms A ρ σ → ∃ μ ρ' A', S σ = some μ ∧ A' ∈ As ∧ ti_G Λ Ψ mc ms A' ρ' μ ∧ ∀ k, k < A.2.2.2.1.length → ρ' k = ρ k
section tiPure
variable {Λ : List ti_D} {Ψ : List Nat} {mc ms : Nat}
/-- a new name of a type, with facts of it -/
theorem ti_newname {pc pc' : Nat} {L : List (Nat × ti_a)} {st : List ti_a} {env : List ti_y} {F G : List ti_f} {t : ti_y} (hlim : ti_limS env.length L st F = true) {ρ : Nat → zx_V} {w : List zx_E} {v : zx_V} (hw : ti_wt Λ Ψ w) (he : ∀ k t, env[k]? = some t → ti_vt Ψ t (ρ k)) (hF : ∀ f ∈ F, ti_fd ρ w f) (hv : ti_vt Ψ t v)
    (hG : ∀ ρ' : Nat → zx_V, (∀ k, k < env.length → ρ' k = ρ k) → ρ' env.length = v → ∀ f ∈ G, ti_fd ρ' w f) : ∃ ρ', ti_G Λ Ψ mc ms (pc', L, .inr env.length :: st, env ++ [t], G ++ F) ρ' (pc', L.map (fun q => (q.1, ti_v ρ q.2)), v :: st.map (ti_v ρ), w, mc, ms) ∧ ∀ k, k < env.length → ρ' k = ρ k := by
  simp only [ti_limS, Bool.and_eq_true] at hlim
  obtain ⟨l1, l2, l3⟩ := hlim
  let ρ' : Nat → zx_V := fun k => if k = env.length then v else ρ k
  have hr : ∀ k, k < env.length → ρ' k = ρ k := fun k hk => if_neg (Nat.ne_of_lt hk)
  have hn : ρ' env.length = v := if_pos rfl
  refine ⟨ρ', ⟨w, ?_, hw, fun k t' hk => ?_, fun f hf => ?_⟩, hr⟩
  · have e1 : L.map (fun q => (q.1, ti_v ρ q.2)) = L.map (fun q => (q.1, ti_v ρ' q.2)) := List.map_congr_left (fun q hq => by rw [ti_lim_v hr (List.all_eq_true.mp l1 q hq)])
    have e2 : st.map (ti_v ρ) = st.map (ti_v ρ') := List.map_congr_left (fun a ha => (ti_lim_v hr (List.all_eq_true.mp l2 a ha)).symm)
    rw [e1, e2]
    show _ = (pc', _, ρ' env.length :: st.map (ti_v ρ'), w, mc, ms)
    rw [hn]
  · by_cases hl : k < env.length
    · rw [show (env ++ [t])[k]? = env[k]? from List.getElem?_append_left hl] at hk
      rw [hr k hl]
      exact he k t' hk
    · have hk' : (env ++ [t])[k]? = some t' := hk
      rw [List.getElem?_append_right (by omega)] at hk'
      have hz : k - env.length < 1 := (List.getElem?_eq_some_iff.mp hk').1
      have e : k = env.length := by omega
      subst e
      rw [Nat.sub_self] at hk'
      cases hk'
      rw [hn]
      exact hv
  · rcases List.mem_append.mp hf with h | h
    · exact hG ρ' hr hn f h
    · exact ti_lim_f hr (List.all_eq_true.mp l3 f h) (hF f h)
/-- constants -/
def ti_push (n c : Nat) (A : ti_S) : Option (List ti_S) := match A with
  | (pc, L, st, env, F) => some [(pc + n, L, .inl c :: st, env, F)]
theorem ti_push_ok {n c : Nat} {A : ti_S} {As : List ti_S} (h : ti_push n c A = some As) : ti_sim (zx_push n (.inl (Int32.ofNat c))) Λ Ψ mc ms A As := by
  obtain ⟨pc, L, st, env, F⟩ := A
  cases h
  intro ρ σ ⟨w, hσ, hw, he, hF⟩
  subst hσ
  exact ⟨_, ρ, _, rfl, List.mem_cons_self, ⟨w, rfl, hw, he, hF⟩, fun _ _ => rfl⟩
def ti_look (k : Nat) : List (Nat × ti_a) → Option ti_a
  | [] => none
  | (j, v) :: l => match Nat.beq j k with
    | true => some v
    | false => ti_look k l
theorem ti_look_ok {ρ : Nat → zx_V} {k : Nat} {a : ti_a} : ∀ {L : List (Nat × ti_a)}, ti_look k L = some a → zx_look k (L.map (fun q => (q.1, ti_v ρ q.2))) = some (ti_v ρ a)
  | [], h => by cases h
  | (j, u) :: L, h => by
    unfold ti_look at h
    show (match Nat.beq j k with
      | true => some (ti_v ρ u)
      | false => zx_look k (L.map (fun q : Nat × ti_a => (q.1, ti_v ρ q.2)))) = _
    split at h
    next => cases h; rfl
    next => exact ti_look_ok h
/-- the interval of an int -/
def ti_iv (env : List ti_y) : ti_a → Option (Nat × Nat)
  | .inl n => some ((n + 2147483648) % 4294967296, (n + 2147483648) % 4294967296)
  | .inr k => match env[k]? with
    | some (0, lo, hi) => some (lo, hi)
    | _ => none
theorem ti_b_of (n : Nat) : zx_b (Int32.ofNat n) = (n + 2147483648) % 4294967296 := by
  have h1 := zx_b_int (Int32.ofNat n)
  rw [Int32.toInt_ofNat'] at h1
  rw [Int.bmod_def] at h1
  simp only [Int32.size] at h1
  split at h1 <;> omega
theorem ti_iv_ok {env : List ti_y} {ρ : Nat → zx_V} (he : ∀ k t, env[k]? = some t → ti_vt Ψ t (ρ k)) : ∀ {a : ti_a} {lo hi : Nat}, ti_iv env a = some (lo, hi) → ∃ x, ti_v ρ a = (.inl x) ∧ lo ≤ zx_b x ∧ zx_b x ≤ hi
  | .inl n, lo, hi, h => by
    simp only [ti_iv, Option.some.injEq, Prod.mk.injEq] at h
    obtain ⟨e1, e2⟩ := h
    exact ⟨Int32.ofNat n, rfl, by rw [ti_b_of, e1]; exact Nat.le_refl _, by rw [ti_b_of, e2]; exact Nat.le_refl _⟩
  | .inr k, lo, hi, h => by
    have h : (match env[k]? with
      | some (0, lo, hi) => some (lo, hi)
      | _ => none) = some (lo, hi) := h
    split at h
    next lo' hi' hk =>
      simp only [Option.some.injEq, Prod.mk.injEq] at h
      obtain ⟨e1, e2⟩ := h
      subst e1
      subst e2
      exact he k _ hk
    next => cases h
def ti_ldI (n k : Nat) (A : ti_S) : Option (List ti_S) := match A with
  | (pc, L, st, env, F) => match ti_look k L with
    | some a => match ti_iv env a with
      | some _ => some [(pc + n, L, a :: st, env, F)]
      | none => none
    | none => none
theorem ti_ldI_ok {n k : Nat} {A : ti_S} {As : List ti_S} (h : ti_ldI n k A = some As) : ti_sim (zx_ldI n k) Λ Ψ mc ms A As := by
  obtain ⟨pc, L, st, env, F⟩ := A
  simp only [ti_ldI] at h
  split at h
  next a ha =>
    split at h
    next q hq =>
      cases h
      intro ρ σ ⟨w, hσ, hw, he, hF⟩
      subst hσ
      obtain ⟨x, hx, -⟩ := ti_iv_ok he (lo := q.1) (hi := q.2) hq
      refine ⟨_, ρ, _, ?_, List.mem_cons_self, ⟨w, rfl, hw, he, hF⟩, fun _ _ => rfl⟩
      unfold zx_ldI
      show (match zx_look k (L.map (fun q => (q.1, ti_v ρ q.2))) with
        | some (.inl x) => zx_push n (.inl x) _
        | _ => none) = _
      rw [ti_look_ok ha, hx]
      show some _ = some (_, _, ti_v ρ a :: _, _, _, _)
      rw [hx]
    next => cases h
  next => cases h
def ti_ldA (n k : Nat) (A : ti_S) : Option (List ti_S) := match A with
  | (pc, L, st, env, F) => match ti_look k L with
    | some (.inr j) => match env[j]? with
      | some (1, _, _) => some [(pc + n, L, .inr j :: st, env, F)]
      | _ => none
    | _ => none
theorem ti_ldA_ok {n k : Nat} {A : ti_S} {As : List ti_S} (h : ti_ldA n k A = some As) : ti_sim (zx_ldA n k) Λ Ψ mc ms A As := by
  obtain ⟨pc, L, st, env, F⟩ := A
  simp only [ti_ldA] at h
  split at h
  next j ha =>
    split at h
    next l c' hj =>
      cases h
      intro ρ σ ⟨w, hσ, hw, he, hF⟩
      subst hσ
      obtain ⟨q, hq, -⟩ := he j _ hj
      refine ⟨_, ρ, _, ?_, List.mem_cons_self, ⟨w, rfl, hw, he, hF⟩, fun _ _ => rfl⟩
      unfold zx_ldA
      have hl := ti_look_ok (ρ := ρ) ha
      show (match zx_look k (L.map (fun q => (q.1, ti_v ρ q.2))) with
        | some (.inr (.inr (.inl x))) => zx_push n (.inr (.inr (.inl x))) _
        | some (.inr (.inr (.inr 2))) => zx_push n (.inr (.inr (.inr 2))) _
        | _ => none) = _
      rw [hl]
      show (match some (ρ j) with
        | some (.inr (.inr (.inl x))) => zx_push n (.inr (.inr (.inl x))) _
        | some (.inr (.inr (.inr 2))) => zx_push n (.inr (.inr (.inr 2))) _
        | _ => none) = some (_, _, ρ j :: _, _, _, _)
      rw [hq]
      rfl
    next => cases h
  next => cases h
def ti_goto (t : Nat) (A : ti_S) : Option (List ti_S) := match A with
  | (_, L, st, env, F) => some [(t, L, st, env, F)]
theorem ti_goto_ok {t : Nat} {A : ti_S} {As : List ti_S} (h : ti_goto t A = some As) : ti_sim (zx_gt t) Λ Ψ mc ms A As := by
  obtain ⟨pc, L, st, env, F⟩ := A
  cases h
  intro ρ σ ⟨w, hσ, hw, he, hF⟩
  subst hσ
  exact ⟨_, ρ, _, rfl, List.mem_cons_self, ⟨w, rfl, hw, he, hF⟩, fun _ _ => rfl⟩
end tiPure
