/-! runs of the abstract executor; loops cut at their heads -/
def ti_bind {α β : Type} (f : α → Option (List β)) : List α → Option (List β)
  | [] => some []
  | a :: l => match f a, ti_bind f l with
    | some b, some m => some (b ++ m)
    | _, _ => none
theorem ti_bind_mem {α β : Type} {f : α → Option (List β)} : ∀ {l : List α} {m : List β}, ti_bind f l = some m → ∀ a ∈ l, ∃ r, f a = some r ∧ ∀ x ∈ r, x ∈ m
  | [], _, _, a, ha => absurd ha List.not_mem_nil
  | b :: l, m, h, a, ha => by
    unfold ti_bind at h
    split at h
    next r m2 hr hm =>
      cases h
      rcases List.mem_cons.mp ha with e | e
      · rw [e]
        exact ⟨r, hr, fun x hx => List.mem_append_left _ hx⟩
      · obtain ⟨r2, g1, g2⟩ := ti_bind_mem hm a e
        exact ⟨r2, g1, fun x hx => List.mem_append_right _ (g2 x hx)⟩
    next => cases h
def ti_run (step : ti_S → Option (List ti_S)) (stop : Nat → Bool) : Nat → ti_S → Option (List ti_S)
  | 0, _ => none
  | n + 1, A => match stop A.1 with
    | true => some [A]
    | false => match step A with
      | none => none
      | some As => ti_bind (ti_run step stop n) As
/-- a step of the abstract executor is right -/
def ti_right (K : zx_K) (X : zx_X) (cap : Nat × Nat) (tab : Nat → Option zx_Q) (Λ : List ti_D) (Ψ : List Nat) (mc ms : Nat) (step : ti_S → Option (List ti_S)) : Prop := ∀ A As, step A = some As → ∀ ρ σ, ti_G Λ Ψ mc ms A ρ σ → ∃ μ ρ' A', zx_step K X cap tab σ μ ∧ A' ∈ As ∧ ti_G Λ Ψ mc ms A' ρ' μ ∧ A.2.2.2.1.length ≤ A'.2.2.2.1.length ∧ ∀ k, k < A.2.2.2.1.length → ρ' k = ρ k
section tiRun
variable {K : zx_K} {X : zx_X} {cap : Nat × Nat} {tab : Nat → Option zx_Q} {Λ : List ti_D} {Ψ : List Nat} {mc ms : Nat} {step : ti_S → Option (List ti_S)} {stop : Nat → Bool}
/-- where a run from A can be: in one of As, with the names of A as they were -/
def ti_In (Λ : List ti_D) (Ψ : List Nat) (mc ms : Nat) (n0 : Nat) (ρ : Nat → zx_V) (As : List ti_S) (τ : zx_S) : Prop := ∃ ρ' A', A' ∈ As ∧ ti_G Λ Ψ mc ms A' ρ' τ ∧ n0 ≤ A'.2.2.2.1.length ∧ ∀ k, k < n0 → ρ' k = ρ k
theorem ti_run_ok (hs : ti_right K X cap tab Λ Ψ mc ms step) : ∀ {n : Nat} {A : ti_S} {As : List ti_S}, ti_run step stop n A = some As → ∀ {ρ : Nat → zx_V} {σ : zx_S}, ti_G Λ Ψ mc ms A ρ σ → zx_wp K X cap tab (ti_In Λ Ψ mc ms A.2.2.2.1.length ρ As) σ
  | 0, _, _, h, _, _, _ => by cases h
  | n + 1, A, As, h, ρ, σ, hG => by
    unfold ti_run at h
    split at h
    next =>
      cases h
      exact zx_wp_done ⟨ρ, A, List.mem_cons_self, hG, Nat.le_refl _, fun _ _ => rfl⟩
    next =>
      split at h
      next => cases h
      next Bs hB =>
        obtain ⟨μ, ρ', A', h1, h2, h3, h4, h5⟩ := hs A Bs hB ρ σ hG
        obtain ⟨r, g1, g2⟩ := ti_bind_mem h A' h2
        refine zx_wp_step h1 (zx_wp_mono ?_ (ti_run_ok hs g1 h3))
        intro τ ⟨ρ2, A2, k1, k2, k3, k4⟩
        exact ⟨ρ2, A2, g2 A2 k1, k2, Nat.le_trans h4 k3, fun k hk => (k4 k (Nat.lt_of_lt_of_le hk h4)).trans (h5 k hk)⟩
/-- from a cut: a step, then a run to the next cuts -/
def ti_from (step : ti_S → Option (List ti_S)) (stop : Nat → Bool) (n : Nat) (A : ti_S) : Option (List ti_S) := match step A with
  | none => none
  | some As => ti_bind (ti_run step stop n) As
theorem ti_from_ok (hs : ti_right K X cap tab Λ Ψ mc ms step) {n : Nat} {A : ti_S} {As : List ti_S} (h : ti_from step stop n A = some As) {ρ : Nat → zx_V} {σ : zx_S} (hG : ti_G Λ Ψ mc ms A ρ σ) : zx_wp K X cap tab (ti_In Λ Ψ mc ms A.2.2.2.1.length ρ As) σ := by
  unfold ti_from at h
  split at h
  next => cases h
  next Bs hB =>
    obtain ⟨μ, ρ', A', h1, h2, h3, h4, h5⟩ := hs A Bs hB ρ σ hG
    obtain ⟨r, g1, g2⟩ := ti_bind_mem h A' h2
    refine zx_wp_step h1 (zx_wp_mono ?_ (ti_run_ok hs g1 h3))
    intro τ ⟨ρ2, A2, k1, k2, k3, k4⟩
    exact ⟨ρ2, A2, g2 A2 k1, k2, Nat.le_trans h4 k3, fun k hk => (k4 k (Nat.lt_of_lt_of_le hk h4)).trans (h5 k hk)⟩
/-- cut points: each by its number; from each a run comes to an end or to a cut where the measure is less -/
theorem ti_cuts {Q : zx_S → Prop} (G : Nat → ti_S) (M : Nat → (Nat → zx_V) → Nat) (h : ∀ (c : Nat) (ρ : Nat → zx_V) (σ : zx_S), ti_G Λ Ψ mc ms (G c) ρ σ → zx_wp K X cap tab (fun τ => Q τ ∨ ∃ c' ρ', ti_G Λ Ψ mc ms (G c') ρ' τ ∧ M c' ρ' < M c ρ) σ) : ∀ (c : Nat) (ρ : Nat → zx_V) (σ : zx_S), ti_G Λ Ψ mc ms (G c) ρ σ → zx_wp K X cap tab Q σ := by
  intro c ρ
  generalize hn : M c ρ = n
  induction n using Nat.strongRecOn generalizing c ρ with
  | _ n ih =>
    intro σ hG
    refine zx_wp_seq (zx_wp_mono ?_ (h c ρ σ hG))
    intro τ hτ
    rcases hτ with hq | ⟨c', ρ', h1, h2⟩
    · exact zx_wp_done hq
    · exact ih (M c' ρ') (by omega) c' ρ' rfl τ h1
end tiRun
