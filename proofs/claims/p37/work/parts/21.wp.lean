/-! the exact machine's own logic: it comes to a state with Q -/
def zx_wp (K : zx_K) (X : zx_X) (cap : Nat × Nat) (tab : Nat → Option zx_Q) (Q : zx_S → Prop) (σ : zx_S) : Prop := ∃ n τ, zx_star (zx_step K X cap tab) n σ τ ∧ Q τ
section zxWp
variable {K : zx_K} {X : zx_X} {cap : Nat × Nat} {tab : Nat → Option zx_Q} {Q Q' : zx_S → Prop} {σ μ : zx_S}
theorem zx_wp_done (h : Q σ) : zx_wp K X cap tab Q σ := ⟨0, σ, rfl, h⟩
theorem zx_wp_step (h : zx_step K X cap tab σ μ) (k : zx_wp K X cap tab Q μ) : zx_wp K X cap tab Q σ := by
  obtain ⟨n, τ, h1, h2⟩ := k
  exact ⟨n + 1, τ, ⟨μ, h, h1⟩, h2⟩
theorem zx_wp_mono (hQ : ∀ τ, Q τ → Q' τ) (k : zx_wp K X cap tab Q σ) : zx_wp K X cap tab Q' σ := by
  obtain ⟨n, τ, h1, h2⟩ := k
  exact ⟨n, τ, h1, hQ τ h2⟩
theorem zx_star_trans {S : zx_S → zx_S → Prop} : ∀ {n : Nat} {σ μ : zx_S}, zx_star S n σ μ → ∀ {k : Nat} {τ : zx_S}, zx_star S k μ τ → zx_star S (n + k) σ τ
  | 0, σ, μ, h, k, τ, h2 => by
    cases h
    rw [Nat.zero_add]
    exact h2
  | n + 1, σ, μ, ⟨ν, h, h1⟩, k, τ, h2 => by
    rw [show n + 1 + k = (n + k) + 1 by omega]
    exact ⟨ν, h, zx_star_trans h1 h2⟩
theorem zx_wp_seq (k : zx_wp K X cap tab (fun τ => zx_wp K X cap tab Q τ) σ) : zx_wp K X cap tab Q σ := by
  obtain ⟨n, τ, h1, j, ρ, h2, h3⟩ := k
  exact ⟨n + j, ρ, zx_star_trans h1 h2, h3⟩
theorem zx_wp_pure {a1 a2 : Nat} {g : zx_F} (ht : tab σ.1 = some (0, a1, a2, g)) (h : g X cap σ = some μ) (k : zx_wp K X cap tab Q μ) : zx_wp K X cap tab Q σ :=
  zx_wp_step (by unfold zx_step; rw [ht]; exact h) k
theorem zx_wp_call {pc mc ms y n a : Nat} {g : zx_F} {ls : List (Nat × zx_V)} {st av st' : List zx_V} {w : List zx_E} {cy : Nat × Nat} {r : zx_R} (ht : tab pc = some (3, y, n, g)) (htk : zx_take n [] st = some (av, st')) (h4 : zx_words st' ≤ 8) (hl : zx_limP w.length ls = true) (hs : zx_limL w.length st' = true) (hc : mc + cy.1 ≤ cap.1) (hm : ms + cy.2 ≤ cap.2) (hK : K y av w cy r) (k : zx_wp K X cap tab Q (pc + 3, ls, r.1.toList ++ st', r.2, mc + cy.1, ms + cy.2)) : zx_wp K X cap tab Q (pc, ls, st, w, mc, ms) :=
  zx_wp_step (by unfold zx_step; rw [show tab (pc, ls, st, w, mc, ms).1 = some (3, y, n, g) from ht]; exact ⟨av, st', cy, r, htk, h4, hl, hs, hc, hm, hK, rfl⟩) k
/-- n steps that are no calls -/
def zx_go (X : zx_X) (cap : Nat × Nat) (tab : Nat → Option zx_Q) : Nat → zx_S → Option zx_S
  | 0, σ => some σ
  | n + 1, σ => match tab σ.1 with
    | some (0, _, _, g) => match g X cap σ with
      | some μ => zx_go X cap tab n μ
      | none => none
    | _ => none
theorem zx_wp_go : ∀ {n : Nat} {σ μ : zx_S}, zx_go X cap tab n σ = some μ → zx_wp K X cap tab Q μ → zx_wp K X cap tab Q σ
  | 0, σ, μ, h, k => by cases h; exact k
  | n + 1, σ, μ, h, k => by
    unfold zx_go at h
    split at h
    next a1 a2 g ht =>
      split at h
      next ν hg => exact zx_wp_pure ht hg (zx_wp_go h k)
      next => cases h
    next => cases h
/-- a loop by a measure that falls -/
theorem zx_wp_loop {α : Type} (f : α → zx_S) (ms : α → Nat) (I : α → Prop) (h : ∀ a, I a → zx_wp K X cap tab (fun τ => Q τ ∨ ∃ a', τ = f a' ∧ I a' ∧ ms a' < ms a) (f a)) : ∀ a, I a → zx_wp K X cap tab Q (f a) := by
  intro a
  generalize hn : ms a = n
  induction n using Nat.strongRecOn generalizing a with
  | _ n ih =>
    intro ha
    refine zx_wp_seq (zx_wp_mono ?_ (h a ha))
    intro τ hτ
    rcases hτ with hq | ⟨a', rfl, ha', hlt⟩
    · exact zx_wp_done hq
    · exact ih (ms a') (by omega) a' rfl ha'
end zxWp
/-- method y, in d frames, from such values and worlds, ends with such answers and worlds, and makes no more than cap -/
def zx_T (mt : Nat → Option (Nat → Option zx_Q)) (rc ml : Nat → Nat) (d y : Nat) (Pre : List zx_V → List zx_E → Prop) (cap : List zx_V → List zx_E → Nat × Nat) (Post : List zx_V → List zx_E → zx_R → Prop) : Prop := ∀ av w, Pre av w → ∃ r, zx_Cl mt rc ml d y av w (cap av w) r ∧ Post av w r
theorem zx_T_body {mt : Nat → Option (Nat → Option zx_Q)} {rc ml : Nat → Nat} {d y : Nat} {tab : Nat → Option zx_Q} {Pre : List zx_V → List zx_E → Prop} {cap : List zx_V → List zx_E → Nat × Nat} {Post : List zx_V → List zx_E → zx_R → Prop} (ht : mt y = some tab) (hr : ∀ av w, Pre av w → zx_rok w (rc y) av) (hw : ∀ av w, Pre av w → zx_words av ≤ ml y)
    (h : ∀ av w, Pre av w → zx_wp (zx_Cl mt rc ml d) none (cap av w) tab (fun σ => ∃ r, zx_ret tab (cap av w) σ r ∧ Post av w r) (0, zx_args 0 av, [], w, 0, 0)) : zx_T mt rc ml (d + 1) y Pre cap Post := by
  intro av w hp
  obtain ⟨n, σ, h1, r, h2, h3⟩ := h av w hp
  exact ⟨r, ⟨tab, ht, hr av w hp, hw av w hp, n, σ, h1, h2⟩, h3⟩
/-- more frames do no harm -/
theorem zx_star_mono {S S' : zx_S → zx_S → Prop} (h : ∀ σ τ, S σ τ → S' σ τ) : ∀ {n : Nat} {σ τ : zx_S}, zx_star S n σ τ → zx_star S' n σ τ
  | 0, _, _, e => e
  | _ + 1, _, _, ⟨μ, h1, h2⟩ => ⟨μ, h _ _ h1, zx_star_mono h h2⟩
theorem zx_step_mono {K K' : zx_K} (h : ∀ y av w c r, K y av w c r → K' y av w c r) {X : zx_X} {cap : Nat × Nat} {tab : Nat → Option zx_Q} {σ τ : zx_S} (hs : zx_step K X cap tab σ τ) : zx_step K' X cap tab σ τ := by
  unfold zx_step at hs ⊢
  split at hs
  next => exact hs
  next y n g ht =>
    obtain ⟨pc, ls, st, w, mc, ms⟩ := σ
    obtain ⟨av, st', cy, r, h1, h2, h3, h4, h5, h6, h7, h8⟩ := hs
    exact ⟨av, st', cy, r, h1, h2, h3, h4, h5, h6, h _ _ _ _ _ h7, h8⟩
  next => exact hs.elim
theorem zx_Cl_succ {mt : Nat → Option (Nat → Option zx_Q)} {rc ml : Nat → Nat} : ∀ {d : Nat} {y : Nat} {av : List zx_V} {w : List zx_E} {c : Nat × Nat} {r : zx_R}, zx_Cl mt rc ml d y av w c r → zx_Cl mt rc ml (d + 1) y av w c r
  | 0, _, _, _, _, _, h => h.elim
  | d + 1, _, _, _, _, _, h => by
    obtain ⟨tab, h1, h2, h3, n, σ, h4, h5⟩ := h
    exact ⟨tab, h1, h2, h3, n, σ, zx_star_mono (fun _ _ hs => zx_step_mono (fun _ _ _ _ _ hk => zx_Cl_succ hk) hs) h4, h5⟩
theorem zx_Cl_le {mt : Nat → Option (Nat → Option zx_Q)} {rc ml : Nat → Nat} {d e : Nat} (hde : d ≤ e) {y : Nat} {av : List zx_V} {w : List zx_E} {c : Nat × Nat} {r : zx_R} (h : zx_Cl mt rc ml d y av w c r) : zx_Cl mt rc ml e y av w c r := by
  induction hde with
  | refl => exact h
  | step _ ih => exact zx_Cl_succ ih
