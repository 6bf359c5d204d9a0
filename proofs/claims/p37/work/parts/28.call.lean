/-! the abstract executor: calls by summaries: method, types of its values, what it may change, ways in which it ends: types of its values then, type of its answer, types of fields then -/
/-- names: values of the args; then of locals (inl), of fields of earlier ones (inr) -/
abbrev tj_b : Type := Nat ⊕ (Nat × Nat)
/-- what is known: names (inr (r, k): field k of r; (r, 1000 + c): what lies at c in r; (r, 2000 + j): r + j; (r, 3000 + j): what lies at j in r; (r, 4000 + c): r + the int c), their types, facts -/
abbrev tj_Fg : Type := List tj_b × List tj_y × List tj_f
/-- a way to end: types of the values then, of the answer, what is known then -/
abbrev tj_O : Type := List tj_y × Option tj_y × tj_Fg
/-- last: what must be known ahead -/
abbrev tj_C : Type := Nat × List tj_y × tj_Ef × List tj_O × tj_Fg
def tj_bq (θ : List tj_a) (q : Nat × Nat) : Option (Nat × tj_a × tj_a) := match θ[q.1]? with
  | none => none
  | some a => match Nat.blt q.2 1000 with
    | true => some (0, a, .inl q.2)
    | false => match Nat.blt q.2 2000 with
      | true => some (1, a, .inl (q.2 - 1000))
      | false => match Nat.blt q.2 3000 with
        | true => (match θ[q.2 - 2000]? with
          | some b => some (3, a, b)
          | none => none)
        | false => match Nat.blt q.2 4000 with
          | true => (match θ[q.2 - 3000]? with
            | some b => some (1, a, b)
            | none => none)
          | false => some (3, a, .inl (q.2 - 4000))
def tj_idl : Nat → Nat → List tj_a
  | _, 0 => []
  | j, n + 1 => .inr j :: tj_idl (j + 1) n
theorem tj_idl_at : ∀ {n j i : Nat}, i < n → (tj_idl j n)[i]? = some (.inr (j + i))
  | 0, _, _, h => absurd h (Nat.not_lt_zero _)
  | n + 1, j, 0, _ => rfl
  | n + 1, j, i + 1, h => by
    show (tj_idl (j + 1) n)[i]? = _
    rw [tj_idl_at (by omega), show j + 1 + i = j + (i + 1) by omega]
theorem tj_idl_len : ∀ (n j : Nat), (tj_idl j n).length = n
  | 0, _ => rfl
  | n + 1, j => by
    show (tj_idl (j + 1) n).length + 1 = _
    rw [tj_idl_len]
/-- names put in for names -/
def tj_s (θ : List tj_a) : tj_a → Option tj_a
  | .inl n => some (.inl n)
  | .inr k => θ[k]?
def tj_rt (ρ : Nat → zx_V) (θ : List tj_a) : Nat → zx_V := fun k => match θ[k]? with
  | some a => tj_v ρ a
  | none => (.inr (.inr (.inr 0)))
theorem tj_s_ok {ρ : Nat → zx_V} {θ : List tj_a} : ∀ {a b : tj_a}, tj_s θ a = some b → tj_v (tj_rt ρ θ) a = tj_v ρ b
  | .inl n, b, h => by cases h; rfl
  | .inr k, b, h => by
    have h : θ[k]? = some b := h
    show tj_rt ρ θ k = _
    unfold tj_rt
    rw [h]
def tj_covF (θ : List tj_a) (G : List tj_f) (f : tj_f) : Bool := match tj_s θ f.2.1, tj_s θ f.2.2.1, tj_s θ f.2.2.2 with
  | some a, some b, some c => (match tj_fk f.1 a b G with
    | some c' => tj_eqa c c'
    | none => false)
  | _, _, _ => false
theorem tj_fd_s {ρ ρ' : Nat → zx_V} {w : List zx_E} {θ : List tj_a} (hρ : ∀ a b, tj_s θ a = some b → tj_v ρ' a = tj_v ρ b) : ∀ {f : tj_f} {a b c : tj_a}, tj_s θ f.2.1 = some a → tj_s θ f.2.2.1 = some b → tj_s θ f.2.2.2 = some c → tj_fd ρ w (f.1, a, b, c) → tj_fd ρ' w f
  | (0, r, .inl k, v), a, b, c, h1, h2, h3, hf => by
    have h2 : some (Sum.inl k) = some b := h2
    cases h2
    obtain ⟨q, ci, fs, g1, g2, g3⟩ := hf
    exact ⟨q, ci, fs, by rw [hρ r a h1]; exact g1, g2, by rw [hρ v c h3]; exact g3⟩
  | (0, _, .inr _, _), _, _, _, _, _, _, _ => trivial
  | (1, r, i, v), a, b, c, h1, h2, h3, ⟨q, x, g1, g2, g3⟩ => ⟨q, x, by rw [hρ r a h1]; exact g1, by rw [hρ i b h2]; exact g2, by rw [hρ v c h3]; exact g3⟩
  | (2, r, .inl k, v), a, b, c, h1, h2, h3, hf => by
    have h2 : some (Sum.inl k) = some b := h2
    cases h2
    obtain ⟨x, g1, g2⟩ := hf
    exact ⟨x, by rw [hρ r a h1]; exact g1, g2⟩
  | (2, _, .inr _, _), _, _, _, _, _, _, _ => trivial
  | (n + 3, r, i, v), a, b, c, h1, h2, h3, hf => by
    show tj_of n (tj_v ρ' r) (tj_v ρ' i) (tj_v ρ' v) w
    rw [hρ r a h1, hρ i b h2, hρ v c h3]
    exact hf
def tj_sfk (f : tj_f) : Bool := match f with
  | (0, _, .inr _, _) => false
  | (2, _, .inr _, _) => false
  | _ => true
theorem tj_fd_s2 {ρ ρ' : Nat → zx_V} {w : List zx_E} {θ : List tj_a} (hρ : ∀ a b, tj_s θ a = some b → tj_v ρ' a = tj_v ρ b) : ∀ {f : tj_f} {a b c : tj_a}, tj_s θ f.2.1 = some a → tj_s θ f.2.2.1 = some b → tj_s θ f.2.2.2 = some c → tj_sfk f = true → tj_fd ρ' w f → tj_fd ρ w (f.1, a, b, c)
  | (0, r, .inl k, v), a, b, c, h1, h2, h3, _, hf => by
    have h2 : some (Sum.inl k) = some b := h2
    cases h2
    obtain ⟨q, ci, fs, g1, g2, g3⟩ := hf
    exact ⟨q, ci, fs, by rw [← hρ r a h1]; exact g1, g2, by rw [← hρ v c h3]; exact g3⟩
  | (0, _, .inr k, _), _, _, _, _, _, _, hk, _ => by cases hk
  | (1, r, i, v), a, b, c, h1, h2, h3, _, ⟨q, x, g1, g2, g3⟩ => ⟨q, x, by rw [← hρ r a h1]; exact g1, by rw [← hρ i b h2]; exact g2, by rw [← hρ v c h3]; exact g3⟩
  | (2, r, .inl k, v), a, b, c, h1, h2, h3, _, hf => by
    have h2 : some (Sum.inl k) = some b := h2
    cases h2
    obtain ⟨x, g1, g2⟩ := hf
    exact ⟨x, by rw [← hρ r a h1]; exact g1, g2⟩
  | (2, _, .inr k, _), _, _, _, _, _, _, hk, _ => by cases hk
  | (n + 3, r, i, v), a, b, c, h1, h2, h3, _, hf => by
    show tj_of n (tj_v ρ a) (tj_v ρ b) (tj_v ρ c) w
    rw [← hρ r a h1, ← hρ i b h2, ← hρ v c h3]
    exact hf
/-- facts with values put in for names -/
def tj_sf (θ : List tj_a) (f : tj_f) : Option tj_f := match tj_sfk f with
  | true => match tj_s θ f.2.1, tj_s θ f.2.2.1, tj_s θ f.2.2.2 with
    | some a, some b, some c => some (f.1, a, b, c)
    | _, _, _ => none
  | false => none
def tj_typed (Ψ : List Nat) : List zx_V → List tj_y → Prop
  | [], [] => True
  | v :: l, t :: ts => tj_vt Ψ t v ∧ tj_typed Ψ l ts
  | _, _ => False
def tj_retT (Ψ : List Nat) (rt : Option tj_y) (r : Option zx_V) : Prop := match rt with
  | none => r = none
  | some t => ∃ v, r = some v ∧ tj_vt Ψ t v
def tj_Ho (Ψ : List Nat) (w : List zx_E) (av : List zx_V) (r : Option zx_V) (o : tj_O) : Prop := ∃ ρ : Nat → zx_V, (∀ i v, (av ++ r.toList)[i]? = some v → ρ i = v) ∧ (∀ j t, (o.2.1.toList ++ o.2.2.2.1)[j]? = some t → tj_vt Ψ t (ρ (av.length + j))) ∧ ∀ f ∈ o.2.2.2.2, tj_fd ρ w f
/-- a summary is true of K -/
def tj_KS1 (K : zx_K) (Λ : List tj_D) (C : tj_C) : Prop := ∀ (Ψ : List Nat) (av : List zx_V) (w : List zx_E), tj_wt Λ Ψ w → tj_typed Ψ av C.2.1 → (∃ ρ : Nat → zx_V, (∀ i v, av[i]? = some v → ρ i = v) ∧ tj_env Ψ (C.2.1 ++ C.2.2.2.2.2.1) ρ ∧ ∀ f ∈ C.2.2.2.2.2.2, tj_fd ρ w f) → ∃ (r : zx_R) (cy : Nat × Nat) (Ψ' : List Nat) (o : tj_O), K C.1 av w cy r ∧ cy.1 + tj_P tj_c1 r.2 ≤ tj_P tj_c1 w ∧ cy.2 + tj_P tj_c2 r.2 ≤ tj_P tj_c2 w ∧ tj_le Ψ Ψ' ∧ tj_wt Λ Ψ' r.2 ∧ tj_fr C.2.2.1 Ψ w r.2 ∧ o ∈ C.2.2.2.1 ∧ tj_typed Ψ' av o.1 ∧ tj_retT Ψ' o.2.1 r.1 ∧ tj_Ho Ψ' r.2 av r.1 o
def tj_KS (K : zx_K) (Λ : List tj_D) (CS : List tj_C) : Prop := ∀ C ∈ CS, tj_KS1 K Λ C
def tj_fits (env : List tj_y) : List tj_a → List tj_y → Bool
  | [], [] => true
  | a :: l, t :: ts => tj_sub env a t && tj_fits env l ts
  | _, _ => false
theorem tj_fits_ok {Ψ : List Nat} {env : List tj_y} {ρ : Nat → zx_V} (he : tj_env Ψ env ρ) : ∀ {av : List tj_a} {ts : List tj_y}, tj_fits env av ts = true → tj_typed Ψ (av.map (tj_v ρ)) ts
  | [], [], _ => trivial
  | a :: l, t :: ts, h => by
    simp only [tj_fits, Bool.and_eq_true] at h
    exact ⟨tj_sub_ok he h.1, tj_fits_ok he h.2⟩
  | [], _ :: _, h => by cases h
  | _ :: _, [], h => by cases h
def tj_thC : List tj_b → List tj_a → List tj_f → Option (List tj_a)
  | [], θ, _ => some θ
  | .inl _ :: _, _, _ => none
  | .inr q :: bs, θ, F => match tj_bq θ q with
    | some p => match tj_fk p.1 p.2.1 p.2.2 F with
      | some v => tj_thC bs (θ ++ [v]) F
      | none => none
    | none => none
theorem tj_thC_pre {F : List tj_f} (bs : List tj_b) : ∀ {θ θ' : List tj_a}, tj_thC bs θ F = some θ' → ∃ s, θ' = θ ++ s := by
  induction bs with
  | nil => intro θ θ' h; cases h; exact ⟨[], (List.append_nil _).symm⟩
  | cons b bs ih =>
    intro θ θ' h
    cases b with
    | inl k => cases h
    | inr q =>
      simp only [tj_thC] at h
      split at h
      next a ha =>
        split at h
        next v hv =>
          obtain ⟨s, e⟩ := ih h
          exact ⟨[v] ++ s, by rw [e, List.append_assoc]⟩
        next => cases h
      next => cases h
def tj_preOk (env : List tj_y) (F : List tj_f) (av : List tj_a) (C : tj_C) : Bool := match tj_thC C.2.2.2.2.1 av F with
  | some θ => tj_fits env θ (C.2.1 ++ C.2.2.2.2.2.1) && (Nat.beq av.length C.2.1.length && C.2.2.2.2.2.2.all (tj_covF θ F))
  | none => false
theorem tj_typed_app {Ψ : List Nat} : ∀ {av s : List zx_V} {ts ets : List tj_y}, av.length = ts.length → tj_typed Ψ (av ++ s) (ts ++ ets) → tj_typed Ψ av ts
  | [], _, [], _, _, _ => trivial
  | v :: av, s, t :: ts, ets, h, ht => ⟨ht.1, tj_typed_app (av := av) (ts := ts) (by simpa using h) ht.2⟩
  | [], _, _ :: _, _, h, _ => by cases h
  | _ :: _, _, [], _, h, _ => by cases h
theorem tj_typed_at {Ψ : List Nat} : ∀ {av : List zx_V} {ts : List tj_y}, tj_typed Ψ av ts → ∀ (k : Nat) (t : tj_y), ts[k]? = some t → ∃ v, av[k]? = some v ∧ tj_vt Ψ t v
  | [], [], _, k, t, h => by simp at h
  | v :: av, t' :: ts, ⟨h1, h2⟩, 0, t, h => by cases h; exact ⟨v, rfl, h1⟩
  | v :: av, t' :: ts, ⟨h1, h2⟩, k + 1, t, h => tj_typed_at h2 k t h
  | [], _ :: _, h, _, _, _ => h.elim
  | _ :: _, [], h, _, _, _ => h.elim
theorem tj_rt_env {Ψ : List Nat} {ρ : Nat → zx_V} {θ : List tj_a} {ts : List tj_y} (h : tj_typed Ψ (θ.map (tj_v ρ)) ts) : tj_env Ψ ts (tj_rt ρ θ) := fun k t hk => by
  obtain ⟨v, h1, h2⟩ := tj_typed_at h k t hk
  rw [List.getElem?_map] at h1
  cases ha : θ[k]? with
  | none => rw [ha] at h1; cases h1
  | some a =>
    rw [ha] at h1
    have h1 : tj_v ρ a = v := Option.some.inj h1
    unfold tj_rt
    rw [ha]
    show tj_vt Ψ t (tj_v ρ a)
    rw [h1]
    exact h2
theorem tj_covF_ok {ρ : Nat → zx_V} {w : List zx_E} {F : List tj_f} (hF : ∀ g ∈ F, tj_fd ρ w g) {θ : List tj_a} {ρ' : Nat → zx_V} (hρ : ∀ a b, tj_s θ a = some b → tj_v ρ' a = tj_v ρ b) {f : tj_f} (h : tj_covF θ F f = true) : tj_fd ρ' w f := by
  unfold tj_covF at h
  split at h
  next a b c ha hb hc =>
    split at h
    next c' hk =>
      have hm := hF _ (tj_fk_mem hk)
      rw [← tj_eqa_ok h] at hm
      exact tj_fd_s hρ ha hb hc hm
    next => cases h
  next => cases h
theorem tj_preOk_ok {Ψ : List Nat} {env : List tj_y} {ρ : Nat → zx_V} {w : List zx_E} {F : List tj_f} (he : tj_env Ψ env ρ) (hF : ∀ g ∈ F, tj_fd ρ w g) {av : List tj_a} {C : tj_C} (h : tj_preOk env F av C = true) : tj_typed Ψ (av.map (tj_v ρ)) C.2.1 ∧ ∃ ρ' : Nat → zx_V, (∀ i v, (av.map (tj_v ρ))[i]? = some v → ρ' i = v) ∧ tj_env Ψ (C.2.1 ++ C.2.2.2.2.2.1) ρ' ∧ ∀ f ∈ C.2.2.2.2.2.2, tj_fd ρ' w f := by
  unfold tj_preOk at h
  split at h
  next θ hθ =>
    simp only [Bool.and_eq_true] at h
    obtain ⟨z1, z2, z3⟩ := h
    obtain ⟨s, e⟩ := tj_thC_pre _ hθ
    have ht := tj_fits_ok he z1
    have ht' := ht
    rw [e, List.map_append] at ht'
    refine ⟨tj_typed_app (by rw [List.length_map]; exact Nat.eq_of_beq_eq_true z2) ht', tj_rt ρ θ, fun i v hv => ?_, tj_rt_env ht, fun f hf => tj_covF_ok hF (fun a b h => tj_s_ok h) (List.all_eq_true.mp z3 f hf)⟩
    have hi : i < av.length := by
      have := (List.getElem?_eq_some_iff.mp hv).1
      rwa [List.length_map] at this
    rw [List.getElem?_map, List.getElem?_eq_getElem hi] at hv
    have hv : tj_v ρ av[i] = v := Option.some.inj hv
    have hθi : θ[i]? = some av[i] := by rw [e, List.getElem?_append_left hi, List.getElem?_eq_getElem hi]
    unfold tj_rt
    rw [hθi]
    exact hv
  next => cases h
def tj_findC (y : Nat) (env : List tj_y) (F : List tj_f) (av : List tj_a) : List tj_C → Option tj_C
  | [] => none
  | C :: l => match Nat.beq y C.1 with
    | true => match tj_preOk env F av C with
      | true => some C
      | false => tj_findC y env F av l
    | false => tj_findC y env F av l
theorem tj_findC_ok {y : Nat} {env : List tj_y} {F : List tj_f} {av : List tj_a} {C : tj_C} : ∀ {CS : List tj_C}, tj_findC y env F av CS = some C → C ∈ CS ∧ y = C.1 ∧ tj_preOk env F av C = true
  | [], h => by cases h
  | D :: l, h => by
    unfold tj_findC at h
    split at h
    next hy =>
      split at h
      next hz =>
        cases h
        exact ⟨List.mem_cons_self, Nat.eq_of_beq_eq_true hy, hz⟩
      next =>
        obtain ⟨h1, h2, h3⟩ := tj_findC_ok h
        exact ⟨List.mem_cons_of_mem _ h1, h2, h3⟩
    next =>
      obtain ⟨h1, h2, h3⟩ := tj_findC_ok h
      exact ⟨List.mem_cons_of_mem _ h1, h2, h3⟩
def tj_take : Nat → List tj_a → List tj_a → Option (List tj_a × List tj_a)
  | 0, acc, st => some (acc, st)
  | n + 1, acc, v :: st => tj_take n (v :: acc) st
  | _ + 1, _, [] => none
theorem tj_take_ok {ρ : Nat → zx_V} : ∀ {n : Nat} {acc st av st' : List tj_a}, tj_take n acc st = some (av, st') → zx_take n (acc.map (tj_v ρ)) (st.map (tj_v ρ)) = some (av.map (tj_v ρ), st'.map (tj_v ρ))
  | 0, acc, st, av, st', h => by
    simp only [tj_take] at h
    cases h
    rfl
  | n + 1, acc, v :: st, av, st', h => by
    simp only [tj_take] at h
    exact tj_take_ok (ρ := ρ) (n := n) (acc := v :: acc) (st := st) h
  | n + 1, acc, [], av, st', h => by
    simp only [tj_take] at h
    cases h
/-- words on a stack -/
def tj_wo (env : List tj_y) : List tj_a → Nat
  | [] => 0
  | a :: st => (match Nat.blt (tj_k env a) 3 with
    | true => 1
    | false => 2) + tj_wo env st
theorem tj_wo_ok {Ψ : List Nat} {env : List tj_y} {ρ : Nat → zx_V} (he : tj_env Ψ env ρ) : ∀ {st : List tj_a}, zx_words (st.map (tj_v ρ)) ≤ tj_wo env st
  | [] => Nat.le_refl _
  | a :: st => by
    have ih := tj_wo_ok he (st := st)
    show zx_words (tj_v ρ a :: st.map (tj_v ρ)) ≤ _
    unfold zx_words tj_wo
    refine Nat.add_le_add ?_ ih
    split
    next h1 =>
      split
      next h2 => rw [tj_k_cat he h2] at h1; cases h1
      next => exact Nat.le_refl _
    next =>
      split
      next => exact Nat.le_refl _
      next => decide
/-- what stays known behind a call -/
def tj_lc (env : List tj_y) (r : Nat) : Option Nat := match env[r]? with
  | some (1, l, _) => some l
  | _ => none
def tj_keepC (env : List tj_y) (e : tj_Ef) (f : tj_f) : Bool := match f with
  | (0, .inr r, .inl k, _) => (match tj_lc env r with
    | some l => !(tj_h2 l k e.1)
    | none => false)
  | (0, _, _, _) => false
  | (1, .inr r, _, _) => (match tj_lc env r with
    | some l => !(tj_h1 l e.2)
    | none => false)
  | (1, _, _, _) => false
  | (n + 3, _, _, _) => Nat.blt n 100 || tj_dj (tj_dep (n - 100)) e
  | _ => true
theorem tj_lc_ok {Ψ : List Nat} {env : List tj_y} {ρ : Nat → zx_V} (he : tj_env Ψ env ρ) {r l q : Nat} (h : tj_lc env r = some l) (hq : ρ r = (.inr (.inr (.inl q)))) : Ψ[q]? = some l := by
  unfold tj_lc at h
  split at h
  next l' c hk =>
    cases h
    obtain ⟨p, e1, e2⟩ := he r _ hk
    rw [hq] at e1
    cases e1
    exact e2
  next => cases h
theorem tj_keepC_ok {Λ : List tj_D} (hso : tj_SO Λ) {Ψ : List Nat} {env : List tj_y} {ρ : Nat → zx_V} (he : tj_env Ψ env ρ) {w w' : List zx_E} {e : tj_Ef} (hw : tj_wt Λ Ψ w) (hfr : tj_fr e Ψ w w') : ∀ {f : tj_f}, tj_keepC env e f = true → tj_fd ρ w f → tj_fd ρ w' f
  | (0, .inr r, .inl k, u), hk, ⟨q, ci, fs, h1, h2, h3⟩ => by
    simp only [tj_keepC] at hk
    split at hk
    next l hl =>
      have hq := tj_lc_ok he hl h1
      obtain ⟨fs', g1, g2⟩ := (hfr q l hq).1 ci fs h2
      refine ⟨q, ci, fs', h1, g1, ?_⟩
      rw [g2 k (by simpa using hk)]
      exact h3
    next => cases hk
  | (0, .inl _, .inl _, _), hk, _ => by cases hk
  | (0, _, .inr _, _), _, _ => trivial
  | (1, .inr r, i, u), hk, ⟨q, x, h1, h2, h3⟩ => by
    simp only [tj_keepC] at hk
    split at hk
    next l hl =>
      have hq := tj_lc_ok he hl h1
      have hn : tj_h1 l e.2 = false := by simpa using hk
      refine ⟨q, x, h1, h2, ?_⟩
      rcases h3 with ⟨kd, n, g, e1, e2⟩ | ⟨n, l', o, e1, e2, e3⟩
      · obtain ⟨f', g1, g2⟩ := (hfr q l hq).2 kd n (.inl g) e1
        rw [g2 hn] at g1
        exact Or.inl ⟨kd, n, g, g1, e2⟩
      · obtain ⟨f', g1, g2⟩ := (hfr q l hq).2 4 n (.inr (.inr l')) e1
        rw [g2 hn] at g1
        exact Or.inr ⟨n, l', o, g1, e2, e3⟩
    next => cases hk
  | (1, .inl _, _, _), hk, _ => by cases hk
  | (2, a, .inl b, c), _, h => h
  | (2, a, .inr b, c), _, h => h
  | (n + 3, a, b, c), hk, h => by
    have hk : (Nat.blt n 100 || tj_dj (tj_dep (n - 100)) e) = true := hk
    have h : tj_of n (tj_v ρ a) (tj_v ρ b) (tj_v ρ c) w := h
    show tj_of n (tj_v ρ a) (tj_v ρ b) (tj_v ρ c) _
    unfold tj_of at h ⊢
    cases hn : Nat.blt n 100 with
    | true => rw [hn] at h; exact h
    | false =>
      rw [hn] at h hk
      exact hso _ _ _ _ Ψ w _ e hw hfr hk h
/-- values narrowed by how a call ended -/
def tj_refi (F : List tj_f) : List tj_a → List tj_y → List tj_y → Option (List tj_y)
  | a :: av, t :: ts, env => match t.1, tj_iv env a with
    | 0, some _ => match tj_nar env F a t.2 with
      | none => none
      | some env1 => tj_refi F av ts env1
    | _, _ => tj_refi F av ts env
  | _, _, env => some env
theorem tj_refi_ok {Ψ : List Nat} {ρ : Nat → zx_V} {w : List zx_E} {F : List tj_f} (hF : ∀ g ∈ F, tj_fd ρ w g) : ∀ {av : List tj_a} {ts env : List tj_y}, tj_env Ψ env ρ → tj_typed Ψ (av.map (tj_v ρ)) ts → ∃ env', tj_refi F av ts env = some env' ∧ env'.length = env.length ∧ tj_env Ψ env' ρ
  | [], ts, env, he, _ => ⟨env, by cases ts <;> rfl, rfl, he⟩
  | a :: av, [], env, he, h => h.elim
  | a :: av, t :: ts, env, he, h => by
    obtain ⟨h1, h2⟩ := h
    unfold tj_refi
    split
    next p ht hi =>
      obtain ⟨t0, lo, hi'⟩ := t
      have ht : t0 = 0 := ht
      subst ht
      obtain ⟨x, hx, b1, b2⟩ := h1
      obtain ⟨env1, g1, g2, g3⟩ := tj_nar_ok he hF hi hx (q := (lo, hi')) b1 b2
      rw [g1]
      obtain ⟨env2, k1, k2, k3⟩ := tj_refi_ok hF g3 h2
      exact ⟨env2, k1, k2.trans g2, k3⟩
    next => exact tj_refi_ok hF he h2
def tj_out (pc : Nat) (L : List (Nat × tj_a)) (st : List tj_a) (env : List tj_y) (F : List tj_f) (av : List tj_a) (o : tj_O) : Option tj_S := match tj_refi F av o.1 env with
  | none => none
  | some env1 => some (pc, L, tj_idl env1.length o.2.1.toList.length ++ st, env1 ++ (o.2.1.toList ++ o.2.2.2.1), o.2.2.2.2.filterMap (tj_sf (av ++ tj_idl env1.length (o.2.1.toList.length + o.2.2.2.1.length))) ++ F)
def tj_call (E : tj_Ef) (CS : List tj_C) (y n : Nat) (A : tj_S) : Option (List tj_S) := match A with
  | (pc, L, st0, env, F) => match tj_take n [] st0 with
    | some (av, st) => match tj_findC y env F av CS with
      | some (_, _, e, os, _) => match (Nat.ble (tj_wo env st) 8 && av.all (tj_lim env.length)) && (tj_limS env.length L st (F.filter (tj_keepC env e)) && (tj_sub2 e.1 E.1 && tj_sub1 e.2 E.2)) with
        | true => some (os.filterMap (tj_out (pc + 3) L st env (F.filter (tj_keepC env e)) av))
        | false => none
      | none => none
    | none => none
/-- several new names -/
def tj_rho (ρ : Nat → zx_V) (n : Nat) (vs : List zx_V) : Nat → zx_V := fun k => match Nat.blt k n with
  | true => ρ k
  | false => (vs[k - n]?).getD (.inr (.inr (.inr 0)))
theorem tj_rho_lt {ρ : Nat → zx_V} {n k : Nat} {vs : List zx_V} (h : k < n) : tj_rho ρ n vs k = ρ k := by
  unfold tj_rho
  rw [show Nat.blt k n = true from Nat.ble_eq_true_of_le h]
theorem tj_rho_at {ρ : Nat → zx_V} {n i : Nat} {vs : List zx_V} {v : zx_V} (h : vs[i]? = some v) : tj_rho ρ n vs (n + i) = v := by
  unfold tj_rho
  have : Nat.blt (n + i) n = false := by
    cases e : Nat.blt (n + i) n with
    | false => rfl
    | true => have := tj_blt_t e; omega
  rw [this, Nat.add_sub_cancel_left, h]
  rfl
theorem tj_env_ext {Ψ : List Nat} {env ts : List tj_y} {ρ : Nat → zx_V} {vs : List zx_V} (he : tj_env Ψ env ρ) (ht : tj_typed Ψ vs ts) : tj_env Ψ (env ++ ts) (tj_rho ρ env.length vs) := by
  intro k t hk
  by_cases hl : k < env.length
  · rw [show (env ++ ts)[k]? = env[k]? from List.getElem?_append_left hl] at hk
    rw [tj_rho_lt hl]
    exact he k t hk
  · rw [List.getElem?_append_right (by omega)] at hk
    obtain ⟨v, h1, h2⟩ := tj_typed_at ht _ t hk
    have e : k = env.length + (k - env.length) := by omega
    rw [e, tj_rho_at h1]
    exact h2
theorem tj_typed_rng {Ψ : List Nat} : ∀ {ts : List tj_y} {g : Nat → zx_V}, (∀ j t, ts[j]? = some t → tj_vt Ψ t (g j)) → tj_typed Ψ ((List.range ts.length).map g) ts
  | [], _, _ => trivial
  | t :: ts, g, h => by
    rw [List.length_cons, List.range_succ_eq_map, List.map_cons, List.map_map]
    exact ⟨h 0 t rfl, tj_typed_rng (g := g ∘ Nat.succ) (fun j t' hj => h (j + 1) t' hj)⟩
section tjCall
variable {Λ : List tj_D} {cap : Nat × Nat} {E : tj_Ef} {Ψ0 : List Nat} {w0 : List zx_E}
theorem tj_limP_le {n m : Nat} (h : n ≤ m) {ls : List (Nat × zx_V)} (hl : zx_limP n ls = true) : zx_limP m ls = true := by
  refine List.all_eq_true.mpr (fun q hq => ?_)
  have := List.all_eq_true.mp hl q hq
  match q, this with
  | (k, .inl _), _ => rfl
  | (k, .inr (.inl _)), _ => rfl
  | (k, .inr (.inr (.inl p))), hp => exact Nat.ble_eq_true_of_le (Nat.le_trans (Nat.le_of_ble_eq_true hp) h)
  | (k, .inr (.inr (.inr _))), _ => rfl
theorem tj_len_le {Ψ Ψ' : List Nat} (h : tj_le Ψ Ψ') : Ψ.length ≤ Ψ'.length := by
  refine Nat.not_lt.mp (fun hl => ?_)
  have h1 := h Ψ'.length _ (List.getElem?_eq_getElem hl)
  have := (List.getElem?_eq_some_iff.mp h1).1
  omega
theorem tj_env_le {Ψ Ψ' : List Nat} (h : tj_le Ψ Ψ') {env : List tj_y} {ρ : Nat → zx_V} (he : tj_env Ψ env ρ) : tj_env Ψ' env ρ := fun k t hk => tj_vt_le h (he k t hk)
theorem tj_out_ok {pc mc ms : Nat} {L : List (Nat × tj_a)} {st : List tj_a} {env : List tj_y} {F : List tj_f} {av : List tj_a} {o : tj_O} {Ψ : List Nat} {ρ : Nat → zx_V} {w : List zx_E} {ls : List (Nat × zx_V)} {r : Option zx_V} (hW : tj_W Λ cap E Ψ0 w0 Ψ w mc ms) (hL : tj_L ρ L ls) (hls : zx_limP w.length ls = true) (he : tj_env Ψ env ρ) (hF : ∀ g ∈ F, tj_fd ρ w g) (hlim : tj_limS env.length L st F = true) (hav : av.all (tj_lim env.length) = true) (ht : tj_typed Ψ (av.map (tj_v ρ)) o.1) (hr : tj_retT Ψ o.2.1 r) (ho : tj_Ho Ψ w (av.map (tj_v ρ)) r o) : ∃ A' ρ', tj_out pc L st env F av o = some A' ∧ tj_G Λ cap E Ψ0 w0 A' Ψ ρ' (pc, ls, r.toList ++ st.map (tj_v ρ), w, mc, ms) ∧ env.length ≤ A'.2.2.2.1.length ∧ ∀ k, k < env.length → ρ' k = ρ k := by
  obtain ⟨env1, g1, g2, g3⟩ := tj_refi_ok hF he ht
  obtain ⟨ρo, o1, o2, o3⟩ := ho
  simp only [List.length_map] at o2
  simp only [tj_limS, Bool.and_eq_true] at hlim
  obtain ⟨l1, l2, l3⟩ := hlim
  have hvs : tj_typed Ψ ((List.range (o.2.1.toList ++ o.2.2.2.1).length).map (fun j => ρo (av.length + j))) (o.2.1.toList ++ o.2.2.2.1) := tj_typed_rng o2
  generalize hvd : (List.range (o.2.1.toList ++ o.2.2.2.1).length).map (fun j => ρo (av.length + j)) = vs at hvs
  have hvat : ∀ j, j < (o.2.1.toList ++ o.2.2.2.1).length → tj_rho ρ env1.length vs (env1.length + j) = ρo (av.length + j) := fun j hj => by
    refine tj_rho_at ?_
    rw [← hvd, List.getElem?_map, List.getElem?_range hj]
    rfl
  have hag : ∀ k, k < env.length → tj_rho ρ env1.length vs k = ρ k := fun k hk => tj_rho_lt (by rw [g2]; exact hk)
  have hrl : (tj_idl env1.length o.2.1.toList.length).map (tj_v (tj_rho ρ env1.length vs)) = r.toList := by
    cases hrt : o.2.1 with
    | none =>
      rw [hrt] at hr
      have hr : r = none := hr
      rw [hr]
      rfl
    | some t =>
      rw [hrt] at hr
      obtain ⟨v, hv, -⟩ := hr
      have e := hvat 0 (by rw [hrt]; show 0 < _ + 1; omega)
      have e2 := o1 av.length v (by rw [hv, List.getElem?_append_right (by rw [List.length_map]; exact Nat.le_refl _), List.length_map, Nat.sub_self]; rfl)
      rw [hv]
      show [tj_rho ρ env1.length vs env1.length] = [v]
      rw [show tj_rho ρ env1.length vs env1.length = ρo av.length from e, e2]
  have hθ : ∀ a b, tj_s (av ++ tj_idl env1.length (o.2.1.toList.length + o.2.2.2.1.length)) a = some b → tj_v ρo a = tj_v (tj_rho ρ env1.length vs) b := by
    intro a b hab
    cases a with
    | inl n => cases hab; rfl
    | inr k =>
      have hab : (av ++ tj_idl env1.length (o.2.1.toList.length + o.2.2.2.1.length))[k]? = some b := hab
      show ρo k = _
      by_cases hk : k < av.length
      · rw [List.getElem?_append_left hk] at hab
        rw [tj_lim_v hag (List.all_eq_true.mp hav b (List.mem_of_getElem? hab))]
        refine o1 k _ ?_
        rw [List.getElem?_append_left (by rw [List.length_map]; exact hk), List.getElem?_map, hab]
        rfl
      · rw [List.getElem?_append_right (by omega)] at hab
        have hz := (List.getElem?_eq_some_iff.mp hab).1
        rw [tj_idl_len] at hz
        rw [tj_idl_at hz] at hab
        cases hab
        show ρo k = tj_rho ρ env1.length vs (env1.length + (k - av.length))
        rw [hvat _ (by rw [List.length_append]; exact hz), show av.length + (k - av.length) = k by omega]
  unfold tj_out
  rw [g1]
  refine ⟨_, tj_rho ρ env1.length vs, rfl, ⟨ls, w, mc, ms, ?_, hW, tj_L_lim hag l1 hL, hls, tj_env_ext g3 hvs, fun g hg => ?_⟩, ?_, hag⟩
  · show _ = (pc, ls, (tj_idl env1.length o.2.1.toList.length ++ st).map (tj_v (tj_rho ρ env1.length vs)), w, mc, ms)
    rw [List.map_append, hrl, tj_st_lim hag l2]
  · rcases List.mem_append.mp hg with e | e
    · obtain ⟨f, h1, h2⟩ := List.mem_filterMap.mp e
      unfold tj_sf at h2
      split at h2
      next h3 =>
        split at h2
        next a b c ha hb hc =>
          cases h2
          exact tj_fd_s2 hθ ha hb hc h3 (o3 f h1)
        next => cases h2
      next => cases h2
    · exact tj_lim_f hag (List.all_eq_true.mp l3 g e) (hF g e)
  · show env.length ≤ (env1 ++ _).length
    rw [List.length_append, g2]
    exact Nat.le_add_right _ _
theorem tj_call_ok (hso : tj_SO Λ) {K : zx_K} {CS : List tj_C} (hKS : tj_KS K Λ CS) {y n : Nat} {A : tj_S} {As : List tj_S} (h : tj_call E CS y n A = some As) : tj_sim Λ cap E Ψ0 w0 (zx_callS K cap y n) A As := by
  obtain ⟨pc, L, st0, env, F⟩ := A
  intro Ψ ρ σ ⟨ls, w, mc, ms, hσ, hW, hL, hls, he, hF⟩
  subst hσ
  simp only [tj_call] at h
  split at h
  next av st ht =>
    split at h
    next y' ts e os pre hf =>
      split at h
      next hz =>
        cases h
        simp only [Bool.and_eq_true] at hz
        obtain ⟨⟨z1, z2⟩, z3, z4, z5⟩ := hz
        obtain ⟨f1, f2, f3⟩ := tj_findC_ok hf
        have f2 : y = y' := f2
        subst f2
        obtain ⟨p1, p2⟩ := tj_preOk_ok he hF f3
        obtain ⟨r, cy, Ψ', o, hK, c1, c2, hle, hw', hfr, ho, hto, hro, hfo⟩ := hKS _ f1 Ψ (av.map (tj_v ρ)) w hW.1 p1 p2
        have hlen : w.length ≤ r.2.length := by
          rw [← hW.1.1, ← hw'.1]
          exact tj_len_le hle
        have hW' : tj_W Λ cap E Ψ0 w0 Ψ' r.2 (mc + cy.1) (ms + cy.2) := ⟨hw', by have := hW.2.1; omega, tj_le_tr hW.2.2.1 hle, tj_fr_tr hW.2.2.2 hfr hW.2.2.1 z4 z5⟩
        have hF' : ∀ g ∈ F.filter (tj_keepC env e), tj_fd ρ r.2 g := fun g hg => by
          obtain ⟨k1, k2⟩ := List.mem_filter.mp hg
          exact tj_keepC_ok hso he hW.1 hfr k2 (hF g k1)
        obtain ⟨A', ρ', o1, o2, o3, o4⟩ := tj_out_ok (pc := pc + 3) (L := L) (st := st) (o := o) hW' hL (tj_limP_le hlen hls) (tj_env_le hle he) hF' z3 z2 hto hro hfo
        have z3' := z3
        simp only [tj_limS, Bool.and_eq_true] at z3'
        refine ⟨_, Ψ', ρ', A', ?_, List.mem_filterMap.mpr ⟨o, ho, o1⟩, o2, o3, o4⟩
        refine ⟨av.map (tj_v ρ), st.map (tj_v ρ), cy, r, tj_take_ok (ρ := ρ) ht, Nat.le_trans (tj_wo_ok he) (Nat.le_of_ble_eq_true z1), hls, List.all_eq_true.mpr (fun v hv => ?_), by have := hW.2.1; omega, by have := hW.2.1; omega, hK, rfl⟩
        obtain ⟨a, ha, e⟩ := List.mem_map.mp hv
        rw [← e]
        exact tj_alim hW.1 he (List.all_eq_true.mp z3'.2.1 a ha)
      next => cases h
    next => cases h
  next => cases h
end tjCall
