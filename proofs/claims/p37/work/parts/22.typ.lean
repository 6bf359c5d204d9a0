/-! typed worlds: a type of values is (0, lo, hi) an int with lo ≤ x + 2^31 ≤ hi, (1, l, _) a cell of location l, (2, l, _) null or such a cell, (3, _, _) a long; a location is an object's (kind, types of its fields) or an array's (kind, length, type of what lies in it) -/
abbrev ti_y : Type := Nat × Nat × Nat
abbrev ti_D : Type := (Nat × List ti_y) ⊕ (Nat × Nat × ti_y)
def ti_vt (Ψ : List Nat) (t : ti_y) (v : zx_V) : Prop := match t with
  | (0, lo, hi) => ∃ x, v = (.inl x) ∧ lo ≤ zx_b x ∧ zx_b x ≤ hi
  | (1, l, _) => ∃ q, v = (.inr (.inr (.inl q))) ∧ Ψ[q]? = some l
  | (2, l, _) => v = (.inr (.inr (.inr 0))) ∨ ∃ q, v = (.inr (.inr (.inl q))) ∧ Ψ[q]? = some l
  | _ => ∃ x, v = (.inr (.inl x))
/-- what lies in an array -/
def ti_at (Ψ : List Nat) (kd n : Nat) (t : ti_y) (f : zx_A) : Prop := match f with
  | .inl g => (kd = 0 ∨ kd = 2 ∨ kd = 3) ∧ ∀ j, j < n → ti_vt Ψ t (.inl (g j))
  | .inr (.inl _) => kd = 1
  | .inr (.inr l) => kd = 4 ∧ l.length = n ∧ ∀ o ∈ l, ti_vt Ψ t (zx_ref o)
def ti_ct (Ψ : List Nat) (d : ti_D) (e : zx_E) : Prop := match d, e with
  | .inl (ci, fts), .inl (c, fs) => c = ci ∧ fs.length = fts.length ∧ ∀ (k : Nat) (t : ti_y) (v : zx_V), fts[k]? = some t → fs[k]? = some v → ti_vt Ψ t v
  | .inr (kd, n, t), .inr (kd', n', f) => kd' = kd ∧ n' = n ∧ ti_at Ψ kd n t f
  | _, _ => False
def ti_wt (Λ : List ti_D) (Ψ : List Nat) (w : List zx_E) : Prop := Ψ.length = w.length ∧ ∀ (q : Nat) (e : zx_E), w[q]? = some e → ∃ l d, Ψ[q]? = some l ∧ Λ[l]? = some d ∧ ti_ct Ψ d e
section tiHeap
variable {Λ : List ti_D} {Ψ : List Nat} {w : List zx_E}
theorem ti_cell (hw : ti_wt Λ Ψ w) {q l : Nat} {d : ti_D} (hq : Ψ[q]? = some l) (hd : Λ[l]? = some d) : ∃ e, w[q]? = some e ∧ ti_ct Ψ d e := by
  have hlt : q < w.length := by rw [← hw.1]; exact (List.getElem?_eq_some_iff.mp hq).1
  obtain ⟨l', d', h1, h2, h3⟩ := hw.2 q w[q] (List.getElem?_eq_getElem hlt)
  rw [hq] at h1
  cases h1
  rw [hd] at h2
  cases h2
  exact ⟨_, List.getElem?_eq_getElem hlt, h3⟩
theorem ti_obj (hw : ti_wt Λ Ψ w) {q l ci : Nat} {fts : List ti_y} (hq : Ψ[q]? = some l) (hd : Λ[l]? = some (.inl (ci, fts))) : ∃ fs, w[q]? = some (.inl (ci, fs)) ∧ fs.length = fts.length ∧ ∀ (k : Nat) (t : ti_y), fts[k]? = some t → ∃ v, fs[k]? = some v ∧ ti_vt Ψ t v := by
  obtain ⟨e, he, hc⟩ := ti_cell hw hq hd
  match e, hc with
  | .inl (c, fs), ⟨h1, h2, h3⟩ =>
    subst h1
    refine ⟨fs, he, h2, fun k t hk => ?_⟩
    have hlt : k < fs.length := by rw [h2]; exact (List.getElem?_eq_some_iff.mp hk).1
    exact ⟨fs[k], List.getElem?_eq_getElem hlt, h3 k t _ hk (List.getElem?_eq_getElem hlt)⟩
theorem ti_arr (hw : ti_wt Λ Ψ w) {q l kd n : Nat} {t : ti_y} (hq : Ψ[q]? = some l) (hd : Λ[l]? = some (.inr (kd, n, t))) : ∃ f, w[q]? = some (.inr (kd, n, f)) ∧ ti_at Ψ kd n t f := by
  obtain ⟨e, he, hc⟩ := ti_cell hw hq hd
  match e, hc with
  | .inr (kd', n', f), ⟨h1, h2, h3⟩ =>
    subst h1
    subst h2
    exact ⟨f, he, h3⟩
theorem ti_iarr (hw : ti_wt Λ Ψ w) {q l kd n : Nat} {t : ti_y} (hq : Ψ[q]? = some l) (hd : Λ[l]? = some (.inr (kd, n, t))) (hk : kd = 0 ∨ kd = 2 ∨ kd = 3) : ∃ g, w[q]? = some (.inr (kd, n, .inl g)) ∧ ∀ j, j < n → ti_vt Ψ t (.inl (g j)) := by
  obtain ⟨f, he, ha⟩ := ti_arr hw hq hd
  match f, ha with
  | .inl g, ha => exact ⟨g, he, ha.2⟩
  | .inr (.inl _), ha =>
    have ha : kd = 1 := ha
    omega
  | .inr (.inr _), ha =>
    have ha : kd = 4 := ha.1
    omega
theorem ti_larr (hw : ti_wt Λ Ψ w) {q l n : Nat} {t : ti_y} (hq : Ψ[q]? = some l) (hd : Λ[l]? = some (.inr (1, n, t))) : ∃ g, w[q]? = some (.inr (1, n, .inr (.inl g))) := by
  obtain ⟨f, he, ha⟩ := ti_arr hw hq hd
  match f, ha with
  | .inl g, ha =>
    have h1 := ha.1
    omega
  | .inr (.inl g), _ => exact ⟨g, he⟩
  | .inr (.inr _), ha =>
    have h1 : 1 = 4 := ha.1
    omega
theorem ti_qarr (hw : ti_wt Λ Ψ w) {q l n : Nat} {t : ti_y} (hq : Ψ[q]? = some l) (hd : Λ[l]? = some (.inr (4, n, t))) : ∃ lr, w[q]? = some (.inr (4, n, .inr (.inr lr))) ∧ lr.length = n ∧ ∀ o ∈ lr, ti_vt Ψ t (zx_ref o) := by
  obtain ⟨f, he, ha⟩ := ti_arr hw hq hd
  match f, ha with
  | .inl g, ha =>
    have h1 := ha.1
    omega
  | .inr (.inl _), ha =>
    have h1 : 4 = 1 := ha
    omega
  | .inr (.inr lr), ha => exact ⟨lr, he, ha.2⟩
/-- a cell replaced by one of its type -/
theorem ti_set (hw : ti_wt Λ Ψ w) {q l : Nat} {d : ti_D} {e : zx_E} (hq : Ψ[q]? = some l) (hd : Λ[l]? = some d) (he : ti_ct Ψ d e) : ti_wt Λ Ψ (w.set q e) := by
  refine ⟨by rw [List.length_set]; exact hw.1, fun p x hx => ?_⟩
  by_cases hpq : q = p
  · subst hpq
    have hlt : q < w.length := by rw [← hw.1]; exact (List.getElem?_eq_some_iff.mp hq).1
    rw [List.getElem?_set_self hlt] at hx
    cases hx
    exact ⟨l, d, hq, hd, he⟩
  · rw [List.getElem?_set_ne hpq] at hx
    exact hw.2 p x hx
theorem ti_setf (hw : ti_wt Λ Ψ w) {q l ci k : Nat} {fts : List ti_y} {fs : List zx_V} {t : ti_y} {v : zx_V} (hq : Ψ[q]? = some l) (hd : Λ[l]? = some (.inl (ci, fts))) (hf : w[q]? = some (.inl (ci, fs))) (hk : fts[k]? = some t) (hv : ti_vt Ψ t v) : ti_wt Λ Ψ (w.set q (.inl (ci, (fs.set k v)))) := by
  obtain ⟨e, he, hc⟩ := ti_cell hw hq hd
  rw [hf] at he
  cases he
  obtain ⟨h1, h2, h3⟩ := hc
  refine ti_set hw hq hd ⟨rfl, by rw [List.length_set]; exact h2, fun j t' v' hj hv' => ?_⟩
  by_cases hjk : k = j
  · subst hjk
    have hlt : k < fs.length := by rw [h2]; exact (List.getElem?_eq_some_iff.mp hk).1
    rw [List.getElem?_set_self hlt] at hv'
    cases hv'
    rw [hk] at hj
    cases hj
    exact hv
  · rw [List.getElem?_set_ne hjk] at hv'
    exact h3 j t' v' hj hv'
theorem ti_seti (hw : ti_wt Λ Ψ w) {q l kd n i : Nat} {t : ti_y} {g : Nat → Int32} {x : Int32} (hq : Ψ[q]? = some l) (hd : Λ[l]? = some (.inr (kd, n, t))) (hf : w[q]? = some (.inr (kd, n, .inl g))) (hv : ti_vt Ψ t (.inl x)) : ti_wt Λ Ψ (w.set q (.inr (kd, n, .inl (upd g i x)))) := by
  obtain ⟨e, he, hc⟩ := ti_cell hw hq hd
  rw [hf] at he
  cases he
  obtain ⟨h1, h2, h3, h4⟩ := hc
  refine ti_set hw hq hd ⟨rfl, rfl, h3, fun j hj => ?_⟩
  unfold upd
  split
  · exact hv
  · exact h4 j hj
theorem ti_setl (hw : ti_wt Λ Ψ w) {q l n : Nat} {t : ti_y} {g : Nat → Int64} (hq : Ψ[q]? = some l) (hd : Λ[l]? = some (.inr (1, n, t))) : ti_wt Λ Ψ (w.set q (.inr (1, n, .inr (.inl g)))) :=
  ti_set hw hq hd ⟨rfl, rfl, rfl⟩
theorem ti_setq (hw : ti_wt Λ Ψ w) {q l n i v : Nat} {t : ti_y} {lr : List (Option Nat)} (hq : Ψ[q]? = some l) (hd : Λ[l]? = some (.inr (4, n, t))) (hl : lr.length = n) (hr : ∀ o ∈ lr, ti_vt Ψ t (zx_ref o)) (hv : ti_vt Ψ t (.inr (.inr (.inl v)))) : ti_wt Λ Ψ (w.set q (.inr (4, n, .inr (.inr (lr.set i (some v)))))) := by
  refine ti_set hw hq hd ⟨rfl, rfl, rfl, by rw [List.length_set]; exact hl, fun o ho => ?_⟩
  rcases List.mem_or_eq_of_mem_set ho with h | h
  · exact hr o h
  · rw [h]; exact hv
/-- every value that is typed speaks of cells that are there -/
theorem ti_vlim (hw : ti_wt Λ Ψ w) {t : ti_y} {v : zx_V} (hv : ti_vt Ψ t v) : zx_lim w.length v = true := by
  have hr : ∀ q l, Ψ[q]? = some l → Nat.blt q w.length = true := fun q l h => by
    rw [← hw.1]
    exact Nat.ble_eq_true_of_le (List.getElem?_eq_some_iff.mp h).1
  match t, hv with
  | (0, lo, hi), ⟨x, e, _⟩ => rw [e]; rfl
  | (1, l, _), ⟨q, e, h⟩ => rw [e]; exact hr q l h
  | (2, l, _), Or.inl e => rw [e]; rfl
  | (2, l, _), Or.inr ⟨q, e, h⟩ => rw [e]; exact hr q l h
  | (n + 3, a, c), ⟨x, e⟩ => rw [e]; rfl
end tiHeap
