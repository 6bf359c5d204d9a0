/-! typed worlds: a type of values is (0, lo, hi) an int with lo ≤ x + 2^31 ≤ hi, (1, l, _) a cell of location l, (2, l, _) null or such a cell, (3, _, _) a long; a location is an object's (kind, its rule, types of its fields) or an array's (kind, length, bounds of what lies in it: (up to which index, lo, hi), of States: (_, l, _)) -/
abbrev tj_y : Type := Nat × Nat × Nat
abbrev tj_D : Type := (Nat × Nat × List tj_y) ⊕ (Nat × Nat × List tj_y)
def tj_vt (Ψ : List Nat) (t : tj_y) (v : zx_V) : Prop := match t with
  | (0, lo, hi) => ∃ x, v = (.inl x) ∧ lo ≤ zx_b x ∧ zx_b x ≤ hi
  | (1, l, _) => ∃ q, v = (.inr (.inr (.inl q))) ∧ Ψ[q]? = some l
  | (2, l, _) => v = (.inr (.inr (.inr 0))) ∨ ∃ q, v = (.inr (.inr (.inl q))) ∧ Ψ[q]? = some l
  | _ => ∃ x, v = (.inr (.inl x))
def tj_le (Ψ Ψ' : List Nat) : Prop := ∀ (q l : Nat), Ψ[q]? = some l → Ψ'[q]? = some l
theorem tj_le_rf {Ψ : List Nat} : tj_le Ψ Ψ := fun _ _ h => h
theorem tj_le_tr {Ψ Ψ' Ψ'' : List Nat} (h : tj_le Ψ Ψ') (h' : tj_le Ψ' Ψ'') : tj_le Ψ Ψ'' := fun q l e => h' q l (h q l e)
theorem tj_vt_le {Ψ Ψ' : List Nat} (hle : tj_le Ψ Ψ') : ∀ {t : tj_y} {v : zx_V}, tj_vt Ψ t v → tj_vt Ψ' t v
  | (0, _, _), _, h => h
  | (1, _, _), _, ⟨q, e, h⟩ => ⟨q, e, hle _ _ h⟩
  | (2, _, _), _, Or.inl e => Or.inl e
  | (2, _, _), _, Or.inr ⟨q, e, h⟩ => Or.inr ⟨q, e, hle _ _ h⟩
  | (_ + 3, _, _), _, h => h
/-- bounds at an index -/
def tj_sel : List tj_y → Nat → Option (Nat × Nat)
  | [], _ => none
  | (u, lo, hi) :: r, j => match Nat.blt j u with
    | true => some (lo, hi)
    | false => tj_sel r j
def tj_loc : List tj_y → Nat
  | (_, l, _) :: _ => l
  | [] => 0
/-- bounds of all from lo to hi -/
def tj_rd : List tj_y → Nat → Nat → Option (Nat × Nat)
  | [], _, _ => none
  | (u, a, b) :: r, lo, hi => match Nat.blt hi u with
    | true => some (a, b)
    | false => match Nat.ble u lo with
      | true => tj_rd r lo hi
      | false => match tj_rd r u hi with
        | some (c, d) => some (Nat.min a c, Nat.max b d)
        | none => none
theorem tj_blt_t {a b : Nat} (h : Nat.blt a b = true) : a < b := Nat.le_of_ble_eq_true h
theorem tj_blt_f {a b : Nat} (h : Nat.blt a b = false) : b ≤ a := by
  refine Nat.not_lt.mp (fun q => ?_)
  have : Nat.blt a b = true := Nat.ble_eq_true_of_le q
  rw [this] at h
  cases h
theorem tj_ble_f {a b : Nat} (h : Nat.ble a b = false) : b < a := by
  refine Nat.not_le.mp (fun q => ?_)
  have : Nat.ble a b = true := Nat.ble_eq_true_of_le q
  rw [this] at h
  cases h
theorem tj_rd_ok : ∀ {s : List tj_y} {lo hi A B : Nat}, tj_rd s lo hi = some (A, B) → ∀ j, lo ≤ j → j ≤ hi → ∃ a b, tj_sel s j = some (a, b) ∧ A ≤ a ∧ b ≤ B
  | [], _, _, _, _, h, _, _, _ => by cases h
  | (u, a, b) :: r, lo, hi, A, B, h, j, h1, h2 => by
    unfold tj_rd at h
    unfold tj_sel
    split at h
    next hu =>
      cases h
      have hu := tj_blt_t hu
      have hj : Nat.blt j u = true := Nat.ble_eq_true_of_le (by omega)
      rw [hj]
      exact ⟨_, _, rfl, Nat.le_refl _, Nat.le_refl _⟩
    next hu =>
      split at h
      next hl =>
        have hl := Nat.le_of_ble_eq_true hl
        cases hj : Nat.blt j u with
        | true =>
          have := tj_blt_t hj
          omega
        | false => exact tj_rd_ok h j h1 h2
      next hl =>
        split at h
        next c d hr =>
          cases h
          cases hj : Nat.blt j u with
          | true => exact ⟨_, _, rfl, Nat.min_le_left _ _, Nat.le_max_left _ _⟩
          | false =>
            obtain ⟨a', b', e1, e2, e3⟩ := tj_rd_ok hr j (tj_blt_f hj) h2
            exact ⟨a', b', e1, Nat.le_trans (Nat.min_le_right _ _) e2, Nat.le_trans e3 (Nat.le_max_right _ _)⟩
        next => cases h
/-- such a value may lie at all from lo to hi -/
def tj_wr (tl th : Nat) : List tj_y → Nat → Nat → Bool
  | [], _, _ => true
  | (u, a, b) :: r, lo, hi => match Nat.ble u lo with
    | true => tj_wr tl th r lo hi
    | false => (Nat.ble a tl && Nat.ble th b) && (match Nat.blt hi u with
      | true => true
      | false => tj_wr tl th r u hi)
theorem tj_wr_ok {tl th : Nat} : ∀ {s : List tj_y} {lo hi : Nat}, tj_wr tl th s lo hi = true → ∀ j, lo ≤ j → j ≤ hi → ∀ a b, tj_sel s j = some (a, b) → a ≤ tl ∧ th ≤ b
  | [], _, _, _, _, _, _, _, _, h => by cases h
  | (u, a, b) :: r, lo, hi, h, j, h1, h2, a', b', hs => by
    unfold tj_wr at h
    unfold tj_sel at hs
    split at h
    next hl =>
      have hl := Nat.le_of_ble_eq_true hl
      split at hs
      next hj =>
        have := tj_blt_t hj
        omega
      next => exact tj_wr_ok h j h1 h2 a' b' hs
    next =>
      simp only [Bool.and_eq_true] at h
      split at hs
      next hj =>
        cases hs
        exact ⟨Nat.le_of_ble_eq_true h.1.1, Nat.le_of_ble_eq_true h.1.2⟩
      next hj =>
        have hj := tj_blt_f hj
        have h3 := h.2
        split at h3
        next hu =>
          have := tj_blt_t hu
          omega
        next => exact tj_wr_ok h3 j hj h2 a' b' hs
/-- rules of objects: 1: what lies in the fields 4 and 5 is together at most 40; 2: where 3 lies in field 10, field 12 is from 0 to 9999; 3: as 1, of the fields 51 and 52 -/
def tj_inv (r : Nat) (fs : List zx_V) : Prop := match r with
  | 1 => ∃ x y, fs[4]? = some (.inl x) ∧ fs[5]? = some (.inl y) ∧ zx_b x + zx_b y ≤ 4294967336
  | 3 => ∃ x y, fs[51]? = some (.inl x) ∧ fs[52]? = some (.inl y) ∧ zx_b x + zx_b y ≤ 4294967336
  | 2 => ∀ x y, fs[10]? = some (.inl x) → fs[12]? = some (.inl y) → zx_b x = 2147483651 → 2147483648 ≤ zx_b y ∧ zx_b y ≤ 2147493647
  | _ => True
def tj_invk (r k : Nat) : Bool := match r with
  | 1 => !(Nat.beq k 4) && !(Nat.beq k 5)
  | 3 => !(Nat.beq k 51) && !(Nat.beq k 52)
  | 2 => !(Nat.beq k 10) && !(Nat.beq k 12)
  | _ => true
theorem tj_invk_ok {r k : Nat} {fs : List zx_V} {v : zx_V} (h : tj_invk r k = true) (hi : tj_inv r fs) : tj_inv r (fs.set k v) := by
  unfold tj_invk at h
  unfold tj_inv at hi ⊢
  split at h
  next =>
    obtain ⟨x, y, h1, h2, h3⟩ := hi
    simp only [Bool.and_eq_true, Bool.not_eq_true'] at h
    have k4 : k ≠ 4 := fun e => by rw [e] at h; cases h.1
    have k5 : k ≠ 5 := fun e => by rw [e] at h; cases h.2
    exact ⟨x, y, by rw [List.getElem?_set_ne k4]; exact h1, by rw [List.getElem?_set_ne k5]; exact h2, h3⟩
  next =>
    obtain ⟨x, y, h1, h2, h3⟩ := hi
    simp only [Bool.and_eq_true, Bool.not_eq_true'] at h
    have k4 : k ≠ 51 := fun e => by rw [e] at h; cases h.1
    have k5 : k ≠ 52 := fun e => by rw [e] at h; cases h.2
    exact ⟨x, y, by rw [List.getElem?_set_ne k4]; exact h1, by rw [List.getElem?_set_ne k5]; exact h2, h3⟩
  next =>
    simp only [Bool.and_eq_true, Bool.not_eq_true'] at h
    have k4 : k ≠ 10 := fun e => by rw [e] at h; cases h.1
    have k5 : k ≠ 12 := fun e => by rw [e] at h; cases h.2
    intro x y h1 h2
    rw [List.getElem?_set_ne k4] at h1
    rw [List.getElem?_set_ne k5] at h2
    exact hi x y h1 h2
  next hr => trivial
/-- by the value's bounds -/
def tj_invv (r k lo hi : Nat) : Bool := match r, k with
  | 2, 10 => Nat.blt hi 2147483651 || Nat.blt 2147483651 lo
  | _, _ => false
theorem tj_invv_ok {r k lo hi : Nat} {fs : List zx_V} {x : Int32} (h : tj_invv r k lo hi = true) (h1 : lo ≤ zx_b x) (h2 : zx_b x ≤ hi) : tj_inv r (fs.set k (.inl x)) := by
  unfold tj_invv at h
  split at h
  next =>
    rw [Bool.or_eq_true] at h
    intro a b e1 e2 e3
    have ex : a = x := by
      by_cases hl : 10 < fs.length
      · rw [List.getElem?_set_self hl] at e1
        exact (Sum.inl.inj (Option.some.inj e1)).symm
      · rw [List.getElem?_eq_none (by rw [List.length_set]; omega)] at e1
        cases e1
    subst ex
    rcases h with h | h
    · have := tj_blt_t h
      omega
    · have := tj_blt_t h
      omega
  next => cases h
/-- what lies in an array -/
def tj_at (Ψ : List Nat) (kd n : Nat) (s : List tj_y) (f : zx_A) : Prop := match f with
  | .inl g => (kd = 0 ∨ kd = 2 ∨ kd = 3) ∧ ∀ j, j < n → ∀ a b, tj_sel s j = some (a, b) → a ≤ zx_b (g j) ∧ zx_b (g j) ≤ b
  | .inr (.inl _) => kd = 1
  | .inr (.inr l) => kd = 4 ∧ l.length = n ∧ ∀ o ∈ l, tj_vt Ψ (2, tj_loc s, 0) (zx_ref o)
def tj_ct (Ψ : List Nat) (d : tj_D) (e : zx_E) : Prop := match d, e with
  | .inl (ci, r, fts), .inl (c, fs) => c = ci ∧ fs.length = fts.length ∧ (∀ (k : Nat) (t : tj_y) (v : zx_V), fts[k]? = some t → fs[k]? = some v → tj_vt Ψ t v) ∧ tj_inv r fs
  | .inr (kd, n, s), .inr (kd', n', f) => kd' = kd ∧ n' = n ∧ tj_at Ψ kd n s f
  | _, _ => False
def tj_wt (Λ : List tj_D) (Ψ : List Nat) (w : List zx_E) : Prop := Ψ.length = w.length ∧ ∀ (q : Nat) (e : zx_E), w[q]? = some e → ∃ l d, Ψ[q]? = some l ∧ Λ[l]? = some d ∧ tj_ct Ψ d e
section tjHeap
variable {Λ : List tj_D} {Ψ : List Nat} {w : List zx_E}
theorem tj_cell (hw : tj_wt Λ Ψ w) {q l : Nat} {d : tj_D} (hq : Ψ[q]? = some l) (hd : Λ[l]? = some d) : ∃ e, w[q]? = some e ∧ tj_ct Ψ d e := by
  have hlt : q < w.length := by rw [← hw.1]; exact (List.getElem?_eq_some_iff.mp hq).1
  obtain ⟨l', d', h1, h2, h3⟩ := hw.2 q w[q] (List.getElem?_eq_getElem hlt)
  rw [hq] at h1
  cases h1
  rw [hd] at h2
  cases h2
  exact ⟨_, List.getElem?_eq_getElem hlt, h3⟩
theorem tj_obj (hw : tj_wt Λ Ψ w) {q l ci r : Nat} {fts : List tj_y} (hq : Ψ[q]? = some l) (hd : Λ[l]? = some (.inl (ci, r, fts))) : ∃ fs, w[q]? = some (.inl (ci, fs)) ∧ fs.length = fts.length ∧ tj_inv r fs ∧ ∀ (k : Nat) (t : tj_y), fts[k]? = some t → ∃ v, fs[k]? = some v ∧ tj_vt Ψ t v := by
  obtain ⟨e, he, hc⟩ := tj_cell hw hq hd
  match e, hc with
  | .inl (c, fs), ⟨h1, h2, h3, h4⟩ =>
    subst h1
    refine ⟨fs, he, h2, h4, fun k t hk => ?_⟩
    have hlt : k < fs.length := by rw [h2]; exact (List.getElem?_eq_some_iff.mp hk).1
    exact ⟨fs[k], List.getElem?_eq_getElem hlt, h3 k t _ hk (List.getElem?_eq_getElem hlt)⟩
theorem tj_arr (hw : tj_wt Λ Ψ w) {q l kd n : Nat} {s : List tj_y} (hq : Ψ[q]? = some l) (hd : Λ[l]? = some (.inr (kd, n, s))) : ∃ f, w[q]? = some (.inr (kd, n, f)) ∧ tj_at Ψ kd n s f := by
  obtain ⟨e, he, hc⟩ := tj_cell hw hq hd
  match e, hc with
  | .inr (kd', n', f), ⟨h1, h2, h3⟩ =>
    subst h1
    subst h2
    exact ⟨f, he, h3⟩
theorem tj_iarr (hw : tj_wt Λ Ψ w) {q l kd n : Nat} {s : List tj_y} (hq : Ψ[q]? = some l) (hd : Λ[l]? = some (.inr (kd, n, s))) (hk : kd = 0 ∨ kd = 2 ∨ kd = 3) : ∃ g, w[q]? = some (.inr (kd, n, .inl g)) ∧ ∀ j, j < n → ∀ a b, tj_sel s j = some (a, b) → a ≤ zx_b (g j) ∧ zx_b (g j) ≤ b := by
  obtain ⟨f, he, ha⟩ := tj_arr hw hq hd
  match f, ha with
  | .inl g, ha => exact ⟨g, he, ha.2⟩
  | .inr (.inl _), ha =>
    have ha : kd = 1 := ha
    omega
  | .inr (.inr _), ha =>
    have ha : kd = 4 := ha.1
    omega
theorem tj_larr (hw : tj_wt Λ Ψ w) {q l n : Nat} {s : List tj_y} (hq : Ψ[q]? = some l) (hd : Λ[l]? = some (.inr (1, n, s))) : ∃ g, w[q]? = some (.inr (1, n, .inr (.inl g))) := by
  obtain ⟨f, he, ha⟩ := tj_arr hw hq hd
  match f, ha with
  | .inl g, ha =>
    have h1 := ha.1
    omega
  | .inr (.inl g), _ => exact ⟨g, he⟩
  | .inr (.inr _), ha =>
    have h1 : 1 = 4 := ha.1
    omega
theorem tj_qarr (hw : tj_wt Λ Ψ w) {q l n : Nat} {s : List tj_y} (hq : Ψ[q]? = some l) (hd : Λ[l]? = some (.inr (4, n, s))) : ∃ lr, w[q]? = some (.inr (4, n, .inr (.inr lr))) ∧ lr.length = n ∧ ∀ o ∈ lr, tj_vt Ψ (2, tj_loc s, 0) (zx_ref o) := by
  obtain ⟨f, he, ha⟩ := tj_arr hw hq hd
  match f, ha with
  | .inl g, ha =>
    have h1 := ha.1
    omega
  | .inr (.inl _), ha =>
    have h1 : 4 = 1 := ha
    omega
  | .inr (.inr lr), ha => exact ⟨lr, he, ha.2⟩
/-- a cell replaced by one of its type -/
theorem tj_set (hw : tj_wt Λ Ψ w) {q l : Nat} {d : tj_D} {e : zx_E} (hq : Ψ[q]? = some l) (hd : Λ[l]? = some d) (he : tj_ct Ψ d e) : tj_wt Λ Ψ (w.set q e) := by
  refine ⟨by rw [List.length_set]; exact hw.1, fun p x hx => ?_⟩
  by_cases hpq : q = p
  · subst hpq
    have hlt : q < w.length := by rw [← hw.1]; exact (List.getElem?_eq_some_iff.mp hq).1
    rw [List.getElem?_set_self hlt] at hx
    cases hx
    exact ⟨l, d, hq, hd, he⟩
  · rw [List.getElem?_set_ne hpq] at hx
    exact hw.2 p x hx
theorem tj_setf (hw : tj_wt Λ Ψ w) {q l ci r k : Nat} {fts : List tj_y} {fs : List zx_V} {t : tj_y} {v : zx_V} (hq : Ψ[q]? = some l) (hd : Λ[l]? = some (.inl (ci, r, fts))) (hf : w[q]? = some (.inl (ci, fs))) (hk : fts[k]? = some t) (hv : tj_vt Ψ t v) (hr : tj_inv r (fs.set k v)) : tj_wt Λ Ψ (w.set q (.inl (ci, (fs.set k v)))) := by
  obtain ⟨e, he, hc⟩ := tj_cell hw hq hd
  rw [hf] at he
  cases he
  obtain ⟨h1, h2, h3, h4⟩ := hc
  refine tj_set hw hq hd ⟨rfl, by rw [List.length_set]; exact h2, fun j t' v' hj hv' => ?_, hr⟩
  by_cases hjk : k = j
  · subst hjk
    have hlt : k < fs.length := by rw [h2]; exact (List.getElem?_eq_some_iff.mp hk).1
    rw [List.getElem?_set_self hlt] at hv'
    cases hv'
    rw [hk] at hj
    cases hj
    exact hv
  · rw [List.getElem?_set_ne hjk] at hv'
    exact h3 j t' v' hj hv'
theorem tj_seti (hw : tj_wt Λ Ψ w) {q l kd n i : Nat} {s : List tj_y} {g : Nat → Int32} {x : Int32} (hq : Ψ[q]? = some l) (hd : Λ[l]? = some (.inr (kd, n, s))) (hf : w[q]? = some (.inr (kd, n, .inl g))) (hv : ∀ a b, tj_sel s i = some (a, b) → a ≤ zx_b x ∧ zx_b x ≤ b) : tj_wt Λ Ψ (w.set q (.inr (kd, n, .inl (upd g i x)))) := by
  obtain ⟨e, he, hc⟩ := tj_cell hw hq hd
  rw [hf] at he
  cases he
  obtain ⟨h1, h2, h3, h4⟩ := hc
  refine tj_set hw hq hd ⟨rfl, rfl, h3, fun j hj a b hs => ?_⟩
  unfold upd
  split
  next e => exact hv a b (by rw [← e]; exact hs)
  next => exact h4 j hj a b hs
theorem tj_setl (hw : tj_wt Λ Ψ w) {q l n : Nat} {s : List tj_y} {g : Nat → Int64} (hq : Ψ[q]? = some l) (hd : Λ[l]? = some (.inr (1, n, s))) : tj_wt Λ Ψ (w.set q (.inr (1, n, .inr (.inl g)))) :=
  tj_set hw hq hd ⟨rfl, rfl, rfl⟩
theorem tj_setq (hw : tj_wt Λ Ψ w) {q l n i v : Nat} {s : List tj_y} {lr : List (Option Nat)} (hq : Ψ[q]? = some l) (hd : Λ[l]? = some (.inr (4, n, s))) (hl : lr.length = n) (hr : ∀ o ∈ lr, tj_vt Ψ (2, tj_loc s, 0) (zx_ref o)) (hv : tj_vt Ψ (2, tj_loc s, 0) (.inr (.inr (.inl v)))) : tj_wt Λ Ψ (w.set q (.inr (4, n, .inr (.inr (lr.set i (some v)))))) := by
  refine tj_set hw hq hd ⟨rfl, rfl, rfl, by rw [List.length_set]; exact hl, fun o ho => ?_⟩
  rcases List.mem_or_eq_of_mem_set ho with h | h
  · exact hr o h
  · rw [h]; exact hv
/-- every value that is typed speaks of cells that are there -/
theorem tj_vlim (hw : tj_wt Λ Ψ w) {t : tj_y} {v : zx_V} (hv : tj_vt Ψ t v) : zx_lim w.length v = true := by
  have hr : ∀ q l, Ψ[q]? = some l → Nat.blt q w.length = true := fun q l h => by
    rw [← hw.1]
    exact Nat.ble_eq_true_of_le (List.getElem?_eq_some_iff.mp h).1
  match t, hv with
  | (0, lo, hi), ⟨x, e, _⟩ => rw [e]; rfl
  | (1, l, _), ⟨q, e, h⟩ => rw [e]; exact hr q l h
  | (2, l, _), Or.inl e => rw [e]; rfl
  | (2, l, _), Or.inr ⟨q, e, h⟩ => rw [e]; exact hr q l h
  | (n + 3, a, c), ⟨x, e⟩ => rw [e]; rfl
end tjHeap
/-! room that a world may still ask for: States not yet made, Sums and Search not yet made (kind 11: fields 9, 10) -/
def tj_nn : List (Option Nat) → Nat
  | [] => 0
  | none :: l => 1 + tj_nn l
  | some _ :: l => tj_nn l
def tj_isN (o : Option zx_V) : Nat := match o with
  | some (.inr (.inr (.inr 0))) => 1
  | _ => 0
def tj_p (c : Nat × Nat × Nat) (e : zx_E) : Nat := match e with
  | .inl (11, fs) => c.2.1 * tj_isN fs[9]? + c.2.2 * tj_isN fs[10]?
  | .inr (4, _, .inr (.inr l)) => c.1 * tj_nn l
  | _ => 0
def tj_P (c : Nat × Nat × Nat) : List zx_E → Nat
  | [] => 0
  | e :: w => tj_p c e + tj_P c w
def tj_c1 : Nat × Nat × Nat := (6, 16, 32)
def tj_c2 : Nat × Nat × Nat := (131, 100000, 1000000)
theorem tj_P_set {c : Nat × Nat × Nat} {e e' : zx_E} (he : tj_p c e' = tj_p c e) : ∀ {w : List zx_E} {q : Nat}, w[q]? = some e → tj_P c (w.set q e') = tj_P c w
  | [], _, h => by cases h
  | x :: w, 0, h => by
    cases h
    show tj_p c e' + tj_P c w = tj_p c e + tj_P c w
    rw [he]
  | x :: w, q + 1, h => by
    show tj_p c x + tj_P c (w.set q e') = tj_p c x + tj_P c w
    rw [tj_P_set he (w := w) h]
def tj_free (ci k : Nat) : Bool := !(Nat.beq ci 11) || (!(Nat.beq k 9) && !(Nat.beq k 10))
theorem tj_p_field {c : Nat × Nat × Nat} {ci k : Nat} {fs : List zx_V} {v : zx_V} (h : tj_free ci k = true) : tj_p c (.inl (ci, (fs.set k v))) = tj_p c (.inl (ci, fs)) := by
  by_cases hc : ci = 11
  · subst hc
    have h : (!(Nat.beq k 9) && !(Nat.beq k 10)) = true := h
    simp only [Bool.and_eq_true, Bool.not_eq_true'] at h
    have k4 : k ≠ 9 := fun e => by rw [e] at h; cases h.1
    have k5 : k ≠ 10 := fun e => by rw [e] at h; cases h.2
    show c.2.1 * tj_isN (fs.set k v)[9]? + c.2.2 * tj_isN (fs.set k v)[10]? = c.2.1 * tj_isN fs[9]? + c.2.2 * tj_isN fs[10]?
    rw [List.getElem?_set_ne k4, List.getElem?_set_ne k5]
  · have e : ∀ l : List zx_V, tj_p c (.inl (ci, l)) = 0 := fun l => by
      unfold tj_p
      split
      next heq => cases heq; exact absurd rfl hc
      next heq => cases heq
      next => rfl
    rw [e, e]
/-! what a run may have changed: fields (location, field), arrays (location) -/
abbrev tj_Ef : Type := List (Nat × Nat) × List Nat
def tj_h2 (l k : Nat) : List (Nat × Nat) → Bool
  | [] => false
  | (a, b) :: r => match Nat.beq a l && Nat.beq b k with
    | true => true
    | false => tj_h2 l k r
def tj_h1 (l : Nat) : List Nat → Bool
  | [] => false
  | a :: r => match Nat.beq a l with
    | true => true
    | false => tj_h1 l r
def tj_fr (E : tj_Ef) (Ψ : List Nat) (w0 w : List zx_E) : Prop := ∀ (q l : Nat), Ψ[q]? = some l →
  (∀ (ci : Nat) (fs : List zx_V), w0[q]? = some (.inl (ci, fs)) → ∃ fs', w[q]? = some (.inl (ci, fs')) ∧ ∀ (k : Nat), tj_h2 l k E.1 = false → fs'[k]? = fs[k]?) ∧
  (∀ (kd n : Nat) (f : zx_A), w0[q]? = some (.inr (kd, n, f)) → ∃ f', w[q]? = some (.inr (kd, n, f')) ∧ (tj_h1 l E.2 = false → f' = f))
theorem tj_fr_rf {E : tj_Ef} {Ψ : List Nat} {w : List zx_E} : tj_fr E Ψ w w := fun _ _ _ => ⟨fun _ fs h => ⟨fs, h, fun _ _ => rfl⟩, fun _ _ f h => ⟨f, h, fun _ => rfl⟩⟩
def tj_sub2 (l m : List (Nat × Nat)) : Bool := l.all (fun q => tj_h2 q.1 q.2 m)
def tj_sub1 (l m : List Nat) : Bool := l.all (fun q => tj_h1 q m)
theorem tj_h2_mem {l k : Nat} : ∀ {r : List (Nat × Nat)}, tj_h2 l k r = true → (l, k) ∈ r
  | [], h => by cases h
  | (a, b) :: r, h => by
    unfold tj_h2 at h
    split at h
    next hz =>
      rw [Bool.and_eq_true] at hz
      rw [Nat.eq_of_beq_eq_true hz.1, Nat.eq_of_beq_eq_true hz.2]
      exact List.mem_cons_self
    next => exact List.mem_cons_of_mem _ (tj_h2_mem h)
theorem tj_h1_mem {l : Nat} : ∀ {r : List Nat}, tj_h1 l r = true → l ∈ r
  | [], h => by cases h
  | a :: r, h => by
    unfold tj_h1 at h
    split at h
    next hz =>
      rw [Nat.eq_of_beq_eq_true hz]
      exact List.mem_cons_self
    next => exact List.mem_cons_of_mem _ (tj_h1_mem h)
theorem tj_sub2_f {l m : List (Nat × Nat)} (h : tj_sub2 l m = true) {a b : Nat} (hm : tj_h2 a b m = false) : tj_h2 a b l = false := by
  cases hl : tj_h2 a b l with
  | false => rfl
  | true =>
    have := List.all_eq_true.mp h (a, b) (tj_h2_mem hl)
    rw [hm] at this
    cases this
theorem tj_sub1_f {l m : List Nat} (h : tj_sub1 l m = true) {a : Nat} (hm : tj_h1 a m = false) : tj_h1 a l = false := by
  cases hl : tj_h1 a l with
  | false => rfl
  | true =>
    have := List.all_eq_true.mp h a (tj_h1_mem hl)
    rw [hm] at this
    cases this
theorem tj_fr_tr {E E' : tj_Ef} {Ψ Ψ' : List Nat} {w0 w w' : List zx_E} (h : tj_fr E Ψ w0 w) (h' : tj_fr E' Ψ' w w') (hle : tj_le Ψ Ψ') (h2 : tj_sub2 E'.1 E.1 = true) (h1 : tj_sub1 E'.2 E.2 = true) : tj_fr E Ψ w0 w' := by
  intro q l hq
  obtain ⟨a1, a2⟩ := h q l hq
  obtain ⟨b1, b2⟩ := h' q l (hle q l hq)
  refine ⟨fun ci fs e => ?_, fun kd n f e => ?_⟩
  · obtain ⟨fs1, e1, g1⟩ := a1 ci fs e
    obtain ⟨fs2, e2, g2⟩ := b1 ci fs1 e1
    exact ⟨fs2, e2, fun k hk => (g2 k (tj_sub2_f h2 hk)).trans (g1 k hk)⟩
  · obtain ⟨f1, e1, g1⟩ := a2 kd n f e
    obtain ⟨f2, e2, g2⟩ := b2 kd n f1 e1
    exact ⟨f2, e2, fun hk => (g2 (tj_sub1_f h1 hk)).trans (g1 hk)⟩
/-- a world within a run: typed, its room, what was changed -/
def tj_W (Λ : List tj_D) (cap : Nat × Nat) (E : tj_Ef) (Ψ0 : List Nat) (w0 : List zx_E) (Ψ : List Nat) (w : List zx_E) (mc ms : Nat) : Prop := tj_wt Λ Ψ w ∧ (mc + tj_P tj_c1 w ≤ cap.1 ∧ ms + tj_P tj_c2 w ≤ cap.2) ∧ tj_le Ψ0 Ψ ∧ tj_fr E Ψ0 w0 w
section tjW
variable {Λ : List tj_D} {cap : Nat × Nat} {E : tj_Ef} {Ψ0 Ψ : List Nat} {w0 w : List zx_E} {mc ms : Nat}
theorem tj_W_field (h : tj_W Λ cap E Ψ0 w0 Ψ w mc ms) {q l ci r k : Nat} {fts : List tj_y} {fs : List zx_V} {t : tj_y} {v : zx_V} (hq : Ψ[q]? = some l) (hd : Λ[l]? = some (.inl (ci, r, fts))) (hf : w[q]? = some (.inl (ci, fs))) (hk : fts[k]? = some t) (hv : tj_vt Ψ t v) (hr : tj_inv r (fs.set k v)) (hc : tj_free ci k = true) (hE : tj_h2 l k E.1 = true) : tj_W Λ cap E Ψ0 w0 Ψ (w.set q (.inl (ci, (fs.set k v)))) mc ms := by
  obtain ⟨hw, hp, hle, hfr⟩ := h
  obtain ⟨fs', hf', -, hi, -⟩ := tj_obj hw hq hd
  rw [hf] at hf'
  cases hf'
  refine ⟨tj_setf hw hq hd hf hk hv hr, ?_, hle, fun q' l' hq' => ?_⟩
  · rw [tj_P_set (tj_p_field hc) hf, tj_P_set (tj_p_field hc) hf]
    exact hp
  · obtain ⟨a1, a2⟩ := hfr q' l' hq'
    have hlt : q < w.length := (List.getElem?_eq_some_iff.mp hf).1
    by_cases e : q = q'
    · subst e
      have el : l' = l := by
        have := hle q l' hq'
        rw [hq] at this
        cases this
        rfl
      subst el
      refine ⟨fun c fs0 e0 => ?_, fun kd n f e0 => ?_⟩
      · obtain ⟨fs1, e1, g1⟩ := a1 c fs0 e0
        rw [hf] at e1
        cases e1
        refine ⟨fs.set k v, List.getElem?_set_self hlt, fun k' hk' => ?_⟩
        have hne : k ≠ k' := fun e => by rw [e, hk'] at hE; cases hE
        rw [List.getElem?_set_ne hne]
        exact g1 k' hk'
      · obtain ⟨f1, e1, -⟩ := a2 kd n f e0
        rw [hf] at e1
        cases e1
    · refine ⟨fun c fs0 e0 => ?_, fun kd n f e0 => ?_⟩
      · rw [List.getElem?_set_ne e]
        exact a1 c fs0 e0
      · rw [List.getElem?_set_ne e]
        exact a2 kd n f e0
theorem tj_W_arr (h : tj_W Λ cap E Ψ0 w0 Ψ w mc ms) {q l kd n : Nat} {f f' : zx_A} (hq : Ψ[q]? = some l) (hf : w[q]? = some (.inr (kd, n, f))) (hw' : tj_wt Λ Ψ (w.set q (.inr (kd, n, f')))) (hk : kd ≠ 4) (hE : tj_h1 l E.2 = true) : tj_W Λ cap E Ψ0 w0 Ψ (w.set q (.inr (kd, n, f'))) mc ms := by
  obtain ⟨hw, hp, hle, hfr⟩ := h
  have ep : ∀ c g, tj_p c (.inr (kd, n, g)) = 0 := fun c g => by
    unfold tj_p
    split
    next heq => cases heq
    next heq => cases heq; exact absurd rfl hk
    next => rfl
  refine ⟨hw', ?_, hle, fun q' l' hq' => ?_⟩
  · rw [tj_P_set (by rw [ep, ep]) hf, tj_P_set (by rw [ep, ep]) hf]
    exact hp
  · obtain ⟨a1, a2⟩ := hfr q' l' hq'
    have hlt : q < w.length := (List.getElem?_eq_some_iff.mp hf).1
    by_cases e : q = q'
    · subst e
      have el : l' = l := by
        have := hle q l' hq'
        rw [hq] at this
        cases this
        rfl
      subst el
      refine ⟨fun c fs0 e0 => ?_, fun kd' n' f0 e0 => ?_⟩
      · obtain ⟨fs1, e1, -⟩ := a1 c fs0 e0
        rw [hf] at e1
        cases e1
      · obtain ⟨f1, e1, -⟩ := a2 kd' n' f0 e0
        rw [hf] at e1
        cases e1
        exact ⟨f', List.getElem?_set_self hlt, fun hn => by rw [hn] at hE; cases hE⟩
    · refine ⟨fun c fs0 e0 => ?_, fun kd' n' f0 e0 => ?_⟩
      · rw [List.getElem?_set_ne e]
        exact a1 c fs0 e0
      · rw [List.getElem?_set_ne e]
        exact a2 kd' n' f0 e0
end tjW
