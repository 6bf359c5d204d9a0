/-! by hand: constructors from the empty world: a runner with calls, worlds typed by a check -/
def tz_rok (w : List zx_E) (k : Nat) (av : List zx_V) : Bool := match k with
  | 0 => true
  | ci + 1 => match av with
    | (.inr (.inr (.inl q))) :: _ => match w[q]? with
      | some (.inl (c, _)) => Nat.beq c ci
      | _ => false
    | _ => false
theorem tz_rok_ok : ∀ {k : Nat} {w : List zx_E} {av : List zx_V}, tz_rok w k av = true → zx_rok w k av
  | 0, _, _, _ => True.intro
  | ci + 1, w, [], h => by cases h
  | ci + 1, w, .inl _ :: _, h => by cases h
  | ci + 1, w, .inr (.inl _) :: _, h => by cases h
  | ci + 1, w, .inr (.inr (.inr _)) :: _, h => by cases h
  | ci + 1, w, .inr (.inr (.inl q)) :: t, h => by
    have h : (match w[q]? with
      | some (.inl (c, _)) => Nat.beq c ci
      | _ => false) = true := h
    split at h
    next c fs hw =>
      have e := Nat.eq_of_beq_eq_true h
      subst e
      exact ⟨q, t, fs, rfl, hw⟩
    next => cases h
/-- a call, its room told by method -/
def tz_gc (C : Nat → List zx_V → List zx_E → Option zx_R) (rm : Nat → Nat × Nat) (cap : Nat × Nat) (y k : Nat) (σ : zx_S) : Option zx_S := match σ with
  | (pc, ls, st, w, mc, ms) => match zx_take k [] st with
    | some (av, st') => match Nat.ble (zx_words st') 8 && (zx_limP w.length ls && (zx_limL w.length st' && (Nat.ble (mc + (rm y).1) cap.1 && Nat.ble (ms + (rm y).2) cap.2))) with
      | true => match C y av w with
        | some r => some (pc + 3, ls, r.1.toList ++ st', r.2, mc + (rm y).1, ms + (rm y).2)
        | none => none
      | false => none
    | none => none
def tz_gx (C : Nat → List zx_V → List zx_E → Option zx_R) (rm : Nat → Nat × Nat) (X : zx_X) (cap : Nat × Nat) (tab : Nat → Option zx_Q) : Nat → zx_S → Option zx_S
  | 0, σ => some σ
  | n + 1, σ => match tab σ.1 with
    | some (0, _, _, g) => match g X cap σ with
      | some μ => tz_gx C rm X cap tab n μ
      | none => none
    | some (3, y, k, _) => match tz_gc C rm cap y k σ with
      | some μ => tz_gx C rm X cap tab n μ
      | none => none
    | some _ => some σ
    | none => none
/-- the end of a method without an answer -/
def tz_ret (tab : Nat → Option zx_Q) (cap : Nat × Nat) (σ : zx_S) : Option zx_R := match σ with
  | (pc, _, [], w, mc, ms) => match tab pc with
    | some (2, _, _, _) => match Nat.ble mc cap.1 && Nat.ble ms cap.2 with
      | true => some (none, w)
      | false => none
    | _ => none
  | _ => none
def tz_ex (mt : Nat → Option (Nat → Option zx_Q)) (rc ml : Nat → Nat) (rm : Nat → Nat × Nat) (F : Nat) : Nat → Nat → List zx_V → List zx_E → Option zx_R
  | 0, _, _, _ => none
  | d + 1, y, av, w => match mt y with
    | some tab => match tz_rok w (rc y) av && Nat.ble (zx_words av) (ml y) with
      | true => match tz_gx (tz_ex mt rc ml rm F d) rm none (rm y) tab F (0, zx_args 0 av, [], w, 0, 0) with
        | some σ => tz_ret tab (rm y) σ
        | none => none
      | false => none
    | none => none
section tzRun
variable {K : zx_K} {C : Nat → List zx_V → List zx_E → Option zx_R} {rm : Nat → Nat × Nat} {X : zx_X} {cap : Nat × Nat} {tab : Nat → Option zx_Q} {Q : zx_S → Prop}
theorem tz_gc_ok (hC : ∀ y av w r, C y av w = some r → K y av w (rm y) r) {y k : Nat} : ∀ {σ μ : zx_S}, tz_gc C rm cap y k σ = some μ → zx_callS K cap y k σ μ
  | (pc, ls, st, w, mc, ms), μ, h => by
    have h : (match zx_take k [] st with
      | some (av, st') => (match Nat.ble (zx_words st') 8 && (zx_limP w.length ls && (zx_limL w.length st' && (Nat.ble (mc + (rm y).1) cap.1 && Nat.ble (ms + (rm y).2) cap.2))) with
        | true => (match C y av w with
          | some r => some (pc + 3, ls, r.1.toList ++ st', r.2, mc + (rm y).1, ms + (rm y).2)
          | none => none)
        | false => none)
      | none => none) = some μ := h
    split at h
    next av st' ht =>
      split at h
      next hb =>
        simp only [Bool.and_eq_true] at hb
        split at h
        next r hr =>
          cases h
          exact ⟨av, st', rm y, r, ht, Nat.le_of_ble_eq_true hb.1, hb.2.1, hb.2.2.1, Nat.le_of_ble_eq_true hb.2.2.2.1, Nat.le_of_ble_eq_true hb.2.2.2.2, hC _ _ _ _ hr, rfl⟩
        next => cases h
      next => cases h
    next => cases h
theorem tz_gx_ok (hC : ∀ y av w r, C y av w = some r → K y av w (rm y) r) : ∀ {n : Nat} {σ μ : zx_S}, tz_gx C rm X cap tab n σ = some μ → zx_wp K X cap tab Q μ → zx_wp K X cap tab Q σ
  | 0, σ, μ, h, k => by cases h; exact k
  | n + 1, σ, μ, h, k => by
    unfold tz_gx at h
    split at h
    next a1 a2 g ht =>
      split at h
      next ν hg => exact zx_wp_pure ht hg (tz_gx_ok hC h k)
      next => cases h
    next y kk g ht =>
      split at h
      next ν hg => exact zx_wp_step (by unfold zx_step; rw [ht]; exact tz_gc_ok hC hg) (tz_gx_ok hC h k)
      next => cases h
    next => cases h; exact k
    next => cases h
theorem tz_ret_ok : ∀ {σ : zx_S} {r : zx_R}, tz_ret tab cap σ = some r → zx_ret tab cap σ r
  | (pc, ls, [], w, mc, ms), r, h => by
    have h : (match tab pc with
      | some (2, _, _, _) => (match Nat.ble mc cap.1 && Nat.ble ms cap.2 with
        | true => some (none, w)
        | false => none)
      | _ => none) = some r := h
    split at h
    next a b g ht =>
      split at h
      next hb =>
        rw [Bool.and_eq_true] at hb
        cases h
        refine ⟨Nat.le_of_ble_eq_true hb.1, Nat.le_of_ble_eq_true hb.2, rfl, ?_⟩
        show (match tab pc with
          | some (1, _, _, _) => _
          | some (5, _, _, _) => _
          | some (4, _, _, _) => _
          | some (2, _, _, _) => _
          | _ => False)
        rw [ht]
        exact ⟨rfl, rfl⟩
      next => cases h
    next => cases h
  | (_, _, _ :: _, _, _, _), r, h => by cases h
end tzRun
theorem tz_ex_ok {mt : Nat → Option (Nat → Option zx_Q)} {rc ml : Nat → Nat} {rm : Nat → Nat × Nat} {F : Nat} : ∀ {d y : Nat} {av : List zx_V} {w : List zx_E} {r : zx_R}, tz_ex mt rc ml rm F d y av w = some r → zx_Cl mt rc ml d y av w (rm y) r
  | 0, _, _, _, _, h => by cases h
  | d + 1, y, av, w, r, h => by
    unfold tz_ex at h
    split at h
    next tab ht =>
      split at h
      next hb =>
        rw [Bool.and_eq_true] at hb
        split at h
        next σ hg =>
          have hw : zx_wp (zx_Cl mt rc ml d) none (rm y) tab (fun τ => τ = σ) (0, zx_args 0 av, [], w, 0, 0) := tz_gx_ok (fun y av w r h => tz_ex_ok h) hg (zx_wp_done rfl)
          obtain ⟨n, τ, h1, h2⟩ := hw
          rw [h2] at h1
          exact ⟨tab, ht, tz_rok_ok hb.1, Nat.le_of_ble_eq_true hb.2, n, σ, h1, tz_ret_ok h⟩
        next => cases h
      next => cases h
    next => cases h
/-! worlds typed by a check -/
def tz_at (Ψ : List Nat) (q l : Nat) : Bool := match Ψ[q]? with
  | some l' => Nat.beq l' l
  | none => false
theorem tz_at_ok {Ψ : List Nat} {q l : Nat} (h : tz_at Ψ q l = true) : Ψ[q]? = some l := by
  unfold tz_at at h
  split at h
  next l' e => rw [e, Nat.eq_of_beq_eq_true h]
  next => cases h
def tz_v (Ψ : List Nat) (t : tj_y) (v : zx_V) : Bool := match t with
  | (0, lo, hi) => (match v with
    | .inl x => Nat.ble lo (zx_b x) && Nat.ble (zx_b x) hi
    | _ => false)
  | (1, l, _) => (match v with
    | .inr (.inr (.inl q)) => tz_at Ψ q l
    | _ => false)
  | (2, l, _) => (match v with
    | .inr (.inr (.inl q)) => tz_at Ψ q l
    | .inr (.inr (.inr 0)) => true
    | _ => false)
  | _ => (match v with
    | .inr (.inl _) => true
    | _ => false)
theorem tz_v_ok {Ψ : List Nat} : ∀ {t : tj_y} {v : zx_V}, tz_v Ψ t v = true → tj_vt Ψ t v
  | (0, lo, hi), .inl x, h => by
    have h : (Nat.ble lo (zx_b x) && Nat.ble (zx_b x) hi) = true := h
    rw [Bool.and_eq_true] at h
    exact ⟨x, rfl, Nat.le_of_ble_eq_true h.1, Nat.le_of_ble_eq_true h.2⟩
  | (0, _, _), .inr (.inl _), h => by cases h
  | (0, _, _), .inr (.inr (.inl _)), h => by cases h
  | (0, _, _), .inr (.inr (.inr _)), h => by cases h
  | (1, l, _), .inr (.inr (.inl q)), h => ⟨q, rfl, tz_at_ok h⟩
  | (1, _, _), .inl _, h => by cases h
  | (1, _, _), .inr (.inl _), h => by cases h
  | (1, _, _), .inr (.inr (.inr _)), h => by cases h
  | (2, l, _), .inr (.inr (.inl q)), h => Or.inr ⟨q, rfl, tz_at_ok h⟩
  | (2, _, _), .inl _, h => by cases h
  | (2, _, _), .inr (.inl _), h => by cases h
  | (2, _, _), .inr (.inr (.inr 0)), _ => Or.inl rfl
  | (2, _, _), .inr (.inr (.inr (_ + 1))), h => by cases h
  | (n + 3, _, _), .inr (.inl x), _ => ⟨x, rfl⟩
  | (n + 3, _, _), .inl _, h => by cases h
  | (n + 3, _, _), .inr (.inr (.inl _)), h => by cases h
  | (n + 3, _, _), .inr (.inr (.inr _)), h => by cases h
def tz_fs (Ψ : List Nat) : List tj_y → List zx_V → Bool
  | [], [] => true
  | t :: ts, v :: vs => match tz_v Ψ t v with
    | true => tz_fs Ψ ts vs
    | false => false
  | _, _ => false
theorem tz_fs_ok {Ψ : List Nat} : ∀ {ts : List tj_y} {vs : List zx_V}, tz_fs Ψ ts vs = true → vs.length = ts.length ∧ ∀ (k : Nat) (t : tj_y) (v : zx_V), ts[k]? = some t → vs[k]? = some v → tj_vt Ψ t v
  | [], [], _ => ⟨rfl, fun k t v h => by cases h⟩
  | [], _ :: _, h => by cases h
  | _ :: _, [], h => by cases h
  | t :: ts, v :: vs, h => by
    unfold tz_fs at h
    split at h
    next hv =>
      obtain ⟨h1, h2⟩ := tz_fs_ok h
      refine ⟨congrArg (· + 1) h1, fun k t' v' e1 e2 => ?_⟩
      match k, e1, e2 with
      | 0, e1, e2 =>
        cases e1
        cases e2
        exact tz_v_ok hv
      | k + 1, e1, e2 => exact h2 k t' v' e1 e2
    next => cases h
def tz_inv (r : Nat) (fs : List zx_V) : Bool := match r with
  | 0 => true
  | 1 => (match (fs[4]? : Option zx_V), (fs[5]? : Option zx_V) with
    | some (.inl x), some (.inl y) => Nat.ble (zx_b x + zx_b y) 4294967336
    | _, _ => false)
  | 2 => (match (fs[10]? : Option zx_V) with
    | some (.inl x) => !(Nat.beq (zx_b x) 2147483651)
    | _ => false)
  | 3 => (match (fs[51]? : Option zx_V), (fs[52]? : Option zx_V) with
    | some (.inl x), some (.inl y) => Nat.ble (zx_b x + zx_b y) 4294967336
    | _, _ => false)
  | _ => false
theorem tz_inv_ok : ∀ {r : Nat} {fs : List zx_V}, tz_inv r fs = true → tj_inv r fs
  | 0, _, _ => True.intro
  | 1, fs, h => by
    have h : (match (fs[4]? : Option zx_V), (fs[5]? : Option zx_V) with
      | some (.inl x), some (.inl y) => Nat.ble (zx_b x + zx_b y) 4294967336
      | _, _ => false) = true := h
    split at h
    next x y e1 e2 => exact ⟨x, y, e1, e2, Nat.le_of_ble_eq_true h⟩
    next => cases h
  | 2, fs, h => by
    have h : (match (fs[10]? : Option zx_V) with
      | some (.inl x) => !(Nat.beq (zx_b x) 2147483651)
      | _ => false) = true := h
    split at h
    next x e1 =>
      intro x' y' g1 g2 g3
      rw [e1] at g1
      cases g1
      rw [g3] at h
      cases h
    next => cases h
  | 3, fs, h => by
    have h : (match (fs[51]? : Option zx_V), (fs[52]? : Option zx_V) with
      | some (.inl x), some (.inl y) => Nat.ble (zx_b x + zx_b y) 4294967336
      | _, _ => false) = true := h
    split at h
    next x y e1 e2 => exact ⟨x, y, e1, e2, Nat.le_of_ble_eq_true h⟩
    next => cases h
  | n + 4, _, h => by cases h
def tz_all : Nat → (Nat → Bool) → Bool
  | 0, _ => true
  | n + 1, p => match p n with
    | true => tz_all n p
    | false => false
theorem tz_all_ok : ∀ {n : Nat} {p : Nat → Bool}, tz_all n p = true → ∀ j, j < n → p j = true
  | 0, _, _, j, hj => absurd hj (Nat.not_lt_zero _)
  | n + 1, p, h, j, hj => by
    unfold tz_all at h
    split at h
    next hp =>
      by_cases e : j = n
      · rw [e]; exact hp
      · exact tz_all_ok h j (by omega)
    next => cases h
def tz_el (s : List tj_y) (x : Int32) (j : Nat) : Bool := match tj_sel s j with
  | some (a, b) => Nat.ble a (zx_b x) && Nat.ble (zx_b x) b
  | none => true
theorem tz_el_ok {s : List tj_y} {x : Int32} {j : Nat} (h : tz_el s x j = true) : ∀ a b, tj_sel s j = some (a, b) → a ≤ zx_b x ∧ zx_b x ≤ b := fun a b e => by
  unfold tz_el at h
  rw [e] at h
  have h : (Nat.ble a (zx_b x) && Nat.ble (zx_b x) b) = true := h
  rw [Bool.and_eq_true] at h
  exact ⟨Nat.le_of_ble_eq_true h.1, Nat.le_of_ble_eq_true h.2⟩
def tz_ar (Ψ : List Nat) (kd n : Nat) (s : List tj_y) (f : zx_A) : Bool := match f with
  | .inl g => (match Nat.beq kd 0 || (Nat.beq kd 2 || Nat.beq kd 3) with
    | true => tz_all n (fun j => tz_el s (g j) j)
    | false => false)
  | .inr (.inl _) => Nat.beq kd 1
  | .inr (.inr l) => Nat.beq kd 4 && (Nat.beq l.length n && l.all (fun o => tz_v Ψ (2, tj_loc s, 0) (zx_ref o)))
theorem tz_ar_ok {Ψ : List Nat} {kd n : Nat} {s : List tj_y} : ∀ {f : zx_A}, tz_ar Ψ kd n s f = true → tj_at Ψ kd n s f
  | .inl g, h => by
    have h : (match Nat.beq kd 0 || (Nat.beq kd 2 || Nat.beq kd 3) with
      | true => tz_all n (fun j => tz_el s (g j) j)
      | false => false) = true := h
    split at h
    next hk =>
      rw [Bool.or_eq_true, Bool.or_eq_true] at hk
      refine ⟨?_, fun j hj => tz_el_ok (tz_all_ok h j hj)⟩
      rcases hk with hk | hk | hk
      · exact Or.inl (Nat.eq_of_beq_eq_true hk)
      · exact Or.inr (Or.inl (Nat.eq_of_beq_eq_true hk))
      · exact Or.inr (Or.inr (Nat.eq_of_beq_eq_true hk))
    next => cases h
  | .inr (.inl _), h => Nat.eq_of_beq_eq_true h
  | .inr (.inr l), h => by
    have h : (Nat.beq kd 4 && (Nat.beq l.length n && l.all (fun o => tz_v Ψ (2, tj_loc s, 0) (zx_ref o)))) = true := h
    rw [Bool.and_eq_true, Bool.and_eq_true] at h
    exact ⟨Nat.eq_of_beq_eq_true h.1, Nat.eq_of_beq_eq_true h.2.1, fun o ho => tz_v_ok (List.all_eq_true.mp h.2.2 o ho)⟩
def tz_ct (Ψ : List Nat) (d : tj_D) (e : zx_E) : Bool := match d with
  | .inl (ci, r, fts) => (match e with
    | .inl (c, fs) => Nat.beq c ci && (tz_fs Ψ fts fs && tz_inv r fs)
    | .inr _ => false)
  | .inr (kd, n, s) => (match e with
    | .inr (kd', n', f) => Nat.beq kd' kd && (Nat.beq n' n && tz_ar Ψ kd n s f)
    | .inl _ => false)
theorem tz_ct_ok {Ψ : List Nat} : ∀ {d : tj_D} {e : zx_E}, tz_ct Ψ d e = true → tj_ct Ψ d e
  | .inl (ci, r, fts), .inl (c, fs), h => by
    have h : (Nat.beq c ci && (tz_fs Ψ fts fs && tz_inv r fs)) = true := h
    rw [Bool.and_eq_true, Bool.and_eq_true] at h
    obtain ⟨h1, h2⟩ := tz_fs_ok h.2.1
    exact ⟨Nat.eq_of_beq_eq_true h.1, h1, h2, tz_inv_ok h.2.2⟩
  | .inl _, .inr _, h => by cases h
  | .inr _, .inl _, h => by cases h
  | .inr (kd, n, s), .inr (kd', n', f), h => by
    have h : (Nat.beq kd' kd && (Nat.beq n' n && tz_ar Ψ kd n s f)) = true := h
    rw [Bool.and_eq_true, Bool.and_eq_true] at h
    exact ⟨Nat.eq_of_beq_eq_true h.1, Nat.eq_of_beq_eq_true h.2.1, tz_ar_ok h.2.2⟩
def tz_wt (Λ : List tj_D) (Ψ : List Nat) : List Nat → List zx_E → Bool
  | [], [] => true
  | l :: ls, e :: es => match Λ[l]? with
    | some d => (match tz_ct Ψ d e with
      | true => tz_wt Λ Ψ ls es
      | false => false)
    | none => false
  | _, _ => false
theorem tz_wt_at {Λ : List tj_D} {Ψ : List Nat} : ∀ {ls : List Nat} {es : List zx_E}, tz_wt Λ Ψ ls es = true → ls.length = es.length ∧ ∀ (q : Nat) (e : zx_E), es[q]? = some e → ∃ l d, ls[q]? = some l ∧ Λ[l]? = some d ∧ tj_ct Ψ d e
  | [], [], _ => ⟨rfl, fun q e h => by cases h⟩
  | [], _ :: _, h => by cases h
  | _ :: _, [], h => by cases h
  | l :: ls, e :: es, h => by
    unfold tz_wt at h
    split at h
    next d hd =>
      split at h
      next hc =>
        obtain ⟨h1, h2⟩ := tz_wt_at h
        refine ⟨congrArg (· + 1) h1, fun q e' hq => ?_⟩
        match q, hq with
        | 0, hq =>
          cases hq
          exact ⟨l, d, rfl, hd, tz_ct_ok hc⟩
        | q + 1, hq => exact h2 q e' hq
      next => cases h
    next => cases h
theorem tz_wt_ok {Λ : List tj_D} {Ψ : List Nat} {w : List zx_E} (h : tz_wt Λ Ψ Ψ w = true) : tj_wt Λ Ψ w := tz_wt_at h
/-- a field by a check -/
def tz_f (w : List zx_E) (q ci k : Nat) (v : zx_V) : Bool := match w[q]? with
  | some (.inl (c, fs)) => Nat.beq c ci && decide (fs[k]? = some v)
  | _ => false
theorem tz_f_ok {w : List zx_E} {q ci k : Nat} {v : zx_V} (h : tz_f w q ci k v = true) : ∃ fs, w[q]? = some (.inl (ci, fs)) ∧ fs[k]? = some v := by
  unfold tz_f at h
  split at h
  next c fs hq =>
    rw [Bool.and_eq_true] at h
    have e := Nat.eq_of_beq_eq_true h.1
    subst e
    exact ⟨fs, hq, of_decide_eq_true h.2⟩
  next => cases h
