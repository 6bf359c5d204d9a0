/-! a state that covers another -/
noncomputable def sx_cvV (iv : sx_Iv) (a g : sx_V) : Bool := sx_eqV a g || sx_eqV a (sx_nm iv g)
noncomputable def sx_cvP (iv : sx_Iv) (a g : Nat × sx_V) : Bool := Nat.beq a.1 g.1 && sx_cvV iv a.2 g.2
noncomputable def sx_cvE (iv : sx_Iv) : sx_E → sx_E → Bool
  | .inl (a, l), .inl (b, m) => Nat.beq a b && sx_eqL (sx_cvV iv) l m
  | .inr (a, n, l), .inr (b, k, m) => Nat.beq a b && (Nat.beq n k && sx_eqL (sx_cvP iv) l m)
  | _, _ => false
noncomputable def sx_cvI (a g : Nat × Nat) : Bool := Nat.ble g.1 a.1 && Nat.ble a.2 g.2
noncomputable def sx_cvr (G τ : sx_S) : Bool := match G, τ with
  | (gpc, gls, gst, gw, giv, gmc, gms), (pc, ls, st, w, iv, mc, ms) => Nat.beq pc gpc && (Nat.beq mc gmc && (Nat.beq ms gms && (sx_eqL sx_cvI iv giv && (sx_eqL (sx_cvP iv) ls gls && (sx_eqL (sx_cvV iv) st gst && sx_eqL (sx_cvE iv) w gw)))))
theorem sx_eqL_at {α : Type} {f : α → α → Bool} : ∀ {l m : List α}, sx_eqL f l m = true → l.length = m.length ∧ ∀ (k : Nat) (y : α), m[k]? = some y → ∃ x, l[k]? = some x ∧ f x y = true
  | [], [], _ => ⟨rfl, fun k y h => by simp at h⟩
  | a :: l, b :: m, h => by
    simp only [sx_eqL, Bool.and_eq_true] at h
    obtain ⟨h1, h2⟩ := sx_eqL_at h.2
    refine ⟨by rw [List.length_cons, List.length_cons, h1], fun k y hk => ?_⟩
    cases k with
    | zero => cases hk; exact ⟨a, rfl, h.1⟩
    | succ k => exact h2 k y hk
  | [], _ :: _, h => by simp [sx_eqL] at h
  | _ :: _, [], h => by simp [sx_eqL] at h
theorem sx_eqL_map {α β : Type} {f : α → α → Bool} {g : α → β} (hf : ∀ a b, f a b = true → g a = g b) : ∀ {l m : List α}, sx_eqL f l m = true → l.map g = m.map g
  | [], [], _ => rfl
  | a :: l, b :: m, h => by
    simp only [sx_eqL, Bool.and_eq_true] at h
    rw [List.map_cons, List.map_cons, hf a b h.1, sx_eqL_map hf h.2]
  | [], _ :: _, h => by simp [sx_eqL] at h
  | _ :: _, [], h => by simp [sx_eqL] at h
theorem sx_nm_xi {ρ : Nat → Int32} {ad : Nat → Nat} {iv : sx_Iv} (h : sx_ivOk ρ iv) (v : sx_V) : sx_xi ρ (sx_nm iv v) = sx_xi ρ v ∧ sx_xr ad (sx_nm iv v) = sx_xr ad v := by
  match v with
  | .inl _ => exact ⟨rfl, rfl⟩
  | .inr (.inr _) => exact ⟨rfl, rfl⟩
  | .inr (.inl k) =>
    have h1 := sx_nm_eq (ad := ad) (b := 0) h (.inr (.inl k))
    simp only [sx_nm] at h1 ⊢
    split at h1
    next lo hi hk =>
      split at h1
      next hb => exact ⟨Value.int.inj h1, rfl⟩
      next => exact ⟨rfl, rfl⟩
    next => exact ⟨rfl, rfl⟩
theorem sx_cvV_or {iv : sx_Iv} {a g : sx_V} (h : sx_cvV iv a g = true) : a = g ∨ a = sx_nm iv g := by
  unfold sx_cvV at h
  rw [Bool.or_eq_true] at h
  rcases h with h | h
  · exact Or.inl (sx_eqV_ok _ _ h)
  · exact Or.inr (sx_eqV_ok _ _ h)
theorem sx_cvV_ok {ρ : Nat → Int32} {ad : Nat → Nat} {b : Nat} {iv : sx_Iv} (hi : sx_ivOk ρ iv) {a g : sx_V} (h : sx_cvV iv a g = true) : sx_cv ρ ad b a = sx_cv ρ ad b g ∧ sx_xi ρ a = sx_xi ρ g ∧ sx_xr ad a = sx_xr ad g := by
  rcases sx_cvV_or h with e | e
  · rw [e]; exact ⟨rfl, rfl, rfl⟩
  · rw [e]; exact ⟨sx_nm_eq hi g, (sx_nm_xi (ad := ad) hi g).1, (sx_nm_xi hi g).2⟩
theorem sx_cvL_look {ρ : Nat → Int32} {ad : Nat → Nat} {iv : sx_Iv} (hi : sx_ivOk ρ iv) (kd j : Nat) : ∀ {l m : List (Nat × sx_V)}, sx_eqL (sx_cvP iv) l m = true → sx_xi ρ (sx_ald kd l j) = sx_xi ρ (sx_ald kd m j) ∧ sx_xr ad (sx_ald kd l j) = sx_xr ad (sx_ald kd m j)
  | [], [], _ => ⟨rfl, rfl⟩
  | (k, a) :: l, (k', g) :: m, h => by
    simp only [sx_eqL, Bool.and_eq_true] at h
    have h1 := h.1
    simp only [sx_cvP, Bool.and_eq_true] at h1
    have ek := Nat.eq_of_beq_eq_true h1.1
    subst ek
    have h2 := sx_cvV_ok (ad := ad) (b := 0) hi h1.2
    have ih := sx_cvL_look (ad := ad) hi kd j h.2
    unfold sx_ald at ih ⊢
    simp only [sx_look]
    cases Nat.beq k j with
    | true => exact h2.2
    | false => exact ih
  | [], _ :: _, h => by simp [sx_eqL] at h
  | _ :: _, [], h => by simp [sx_eqL] at h
theorem sx_cvE_ok {ρ : Nat → Int32} {ad : Nat → Nat} {b : Nat} {cA : Nat → ClassId} {iv : sx_Iv} (hi : sx_ivOk ρ iv) : ∀ {a g : sx_E}, sx_cvE iv a g = true → sx_cE ρ ad b cA a = sx_cE ρ ad b cA g
  | .inl (a, l), .inl (c, m), h => by
    simp only [sx_cvE, Bool.and_eq_true] at h
    rw [Nat.eq_of_beq_eq_true h.1]
    show Sum.inr (c, l.map (sx_cv ρ ad b)) = Sum.inr (c, m.map (sx_cv ρ ad b))
    have e := sx_eqL_map (f := sx_cvV iv) (g := sx_cv ρ ad b) (fun x y hxy => (sx_cvV_ok (ad := ad) (b := b) hi hxy).1) h.2
    rw [e]
  | .inr (a, n, l), .inr (c, k, m), h => by
    simp only [sx_cvE, Bool.and_eq_true] at h
    rw [Nat.eq_of_beq_eq_true h.1, Nat.eq_of_beq_eq_true h.2.1]
    have e0 : (fun j => sx_xi ρ (sx_ald 0 l j)) = (fun j => sx_xi ρ (sx_ald 0 m j)) := funext fun j => (sx_cvL_look (ad := ad) hi 0 j h.2.2).1
    have e4 : (fun j => sx_xr ad (sx_ald 4 l j)) = (fun j => sx_xr ad (sx_ald 4 m j)) := funext fun j => (sx_cvL_look hi 4 j h.2.2).2
    unfold sx_cE
    simp only [e0, e4]
  | .inl _, .inr _, h => by simp [sx_cvE] at h
  | .inr _, .inl _, h => by simp [sx_cvE] at h
theorem sx_cvW_ok {ρ : Nat → Int32} {ad : Nat → Nat} {b : Nat} {cA : Nat → ClassId} {iv : sx_Iv} (hi : sx_ivOk ρ iv) {w g : List sx_E} (h : sx_eqL (sx_cvE iv) w g = true) : sx_cW ρ ad b cA w = sx_cW ρ ad b cA g := by
  obtain ⟨h1, h2⟩ := sx_eqL_at h
  apply List.ext_getElem?
  intro k
  rw [sx_cW_at, sx_cW_at]
  cases hg : g[k]? with
  | none =>
    have : w[k]? = none := by
      rw [List.getElem?_eq_none_iff] at hg ⊢
      omega
    rw [this]
  | some y =>
    obtain ⟨x, hx, hxy⟩ := h2 k y hg
    rw [hx]
    show some (ad k, sx_cE ρ ad b cA x) = some (ad k, sx_cE ρ ad b cA y)
    rw [sx_cvE_ok hi hxy]
section sxCover
variable {p : Program} {l : Launch} {e : Env} {R : Room} {s : State} {m : MethodId} {args : Array Value} {below : List Frame} {meth : Method} {c : Code} {Q : State → Prop} {D : va_G} {cA : Nat → ClassId} {A : Nat → Prop} {b nL : Nat} {ρ0 : Nat → Int32} {ad0 : Nat → Nat} {n0 m0 : Nat} {cc : ByteArray}
theorem sx_cover {G τ : sx_S} (h : sx_cvr G τ = true) (K : sx_Ok p l e R s m args below meth c Q D cA A b nL ρ0 ad0 n0 m0 G) : sx_Ok p l e R s m args below meth c Q D cA A b nL ρ0 ad0 n0 m0 τ := by
  obtain ⟨gpc, gls, gst, gw, giv, gmc, gms⟩ := G
  obtain ⟨pc, L, st, w, iv, mc, ms⟩ := τ
  simp only [sx_cvr, Bool.and_eq_true] at h
  obtain ⟨c1, c2, c3, c4, c5, c6, c7⟩ := h
  have c1 := Nat.eq_of_beq_eq_true c1
  have c2 := Nat.eq_of_beq_eq_true c2
  have c3 := Nat.eq_of_beq_eq_true c3
  subst c1; subst c2; subst c3
  intro ρ ad H locs ls h1 h2 h3 h4 h5 hP hD hS hl
  have h1' : sx_ivOk ρ iv := h1
  obtain ⟨l4, a4⟩ := sx_eqL_at c4
  have hiv : sx_ivOk ρ giv := by
    intro k lo hi hk
    obtain ⟨⟨x1, x2⟩, hx, hxy⟩ := a4 k (lo, hi) hk
    have g := h1' k x1 x2 hx
    simp only [sx_cvI, Bool.and_eq_true] at hxy
    have y1 := Nat.le_of_ble_eq_true hxy.1
    have y2 := Nat.le_of_ble_eq_true hxy.2
    exact ⟨Nat.le_trans y1 g.1, Nat.le_trans g.2 y2⟩
  have eW : sx_cW ρ ad b cA w = sx_cW ρ ad b cA gw := sx_cvW_ok h1' c7
  have eS : st.map (sx_cv ρ ad b) = gst.map (sx_cv ρ ad b) := sx_eqL_map (f := sx_cvV iv) (g := sx_cv ρ ad b) (fun x y hxy => (sx_cvV_ok (ad := ad) (b := b) h1' hxy).1) c6
  have eL : sx_cL ρ ad b L = sx_cL ρ ad b gls := sx_eqL_map (f := sx_cvP iv) (g := fun q : Nat × sx_V => (q.1, sx_cv ρ ad b q.2)) (fun x y hxy => by
    simp only [sx_cvP, Bool.and_eq_true] at hxy
    rw [Nat.eq_of_beq_eq_true hxy.1, (sx_cvV_ok (ad := ad) (b := b) h1' hxy.2).1]) c5
  have hP' : va_P D sx_clL (sx_cW ρ ad b cA gw) H := eW ▸ hP
  have hD' : va_D A (sx_cW ρ ad b cA gw) := eW ▸ hD
  have hl' : lv_has ls nL (sx_cL ρ ad b gls) := eL ▸ hl
  show W p l e R s m args below meth c H locs mc ms Q (F0 m pc ls (st.map (sx_cv ρ ad b)))
  rw [eS]
  exact K ρ ad H locs ls hiv h2 h3 (by show n0 ≤ giv.length; rw [← l4]; exact h4) (by show m0 ≤ gw.length; rw [← (sx_eqL_at c7).1]; exact h5) hP' hD' hS hl'
end sxCover
noncomputable def sx_covs (r : sx_N) (Gs : List sx_S) : Bool := match r with
  | some ss => ss.all (fun τ => Gs.any (fun G => sx_cvr G τ))
  | none => false
