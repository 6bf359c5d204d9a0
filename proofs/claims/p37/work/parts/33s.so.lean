/-! facts of worlds stay true where nothing that they rest on is changed -/
def tj_locs (ci : Nat) : Nat → List tj_D → List Nat
  | _, [] => []
  | i, .inl (c, _, _) :: Λ => match Nat.beq c ci with
    | true => i :: tj_locs ci (i + 1) Λ
    | false => tj_locs ci (i + 1) Λ
  | i, .inr _ :: Λ => tj_locs ci (i + 1) Λ
theorem tj_locs_mem {ci rr : Nat} {fts : List tj_y} : ∀ {Λ : List tj_D} {i l : Nat}, Λ[l]? = some (.inl (ci, rr, fts)) → i + l ∈ tj_locs ci i Λ
  | [], _, _, h => by simp at h
  | .inl (c, a, b) :: Λ, i, 0, h => by
    cases h
    unfold tj_locs
    rw [Nat.beq_refl]
    exact List.mem_cons_self
  | .inl (c, a, b) :: Λ, i, l + 1, h => by
    have ih := tj_locs_mem (Λ := Λ) (i := i + 1) (l := l) h
    rw [show i + 1 + l = i + (l + 1) by omega] at ih
    unfold tj_locs
    split
    next => exact List.mem_cons_of_mem _ ih
    next => exact ih
  | .inr x :: Λ, i, 0, h => by cases h
  | .inr x :: Λ, i, l + 1, h => by
    have ih := tj_locs_mem (Λ := Λ) (i := i + 1) (l := l) h
    rw [show i + 1 + l = i + (l + 1) by omega] at ih
    exact ih
theorem tj_at_obj {Λ : List tj_D} {Ψ : List Nat} {w : List zx_E} (hw : tj_wt Λ Ψ w) {q ci : Nat} {fs : List zx_V} (h : w[q]? = some (.inl (ci, fs))) : ∃ l rr fts, Ψ[q]? = some l ∧ Λ[l]? = some (.inl (ci, rr, fts)) ∧ l ∈ tj_locs ci 0 Λ ∧ ∀ (k : Nat) (t : tj_y) (v : zx_V), fts[k]? = some t → fs[k]? = some v → tj_vt Ψ t v := by
  obtain ⟨l, d, h1, h2, h3⟩ := hw.2 q _ h
  match d, h3 with
  | .inl (c, rr, fts), ⟨e, _, h4, _⟩ =>
    subst e
    refine ⟨l, rr, fts, h1, h2, ?_, h4⟩
    have := tj_locs_mem (i := 0) h2
    rwa [Nat.zero_add] at this
def tj_fty (d : Option tj_D) (k : Nat) : Option tj_y := match d with
  | some (.inl (_, _, f)) => f[k]?
  | _ => none
theorem tj_dj2 {d e : tj_Ef} (h : tj_dj d e = true) {l k : Nat} (hd : tj_h2 l k d.1 = true) : tj_h2 l k e.1 = false := by
  unfold tj_dj at h
  rw [Bool.and_eq_true] at h
  cases he : tj_h2 l k e.1 with
  | false => rfl
  | true =>
    have := List.all_eq_true.mp h.1 (l, k) (tj_h2_mem he)
    rw [hd] at this
    cases this
theorem tj_dj1 {d e : tj_Ef} (h : tj_dj d e = true) {l : Nat} (hd : tj_h1 l d.2 = true) : tj_h1 l e.2 = false := by
  unfold tj_dj at h
  rw [Bool.and_eq_true] at h
  cases he : tj_h1 l e.2 with
  | false => rfl
  | true =>
    have := List.all_eq_true.mp h.2 l (tj_h1_mem he)
    rw [hd] at this
    cases this
theorem te_so0 {a : zx_V} {Ψ : List Nat} {w w' : List zx_E} {e : tj_Ef} (hw : tj_wt tj_Lam Ψ w) (hfr : tj_fr e Ψ w w') (hd : tj_dj (tj_dep 0) e = true) (h : tj_sm0 a w) : tj_sm0 a w' := by
  obtain ⟨q, fs, tk, nm, qd, fd, hv, qn, n, g, h1, h2, h3, h4, h5, h6, h7, h8, h9, h10⟩ := h
  obtain ⟨l, rr, fts, k1, k2, k3, k4⟩ := tj_at_obj hw h2
  have el : l = 49 := by
    have e : tj_locs 4 0 tj_Lam = [49] := by decide +kernel
    rw [e] at k3
    exact List.mem_singleton.mp k3
  subst el
  obtain ⟨fs', f1, f2⟩ := (hfr q 49 k1).1 4 fs h2
  obtain ⟨l', rr', fts', m1, m2, m3, m4⟩ := tj_at_obj hw h6
  obtain ⟨fd', g1, g2⟩ := (hfr qd l' m1).1 10 fd h6
  have el' : l' = 13 ∨ l' = 27 := by
    have e : tj_locs 10 0 tj_Lam = [13, 27] := by decide +kernel
    rw [e] at m3
    rcases List.mem_cons.mp m3 with e | e
    · exact Or.inl e
    · exact Or.inr (List.mem_singleton.mp e)
  have hh : tj_h2 l' 0 e.1 = false := by
    rcases el' with e | e <;> rw [e] <;> exact tj_dj2 hd (by decide +kernel)
  have hft : fts[1]? = some (1, 44, 0) := by
    have e : tj_Lam[49]? = some (.inl (4, rr, fts)) := k2
    have e2 : tj_fty (tj_Lam[49]?) 1 = some (1, 44, 0) := by decide +kernel
    rw [e] at e2
    exact e2
  obtain ⟨qn', p1, p2⟩ := k4 1 _ _ hft h8
  cases p1
  obtain ⟨f', r1, r2⟩ := (hfr qn 44 p2).2 1 n (.inr (.inl g)) h9
  rw [r2 (tj_dj1 hd (by decide +kernel))] at r1
  refine ⟨q, fs', tk, nm, qd, fd', hv, qn, n, g, h1, f1, ?_, ?_, ?_, g1, ?_, ?_, r1, h10⟩
  · rw [f2 10 (tj_dj2 hd (by decide +kernel))]; exact h3
  · rw [f2 11 (tj_dj2 hd (by decide +kernel))]; exact h4
  · rw [f2 0 (tj_dj2 hd (by decide +kernel))]; exact h5
  · rw [g2 0 hh]; exact h7
  · rw [f2 1 (tj_dj2 hd (by decide +kernel))]; exact h8
/-- fields and arrays of objects, where nothing of them is changed -/
def te_depF (ci k : Nat) (d : tj_Ef) : Bool := (tj_locs ci 0 tj_Lam).all (fun l => tj_h2 l k d.1)
def te_depA (ci k : Nat) (d : tj_Ef) : Bool := (tj_locs ci 0 tj_Lam).all (fun l => tj_h2 l k d.1 && (match tj_fty (tj_Lam[l]?) k with
  | some (1, la, _) => tj_h1 la d.2
  | _ => false))
section teFr
variable {Ψ : List Nat} {w w' : List zx_E} {e d : tj_Ef} {q ci k : Nat}
theorem te_fld (hw : tj_wt tj_Lam Ψ w) (hfr : tj_fr e Ψ w w') (hd : tj_dj d e = true) (hk : te_depF ci k d = true) {fs : List zx_V} (h : w[q]? = some (.inl (ci, fs))) : ∃ fs', w'[q]? = some (.inl (ci, fs')) ∧ fs'[k]? = fs[k]? := by
  obtain ⟨l, rr, fts, k1, k2, k3, k4⟩ := tj_at_obj hw h
  obtain ⟨fs', f1, f2⟩ := (hfr q l k1).1 ci fs h
  exact ⟨fs', f1, f2 k (tj_dj2 hd (List.all_eq_true.mp hk l k3))⟩
theorem te_fi (hw : tj_wt tj_Lam Ψ w) (hfr : tj_fr e Ψ w w') (hd : tj_dj d e = true) (hk : te_depF ci k d = true) {x : Int32} (h : tj_fi w q ci k x) : tj_fi w' q ci k x := by
  obtain ⟨fs, h1, h2⟩ := h
  obtain ⟨fs', f1, f2⟩ := te_fld hw hfr hd hk h1
  exact ⟨fs', f1, by rw [f2]; exact h2⟩
theorem te_arr (hw : tj_wt tj_Lam Ψ w) (hfr : tj_fr e Ψ w w') (hd : tj_dj d e = true) (hk : te_depA ci k d = true) {fs : List zx_V} {p kd n : Nat} {f : zx_A} (h : w[q]? = some (.inl (ci, fs))) (h2 : fs[k]? = some (.inr (.inr (.inl p)))) (h3 : w[p]? = some (.inr (kd, n, f))) : ∃ fs', w'[q]? = some (.inl (ci, fs')) ∧ fs'[k]? = some (.inr (.inr (.inl p))) ∧ w'[p]? = some (.inr (kd, n, f)) := by
  obtain ⟨l, rr, fts, k1, k2, k3, k4⟩ := tj_at_obj hw h
  obtain ⟨fs', f1, f2⟩ := (hfr q l k1).1 ci fs h
  have hk' := List.all_eq_true.mp hk l k3
  rw [Bool.and_eq_true] at hk'
  refine ⟨fs', f1, by rw [f2 k (tj_dj2 hd hk'.1)]; exact h2, ?_⟩
  have hk2 := hk'.2
  split at hk2
  next la x hty =>
    have e1 : tj_fty (some (.inl (ci, rr, fts))) k = some (1, la, x) := by rw [← k2]; exact hty
    have e1 : fts[k]? = some (1, la, x) := e1
    obtain ⟨p', p1, p2⟩ := k4 k _ _ e1 h2
    cases p1
    obtain ⟨f', r1, r2⟩ := (hfr p la p2).2 kd n f h3
    rw [r2 (tj_dj1 hd hk2)] at r1
    exact r1
  next => cases hk2
theorem te_fa (hw : tj_wt tj_Lam Ψ w) (hfr : tj_fr e Ψ w w') (hd : tj_dj d e = true) (hk : te_depA ci k d = true) {n : Nat} {g : Nat → Int32} (h : tj_fa w q ci k n g) : tj_fa w' q ci k n g := by
  obtain ⟨fs, p, h1, h2, h3⟩ := h
  obtain ⟨fs', f1, f2, f3⟩ := te_arr hw hfr hd hk h1 h2 h3
  exact ⟨fs', p, f1, f2, f3⟩
theorem te_fl (hw : tj_wt tj_Lam Ψ w) (hfr : tj_fr e Ψ w w') (hd : tj_dj d e = true) (hk : te_depA ci k d = true) {n : Nat} {g : Nat → Int64} (h : tj_fl w q ci k n g) : tj_fl w' q ci k n g := by
  obtain ⟨fs, p, h1, h2, h3⟩ := h
  obtain ⟨fs', f1, f2, f3⟩ := te_arr hw hfr hd hk h1 h2 h3
  exact ⟨fs', p, f1, f2, f3⟩
theorem te_so3 {a b : zx_V} (hw : tj_wt tj_Lam Ψ w) (hfr : tj_fr e Ψ w w') (hd : tj_dj (tj_dep 3) e = true) (h : tj_sm3 a b w) : tj_sm3 a b w' := by
  obtain ⟨q, n, s, c, h1, h2, h3, h4, h5⟩ := h
  exact ⟨q, n, s, c, h1, h2, te_fa hw hfr hd (by decide +kernel) h3, te_fa hw hfr hd (by decide +kernel) h4, h5⟩
theorem te_so4 {a : zx_V} (hw : tj_wt tj_Lam Ψ w) (hfr : tj_fr e Ψ w w') (hd : tj_dj (tj_dep 4) e = true) (h : tj_sm4 a w) : tj_sm4 a w' := by
  obtain ⟨q, p, fs, L, s, c, h1, h2, h3, h4, h5, h6, h7⟩ := h
  obtain ⟨fs', f1, f2⟩ := te_fld (k := 1) hw hfr hd (by decide +kernel) h2
  exact ⟨q, p, fs', L, s, c, h1, f1, by rw [f2]; exact h3, te_fi hw hfr hd (by decide +kernel) h4, te_fa hw hfr hd (by decide +kernel) h5, te_fa hw hfr hd (by decide +kernel) h6, h7⟩
theorem te_so5 {a b c : zx_V} (hw : tj_wt tj_Lam Ψ w) (hfr : tj_fr e Ψ w w') (hd : tj_dj (tj_dep 5) e = true) (h : tj_sm5 a b c w) : tj_sm5 a b c w' := by
  obtain ⟨q, s, g, x, y, h1, h2, h3, h4⟩ := h
  exact ⟨q, s, g, x, y, h1, te_fa hw hfr hd (by decide +kernel) h2, te_fa hw hfr hd (by decide +kernel) h3, h4⟩
theorem te_so6 {a b : zx_V} (hw : tj_wt tj_Lam Ψ w) (hfr : tj_fr e Ψ w w') (hd : tj_dj (tj_dep 6) e = true) (h : tj_sm6 a b w) : tj_sm6 a b w' := by
  obtain ⟨q, g, x, h1, h2, h3⟩ := h
  exact ⟨q, g, x, h1, te_fl hw hfr hd (by decide +kernel) h2, h3⟩
theorem te_so7 {a : zx_V} (hw : tj_wt tj_Lam Ψ w) (hfr : tj_fr e Ψ w w') (hd : tj_dj (tj_dep 7) e = true) (h : tj_sm7 a w) : tj_sm7 a w' := by
  obtain ⟨q, bk, hv, pv, dv, tm, ho, pe, cd, rf, rt, h1, h2, h3, h4, h5, h6, h7, h8, h9, h10, h11, h12⟩ := h
  exact ⟨q, bk, hv, pv, dv, tm, ho, pe, cd, rf, rt, h1, te_fi hw hfr hd (by decide +kernel) h2, te_fa hw hfr hd (by decide +kernel) h3, te_fa hw hfr hd (by decide +kernel) h4, te_fa hw hfr hd (by decide +kernel) h5, te_fa hw hfr hd (by decide +kernel) h6, te_fa hw hfr hd (by decide +kernel) h7, te_fa hw hfr hd (by decide +kernel) h8, te_fa hw hfr hd (by decide +kernel) h9, te_fa hw hfr hd (by decide +kernel) h10, te_fa hw hfr hd (by decide +kernel) h11, h12⟩
theorem te_so8 {a : zx_V} (hw : tj_wt tj_Lam Ψ w) (hfr : tj_fr e Ψ w w') (hd : tj_dj (tj_dep 8) e = true) (h : tj_sm8 a w) : tj_sm8 a w' := by
  obtain ⟨q, bk, m, dv, g, h1, h2, h3, h4, h5, h6⟩ := h
  exact ⟨q, bk, m, dv, g, h1, te_fi hw hfr hd (by decide +kernel) h2, te_fi hw hfr hd (by decide +kernel) h3, te_fa hw hfr hd (by decide +kernel) h4, te_fa hw hfr hd (by decide +kernel) h5, h6⟩
theorem te_so9 {a b c : zx_V} (hw : tj_wt tj_Lam Ψ w) (hfr : tj_fr e Ψ w w') (hd : tj_dj (tj_dep 9) e = true) (h : tj_sm9 a b c w) : tj_sm9 a b c w' := by
  obtain ⟨q, bk, p, n, dv, g, al, tm, ho, h1, h2, h3, h4, h5, h6, h7, h8, h9, h10⟩ := h
  exact ⟨q, bk, p, n, dv, g, al, tm, ho, h1, h2, h3, te_fi hw hfr hd (by decide +kernel) h4, te_fa hw hfr hd (by decide +kernel) h5, te_fa hw hfr hd (by decide +kernel) h6, te_fa hw hfr hd (by decide +kernel) h7, te_fa hw hfr hd (by decide +kernel) h8, te_fa hw hfr hd (by decide +kernel) h9, h10⟩
theorem te_so10 {a b c : zx_V} (hw : tj_wt tj_Lam Ψ w) (hfr : tj_fr e Ψ w w') (hd : tj_dj (tj_dep 10) e = true) (h : tj_sm10 a b c w) : tj_sm10 a b c w' := by
  obtain ⟨q, bk, p, h', ho, k, h1, h2, h3, h4, h5, h6⟩ := h
  exact ⟨q, bk, p, h', ho, k, h1, h2, h3, te_fi hw hfr hd (by decide +kernel) h4, te_fa hw hfr hd (by decide +kernel) h5, h6⟩
theorem te_so16 {a b c : zx_V} (hw : tj_wt tj_Lam Ψ w) (hfr : tj_fr e Ψ w w') (hd : tj_dj (tj_dep 16) e = true) (h : tj_sm16 a b c w) : tj_sm16 a b c w' := by
  obtain ⟨q, bk, p, d, al, tm, ho, h1, h2, h3, h4, h5, h6, h7, h8⟩ := h
  exact ⟨q, bk, p, d, al, tm, ho, h1, h2, h3, te_fi hw hfr hd (by decide +kernel) h4, te_fa hw hfr hd (by decide +kernel) h5, te_fa hw hfr hd (by decide +kernel) h6, te_fa hw hfr hd (by decide +kernel) h7, h8⟩
theorem te_so11 {a : zx_V} (hw : tj_wt tj_Lam Ψ w) (hfr : tj_fr e Ψ w w') (hd : tj_dj (tj_dep 11) e = true) (h : tj_sm11 a w) : tj_sm11 a w' := by
  obtain ⟨q, p, z, fs, fs', h1, h2, h3, h4, h5, h6⟩ := h
  obtain ⟨l, rr, fts, k1, k2, k3, k4⟩ := tj_at_obj hw h2
  obtain ⟨gs, f1, f2⟩ := (hfr q l k1).1 6 fs h2
  have ha : te_depF 6 0 (tj_dep 11) = true := by decide +kernel
  have hb : te_depF 6 1 (tj_dep 11) = true := by decide +kernel
  obtain ⟨gs', f3, f4⟩ := te_fld (k := 1) hw hfr hd (by decide +kernel) h5
  exact ⟨q, p, z, gs, gs', h1, f1, by rw [f2 0 (tj_dj2 hd (List.all_eq_true.mp ha l k3))]; exact h3, by rw [f2 1 (tj_dj2 hd (List.all_eq_true.mp hb l k3))]; exact h4, f3, by rw [f4]; exact h6⟩
theorem te_so14 {a b c : zx_V} (hw : tj_wt tj_Lam Ψ w) (hfr : tj_fr e Ψ w w') (hd : tj_dj (tj_dep 14) e = true) (h : tj_sm14 a b c w) : tj_sm14 a b c w' := by
  obtain ⟨q, g, x, h1, h2, h3⟩ := h
  exact ⟨q, g, x, h1, te_fl hw hfr hd (by decide +kernel) h2, h3⟩
end teFr
theorem te_so : tj_SO tj_Lam := by
  intro k a b c Ψ w w' e hw hfr hd h
  unfold tj_sem at h ⊢
  split at h
  next =>
    unfold tj_smk at h ⊢
    split at h
    next => exact te_so0 hw hfr hd h
    next => exact h
    next => exact h
    next => exact te_so3 hw hfr hd h
    next => exact te_so4 hw hfr hd h
    next => exact te_so5 hw hfr hd h
    next => exact te_so6 hw hfr hd h
    next => exact te_so7 hw hfr hd h
    next => exact te_so8 hw hfr hd h
    next => exact te_so9 hw hfr hd h
    next => exact te_so10 hw hfr hd h
    next => exact te_so11 hw hfr hd h
    next => exact h
    next => exact h
    next => exact te_so14 hw hfr hd h
    next => exact h
    next => exact te_so16 hw hfr hd h
    next => exact trivial
  next => exact h
