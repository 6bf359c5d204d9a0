/-! by hand: methods as a whole, fields and arrays of the reference -/
/-- method y, in D frames, from these values and this world: ends, within the room, with P -/
def tr_Do (D y : Nat) (av : List zx_V) (E : tj_Ef) (Ψ : List Nat) (w : List zx_E) (P : Option zx_V → List Nat → List zx_E → Prop) : Prop := ∃ (r : zx_R) (cy : Nat × Nat), zx_Cl zx_mt zx_rc zx_mx' D y av w cy r ∧ (cy.1 + tj_P tj_c1 r.2 ≤ tj_P tj_c1 w ∧ cy.2 + tj_P tj_c2 r.2 ≤ tj_P tj_c2 w) ∧ ∃ Ψ' : List Nat, tj_le Ψ Ψ' ∧ tj_wt tj_Lam Ψ' r.2 ∧ tj_fr E Ψ w r.2 ∧ P r.1 Ψ' r.2
def tr_end (dt : List (List (Nat × zx_I))) (E : tj_Ef) (Ψ : List Nat) (w : List zx_E) (P : Option zx_V → List Nat → List zx_E → Prop) : zx_S → Prop := fun τ => ∃ (r : zx_R) (Ψ' : List Nat), zx_ret (zx_find (zx_cT dt)) τ.2.2.2.2 τ r ∧ tj_W tj_Lam (tj_P tj_c1 w, tj_P tj_c2 w) E Ψ w Ψ' r.2 τ.2.2.2.2.1 τ.2.2.2.2.2 ∧ P r.1 Ψ' r.2
theorem tr_meth {d y : Nat} {dt : List (List (Nat × zx_I))} {av : List zx_V} {E : tj_Ef} {Ψ : List Nat} {w : List zx_E} {P : Option zx_V → List Nat → List zx_E → Prop} (hmt : zx_mt y = some (zx_find (zx_cT dt))) (hrc : zx_rok w (zx_rc y) av) (hml : zx_words av ≤ zx_mx' y) (body : zx_wp (zx_Cl zx_mt zx_rc zx_mx' d) none (tj_P tj_c1 w, tj_P tj_c2 w) (zx_find (zx_cT dt)) (tr_end dt E Ψ w P) (0, zx_args 0 av, [], w, 0, 0)) : tr_Do (d + 1) y av E Ψ w P := by
  obtain ⟨m, σ, hst, r, Ψ', p1, p2, p3⟩ := body
  exact ⟨r, σ.2.2.2.2, ⟨_, hmt, hrc, hml, m, σ, (zx_star_shr hst).2 _ (Nat.le_refl _) (Nat.le_refl _), p1⟩, p2.2.1, Ψ', p2.2.2.1, p2.1, p2.2.2.2, p3⟩
theorem tr_Do_le {D D' y : Nat} {av : List zx_V} {E : tj_Ef} {Ψ : List Nat} {w : List zx_E} {P : Option zx_V → List Nat → List zx_E → Prop} (h : tr_Do D y av E Ψ w P) (hD : D ≤ D') : tr_Do D' y av E Ψ w P := by
  obtain ⟨r, cy, h1, h2⟩ := h
  exact ⟨r, cy, zx_Cl_le hD h1, h2⟩
theorem tr_Do_mono {D y : Nat} {av : List zx_V} {E : tj_Ef} {Ψ : List Nat} {w : List zx_E} {P P' : Option zx_V → List Nat → List zx_E → Prop} (h : tr_Do D y av E Ψ w P) (hP : ∀ a Ψ' w', tj_le Ψ Ψ' → tj_wt tj_Lam Ψ' w' → tj_fr E Ψ w w' → P a Ψ' w' → P' a Ψ' w') : tr_Do D y av E Ψ w P' := by
  obtain ⟨r, cy, h1, h2, Ψ', h3, h4, h5, h6⟩ := h
  exact ⟨r, cy, h1, h2, Ψ', h3, h4, h5, hP _ _ _ h3 h4 h5 h6⟩
/-- a call of such a method -/
theorem zy_callD {D y : Nat} {E' : tj_Ef} {Ψ : List Nat} {w : List zx_E} {P : Option zx_V → List Nat → List zx_E → Prop} {av : List zx_V} (hC : tr_Do D y av E' Ψ w P) {cap : Nat × Nat} {tab : Nat → Option zx_Q} {Q : zx_S → Prop} {E : tj_Ef} {Ψ0 : List Nat} {w0 : List zx_E} {pc mc ms n : Nat} {g : zx_F} {ls : List (Nat × zx_V)} {st0 st : List zx_V} (ht : tab pc = some (3, y, n, g)) (htk : zx_take n [] st0 = some (av, st)) (h8 : zx_words st ≤ 8) (hls : zx_limP w.length ls = true) (hst : zx_limL w.length st = true) (hW : tj_W tj_Lam cap E Ψ0 w0 Ψ w mc ms) (h2 : tj_sub2 E'.1 E.1 = true) (h1 : tj_sub1 E'.2 E.2 = true)
    (k : ∀ (a : Option zx_V) (Ψ' : List Nat) (w' : List zx_E) (mc' ms' : Nat), tj_W tj_Lam cap E Ψ0 w0 Ψ' w' mc' ms' → tj_le Ψ Ψ' → tj_fr E' Ψ w w' → zx_limP w'.length ls = true → zx_limL w'.length st = true → P a Ψ' w' → zx_wp (zx_Cl zx_mt zx_rc zx_mx' D) none cap tab Q (pc + 3, ls, a.toList ++ st, w', mc', ms')) : zx_wp (zx_Cl zx_mt zx_rc zx_mx' D) none cap tab Q (pc, ls, st0, w, mc, ms) := by
  obtain ⟨r, cy, hK, hroom, Ψ', hle, hwt, hfr, hP⟩ := hC
  have hlen : w.length ≤ r.2.length := by
    rw [← hW.1.1, ← hwt.1]
    exact tj_len_le hle
  refine zx_wp_call (a := 0) (g := g) (y := y) (n := n) ht htk h8 hls hst (cy := cy) (by have := hW.2.1; omega) (by have := hW.2.1; omega) hK ?_
  exact k r.1 Ψ' r.2 _ _ ⟨hwt, by have := hW.2.1; omega, tj_le_tr hW.2.2.1 hle, tj_fr_tr hW.2.2.2 hfr hW.2.2.1 h2 h1⟩ hle hfr (tj_limP_le hlen hls) (tr_limL_le hlen hst) hP
section trEnd
variable {K : zx_K} {cap : Nat × Nat} {dt : List (List (Nat × zx_I))} {E : tj_Ef} {Ψ Ψ' : List Nat} {w w' : List zx_E} {pc mc ms : Nat} {ls : List (Nat × zx_V)} {P : Option zx_V → List Nat → List zx_E → Prop}
theorem tr_endN (ht : ∃ a b g, zx_find (zx_cT dt) pc = some (2, a, b, g)) (hW : tj_W tj_Lam (tj_P tj_c1 w, tj_P tj_c2 w) E Ψ w Ψ' w' mc ms) (hP : P none Ψ' w') : zx_wp K none cap (zx_find (zx_cT dt)) (tr_end dt E Ψ w P) (pc, ls, [], w', mc, ms) := by
  obtain ⟨a, b, g, ht⟩ := ht
  refine zx_wp_done ⟨(none, w'), Ψ', ⟨Nat.le_refl _, Nat.le_refl _, rfl, ?_⟩, hW, hP⟩
  show (match zx_find (zx_cT dt) pc with
    | some (1, _, _, _) => _
    | some (5, _, _, _) => _
    | some (4, _, _, _) => _
    | some (2, _, _, _) => _
    | _ => False)
  rw [ht]
  exact ⟨rfl, rfl⟩
theorem tr_endI {x : Int32} (ht : ∃ a b g, zx_find (zx_cT dt) pc = some (1, a, b, g)) (hW : tj_W tj_Lam (tj_P tj_c1 w, tj_P tj_c2 w) E Ψ w Ψ' w' mc ms) (hP : P (some (.inl x)) Ψ' w') : zx_wp K none cap (zx_find (zx_cT dt)) (tr_end dt E Ψ w P) (pc, ls, [(.inl x)], w', mc, ms) := by
  obtain ⟨a, b, g, ht⟩ := ht
  refine zx_wp_done ⟨(some (.inl x), w'), Ψ', ⟨Nat.le_refl _, Nat.le_refl _, rfl, ?_⟩, hW, hP⟩
  show (match zx_find (zx_cT dt) pc with
    | some (1, _, _, _) => _
    | some (5, _, _, _) => _
    | some (4, _, _, _) => _
    | some (2, _, _, _) => _
    | _ => False)
  rw [ht]
  exact ⟨_, rfl, rfl⟩
theorem tr_endZ {x : Int32} (ht : ∃ a b g, zx_find (zx_cT dt) pc = some (5, a, b, g)) (hx : x = 0 ∨ x = 1) (hW : tj_W tj_Lam (tj_P tj_c1 w, tj_P tj_c2 w) E Ψ w Ψ' w' mc ms) (hP : P (some (.inl x)) Ψ' w') : zx_wp K none cap (zx_find (zx_cT dt)) (tr_end dt E Ψ w P) (pc, ls, [(.inl x)], w', mc, ms) := by
  obtain ⟨a, b, g, ht⟩ := ht
  refine zx_wp_done ⟨(some (.inl x), w'), Ψ', ⟨Nat.le_refl _, Nat.le_refl _, rfl, ?_⟩, hW, hP⟩
  show (match zx_find (zx_cT dt) pc with
    | some (1, _, _, _) => _
    | some (5, _, _, _) => _
    | some (4, _, _, _) => _
    | some (2, _, _, _) => _
    | _ => False)
  rw [ht]
  exact ⟨_, rfl, hx, rfl⟩
theorem tr_endL {x : Int64} (ht : ∃ a b g, zx_find (zx_cT dt) pc = some (4, a, b, g)) (hW : tj_W tj_Lam (tj_P tj_c1 w, tj_P tj_c2 w) E Ψ w Ψ' w' mc ms) (hP : P (some (.inr (.inl x))) Ψ' w') : zx_wp K none cap (zx_find (zx_cT dt)) (tr_end dt E Ψ w P) (pc, ls, [(.inr (.inl x))], w', mc, ms) := by
  obtain ⟨a, b, g, ht⟩ := ht
  refine zx_wp_done ⟨(some (.inr (.inl x)), w'), Ψ', ⟨Nat.le_refl _, Nat.le_refl _, rfl, ?_⟩, hW, hP⟩
  show (match zx_find (zx_cT dt) pc with
    | some (1, _, _, _) => _
    | some (5, _, _, _) => _
    | some (4, _, _, _) => _
    | some (2, _, _, _) => _
    | _ => False)
  rw [ht]
  exact ⟨_, rfl, rfl⟩
end trEnd
/-! fields and arrays of the reference -/
def tr_fj (w : List zx_E) (q k : Nat) (x : Int64) : Prop := ∃ fs : List zx_V, w[q]? = some (.inl (12, fs)) ∧ fs[k]? = some (.inr (.inl x))
/-- an array of another kind: bytes 3, booleans 2 -/
def tr_fy (kd : Nat) (w : List zx_E) (q k n : Nat) (g : Nat → Int32) : Prop := ∃ (fs : List zx_V) (p : Nat), w[q]? = some (.inl (12, fs)) ∧ fs[k]? = some (.inr (.inr (.inl p))) ∧ w[p]? = some (.inr (kd, n, .inl g))
section trFld
variable {Ψ : List Nat} {w w' : List zx_E} {q k : Nat} {fs : List zx_V}
theorem tr_ob (hw : tj_wt tj_Lam Ψ w) (hq : Ψ[q]? = some 149) : ∃ fs, w[q]? = some (.inl (12, fs)) ∧ fs.length = 80 ∧ tj_inv 3 fs := by
  obtain ⟨fs, h1, h2, h3, -⟩ := tj_obj hw hq tr_hd
  exact ⟨fs, h1, by rw [h2]; decide, h3⟩
theorem tr_fiK {x : Int32} (k0 : w[q]? = some (.inl (12, fs))) (h : tj_fi w q 12 k x) : fs[k]? = some (.inl x) := by
  obtain ⟨fs', h1, h2⟩ := h
  rw [k0] at h1
  cases h1
  exact h2
theorem tr_fjK {x : Int64} (k0 : w[q]? = some (.inl (12, fs))) (h : tr_fj w q k x) : fs[k]? = some (.inr (.inl x)) := by
  obtain ⟨fs', h1, h2⟩ := h
  rw [k0] at h1
  cases h1
  exact h2
theorem tr_tyA {l p : Nat} (hw : tj_wt tj_Lam Ψ w) (hq : Ψ[q]? = some 149) (k0 : w[q]? = some (.inl (12, fs))) (hk : tr_fts[k]? = some (1, l, 0)) (h : fs[k]? = some (.inr (.inr (.inl p)))) : Ψ[p]? = some l := by
  obtain ⟨fsT, f1, -, -, f3⟩ := tj_obj hw hq tr_hd
  rw [k0] at f1
  cases f1
  obtain ⟨v, g, p', y, hp⟩ := f3 k _ hk
  rw [h] at g
  cases g
  cases y
  exact hp
theorem tr_faT {l n : Nat} {g : Nat → Int32} (hw : tj_wt tj_Lam Ψ w) (hq : Ψ[q]? = some 149) (k0 : w[q]? = some (.inl (12, fs))) (hk : tr_fts[k]? = some (1, l, 0)) (h : tj_fa w q 12 k n g) : ∃ p, fs[k]? = some (.inr (.inr (.inl p))) ∧ w[p]? = some (.inr (0, n, .inl g)) ∧ Ψ[p]? = some l ∧ p < w.length := by
  obtain ⟨fs', p, h1, h2, h3⟩ := h
  rw [k0] at h1
  cases h1
  exact ⟨p, h2, h3, tr_tyA hw hq k0 hk h2, (List.getElem?_eq_some_iff.mp h3).1⟩
theorem tr_fyT {kd l n : Nat} {g : Nat → Int32} (hw : tj_wt tj_Lam Ψ w) (hq : Ψ[q]? = some 149) (k0 : w[q]? = some (.inl (12, fs))) (hk : tr_fts[k]? = some (1, l, 0)) (h : tr_fy kd w q k n g) : ∃ p, fs[k]? = some (.inr (.inr (.inl p))) ∧ w[p]? = some (.inr (kd, n, .inl g)) ∧ Ψ[p]? = some l ∧ p < w.length := by
  obtain ⟨fs', p, h1, h2, h3⟩ := h
  rw [k0] at h1
  cases h1
  exact ⟨p, h2, h3, tr_tyA hw hq k0 hk h2, (List.getElem?_eq_some_iff.mp h3).1⟩
theorem tr_exI {lo hi : Nat} (hw : tj_wt tj_Lam Ψ w) (hq : Ψ[q]? = some 149) (hk : tr_fts[k]? = some (0, lo, hi)) : ∃ x, tj_fi w q 12 k x ∧ lo ≤ zx_b x ∧ zx_b x ≤ hi := by
  obtain ⟨fs, f1, -, -, f3⟩ := tj_obj hw hq tr_hd
  obtain ⟨v, g, x, y, b1, b2⟩ := f3 k _ hk
  subst y
  exact ⟨x, ⟨fs, f1, g⟩, b1, b2⟩
theorem tr_exJ {a b : Nat} (hw : tj_wt tj_Lam Ψ w) (hq : Ψ[q]? = some 149) (hk : tr_fts[k]? = some (3, a, b)) : ∃ x, tr_fj w q k x := by
  obtain ⟨fs, f1, -, -, f3⟩ := tj_obj hw hq tr_hd
  obtain ⟨v, g, x, y⟩ := f3 k _ hk
  have y : v = (.inr (.inl x)) := y
  subst y
  exact ⟨x, ⟨fs, f1, g⟩⟩
theorem tr_exA {l n : Nat} {s : List tj_y} (hw : tj_wt tj_Lam Ψ w) (hq : Ψ[q]? = some 149) (hk : tr_fts[k]? = some (1, l, 0)) (hd : tj_Lam[l]? = some (.inr (0, n, s))) : ∃ g, tj_fa w q 12 k n g := by
  obtain ⟨fs, f1, -, -, f3⟩ := tj_obj hw hq tr_hd
  obtain ⟨v, g, p, y, hp⟩ := f3 k _ hk
  subst y
  obtain ⟨g', h1, -⟩ := tj_iarr hw hp hd (Or.inl rfl)
  exact ⟨g', fs, p, f1, g, h1⟩
theorem tr_exY {kd l n : Nat} {s : List tj_y} (hw : tj_wt tj_Lam Ψ w) (hq : Ψ[q]? = some 149) (hk : tr_fts[k]? = some (1, l, 0)) (hd : tj_Lam[l]? = some (.inr (kd, n, s))) (hkd : kd = 2 ∨ kd = 3) : ∃ g, tr_fy kd w q k n g := by
  obtain ⟨fs, f1, -, -, f3⟩ := tj_obj hw hq tr_hd
  obtain ⟨v, g, p, y, hp⟩ := f3 k _ hk
  subst y
  obtain ⟨g', h1, -⟩ := tj_iarr hw hp hd (Or.inr hkd)
  exact ⟨g', fs, p, f1, g, h1⟩
theorem tr_bdI {lo hi : Nat} {x : Int32} (hw : tj_wt tj_Lam Ψ w) (hq : Ψ[q]? = some 149) (hk : tr_fts[k]? = some (0, lo, hi)) (h : tj_fi w q 12 k x) : lo ≤ zx_b x ∧ zx_b x ≤ hi := by
  obtain ⟨y, h1, h2⟩ := tr_exI hw hq hk
  rw [tr_fi_eq h h1]
  exact h2
theorem tr_bd1 {l n lo hi : Nat} {g : Nat → Int32} (hw : tj_wt tj_Lam Ψ w) (hq : Ψ[q]? = some 149) (hk : tr_fts[k]? = some (1, l, 0)) (hd : tj_Lam[l]? = some (.inr (0, n, [(n, lo, hi)]))) (h : tj_fa w q 12 k n g) {j : Nat} (hj : j < n) : lo ≤ zx_b (g j) ∧ zx_b (g j) ≤ hi := by
  obtain ⟨fs, p, h1, h2, h3⟩ := h
  have hp := tr_tyA hw hq h1 hk h2
  obtain ⟨g', h4, h5⟩ := tj_iarr hw hp hd (Or.inl rfl)
  rw [h3] at h4
  cases h4
  exact h5 j hj lo hi (by
    unfold tj_sel
    rw [show Nat.blt j n = true from Nat.ble_eq_true_of_le hj])
theorem tr_fj_fr {e d : tj_Ef} {x : Int64} (hw : tj_wt tj_Lam Ψ w) (hfr : tj_fr e Ψ w w') (hd : tj_dj d e = true) (hk : te_depF 12 k d = true) (h : tr_fj w q k x) : tr_fj w' q k x := by
  obtain ⟨fs, h1, h2⟩ := h
  obtain ⟨fs', f1, f2⟩ := te_fld hw hfr hd hk h1
  exact ⟨fs', f1, by rw [f2]; exact h2⟩
theorem tr_fy_fr {e d : tj_Ef} {kd n : Nat} {g : Nat → Int32} (hw : tj_wt tj_Lam Ψ w) (hfr : tj_fr e Ψ w w') (hd : tj_dj d e = true) (hk : te_depA 12 k d = true) (h : tr_fy kd w q k n g) : tr_fy kd w' q k n g := by
  obtain ⟨fs, p, h1, h2, h3⟩ := h
  obtain ⟨fs', f1, f2, f3⟩ := te_arr hw hfr hd hk h1 h2 h3
  exact ⟨fs', p, f1, f2, f3⟩
theorem tr_h2s {l k : Nat} : tj_h2 l k [(l, k)] = true := by
  show (match Nat.beq l l && Nat.beq k k with
    | true => true
    | false => false) = true
  rw [zx_beqT (rfl : l = l), zx_beqT (rfl : k = k)]
  rfl
theorem tr_h1s {l : Nat} : tj_h1 l [l] = true := by
  show (match Nat.beq l l with
    | true => true
    | false => false) = true
  rw [zx_beqT (rfl : l = l)]
end trFld
section trWr
variable {cap : Nat × Nat} {E : tj_Ef} {Ψ0 Ψ : List Nat} {w0 w : List zx_E} {mc ms q k : Nat} {fs : List zx_V}
/-- an int field written -/
theorem tr_wI {x : Int32} {lo hi : Nat} (hJ : tj_W tj_Lam cap E Ψ0 w0 Ψ w mc ms) (hq : Ψ[q]? = some 149) (k0 : w[q]? = some (.inl (12, fs))) (hk : tr_fts[k]? = some (0, lo, hi)) (h1 : lo ≤ zx_b x) (h2 : zx_b x ≤ hi) (hi3 : tj_invk 3 k = true) (hE : tj_h2 149 k E.1 = true) : tj_W tj_Lam cap E Ψ0 w0 Ψ (w.set q (.inl (12, (fs.set k (.inl x))))) mc ms ∧ tj_fr ([(149, k)], []) Ψ w (w.set q (.inl (12, (fs.set k (.inl x))))) ∧ (w.set q (.inl (12, (fs.set k (.inl x))))).length = w.length ∧ (w.set q (.inl (12, (fs.set k (.inl x)))))[q]? = some (.inl (12, (fs.set k (.inl x)))) ∧ tj_fi (w.set q (.inl (12, (fs.set k (.inl x))))) q 12 k x := by
  obtain ⟨fsT, f1, f2, f3, -⟩ := tj_obj hJ.1 hq tr_hd
  rw [k0] at f1
  cases f1
  have hlt := (List.getElem?_eq_some_iff.mp k0).1
  have hkl : k < fs.length := by rw [f2]; exact (List.getElem?_eq_some_iff.mp hk).1
  refine ⟨tj_W_field hJ hq tr_hd k0 hk ⟨x, rfl, h1, h2⟩ (tj_invk_ok hi3 f3) rfl hE, (tj_W_field (tm_W0 (E := ([(149, k)], [])) hJ.1) hq tr_hd k0 hk ⟨x, rfl, h1, h2⟩ (tj_invk_ok hi3 f3) rfl tr_h2s).2.2.2, List.length_set, List.getElem?_set_self hlt, ⟨_, List.getElem?_set_self hlt, List.getElem?_set_self hkl⟩⟩
/-- a long field written -/
theorem tr_wJ {x : Int64} {a b : Nat} (hJ : tj_W tj_Lam cap E Ψ0 w0 Ψ w mc ms) (hq : Ψ[q]? = some 149) (k0 : w[q]? = some (.inl (12, fs))) (hk : tr_fts[k]? = some (3, a, b)) (hi3 : tj_invk 3 k = true) (hE : tj_h2 149 k E.1 = true) : tj_W tj_Lam cap E Ψ0 w0 Ψ (w.set q (.inl (12, (fs.set k (.inr (.inl x)))))) mc ms ∧ tj_fr ([(149, k)], []) Ψ w (w.set q (.inl (12, (fs.set k (.inr (.inl x)))))) ∧ (w.set q (.inl (12, (fs.set k (.inr (.inl x)))))).length = w.length ∧ (w.set q (.inl (12, (fs.set k (.inr (.inl x))))))[q]? = some (.inl (12, (fs.set k (.inr (.inl x))))) ∧ tr_fj (w.set q (.inl (12, (fs.set k (.inr (.inl x)))))) q k x := by
  obtain ⟨fsT, f1, f2, f3, -⟩ := tj_obj hJ.1 hq tr_hd
  rw [k0] at f1
  cases f1
  have hlt := (List.getElem?_eq_some_iff.mp k0).1
  have hkl : k < fs.length := by rw [f2]; exact (List.getElem?_eq_some_iff.mp hk).1
  have hv : tj_vt Ψ (3, a, b) (.inr (.inl x)) := ⟨x, rfl⟩
  refine ⟨tj_W_field hJ hq tr_hd k0 hk hv (tj_invk_ok hi3 f3) rfl hE, (tj_W_field (tm_W0 (E := ([(149, k)], [])) hJ.1) hq tr_hd k0 hk hv (tj_invk_ok hi3 f3) rfl tr_h2s).2.2.2, List.length_set, List.getElem?_set_self hlt, ⟨_, List.getElem?_set_self hlt, List.getElem?_set_self hkl⟩⟩
/-- an int of an array written -/
theorem tr_wA {x : Int32} {l n p i : Nat} {s : List tj_y} {g : Nat → Int32} (hJ : tj_W tj_Lam cap E Ψ0 w0 Ψ w mc ms) (hq : Ψ[q]? = some 149) (k0 : w[q]? = some (.inl (12, fs))) (hk : tr_fts[k]? = some (1, l, 0)) (hd : tj_Lam[l]? = some (.inr (0, n, s))) (hl : l ≠ 149) (hg : fs[k]? = some (.inr (.inr (.inl p)))) (hp : w[p]? = some (.inr (0, n, .inl g))) (hv : ∀ a b, tj_sel s i = some (a, b) → a ≤ zx_b x ∧ zx_b x ≤ b) (hE : tj_h1 l E.2 = true) : tj_W tj_Lam cap E Ψ0 w0 Ψ (w.set p (.inr (0, n, .inl (upd g i x)))) mc ms ∧ tj_fr ([], [l]) Ψ w (w.set p (.inr (0, n, .inl (upd g i x)))) ∧ (w.set p (.inr (0, n, .inl (upd g i x)))).length = w.length ∧ (w.set p (.inr (0, n, .inl (upd g i x))))[q]? = some (.inl (12, fs)) ∧ tj_fa (w.set p (.inr (0, n, .inl (upd g i x)))) q 12 k n (upd g i x) := by
  have hpl := tr_tyA hJ.1 hq k0 hk hg
  have hqp := tm_ne hq hpl (Ne.symm hl)
  have hq2 : (w.set p (.inr (0, n, .inl (upd g i x))))[q]? = some (.inl (12, fs)) := by rw [List.getElem?_set_ne (Ne.symm hqp)]; exact k0
  exact ⟨tg_setA hJ hpl hd hp hv hE, (tg_setA (tm_W0 (E := ([], [l])) hJ.1) hpl hd hp hv tr_h1s).2.2.2, List.length_set, hq2, fs, p, hq2, hg, List.getElem?_set_self (List.getElem?_eq_some_iff.mp hp).1⟩
/-- of another kind -/
theorem tr_wY {x : Int32} {kd l n p i : Nat} {s : List tj_y} {g : Nat → Int32} (hJ : tj_W tj_Lam cap E Ψ0 w0 Ψ w mc ms) (hq : Ψ[q]? = some 149) (k0 : w[q]? = some (.inl (12, fs))) (hk : tr_fts[k]? = some (1, l, 0)) (hd : tj_Lam[l]? = some (.inr (kd, n, s))) (hkd : kd = 2 ∨ kd = 3) (hl : l ≠ 149) (hg : fs[k]? = some (.inr (.inr (.inl p)))) (hp : w[p]? = some (.inr (kd, n, .inl g))) (hv : ∀ a b, tj_sel s i = some (a, b) → a ≤ zx_b x ∧ zx_b x ≤ b) (hE : tj_h1 l E.2 = true) : tj_W tj_Lam cap E Ψ0 w0 Ψ (w.set p (.inr (kd, n, .inl (upd g i x)))) mc ms ∧ tj_fr ([], [l]) Ψ w (w.set p (.inr (kd, n, .inl (upd g i x)))) ∧ (w.set p (.inr (kd, n, .inl (upd g i x)))).length = w.length ∧ (w.set p (.inr (kd, n, .inl (upd g i x))))[q]? = some (.inl (12, fs)) ∧ tr_fy kd (w.set p (.inr (kd, n, .inl (upd g i x)))) q k n (upd g i x) := by
  have hpl := tr_tyA hJ.1 hq k0 hk hg
  have hqp := tm_ne hq hpl (Ne.symm hl)
  have hq2 : (w.set p (.inr (kd, n, .inl (upd g i x))))[q]? = some (.inl (12, fs)) := by rw [List.getElem?_set_ne (Ne.symm hqp)]; exact k0
  have h4 : kd ≠ 4 := by omega
  exact ⟨tj_W_arr hJ hpl hp (tj_seti hJ.1 hpl hd hp hv) h4 hE, (tj_W_arr (tm_W0 (E := ([], [l])) hJ.1) hpl hp (tj_seti hJ.1 hpl hd hp hv) h4 tr_h1s).2.2.2, List.length_set, hq2, fs, p, hq2, hg, List.getElem?_set_self (List.getElem?_eq_some_iff.mp hp).1⟩
end trWr
theorem tr_s1 {n lo hi i : Nat} {x : Int32} (h1 : lo ≤ zx_b x) (h2 : zx_b x ≤ hi) : ∀ a b, tj_sel [(n, lo, hi)] i = some (a, b) → a ≤ zx_b x ∧ zx_b x ≤ b := fun a b hs => by
  obtain ⟨e1, e2⟩ := tm_sel1 hs
  omega
section zyB
variable {K : zx_K} {X : zx_X} {cap : Nat × Nat} {tab : Nat → Option zx_Q} {Q : zx_S → Prop} {pc mc ms q n : Nat} {ls : List (Nat × zx_V)} {st : List zx_V} {w : List zx_E} {i x : Int32} {g : Nat → Int32}
theorem zy_ldb (ht : tab pc = some (zx_ld 3)) (hq : w[q]? = some (.inr (3, n, .inl g))) (hin : zx_in i n = true) (kk : zx_wp K X cap tab Q (pc + 1, ls, (.inl (g i.toNatClampNeg)) :: st, w, mc, ms)) : zx_wp K X cap tab Q (pc, ls, (.inl i) :: (.inr (.inr (.inl q))) :: st, w, mc, ms) := by
  refine zx_wp_pure (μ := (pc + 1, ls, (.inl (g i.toNatClampNeg)) :: st, w, mc, ms)) ht ?_ kk
  show zx_ald 3 X _ = _
  simp only [zx_ald, hq, zx_beqT (rfl : (3 : Nat) = 3), hin, Bool.and_self]
end zyB
/-- a pointer of the reference -/
def tr_pt (w : List zx_E) (q k p : Nat) : Prop := ∃ fs : List zx_V, w[q]? = some (.inl (12, fs)) ∧ fs[k]? = some (.inr (.inr (.inl p)))
theorem tr_pt_fr {Ψ : List Nat} {w w' : List zx_E} {q k p : Nat} {e d : tj_Ef} (hw : tj_wt tj_Lam Ψ w) (hfr : tj_fr e Ψ w w') (hd : tj_dj d e = true) (hk : te_depF 12 k d = true) (h : tr_pt w q k p) : tr_pt w' q k p := by
  obtain ⟨fs, h1, h2⟩ := h
  obtain ⟨fs', f1, f2⟩ := te_fld hw hfr hd hk h1
  exact ⟨fs', f1, by rw [f2]; exact h2⟩
/-- a long array of the reference -/
def tr_fL (w : List zx_E) (q k n : Nat) : Prop := ∃ (fs : List zx_V) (p : Nat) (g : Nat → Int64), w[q]? = some (.inl (12, fs)) ∧ fs[k]? = some (.inr (.inr (.inl p))) ∧ w[p]? = some (.inr (1, n, .inr (.inl g)))
theorem tr_exL {Ψ : List Nat} {w : List zx_E} {q k l n : Nat} {s : List tj_y} (hw : tj_wt tj_Lam Ψ w) (hq : Ψ[q]? = some 149) (hk : tr_fts[k]? = some (1, l, 0)) (hd : tj_Lam[l]? = some (.inr (1, n, s))) : tr_fL w q k n := by
  obtain ⟨fs, f1, -, -, f3⟩ := tj_obj hw hq tr_hd
  obtain ⟨v, g, p, y, hp⟩ := f3 k _ hk
  subst y
  obtain ⟨g', h1⟩ := tj_larr hw hp hd
  exact ⟨fs, p, g', f1, g, h1⟩
section zyG
variable {K : zx_K} {X : zx_X} {cap cap' : Nat × Nat} {tab : Nat → Option zx_Q} {Q : zx_S → Prop} {pc mc ms q k n : Nat} {ls : List (Nat × zx_V)} {st : List zx_V} {w w0 : List zx_E} {E : tj_Ef} {Ψ0 Ψ : List Nat}
theorem zy_gI {x : Int32} (ht : tab pc = some (zx_gk 12 k)) (h : tj_fi w q 12 k x) (kk : zx_wp K X cap tab Q (pc + 3, ls, (.inl x) :: st, w, mc, ms)) : zx_wp K X cap tab Q (pc, ls, (.inr (.inr (.inl q))) :: st, w, mc, ms) := by
  obtain ⟨fs, h1, h2⟩ := h
  exact zy_get ht h1 h2 kk
theorem zy_gJ {x : Int64} (ht : tab pc = some (zx_gk 12 k)) (h : tr_fj w q k x) (kk : zx_wp K X cap tab Q (pc + 3, ls, (.inr (.inl x)) :: st, w, mc, ms)) : zx_wp K X cap tab Q (pc, ls, (.inr (.inr (.inl q))) :: st, w, mc, ms) := by
  obtain ⟨fs, h1, h2⟩ := h
  exact zy_get ht h1 h2 kk
theorem zy_gA {g : Nat → Int32} (ht : tab pc = some (zx_gk 12 k)) (h : tj_fa w q 12 k n g) (kk : ∀ p, w[p]? = some (.inr (0, n, .inl g)) → tr_pt w q k p → p < w.length → zx_wp K X cap tab Q (pc + 3, ls, (.inr (.inr (.inl p))) :: st, w, mc, ms)) : zx_wp K X cap tab Q (pc, ls, (.inr (.inr (.inl q))) :: st, w, mc, ms) := by
  obtain ⟨fs, p, h1, h2, h3⟩ := h
  exact zy_get ht h1 h2 (kk p h3 ⟨fs, h1, h2⟩ (List.getElem?_eq_some_iff.mp h3).1)
theorem zy_gY {kd : Nat} {g : Nat → Int32} (ht : tab pc = some (zx_gk 12 k)) (h : tr_fy kd w q k n g) (kk : ∀ p, w[p]? = some (.inr (kd, n, .inl g)) → tr_pt w q k p → p < w.length → zx_wp K X cap tab Q (pc + 3, ls, (.inr (.inr (.inl p))) :: st, w, mc, ms)) : zx_wp K X cap tab Q (pc, ls, (.inr (.inr (.inl q))) :: st, w, mc, ms) := by
  obtain ⟨fs, p, h1, h2, h3⟩ := h
  exact zy_get ht h1 h2 (kk p h3 ⟨fs, h1, h2⟩ (List.getElem?_eq_some_iff.mp h3).1)
theorem zy_gL (ht : tab pc = some (zx_gk 12 k)) (h : tr_fL w q k n) (kk : ∀ p g, w[p]? = some (.inr (1, n, .inr (.inl g))) → tr_pt w q k p → p < w.length → zx_wp K X cap tab Q (pc + 3, ls, (.inr (.inr (.inl p))) :: st, w, mc, ms)) : zx_wp K X cap tab Q (pc, ls, (.inr (.inr (.inl q))) :: st, w, mc, ms) := by
  obtain ⟨fs, p, g, h1, h2, h3⟩ := h
  exact zy_get ht h1 h2 (kk p g h3 ⟨fs, h1, h2⟩ (List.getElem?_eq_some_iff.mp h3).1)
/-- writes: an int field, a long field, an int of an array, one of another kind, a long of an array -/
theorem zy_wI {x : Int32} {lo hi : Nat} (ht : tab pc = some (zx_pk 12 k 0)) (hJ : tj_W tj_Lam cap' E Ψ0 w0 Ψ w mc ms) (hq : Ψ[q]? = some 149) (hk : tr_fts[k]? = some (0, lo, hi)) (h1 : lo ≤ zx_b x) (h2 : zx_b x ≤ hi) (hi3 : tj_invk 3 k = true) (hE : tj_h2 149 k E.1 = true) (kk : ∀ w', tj_W tj_Lam cap' E Ψ0 w0 Ψ w' mc ms → tj_fr ([(149, k)], []) Ψ w w' → w'.length = w.length → tj_fi w' q 12 k x → zx_wp K X cap tab Q (pc + 3, ls, st, w', mc, ms)) : zx_wp K X cap tab Q (pc, ls, (.inl x) :: (.inr (.inr (.inl q))) :: st, w, mc, ms) := by
  obtain ⟨fs, k0, f2, -⟩ := tr_ob hJ.1 hq
  obtain ⟨a1, a2, a3, a4, a5⟩ := tr_wI hJ hq k0 hk h1 h2 hi3 hE
  have hkl : k < fs.length := by rw [f2]; exact (List.getElem?_eq_some_iff.mp hk).1
  exact zy_put ht k0 hkl rfl (kk _ a1 a2 a3 a5)
theorem zy_wJ {x : Int64} {a b : Nat} (ht : tab pc = some (zx_pk 12 k 3)) (hJ : tj_W tj_Lam cap' E Ψ0 w0 Ψ w mc ms) (hq : Ψ[q]? = some 149) (hk : tr_fts[k]? = some (3, a, b)) (hi3 : tj_invk 3 k = true) (hE : tj_h2 149 k E.1 = true) (kk : ∀ w', tj_W tj_Lam cap' E Ψ0 w0 Ψ w' mc ms → tj_fr ([(149, k)], []) Ψ w w' → w'.length = w.length → tr_fj w' q k x → zx_wp K X cap tab Q (pc + 3, ls, st, w', mc, ms)) : zx_wp K X cap tab Q (pc, ls, (.inr (.inl x)) :: (.inr (.inr (.inl q))) :: st, w, mc, ms) := by
  obtain ⟨fs, k0, f2, -⟩ := tr_ob hJ.1 hq
  obtain ⟨a1, a2, a3, a4, a5⟩ := tr_wJ (x := x) hJ hq k0 hk hi3 hE
  have hkl : k < fs.length := by rw [f2]; exact (List.getElem?_eq_some_iff.mp hk).1
  exact zy_put ht k0 hkl rfl (kk _ a1 a2 a3 a5)
theorem zy_wA {x i : Int32} {l p lo hi : Nat} {g : Nat → Int32} (ht : tab pc = some zx_ai) (hJ : tj_W tj_Lam cap' E Ψ0 w0 Ψ w mc ms) (hq : Ψ[q]? = some 149) (hk : tr_fts[k]? = some (1, l, 0)) (hd : tj_Lam[l]? = some (.inr (0, n, [(n, lo, hi)]))) (hl : l ≠ 149) (hp : tr_pt w q k p) (ha : tj_fa w q 12 k n g) (i0 : 0 ≤ i.toInt) (i1 : i.toInt < n) (h1 : lo ≤ zx_b x) (h2 : zx_b x ≤ hi) (hE : tj_h1 l E.2 = true) (kk : ∀ w', tj_W tj_Lam cap' E Ψ0 w0 Ψ w' mc ms → tj_fr ([], [l]) Ψ w w' → w'.length = w.length → tj_fa w' q 12 k n (upd g i.toInt.toNat x) → zx_wp K X cap tab Q (pc + 1, ls, st, w', mc, ms)) : zx_wp K X cap tab Q (pc, ls, (.inl x) :: (.inl i) :: (.inr (.inr (.inl p))) :: st, w, mc, ms) := by
  obtain ⟨fs, k0, hg⟩ := hp
  obtain ⟨fs', p', k0', hg', h3⟩ := ha
  rw [k0] at k0'
  cases k0'
  rw [hg] at hg'
  cases hg'
  obtain ⟨a1, a2, a3, a4, a5⟩ := tr_wA (i := i.toInt.toNat) (x := x) hJ hq k0 hk hd hl hg h3 (tr_s1 h1 h2) hE
  exact zy_ai ht h3 (tr_in i0 i1) (kk _ a1 a2 a3 a5)
theorem zy_wZ {x i : Int32} {l p : Nat} {g : Nat → Int32} (ht : tab pc = some zx_az) (hJ : tj_W tj_Lam cap' E Ψ0 w0 Ψ w mc ms) (hq : Ψ[q]? = some 149) (hk : tr_fts[k]? = some (1, l, 0)) (hd : tj_Lam[l]? = some (.inr (2, n, [(n, 2147483648, 2147483649)]))) (hl : l ≠ 149) (hp : tr_pt w q k p) (ha : tr_fy 2 w q k n g) (i0 : 0 ≤ i.toInt) (i1 : i.toInt < n) (hE : tj_h1 l E.2 = true) (kk : ∀ w', tj_W tj_Lam cap' E Ψ0 w0 Ψ w' mc ms → tj_fr ([], [l]) Ψ w w' → w'.length = w.length → zx_wp K X cap tab Q (pc + 1, ls, st, w', mc, ms)) : zx_wp K X cap tab Q (pc, ls, (.inl x) :: (.inl i) :: (.inr (.inr (.inl p))) :: st, w, mc, ms) := by
  obtain ⟨fs, k0, hg⟩ := hp
  obtain ⟨fs', p', k0', hg', h3⟩ := ha
  rw [k0] at k0'
  cases k0'
  rw [hg] at hg'
  cases hg'
  have e : vp_nar .boolean x = x &&& 1 := rfl
  have hb := tj_b_and (x := x) (y := 1) (by decide)
  have e1 : zx_b 1 = 2147483649 := by decide
  obtain ⟨a1, a2, a3, a4, a5⟩ := tr_wY (i := i.toInt.toNat) (x := vp_nar .boolean x) hJ hq k0 hk hd (Or.inl rfl) hl hg h3 (tr_s1 (by rw [e]; exact hb.1) (by rw [e, ← e1]; exact hb.2)) hE
  exact zy_az ht h3 (tr_in i0 i1) (kk _ a1 a2 a3)
theorem zy_wL {x : Int64} {i : Int32} {l p : Nat} {s : List tj_y} (ht : tab pc = some zx_aj) (hJ : tj_W tj_Lam cap' E Ψ0 w0 Ψ w mc ms) (hq : Ψ[q]? = some 149) (hk : tr_fts[k]? = some (1, l, 0)) (hd : tj_Lam[l]? = some (.inr (1, n, s))) (hp : tr_pt w q k p) (i0 : 0 ≤ i.toInt) (i1 : i.toInt < n) (hE : tj_h1 l E.2 = true) (kk : ∀ w', tj_W tj_Lam cap' E Ψ0 w0 Ψ w' mc ms → tj_fr ([], [l]) Ψ w w' → w'.length = w.length → zx_wp K X cap tab Q (pc + 1, ls, st, w', mc, ms)) : zx_wp K X cap tab Q (pc, ls, (.inr (.inl x)) :: (.inl i) :: (.inr (.inr (.inl p))) :: st, w, mc, ms) := by
  obtain ⟨fs, k0, hg⟩ := hp
  have hpl := tr_tyA hJ.1 hq k0 hk hg
  obtain ⟨g, h3⟩ := tj_larr hJ.1 hpl hd
  refine zx_wp_pure (μ := (pc + 1, ls, st, w.set p (.inr (1, n, .inr (.inl (vp_updL g i.toNatClampNeg x)))), mc, ms)) ht ?_ (kk _ ?_ ?_ List.length_set)
  · show zx_last _ = _
    simp only [zx_last, h3, zx_beqT (rfl : (1 : Nat) = 1), tr_in i0 i1, Bool.and_self]
  · exact tj_W_arr hJ hpl h3 (tj_setl hJ.1 hpl hd) (by decide) hE
  · exact (tj_W_arr (tm_W0 (E := ([], [l])) hJ.1) hpl h3 (tj_setl hJ.1 hpl hd) (by decide) tr_h1s).2.2.2
end zyG
