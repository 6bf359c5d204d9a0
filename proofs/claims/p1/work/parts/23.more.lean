/-! Math.max, Math.min; which states are loaded from; new arrays kind by kind -/
theorem sx_load_cases {sc : Bool} {σ : sx_S} {kd : Nat} {ss : List sx_S} (h : sx_load sc σ kd = some ss) : (∃ pc L i k st w iv mc ms, σ = (pc, L, i :: (.inr (.inr (.inl k))) :: st, w, iv, mc, ms)) ∨ (kd = 0 ∧ ∃ pc L i st w iv mc ms, σ = (pc, L, i :: (.inr (.inr (.inr 2))) :: st, w, iv, mc, ms)) := by
  unfold sx_load at h
  split at h
  next pc L i k st w iv mc ms => exact Or.inl ⟨pc, L, i, k, st, w, iv, mc, ms, rfl⟩
  next pc L i st w iv mc ms =>
    split at h
    next j hb _ => exact Or.inr ⟨Nat.eq_of_beq_eq_true hb, pc, L, i, st, w, iv, mc, ms, rfl⟩
    next => cases h
  next => cases h
theorem sx_alen_cases {sc : Bool} {σ : sx_S} {ss : List sx_S} (h : sx_alen sc σ = some ss) : (∃ pc L k st w iv mc ms, σ = (pc, L, (.inr (.inr (.inl k))) :: st, w, iv, mc, ms)) ∨ (∃ pc L st w iv mc ms, σ = (pc, L, (.inr (.inr (.inr 2))) :: st, w, iv, mc, ms)) := by
  unfold sx_alen at h
  split at h
  next pc L k st w iv mc ms => exact Or.inl ⟨pc, L, k, st, w, iv, mc, ms, rfl⟩
  next pc L st w iv mc ms => exact Or.inr ⟨pc, L, st, w, iv, mc, ms, rfl⟩
  next => cases h
theorem sx_pickI (t : Bool) (x y : Nat) : Int32.ofNat (sx_pick t x y) = if t = true then Int32.ofNat x else Int32.ofNat y := by
  cases t <;> rfl
theorem sx_bltI (a b : Nat) : (Nat.blt (sx_bias a) (sx_bias b) = true) = (Int32.ofNat a < Int32.ofNat b) := by
  rw [sx_i_lt, sx_b_of, sx_b_of]
  exact propext ⟨fun h => Nat.le_of_ble_eq_true h, fun h => sx_bltT h⟩
noncomputable def sx_mv (mx : Bool) (a d : Nat) : Nat := match mx with
  | true => sx_pick (Nat.blt (sx_bias a) (sx_bias d)) d a
  | false => sx_pick (Nat.blt (sx_bias d) (sx_bias a)) d a
section sxMore
variable {p : Program} {l : Launch} {e : Env} {R : Room} {s : State} {m : MethodId} {args : Array Value} {below : List Frame} {meth : Method} {c : Code} {Q : State → Prop} {D : va_G} {cA : Nat → ClassId} {A : Nat → Prop} {b nL : Nat} {ρ0 : Nat → Int32} {ad0 : Nat → Nat} {n0 m0 : Nat} {cc : ByteArray}
theorem sx_mm_inv {mx : Bool} {cap : Nat × Nat} {σ : sx_S} {ss : List sx_S} (h : sx_mm mx cap σ = some ss) : ∃ pc L y x st w iv mc ms a d, σ = (pc, L, y :: x :: st, w, iv, mc, ms) ∧ sx_nm iv x = (.inl a) ∧ sx_nm iv y = (.inl d) ∧ st.length ≤ 4 ∧ mc ≤ cap.1 ∧ ms ≤ cap.2 ∧ ss = [(pc + 3, L, (.inl (sx_mv mx a d)) :: st, w, iv, mc, ms)] := by
  unfold sx_mm at h
  split at h
  next pc L y x st w iv mc ms =>
    split at h
    next a d ha hd =>
      split at h
      next hz =>
        cases h
        simp only [Bool.and_eq_true] at hz
        exact ⟨pc, L, y, x, st, w, iv, mc, ms, a, d, rfl, ha, hd, Nat.le_of_ble_eq_true hz.1.1, Nat.le_of_ble_eq_true hz.1.2, Nat.le_of_ble_eq_true hz.2, rfl⟩
      next => cases h
    next => cases h
  next => cases h
theorem sx_s_mx {own : String} (C : sx_Cx p s m args c D cA own cc nL) {cap : Nat × Nat} (hR : cap.1 ≤ R.cells ∧ cap.2 ≤ R.slots) (hfr : 1 ≤ R.frames) (hlo : 64 ≤ R.locals) {index : Nat} (hlink : (Cond.methodLink own index Lib.Math.max.name).before args s = true) {σ : sx_S} {ss : List sx_S} (hdg : decode cc σ.1 = .ok (.invokestatic index, 3)) (h : sx_mm true cap σ = some ss) (K : ∀ τ ∈ ss, sx_Ok p l e R s m args below meth c Q D cA A b nL ρ0 ad0 n0 m0 τ) : sx_Ok p l e R s m args below meth c Q D cA A b nL ρ0 ad0 n0 m0 σ := by
  obtain ⟨hx, hb, hml, hown, hts, hN, hO, hK⟩ := C
  obtain ⟨pc, L, y, x, st, w, iv, mc, ms, a, d, rfl, ha, hd, z1, z2, z3, rfl⟩ := sx_mm_inv h
  refine sx_pure (K _ List.mem_cons_self) (fun ρ ad H locs ls h1 hl k => ?_)
  show W p l e R s m args below meth c H locs mc ms Q (F0 m pc ls (sx_cv ρ ad b y :: sx_cv ρ ad b x :: st.map (sx_cv ρ ad b)))
  rw [sx_nm_c h1 ad b ha, sx_nm_c h1 ad b hd]
  have h8 := sx_sum8 (ρ := ρ) (ad := ad) (b := b) z1
  refine va_mmax hx hb (hml.trans hl.1.symm) hown hlink (hts _ sx_w_mx1) (hts _ sx_w_mi) (hts _ sx_w_mx2) hfr (by omega) (by omega) (by omega) hdg ?_
  have k' : W p l e R s m args below meth c H locs mc ms Q (F0 m (pc + 3) ls (.int (Int32.ofNat (sx_pick (Nat.blt (sx_bias a) (sx_bias d)) d a)) :: st.map (sx_cv ρ ad b))) := k
  rw [sx_pickI] at k'
  simp only [sx_bltI] at k'
  exact k'
theorem sx_s_mn {own : String} (C : sx_Cx p s m args c D cA own cc nL) {cap : Nat × Nat} (hR : cap.1 ≤ R.cells ∧ cap.2 ≤ R.slots) (hfr : 1 ≤ R.frames) (hlo : 64 ≤ R.locals) {index : Nat} (hlink : (Cond.methodLink own index Lib.Math.min.name).before args s = true) {σ : sx_S} {ss : List sx_S} (hdg : decode cc σ.1 = .ok (.invokestatic index, 3)) (h : sx_mm false cap σ = some ss) (K : ∀ τ ∈ ss, sx_Ok p l e R s m args below meth c Q D cA A b nL ρ0 ad0 n0 m0 τ) : sx_Ok p l e R s m args below meth c Q D cA A b nL ρ0 ad0 n0 m0 σ := by
  obtain ⟨hx, hb, hml, hown, hts, hN, hO, hK⟩ := C
  obtain ⟨pc, L, y, x, st, w, iv, mc, ms, a, d, rfl, ha, hd, z1, z2, z3, rfl⟩ := sx_mm_inv h
  refine sx_pure (K _ List.mem_cons_self) (fun ρ ad H locs ls h1 hl k => ?_)
  show W p l e R s m args below meth c H locs mc ms Q (F0 m pc ls (sx_cv ρ ad b y :: sx_cv ρ ad b x :: st.map (sx_cv ρ ad b)))
  rw [sx_nm_c h1 ad b ha, sx_nm_c h1 ad b hd]
  have h8 := sx_sum8 (ρ := ρ) (ad := ad) (b := b) z1
  refine va_mmin hx hb (hml.trans hl.1.symm) hown hlink (hts _ sx_w_mn1) (hts _ sx_w_mi) (hts _ sx_w_mn2) hfr (by omega) (by omega) (by omega) hdg ?_
  have k' : W p l e R s m args below meth c H locs mc ms Q (F0 m (pc + 3) ls (.int (Int32.ofNat (sx_pick (Nat.blt (sx_bias d) (sx_bias a)) d a)) :: st.map (sx_cv ρ ad b))) := k
  rw [sx_pickI] at k'
  simp only [sx_bltI] at k'
  exact k'
noncomputable def sx_chkA (t : ArrayType) (kd : Nat) : Bool := match t, kd with
  | .int, 0 => true
  | .long, 1 => true
  | .boolean, 2 => true
  | .byte, 3 => true
  | _, _ => false
theorem sx_s_newaK {own : String} (C : sx_Cx p s m args c D cA own cc nL) (hA : ∀ q, s.heap.size ≤ q → A q) {cap : Nat × Nat} (hR : cap.1 ≤ R.cells ∧ cap.2 ≤ R.slots) {t : ArrayType} {kd : Nat} (ht : sx_chkA t kd = true) {σ : sx_S} {ss : List sx_S} (hdg : decode cc σ.1 = .ok (.newarray t, 2)) (h : sx_newa cap σ 2 kd = some ss) (K : ∀ τ ∈ ss, sx_Ok p l e R s m args below meth c Q D cA A b nL ρ0 ad0 n0 m0 τ) : sx_Ok p l e R s m args below meth c Q D cA A b nL ρ0 ad0 n0 m0 σ := by
  obtain ⟨hx, hb, hml, hown, hts, hN, hO, hK⟩ := C
  unfold sx_chkA at ht
  split at ht
  · exact sx_s_newa (atype := .int) (ty := .int) (a0 := fun n => (n, .inl (fun _ => Int32.ofNat 0))) hx hb rfl (hts _ sx_w_a0) (by decide) rfl (fun c1 c2 g1 g2 => Option.some.inj (Eq.trans (Eq.symm g1) g2)) (fun _ _ => rfl) (fun _ _ _ => rfl) hK hA hR hdg h K
  · exact sx_s_newa (atype := .long) (ty := .long) (a0 := fun n => (n, .inr (.inl (fun _ => 0)))) hx hb rfl (hts _ sx_w_a1) (by decide) rfl (fun c1 c2 g1 g2 => Option.some.inj (Eq.trans (Eq.symm g1) g2)) (fun _ _ => rfl) (fun _ _ _ => rfl) hK hA hR hdg h K
  · exact sx_s_newa (atype := .boolean) (ty := .boolean) (a0 := fun n => (n, .inl (fun _ => Int32.ofNat 0))) hx hb rfl (hts _ sx_w_a2) (by decide) rfl (fun c1 c2 g1 g2 => Option.some.inj (Eq.trans (Eq.symm g1) g2)) (fun _ _ => rfl) (fun _ _ _ => rfl) hK hA hR hdg h K
  · exact sx_s_newa (atype := .byte) (ty := .byte) (a0 := fun n => (n, .inl (fun _ => Int32.ofNat 0))) hx hb rfl (hts _ sx_w_a3) (by decide) rfl (fun c1 c2 g1 g2 => Option.some.inj (Eq.trans (Eq.symm g1) g2)) (fun _ _ => rfl) (fun _ _ _ => rfl) hK hA hR hdg h K
  · cases ht
end sxMore
