/-! arrays: the other stores, the loads, lengths -/
section sxArrays2
variable {p : Program} {l : Launch} {e : Env} {R : Room} {s : State} {m : MethodId} {args : Array Value} {below : List Frame} {meth : Method} {c : Code} {Q : State → Prop} {D : va_G} {cA : Nat → ClassId} {A : Nat → Prop} {b nL : Nat} {ρ0 : Nat → Int32} {ad0 : Nat → Nat} {n0 m0 : Nat} {cc : ByteArray}
theorem sx_bit_nar {ρ : Nat → Int32} : ∀ {v : sx_V}, sx_bit v = true → sx_isInt v = true ∧ vp_nar .boolean (sx_xi ρ v) = sx_xi ρ v
  | .inl 0, _ => ⟨rfl, by show vp_nar .boolean (Int32.ofNat 0) = Int32.ofNat 0; decide⟩
  | .inl 1, _ => ⟨rfl, by show vp_nar .boolean (Int32.ofNat 1) = Int32.ofNat 1; decide⟩
  | .inl (k + 2), h => by
    have h' : Nat.blt (k + 2) 2 = true := h
    exact absurd (Nat.le_of_ble_eq_true h') (by omega)
  | .inr (.inl _), h => by cases h
  | .inr (.inr (.inl _)), h => by cases h
  | .inr (.inr (.inr _)), h => by cases h
theorem sx_s_zast (hx : p.tables.exec = Jvm.exec) (hb : c.code = cc) (hK : va_K D sx_clL (sx_tys cA) s) {σ : sx_S} {ss : List sx_S} (hdg : decode cc σ.1 = .ok (.bastore, 1)) (h : sx_store σ 2 sx_bit = some ss) (K : ∀ τ ∈ ss, sx_Ok p l e R s m args below meth c Q D cA A b nL ρ0 ad0 n0 m0 τ) : sx_Ok p l e R s m args below meth c Q D cA A b nL ρ0 ad0 n0 m0 σ := by
  obtain ⟨pc, L, x, i, k, st, w, iv, mc, ms, n, up, rfl, hk, ho, hq⟩ := sx_store_inv h
  intro ρ ad H locs ls h1 h2 h3 h4 h5 hP hD hS hl
  obtain ⟨iv', j, g1, g2, g3, g4, g5, g6⟩ := hq ρ h1
  obtain ⟨o1, o2⟩ := sx_bit_nar (ρ := ρ) ho
  show W p l e R s m args below meth c H locs mc ms Q (F0 m pc ls (sx_cv ρ ad b x :: sx_cv ρ ad b i :: .ref (ad k) :: st.map (sx_cv ρ ad b)))
  rw [g3, sx_cv_int o1]
  have he : (sx_cW ρ ad b cA w)[k]? = some (ad k, .inl (cA 2, n, .inl (fun j => sx_xi ρ (sx_ald 0 up j)))) := by rw [sx_cW_at, hk]; rfl
  refine va_zast hx hb hK hP hD hS k 2 he rfl (sx_vin g4 g5) hdg (fun H1 locs1 hP1 hD1 hS1 => ?_)
  rw [sx_clamp (by omega), o2, ← sx_upd_i o1] at hP1 hD1
  have e := sx_cW_set (ρ := ρ) (ad := ad) (b := b) (cA := cA) w k (.inr (2, n, (sx_upd j x up)))
  exact K _ g6 ρ ad H1 locs1 ls g1 h2 h3 (by show n0 ≤ iv'.length; rw [g2]; exact h4) (by show m0 ≤ (w.set k _).length; rw [List.length_set]; exact h5) (by show va_P D sx_clL (sx_cW ρ ad b cA (w.set k _)) H1; rw [e]; exact hP1) (by show va_D A (sx_cW ρ ad b cA (w.set k _)); rw [e]; exact hD1) hS1 hl
theorem sx_s_bast (hx : p.tables.exec = Jvm.exec) (hb : c.code = cc) (hK : va_K D sx_clL (sx_tys cA) s) {σ : sx_S} {ss : List sx_S} (hdg : decode cc σ.1 = .ok (.bastore, 1)) (h : sx_storeB σ = some ss) (K : ∀ τ ∈ ss, sx_Ok p l e R s m args below meth c Q D cA A b nL ρ0 ad0 n0 m0 τ) : sx_Ok p l e R s m args below meth c Q D cA A b nL ρ0 ad0 n0 m0 σ := by
  obtain ⟨pc, L, st0, w, iv, mc, ms⟩ := σ
  unfold sx_storeB at h
  split at h
  next pc' L' x st1 w' iv0 mc' ms' heq =>
    cases heq
    split at h
    next ho =>
      obtain ⟨hlim, h⟩ := sx_fresh_inv h
      obtain ⟨pc2, L2, x2, i, k, st, w2, iv2, mc2, ms2, n, up, heq2, hk, -, hq⟩ := sx_store_inv h
      cases heq2
      intro ρ ad H locs ls h1 h2 h3 h4 h5 hP hD hS hl
      show W p l e R s m args below meth c H locs mc ms Q (F0 m pc ls (sx_cv ρ ad b x :: (i :: (.inr (.inr (.inl k))) :: st).map (sx_cv ρ ad b)))
      simp only [sx_limS, Bool.and_eq_true] at hlim
      obtain ⟨l1, l2, l3⟩ := hlim
      rw [sx_cv_int ho]
      generalize hy : sx_xi ρ x = y
      let ρ' : Nat → Int32 := fun j => if j = iv.length then vp_nar .byte y else ρ j
      have hρ : ∀ k, k < iv.length → ρ k = ρ' k := fun k hk => (if_neg (Nat.ne_of_lt hk)).symm
      have ha : ∀ k, k < w.length → ad k = ad k := fun _ _ => rfl
      have hx' : ρ' iv.length = vp_nar .byte y := if_pos rfl
      have h1' : sx_ivOk ρ' (iv ++ [sx_full]) := by
        intro k lo' hi' hk'
        by_cases hkl : k < iv.length
        · rw [List.getElem?_append_left hkl] at hk'
          rw [← hρ k hkl]
          exact h1 k lo' hi' hk'
        · rw [List.getElem?_append_right (by omega)] at hk'
          have hz : k - iv.length < 1 := (List.getElem?_eq_some_iff.mp hk').1
          have hk0 : k = iv.length := by omega
          subst hk0
          rw [Nat.sub_self] at hk'
          cases hk'
          exact sx_full_ok _
      obtain ⟨iv', j, g1, g2, g3, g4, g5, g6⟩ := hq ρ' h1'
      rw [sx_cW_lim hρ ha (Nat.le_refl _) l3] at hP hD
      rw [sx_cL_lim hρ ha l1] at hl
      rw [sx_cS_lim hρ ha l2]
      show W p l e R s m args below meth c H locs mc ms Q (F0 m pc ls (.int y :: sx_cv ρ' ad b i :: .ref (ad k) :: st.map (sx_cv ρ' ad b)))
      rw [g3]
      have he : (sx_cW ρ' ad b cA w)[k]? = some (ad k, .inl (cA 3, n, .inl (fun j => sx_xi ρ' (sx_ald 0 up j)))) := by rw [sx_cW_at, hk]; rfl
      refine va_bast hx hb hK hP hD hS k 3 he rfl (sx_vin g4 g5) hdg (fun H1 locs1 hP1 hD1 hS1 => ?_)
      have e2 := sx_upd_i (ρ := ρ') (k := j) (v := (.inr (.inl iv.length))) rfl up
      have e3 : sx_xi ρ' (.inr (.inl iv.length)) = vp_nar .byte y := hx'
      rw [e3] at e2
      rw [sx_clamp (by omega), ← e2] at hP1 hD1
      have e := sx_cW_set (ρ := ρ') (ad := ad) (b := b) (cA := cA) w k (.inr (3, n, (sx_upd j (.inr (.inl iv.length)) up)))
      exact K _ g6 ρ' ad H1 locs1 ls g1 (fun k hk => by rw [← hρ k (Nat.lt_of_lt_of_le hk h4)]; exact h2 k hk) h3 (by show n0 ≤ iv'.length; rw [g2, List.length_append]; exact Nat.le_trans h4 (Nat.le_add_right _ _)) (by show m0 ≤ (w.set k _).length; rw [List.length_set]; exact h5) (by show va_P D sx_clL (sx_cW ρ' ad b cA (w.set k _)) H1; rw [e]; exact hP1) (by show va_D A (sx_cW ρ' ad b cA (w.set k _)); rw [e]; exact hD1) hS1 hl
    next => cases h
  next => cases h
/-! loads -/
theorem sx_s_iald (hx : p.tables.exec = Jvm.exec) (hb : c.code = cc) (hK : va_K D sx_clL (sx_tys cA) s) {pc mc ms k : Nat} {L : List (Nat × sx_V)} {i : sx_V} {st : List sx_V} {w : List sx_E} {iv : sx_Iv} {sc : Bool} {ss : List sx_S} (hdg : decode cc pc = .ok (.iaload, 1)) (h : sx_load sc (pc, L, i :: (.inr (.inr (.inl k))) :: st, w, iv, mc, ms) 0 = some ss) (K : ∀ τ ∈ ss, sx_Ok p l e R s m args below meth c Q D cA A b nL ρ0 ad0 n0 m0 τ) : sx_Ok p l e R s m args below meth c Q D cA A b nL ρ0 ad0 n0 m0 (pc, L, i :: (.inr (.inr (.inl k))) :: st, w, iv, mc, ms) := by
  obtain ⟨n, up, hk, hq⟩ := sx_load_inv h
  intro ρ ad H locs ls h1 h2 h3 h4 h5 hP hD hS hl
  obtain ⟨iv', j, g1, g2, g3, g4, g5, g7, g6⟩ := hq ρ h1
  show W p l e R s m args below meth c H locs mc ms Q (F0 m pc ls (sx_cv ρ ad b i :: .ref (ad k) :: st.map (sx_cv ρ ad b)))
  rw [g3]
  have he : (sx_cW ρ ad b cA w)[k]? = some (ad k, .inl (cA 0, n, .inl (fun j => sx_xi ρ (sx_ald 0 up j)))) := by rw [sx_cW_at, hk]; rfl
  refine va_iald hx hb hK hP k 0 he rfl (sx_vin g4 g5) hdg ?_
  rw [sx_clamp (by omega), show sx_ald 0 up j = sx_ald 0 up j from rfl, ← sx_cv_int (ad := ad) (b := b) (v := sx_ald 0 up j) g7]
  exact K _ g6 ρ ad H locs ls g1 h2 h3 (by show n0 ≤ iv'.length; rw [g2]; exact h4) h5 hP hD hS hl
theorem sx_s_zald (hx : p.tables.exec = Jvm.exec) (hb : c.code = cc) (hK : va_K D sx_clL (sx_tys cA) s) {pc mc ms k : Nat} {L : List (Nat × sx_V)} {i : sx_V} {st : List sx_V} {w : List sx_E} {iv : sx_Iv} {sc : Bool} {ss : List sx_S} (hdg : decode cc pc = .ok (.baload, 1)) (h : sx_load sc (pc, L, i :: (.inr (.inr (.inl k))) :: st, w, iv, mc, ms) 2 = some ss) (K : ∀ τ ∈ ss, sx_Ok p l e R s m args below meth c Q D cA A b nL ρ0 ad0 n0 m0 τ) : sx_Ok p l e R s m args below meth c Q D cA A b nL ρ0 ad0 n0 m0 (pc, L, i :: (.inr (.inr (.inl k))) :: st, w, iv, mc, ms) := by
  obtain ⟨n, up, hk, hq⟩ := sx_load_inv h
  intro ρ ad H locs ls h1 h2 h3 h4 h5 hP hD hS hl
  obtain ⟨iv', j, g1, g2, g3, g4, g5, g7, g6⟩ := hq ρ h1
  show W p l e R s m args below meth c H locs mc ms Q (F0 m pc ls (sx_cv ρ ad b i :: .ref (ad k) :: st.map (sx_cv ρ ad b)))
  rw [g3]
  have he : (sx_cW ρ ad b cA w)[k]? = some (ad k, .inl (cA 2, n, .inl (fun j => sx_xi ρ (sx_ald 0 up j)))) := by rw [sx_cW_at, hk]; rfl
  refine va_zald hx hb hK hP k 2 he rfl (sx_vin g4 g5) hdg ?_
  rw [sx_clamp (by omega), show sx_ald 0 up j = sx_ald 2 up j from rfl, ← sx_cv_int (ad := ad) (b := b) (v := sx_ald 2 up j) g7]
  exact K _ g6 ρ ad H locs ls g1 h2 h3 (by show n0 ≤ iv'.length; rw [g2]; exact h4) h5 hP hD hS hl
theorem sx_s_bald (hx : p.tables.exec = Jvm.exec) (hb : c.code = cc) (hK : va_K D sx_clL (sx_tys cA) s) {pc mc ms k : Nat} {L : List (Nat × sx_V)} {i : sx_V} {st : List sx_V} {w : List sx_E} {iv : sx_Iv} {sc : Bool} {ss : List sx_S} (hdg : decode cc pc = .ok (.baload, 1)) (h : sx_load sc (pc, L, i :: (.inr (.inr (.inl k))) :: st, w, iv, mc, ms) 3 = some ss) (K : ∀ τ ∈ ss, sx_Ok p l e R s m args below meth c Q D cA A b nL ρ0 ad0 n0 m0 τ) : sx_Ok p l e R s m args below meth c Q D cA A b nL ρ0 ad0 n0 m0 (pc, L, i :: (.inr (.inr (.inl k))) :: st, w, iv, mc, ms) := by
  obtain ⟨n, up, hk, hq⟩ := sx_load_inv h
  intro ρ ad H locs ls h1 h2 h3 h4 h5 hP hD hS hl
  obtain ⟨iv', j, g1, g2, g3, g4, g5, g7, g6⟩ := hq ρ h1
  show W p l e R s m args below meth c H locs mc ms Q (F0 m pc ls (sx_cv ρ ad b i :: .ref (ad k) :: st.map (sx_cv ρ ad b)))
  rw [g3]
  have he : (sx_cW ρ ad b cA w)[k]? = some (ad k, .inl (cA 3, n, .inl (fun j => sx_xi ρ (sx_ald 0 up j)))) := by rw [sx_cW_at, hk]; rfl
  refine va_bald hx hb hK hP k 3 he rfl (sx_vin g4 g5) hdg ?_
  rw [sx_clamp (by omega), show sx_ald 0 up j = sx_ald 3 up j from rfl, ← sx_cv_int (ad := ad) (b := b) (v := sx_ald 3 up j) g7]
  exact K _ g6 ρ ad H locs ls g1 h2 h3 (by show n0 ≤ iv'.length; rw [g2]; exact h4) h5 hP hD hS hl
theorem sx_xr_cv {ρ : Nat → Int32} {ad : Nat → Nat} {b : Nat} : ∀ {v : sx_V}, sx_lok 4 v = true → va_rf (sx_xr ad v) = sx_cv ρ ad b v
  | .inr (.inr (.inl _)), _ => rfl
  | .inr (.inr (.inr 0)), _ => rfl
  | .inl _, h => by cases h
  | .inr (.inl _), h => by cases h
  | .inr (.inr (.inr (k + 1))), h => by simp [sx_lok, sx_isRef, sx_isNull] at h
theorem sx_s_aald (hx : p.tables.exec = Jvm.exec) (hb : c.code = cc) (hK : va_K D sx_clL (sx_tys cA) s) {pc mc ms k : Nat} {L : List (Nat × sx_V)} {i : sx_V} {st : List sx_V} {w : List sx_E} {iv : sx_Iv} {sc : Bool} {ss : List sx_S} (hdg : decode cc pc = .ok (.aaload, 1)) (h : sx_load sc (pc, L, i :: (.inr (.inr (.inl k))) :: st, w, iv, mc, ms) 4 = some ss) (K : ∀ τ ∈ ss, sx_Ok p l e R s m args below meth c Q D cA A b nL ρ0 ad0 n0 m0 τ) : sx_Ok p l e R s m args below meth c Q D cA A b nL ρ0 ad0 n0 m0 (pc, L, i :: (.inr (.inr (.inl k))) :: st, w, iv, mc, ms) := by
  obtain ⟨n, up, hk, hq⟩ := sx_load_inv h
  intro ρ ad H locs ls h1 h2 h3 h4 h5 hP hD hS hl
  obtain ⟨iv', j, g1, g2, g3, g4, g5, g7, g6⟩ := hq ρ h1
  show W p l e R s m args below meth c H locs mc ms Q (F0 m pc ls (sx_cv ρ ad b i :: .ref (ad k) :: st.map (sx_cv ρ ad b)))
  rw [g3]
  have he : (sx_cW ρ ad b cA w)[k]? = some (ad k, .inl (cA 4, n, .inr (.inr (.inr (.inr (fun j => sx_xr ad (sx_ald 4 up j))))))) := by rw [sx_cW_at, hk]; rfl
  refine va_aldq hx hb hK hP k 4 he rfl (sx_vin g4 g5) hdg ?_
  rw [sx_clamp (by omega), sx_xr_cv (ρ := ρ) (b := b) g7]
  exact K _ g6 ρ ad H locs ls g1 h2 h3 (by show n0 ≤ iv'.length; rw [g2]; exact h4) h5 hP hD hS hl
end sxArrays2
