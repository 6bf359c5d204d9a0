/-! fields -/
theorem sx_cW_set {ρ : Nat → Int32} {ad : Nat → Nat} {b : Nat} {cA : Nat → ClassId} (w : List sx_E) (k : Nat) (x : sx_E) : sx_cW ρ ad b cA (w.set k x) = (sx_cW ρ ad b cA w).set k (ad k, sx_cE ρ ad b cA x) := by
  apply List.ext_getElem?
  intro j
  rw [sx_cW_at]
  by_cases hj : k = j
  · subst hj
    rw [List.getElem?_set_self', List.getElem?_set_self', sx_cW_at]
    cases w[k]? <;> rfl
  · rw [List.getElem?_set_ne hj, List.getElem?_set_ne hj, sx_cW_at]
theorem sx_cW_len {ρ : Nat → Int32} {ad : Nat → Nat} {b : Nat} {cA : Nat → ClassId} (w : List sx_E) : (sx_cW ρ ad b cA w).length = w.length := by
  unfold sx_cW
  rw [List.length_mapIdx]
theorem sx_cW_app {ρ : Nat → Int32} {ad : Nat → Nat} {b : Nat} {cA : Nat → ClassId} (w : List sx_E) (x : sx_E) : sx_cW ρ ad b cA (w ++ [x]) = sx_cW ρ ad b cA w ++ [(ad w.length, sx_cE ρ ad b cA x)] := by
  apply List.ext_getElem?
  intro j
  rw [sx_cW_at]
  by_cases hj : j < w.length
  · rw [List.getElem?_append_left hj, List.getElem?_append_left (by rw [sx_cW_len]; exact hj), sx_cW_at]
  · rw [List.getElem?_append_right (by omega), List.getElem?_append_right (by rw [sx_cW_len]; omega), sx_cW_len]
    by_cases h0 : j = w.length
    · subst h0
      rw [Nat.sub_self]
      rfl
    · obtain ⟨k, hk⟩ : ∃ k, j - w.length = k + 1 := ⟨j - w.length - 1, by omega⟩
      rw [hk]
      rfl
section sxHeap
variable {p : Program} {l : Launch} {e : Env} {R : Room} {s : State} {m : MethodId} {args : Array Value} {below : List Frame} {meth : Method} {c : Code} {Q : State → Prop} {D : va_G} {cA : Nat → ClassId} {A : Nat → Prop} {b nL : Nat} {ρ0 : Nat → Int32} {ad0 : Nat → Nat} {n0 m0 : Nat} {cc : ByteArray}
theorem sx_gf_inv {σ : sx_S} {ci k : Nat} {ss : List sx_S} (h : sx_gf σ ci k = some ss) : ∃ pc L q st w iv mc ms fs v, σ = (pc, L, (.inr (.inr (.inl q))) :: st, w, iv, mc, ms) ∧ w[q]? = some (.inl (ci, fs)) ∧ fs[k]? = some v ∧ ss = [(pc + 3, L, v :: st, w, iv, mc, ms)] := by
  unfold sx_gf at h
  split at h
  next pc L q st w iv mc ms =>
    split at h
    next ci' fs hq =>
      split at h
      next v hb hv =>
        cases h
        rw [sx_nth_eq] at hq hv
        rw [Nat.eq_of_beq_eq_true hb]
        exact ⟨pc, L, q, st, w, iv, mc, ms, fs, v, rfl, hq, hv, rfl⟩
      next => cases h
    next => cases h
  next => cases h
theorem sx_s_gf (hx : p.tables.exec = Jvm.exec) (hb : c.code = cc) {own C : String} {T : u_T} {N ci index : Nat} {Ts : List Cond} (hts : ∀ w ∈ Ts, w.before args s = true) (hin : ∀ w ∈ u_ws C T N, w ∈ Ts) (hown : s.vm.findClass own = some m.cls) (hK : va_K D sx_clL (sx_tys cA) s) (hc : sx_clL[ci]? = some (C, T, N)) (k : Nat) (hk : k < N) (hlink : (Cond.fieldLink own index (T k).1 (T k).2.1 (T k).2.2.1).before args s = true) {σ : sx_S} {ss : List sx_S} (hdg : decode cc σ.1 = .ok (.getfield index, 3)) (h : sx_gf σ ci k = some ss) (K : ∀ τ ∈ ss, sx_Ok p l e R s m args below meth c Q D cA A b nL ρ0 ad0 n0 m0 τ) : sx_Ok p l e R s m args below meth c Q D cA A b nL ρ0 ad0 n0 m0 σ := by
  obtain ⟨pc, L, q, st, w, iv, mc, ms, fs, v, rfl, hq, hv, rfl⟩ := sx_gf_inv h
  intro ρ ad H locs ls h1 h2 h3 h4 h5 hP hD hS hl
  have he : (sx_cW ρ ad b cA w)[q]? = some (ad q, .inr (ci, fs.map (sx_cv ρ ad b))) := by rw [sx_cW_at, hq]; rfl
  exact va_get hx hb hts hin hown hK hP q he hc k hk hlink (fun _ h => h) (v := sx_cv ρ ad b v) (by rw [List.getElem?_map, hv]; rfl) hdg (K _ List.mem_cons_self ρ ad H locs ls h1 h2 h3 h4 h5 hP hD hS hl)
theorem sx_s_gfN (hx : p.tables.exec = Jvm.exec) (hb : c.code = cc) {own C host : String} {T : u_T} {N ci index : Nat} {Ts : List Cond} (hts : ∀ w ∈ Ts, w.before args s = true) (hin : ∀ w ∈ u_ws C T N, w ∈ Ts) (hown : s.vm.findClass own = some m.cls) (hK : va_K D sx_clL (sx_tys cA) s) (hc : sx_clL[ci]? = some (C, T, N)) (k : Nat) (hk : k < N) (hlink : (Cond.fieldLinkNest own index (T k).1 (T k).2.1 (T k).2.2.1 host).before args s = true) {σ : sx_S} {ss : List sx_S} (hdg : decode cc σ.1 = .ok (.getfield index, 3)) (h : sx_gf σ ci k = some ss) (K : ∀ τ ∈ ss, sx_Ok p l e R s m args below meth c Q D cA A b nL ρ0 ad0 n0 m0 τ) : sx_Ok p l e R s m args below meth c Q D cA A b nL ρ0 ad0 n0 m0 σ := by
  obtain ⟨pc, L, q, st, w, iv, mc, ms, fs, v, rfl, hq, hv, rfl⟩ := sx_gf_inv h
  intro ρ ad H locs ls h1 h2 h3 h4 h5 hP hD hS hl
  have he : (sx_cW ρ ad b cA w)[q]? = some (ad q, .inr (ci, fs.map (sx_cv ρ ad b))) := by rw [sx_cW_at, hq]; rfl
  exact va_getN hx hb hts hin hown hK hP q he hc k hk hlink (fun _ h => h) (v := sx_cv ρ ad b v) (by rw [List.getElem?_map, hv]; rfl) hdg (K _ List.mem_cons_self ρ ad H locs ls h1 h2 h3 h4 h5 hP hD hS hl)
/-- which values lie in a field of a type -/
noncomputable def sx_fit (fit : Nat) (v : sx_V) : Bool := match fit with
  | 0 => sx_isInt v
  | 1 => sx_isRef v || sx_isNull v
  | _ => sx_bit v
theorem sx_pf_inv {σ : sx_S} {ci k fit : Nat} {ss : List sx_S} (h : sx_pf σ ci k fit = some ss) : ∃ pc L v q st w iv mc ms fs, σ = (pc, L, v :: (.inr (.inr (.inl q))) :: st, w, iv, mc, ms) ∧ w[q]? = some (.inl (ci, fs)) ∧ k < fs.length ∧ sx_fit fit v = true ∧ ss = [(pc + 3, L, st, w.set q (.inl (ci, (fs.set k v))), iv, mc, ms)] := by
  unfold sx_pf at h
  split at h
  next pc L v q st w iv mc ms =>
    split at h
    next ci' fs hq =>
      split at h
      next hz =>
        rw [sx_setk_eq, sx_setk_eq] at h
        cases h
        rw [sx_nth_eq] at hq
        simp only [Bool.and_eq_true] at hz
        have e := Nat.eq_of_beq_eq_true hz.1.1
        subst e
        exact ⟨pc, L, v, q, st, w, iv, mc, ms, fs, rfl, hq, Nat.le_of_ble_eq_true hz.1.2, hz.2, rfl⟩
      next => cases h
    next => cases h
  next => cases h
/-- the types that take such values -/
def sx_takes (fit : Nat) (ty : FieldType) : Prop := match fit with
  | 0 => ty = .int
  | 1 => (∃ n, ty = .object n) ∨ ∃ t, ty = .array t
  | _ => ty = .boolean
theorem sx_fit_ok {ρ : Nat → Int32} {ad : Nat → Nat} {b fit : Nat} {ty : FieldType} (ht : sx_takes fit ty) {v : sx_V} (h : sx_fit fit v = true) : narrow ty (sx_cv ρ ad b v) = sx_cv ρ ad b v ∧ fits ty (sx_cv ρ ad b v) = true := by
  match fit, ht, h with
  | 0, ht, h =>
    cases ht
    rw [sx_cv_int h]
    exact ⟨rfl, rfl⟩
  | 1, ht, h =>
    have h' : (sx_isRef v || sx_isNull v) = true := h
    rw [Bool.or_eq_true] at h'
    have hv : (∃ a, sx_cv ρ ad b v = .ref a) ∨ sx_cv ρ ad b v = .null := by
      rcases h' with h' | h'
      · obtain ⟨k, -, e⟩ := sx_cv_ref (ρ := ρ) (ad := ad) (b := b) h'
        exact Or.inl ⟨_, e⟩
      · right
        match v, h' with
        | .inr (.inr (.inr 0)), _ => rfl
        | .inl _, h' => simp [sx_isNull] at h'
        | .inr (.inl _), h' => simp [sx_isNull] at h'
        | .inr (.inr (.inl _)), h' => simp [sx_isNull] at h'
        | .inr (.inr (.inr (k + 1))), h' => simp [sx_isNull] at h'
    rcases ht with ⟨n, rfl⟩ | ⟨t, rfl⟩ <;> rcases hv with ⟨a, e⟩ | e <;> rw [e] <;> exact ⟨rfl, rfl⟩
  | n + 2, ht, h =>
    cases ht
    match v, h with
    | .inl 0, _ => exact ⟨rfl, rfl⟩
    | .inl 1, _ => exact ⟨rfl, rfl⟩
    | .inl (k + 2), h =>
      have h' : Nat.blt (k + 2) 2 = true := h
      exact absurd (Nat.le_of_ble_eq_true h') (by omega)
    | .inr (.inl _), h => cases h
    | .inr (.inr (.inl _)), h => cases h
    | .inr (.inr (.inr _)), h => cases h
theorem sx_s_pf (hx : p.tables.exec = Jvm.exec) (hb : c.code = cc) {own C : String} {T : u_T} {N ci index : Nat} {Ts : List Cond} (hts : ∀ w ∈ Ts, w.before args s = true) (hin : ∀ w ∈ u_ws C T N, w ∈ Ts) (ty0 : Nat → FieldType) (hty : ∀ k, k < N → parseFieldDescriptor (T k).2.2.1 = some (ty0 k)) (hnm : ∀ a, a < N → ∀ b, b < N → a ≠ b → (T a).2.1 ≠ (T b).2.1) (hown : s.vm.findClass own = some m.cls) (hK : va_K D sx_clL (sx_tys cA) s) (hc : sx_clL[ci]? = some (C, T, N)) (k : Nat) (hk : k < N) (hlink : (Cond.fieldLink own index (T k).1 (T k).2.1 (T k).2.2.1).before args s = true) (hfin : (T k).2.2.2 = false) {fit : Nat} (ht : sx_takes fit (ty0 k)) {σ : sx_S} {ss : List sx_S} (hdg : decode cc σ.1 = .ok (.putfield index, 3)) (h : sx_pf σ ci k fit = some ss) (K : ∀ τ ∈ ss, sx_Ok p l e R s m args below meth c Q D cA A b nL ρ0 ad0 n0 m0 τ) : sx_Ok p l e R s m args below meth c Q D cA A b nL ρ0 ad0 n0 m0 σ := by
  obtain ⟨pc, L, v, q, st, w, iv, mc, ms, fs, rfl, hq, hkl, hf, rfl⟩ := sx_pf_inv h
  intro ρ ad H locs ls h1 h2 h3 h4 h5 hP hD hS hl
  have he : (sx_cW ρ ad b cA w)[q]? = some (ad q, .inr (ci, fs.map (sx_cv ρ ad b))) := by rw [sx_cW_at, hq]; rfl
  have hv := sx_fit_ok (ρ := ρ) (ad := ad) (b := b) ht hf
  refine va_put hx hb hts hin ty0 hty hnm hown hK hP hD hS q he hc k hk hlink (fun _ h => h) hfin (hty k hk) hv.1 hv.2 (by rw [List.length_map]; exact hkl) hdg (fun H1 locs1 hP1 hD1 hS1 => ?_)
  have e : (sx_cW ρ ad b cA w).set q (ad q, .inr (ci, (fs.map (sx_cv ρ ad b)).set k (sx_cv ρ ad b v))) = sx_cW ρ ad b cA (w.set q (.inl (ci, (fs.set k v)))) := by
    rw [sx_cW_set, ← List.map_set]
    rfl
  rw [e] at hP1 hD1
  exact K _ List.mem_cons_self ρ ad H1 locs1 ls h1 h2 h3 h4 (by show m0 ≤ (w.set q _).length; rw [List.length_set]; exact h5) hP1 hD1 hS1 hl
theorem sx_s_pfN (hx : p.tables.exec = Jvm.exec) (hb : c.code = cc) {own C host : String} {T : u_T} {N ci index : Nat} {Ts : List Cond} (hts : ∀ w ∈ Ts, w.before args s = true) (hin : ∀ w ∈ u_ws C T N, w ∈ Ts) (ty0 : Nat → FieldType) (hty : ∀ k, k < N → parseFieldDescriptor (T k).2.2.1 = some (ty0 k)) (hnm : ∀ a, a < N → ∀ b, b < N → a ≠ b → (T a).2.1 ≠ (T b).2.1) (hown : s.vm.findClass own = some m.cls) (hK : va_K D sx_clL (sx_tys cA) s) (hc : sx_clL[ci]? = some (C, T, N)) (k : Nat) (hk : k < N) (hlink : (Cond.fieldLinkNest own index (T k).1 (T k).2.1 (T k).2.2.1 host).before args s = true) (hfin : (T k).2.2.2 = false) {fit : Nat} (ht : sx_takes fit (ty0 k)) {σ : sx_S} {ss : List sx_S} (hdg : decode cc σ.1 = .ok (.putfield index, 3)) (h : sx_pf σ ci k fit = some ss) (K : ∀ τ ∈ ss, sx_Ok p l e R s m args below meth c Q D cA A b nL ρ0 ad0 n0 m0 τ) : sx_Ok p l e R s m args below meth c Q D cA A b nL ρ0 ad0 n0 m0 σ := by
  obtain ⟨pc, L, v, q, st, w, iv, mc, ms, fs, rfl, hq, hkl, hf, rfl⟩ := sx_pf_inv h
  intro ρ ad H locs ls h1 h2 h3 h4 h5 hP hD hS hl
  have he : (sx_cW ρ ad b cA w)[q]? = some (ad q, .inr (ci, fs.map (sx_cv ρ ad b))) := by rw [sx_cW_at, hq]; rfl
  have hv := sx_fit_ok (ρ := ρ) (ad := ad) (b := b) ht hf
  refine va_putN hx hb hts hin ty0 hty hnm hown hK hP hD hS q he hc k hk hlink (fun _ h => h) hfin (hty k hk) hv.1 hv.2 (by rw [List.length_map]; exact hkl) hdg (fun H1 locs1 hP1 hD1 hS1 => ?_)
  have e : (sx_cW ρ ad b cA w).set q (ad q, .inr (ci, (fs.map (sx_cv ρ ad b)).set k (sx_cv ρ ad b v))) = sx_cW ρ ad b cA (w.set q (.inl (ci, (fs.set k v)))) := by
    rw [sx_cW_set, ← List.map_set]
    rfl
  rw [e] at hP1 hD1
  exact K _ List.mem_cons_self ρ ad H1 locs1 ls h1 h2 h3 h4 (by show m0 ≤ (w.set q _).length; rw [List.length_set]; exact h5) hP1 hD1 hS1 hl
theorem sx_s_pfF (hx : p.tables.exec = Jvm.exec) (hb : c.code = cc) {own C : String} {T : u_T} {N ci index : Nat} {Ts : List Cond} (hts : ∀ w ∈ Ts, w.before args s = true) (hin : ∀ w ∈ u_ws C T N, w ∈ Ts) (ty0 : Nat → FieldType) (hty : ∀ k, k < N → parseFieldDescriptor (T k).2.2.1 = some (ty0 k)) (hnm : ∀ a, a < N → ∀ b, b < N → a ≠ b → (T a).2.1 ≠ (T b).2.1) (hown : s.vm.findClass own = some m.cls) (hK : va_K D sx_clL (sx_tys cA) s) (hc : sx_clL[ci]? = some (C, T, N)) (k : Nat) (hk : k < N) (hlink : (Cond.fieldLink own index (T k).1 (T k).2.1 (T k).2.2.1).before args s = true) (hfin : (T k).2.2.2 = true) (hin2 : meth.name = "<init>") (hdecl : (T k).1 = own) {fit : Nat} (ht : sx_takes fit (ty0 k)) {σ : sx_S} {ss : List sx_S} (hdg : decode cc σ.1 = .ok (.putfield index, 3)) (h : sx_pf σ ci k fit = some ss) (K : ∀ τ ∈ ss, sx_Ok p l e R s m args below meth c Q D cA A b nL ρ0 ad0 n0 m0 τ) : sx_Ok p l e R s m args below meth c Q D cA A b nL ρ0 ad0 n0 m0 σ := by
  obtain ⟨pc, L, v, q, st, w, iv, mc, ms, fs, rfl, hq, hkl, hf, rfl⟩ := sx_pf_inv h
  intro ρ ad H locs ls h1 h2 h3 h4 h5 hP hD hS hl
  have he : (sx_cW ρ ad b cA w)[q]? = some (ad q, .inr (ci, fs.map (sx_cv ρ ad b))) := by rw [sx_cW_at, hq]; rfl
  have hv := sx_fit_ok (ρ := ρ) (ad := ad) (b := b) ht hf
  refine va_putF hx hb hts hin ty0 hty hnm hown hK hP hD hS q he hc k hk hlink (fun _ h => h) hfin hin2 hdecl (hty k hk) hv.1 hv.2 (by rw [List.length_map]; exact hkl) hdg (fun H1 locs1 hP1 hD1 hS1 => ?_)
  have e : (sx_cW ρ ad b cA w).set q (ad q, .inr (ci, (fs.map (sx_cv ρ ad b)).set k (sx_cv ρ ad b v))) = sx_cW ρ ad b cA (w.set q (.inl (ci, (fs.set k v)))) := by
    rw [sx_cW_set, ← List.map_set]
    rfl
  rw [e] at hP1 hD1
  exact K _ List.mem_cons_self ρ ad H1 locs1 ls h1 h2 h3 h4 (by show m0 ≤ (w.set q _).length; rw [List.length_set]; exact h5) hP1 hD1 hS1 hl
end sxHeap
