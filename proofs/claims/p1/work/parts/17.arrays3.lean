/-! arrays: references, lengths, the script, copies -/
section sxArrays3
variable {p : Program} {l : Launch} {e : Env} {R : Room} {s : State} {m : MethodId} {args : Array Value} {below : List Frame} {meth : Method} {c : Code} {Q : State → Prop} {D : va_G} {cA : Nat → ClassId} {A : Nat → Prop} {b nL : Nat} {ρ0 : Nat → Int32} {ad0 : Nat → Nat} {n0 m0 : Nat} {cc : ByteArray}
theorem sx_s_aast (hx : p.tables.exec = Jvm.exec) (hb : c.code = cc) (hK : va_K D sx_clL (sx_tys cA) s) {σ : sx_S} {ss : List sx_S} (hobj : ∀ pc L q i k st w iv mc ms, σ = (pc, L, (.inr (.inr (.inl q))) :: i :: (.inr (.inr (.inl k))) :: st, w, iv, mc, ms) → ∃ vs, w[q]? = some (.inl (8, vs))) (hdg : decode cc σ.1 = .ok (.aastore, 1)) (h : sx_store σ 4 sx_isRef = some ss) (K : ∀ τ ∈ ss, sx_Ok p l e R s m args below meth c Q D cA A b nL ρ0 ad0 n0 m0 τ) : sx_Ok p l e R s m args below meth c Q D cA A b nL ρ0 ad0 n0 m0 σ := by
  obtain ⟨pc, L, x, i, k, st, w, iv, mc, ms, n, up, rfl, hk, ho, hq⟩ := sx_store_inv h
  intro ρ ad H locs ls h1 h2 h3 h4 h5 hP hD hS hl
  obtain ⟨iv', j, g1, g2, g3, g4, g5, g6⟩ := hq ρ h1
  obtain ⟨q, rfl, hxv⟩ := sx_cv_ref (ρ := ρ) (ad := ad) (b := b) ho
  obtain ⟨vs, hvs⟩ := hobj _ _ _ _ _ _ _ _ _ _ rfl
  show W p l e R s m args below meth c H locs mc ms Q (F0 m pc ls (.ref (ad q) :: sx_cv ρ ad b i :: .ref (ad k) :: st.map (sx_cv ρ ad b)))
  rw [g3]
  have he : (sx_cW ρ ad b cA w)[k]? = some (ad k, .inl (cA 4, n, .inr (.inr (.inr (.inr (fun j => sx_xr ad (sx_ald 4 up j))))))) := by rw [sx_cW_at, hk]; rfl
  have hv : (sx_cW ρ ad b cA w)[q]? = some (ad q, .inr (8, vs.map (sx_cv ρ ad b))) := by rw [sx_cW_at, hvs]; rfl
  refine va_astq (r := (RX8, TX8, 7)) hx hb hK hP hD hS k 4 q 8 he rfl hv rfl (sx_vin g4 g5) hdg (fun H1 locs1 hP1 hD1 hS1 => ?_)
  rw [sx_clamp (by omega), ← sx_upd_r] at hP1 hD1
  have e := sx_cW_set (ρ := ρ) (ad := ad) (b := b) (cA := cA) w k (.inr (4, n, (sx_upd j (.inr (.inr (.inl q))) up)))
  exact K _ g6 ρ ad H1 locs1 ls g1 h2 h3 (by show n0 ≤ iv'.length; rw [g2]; exact h4) (by show m0 ≤ (w.set k _).length; rw [List.length_set]; exact h5) (by show va_P D sx_clL (sx_cW ρ ad b cA (w.set k _)) H1; rw [e]; exact hP1) (by show va_D A (sx_cW ρ ad b cA (w.set k _)); rw [e]; exact hD1) hS1 hl
/-- lengths of arrays that the world holds -/
theorem sx_s_alen (hx : p.tables.exec = Jvm.exec) (hb : c.code = cc) (hK : va_K D sx_clL (sx_tys cA) s) {pc mc ms k : Nat} {L : List (Nat × sx_V)} {st : List sx_V} {w : List sx_E} {iv : sx_Iv} {sc : Bool} {ss : List sx_S} (hkd : ∀ kd n up, w[k]? = some (.inr (kd, n, up)) → kd < 5) (hdg : decode cc pc = .ok (.arraylength, 1)) (h : sx_alen sc (pc, L, (.inr (.inr (.inl k))) :: st, w, iv, mc, ms) = some ss) (K : ∀ τ ∈ ss, sx_Ok p l e R s m args below meth c Q D cA A b nL ρ0 ad0 n0 m0 τ) : sx_Ok p l e R s m args below meth c Q D cA A b nL ρ0 ad0 n0 m0 (pc, L, (.inr (.inr (.inl k))) :: st, w, iv, mc, ms) := by
  simp only [sx_alen] at h
  split at h
  next kd n up hk =>
    cases h
    rw [sx_nth_eq] at hk
    have hlt := hkd _ _ _ hk
    intro ρ ad H locs ls h1 h2 h3 h4 h5 hP hD hS hl
    obtain ⟨xa, hxa, hxn⟩ : ∃ xa : vp_A, sx_cE ρ ad b cA (.inr (kd, n, up)) = .inl (cA kd, xa) ∧ xa.1 = n := ⟨_, rfl, rfl⟩
    have he : (sx_cW ρ ad b cA w)[k]? = some (ad k, .inl (cA kd, xa)) := by rw [sx_cW_at, hk, ← hxa]; rfl
    obtain ⟨ty, hty⟩ : ∃ ty, (sx_tys cA)[kd]? = some (cA kd, ty) := by
      match kd, hlt with
      | 0, _ => exact ⟨_, rfl⟩
      | 1, _ => exact ⟨_, rfl⟩
      | 2, _ => exact ⟨_, rfl⟩
      | 3, _ => exact ⟨_, rfl⟩
      | 4, _ => exact ⟨_, rfl⟩
    exact va_alen hx hb hK hP k kd he hty (v := Int32.ofNat n) (by rw [hxn]) hdg (K _ List.mem_cons_self ρ ad H locs ls h1 h2 h3 h4 h5 hP hD hS hl)
  next => cases h
end sxArrays3
