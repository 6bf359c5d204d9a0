/-! arrays: references, lengths, the script, copies -/
section sxArrays3
variable {p : Program} {l : Launch} {e : Env} {R : Room} {s : State} {m : MethodId} {args : Array Value} {below : List Frame} {meth : Method} {c : Code} {Q : State → Prop} {D : va_G} {cA : Nat → ClassId} {A : Nat → Prop} {b nL : Nat} {ρ0 : Nat → Int32} {ad0 : Nat → Nat} {n0 m0 : Nat} {cc : ByteArray}
theorem sx_storeQ_inv {σ : sx_S} {ss : List sx_S} (h : sx_storeQ σ = some ss) : (∀ pc L q i k st w iv mc ms, σ = (pc, L, (.inr (.inr (.inl q))) :: i :: (.inr (.inr (.inl k))) :: st, w, iv, mc, ms) → ∃ vs, w[q]? = some (.inl (8, vs))) ∧ sx_store σ 4 sx_isRef = some ss := by
  unfold sx_storeQ at h
  split at h
  next q st0 w iv mc ms =>
    split at h
    next ci fs hq =>
      split at h
      next hz =>
        refine ⟨fun pc L q' i k st w' iv' mc' ms' he => ?_, h⟩
        cases he
        rw [sx_nth_eq, Nat.eq_of_beq_eq_true hz] at hq
        exact ⟨fs, hq⟩
      next => cases h
    next => cases h
  next => cases h
theorem sx_s_aast (hx : p.tables.exec = Jvm.exec) (hb : c.code = cc) (hK : va_K D sx_clL (sx_tys cA) s) {σ : sx_S} {ss : List sx_S} (hdg : decode cc σ.1 = .ok (.aastore, 1)) (h : sx_storeQ σ = some ss) (K : ∀ τ ∈ ss, sx_Ok p l e R s m args below meth c Q D cA A b nL ρ0 ad0 n0 m0 τ) : sx_Ok p l e R s m args below meth c Q D cA A b nL ρ0 ad0 n0 m0 σ := by
  obtain ⟨hobj, h⟩ := sx_storeQ_inv h
  obtain ⟨pc, L, x, i, k, st, w, iv, mc, ms, n, up, rfl, hk, ho, hq⟩ := sx_store_inv h
  intro ρ ad H locs ls h1 h2 h3 h4 h5 hP hD hS hl
  obtain ⟨iv', j, g1, g2, g3, g4, g5, g6⟩ := hq ρ h1
  obtain ⟨q, rfl, hxv⟩ := sx_cv_ref (ρ := ρ) (ad := ad) (b := b) ho
  obtain ⟨vs, hvs⟩ := hobj _ _ _ _ _ _ _ _ _ _ rfl
  show W p l e R s m args below meth c H locs mc ms Q (F0 m pc ls (.ref (ad q) :: sx_cv ρ ad b i :: .ref (ad k) :: st.map (sx_cv ρ ad b)))
  rw [g3]
  have he : (sx_cW ρ ad b cA w)[k]? = some (ad k, .inl (cA 4, n, .inr (.inr (.inr (.inr (fun j => sx_xr ad (sx_ald 4 up j))))))) := by rw [sx_cW_at, hk]; rfl
  have hv : (sx_cW ρ ad b cA w)[q]? = some (ad q, .inr (8, vs.map (sx_cv ρ ad b))) := by rw [sx_cW_at, hvs]; rfl
  refine va_astq (r := (RX8, TX8, 7)) hx hb hK hP hD hS k 4 q 8 he rfl hv rfl (sx_vin g4 g5) hdg (fun H1 locs1 hP1 hD1 hS1 => ?_)
  rw [sx_clamp (by omega), ← sx_upd_r] at hP1 hD1
  have e := sx_cW_set (ρ := ρ) (ad := ad) (b := b) (cA := cA) w k (.inr (4, n, (sx_upd j (.inr (.inr (.inl q))) up)))
  exact K _ g6 ρ ad H1 locs1 ls g1 h2 h3 (by show n0 ≤ iv'.length; rw [g2]; exact h4) (by show m0 ≤ (w.set k _).length; rw [List.length_set]; exact h5) (by show va_P D sx_clL (sx_cW ρ ad b cA (w.set k _)) H1; rw [e]; exact hP1) (by show va_D A (sx_cW ρ ad b cA (w.set k _)); rw [e]; exact hD1) hS1 hl
/-- lengths of arrays that the world holds -/
theorem sx_s_alen (hx : p.tables.exec = Jvm.exec) (hb : c.code = cc) (hK : va_K D sx_clL (sx_tys cA) s) {pc mc ms k : Nat} {L : List (Nat × sx_V)} {st : List sx_V} {w : List sx_E} {iv : sx_Iv} {sc : Bool} {ss : List sx_S} (hdg : decode cc pc = .ok (.arraylength, 1)) (h : sx_alen sc (pc, L, (.inr (.inr (.inl k))) :: st, w, iv, mc, ms) = some ss) (K : ∀ τ ∈ ss, sx_Ok p l e R s m args below meth c Q D cA A b nL ρ0 ad0 n0 m0 τ) : sx_Ok p l e R s m args below meth c Q D cA A b nL ρ0 ad0 n0 m0 (pc, L, (.inr (.inr (.inl k))) :: st, w, iv, mc, ms) := by
  simp only [sx_alen] at h
  split at h
  next kd n up hk =>
    split at h
    case h_2 => cases h
    rename_i hz
    cases h
    rw [sx_nth_eq] at hk
    have hlt : kd < 5 := Nat.le_of_ble_eq_true hz
    intro ρ ad H locs ls h1 h2 h3 h4 h5 hP hD hS hl
    obtain ⟨xa, hxa, hxn⟩ : ∃ xa : vp_A, sx_cE ρ ad b cA (.inr (kd, n, up)) = .inl (cA kd, xa) ∧ xa.1 = n := ⟨_, rfl, rfl⟩
    have he : (sx_cW ρ ad b cA w)[k]? = some (ad k, .inl (cA kd, xa)) := by rw [sx_cW_at, hk, ← hxa]; rfl
    obtain ⟨ty, hty⟩ : ∃ ty, (sx_tys cA)[kd]? = some (cA kd, ty) := by
      match kd, hlt with
      | 0, _ => exact ⟨_, rfl⟩
      | 1, _ => exact ⟨_, rfl⟩
      | 2, _ => exact ⟨_, rfl⟩
      | 3, _ => exact ⟨_, rfl⟩
      | 4, _ => exact ⟨_, rfl⟩
    exact va_alen hx hb hK hP k kd he hty (v := Int32.ofNat n) (by rw [hxn]) hdg (K _ List.mem_cons_self ρ ad H locs ls h1 h2 h3 h4 h5 hP hD hS hl)
  next => cases h
theorem sx_copy_at {ρ : Nat → Int32} {src : List (Nat × sx_V)} {j : Nat} : ∀ (n sp dp : Nat) (up : List (Nat × sx_V)), sx_xi ρ (sx_ald 0 (sx_copyW src sp dp n up) j) = if dp ≤ j ∧ j < dp + n then sx_xi ρ (sx_ald 0 src (sp + (j - dp))) else sx_xi ρ (sx_ald 0 up j)
  | 0, sp, dp, up => by
    rw [if_neg (by omega)]
    rfl
  | n + 1, sp, dp, up => by
    have e : ∀ i, sx_xi ρ (sx_ald 0 (match sx_look sp src with | some v => sx_upd dp v up | none => sx_del dp up) i) = if i = dp then sx_xi ρ (sx_ald 0 src sp) else sx_xi ρ (sx_ald 0 up i) := by
      intro i
      cases hs : sx_look sp src with
      | none =>
        show sx_xi ρ ((sx_look i (sx_del dp up)).getD (sx_def 0)) = _
        rw [sx_look_del]
        by_cases hi : i = dp
        · rw [if_pos hi, if_pos hi]
          unfold sx_ald
          rw [hs]
        · rw [if_neg hi, if_neg hi]
          rfl
      | some v =>
        show sx_xi ρ ((sx_look i (sx_upd dp v up)).getD (sx_def 0)) = _
        rw [sx_look_upd]
        by_cases hi : i = dp
        · rw [if_pos hi, if_pos hi]
          unfold sx_ald
          rw [hs]
          cases hz : sx_zero v with
          | true =>
            match v, hz with
            | .inl n, hz => rw [show n = 0 from Nat.eq_of_beq_eq_true hz]; rfl
            | .inr (.inl _), hz => cases hz
            | .inr (.inr (.inl _)), hz => cases hz
            | .inr (.inr (.inr _)), _ => rfl
          | false => rfl
        · rw [if_neg hi, if_neg hi]
          rfl
    show sx_xi ρ (sx_ald 0 (sx_copyW src (sp + 1) (dp + 1) n _) j) = _
    rw [sx_copy_at n (sp + 1) (dp + 1)]
    refine (congrArg (fun z => if dp + 1 ≤ j ∧ j < dp + 1 + n then sx_xi ρ (sx_ald 0 src (sp + 1 + (j - (dp + 1)))) else z) (e j)).trans ?_
    show (if dp + 1 ≤ j ∧ j < dp + 1 + n then sx_xi ρ (sx_ald 0 src (sp + 1 + (j - (dp + 1)))) else if j = dp then sx_xi ρ (sx_ald 0 src sp) else sx_xi ρ (sx_ald 0 up j)) = _
    by_cases h1 : dp + 1 ≤ j ∧ j < dp + 1 + n
    · rw [if_pos h1, if_pos (show dp ≤ j ∧ j < dp + (n + 1) by omega), show sp + 1 + (j - (dp + 1)) = sp + (j - dp) by omega]
    · rw [if_neg h1]
      by_cases h2 : j = dp
      · rw [if_pos h2, if_pos (show dp ≤ j ∧ j < dp + (n + 1) by omega), show sp + (j - dp) = sp by omega]
      · rw [if_neg h2, if_neg (show ¬ (dp ≤ j ∧ j < dp + (n + 1)) by omega)]
end sxArrays3
