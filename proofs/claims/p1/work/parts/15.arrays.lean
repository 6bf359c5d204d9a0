/-! arrays -/
theorem sx_mapO_mem {α β : Type} {f : α → Option β} : ∀ {l : List α} {m : List β}, sx_mapO f l = some m → ∀ a ∈ l, ∃ t ∈ m, f a = some t
  | [], _, _, a, ha => absurd ha List.not_mem_nil
  | x :: l, m, h, a, ha => by
    unfold sx_mapO at h
    split at h
    next => cases h
    next y hy =>
      split at h
      next => cases h
      next m' hm =>
        cases h
        rcases List.mem_cons.mp ha with rfl | ha
        · exact ⟨y, List.mem_cons_self, hy⟩
        · obtain ⟨t, ht, e⟩ := sx_mapO_mem hm a ha
          exact ⟨t, List.mem_cons_of_mem _ ht, e⟩
theorem sx_iv_set {ρ : Nat → Int32} {iv : sx_Iv} (h : sx_ivOk ρ iv) (k : Nat) {lo hi : Nat} (h1 : lo ≤ sx_b (ρ k)) (h2 : sx_b (ρ k) ≤ hi) : sx_ivOk ρ (iv.set k (lo, hi)) := by
  intro j lo' hi' hj'
  by_cases hk : k = j
  · subst hk
    rw [List.getElem?_set_self'] at hj'
    cases hv : iv[k]? with
    | none => rw [hv] at hj'; cases hj'
    | some q =>
      rw [hv] at hj'
      cases hj'
      exact ⟨h1, h2⟩
  · rw [List.getElem?_set_ne hk] at hj'
    exact h j lo' hi' hj'
theorem sx_each_mem {iv : sx_Iv} {k x : Nat} : ∀ {n lo : Nat}, lo ≤ x → x < lo + n → (iv.set k (x, x), sx_bias x) ∈ sx_each iv k lo n
  | 0, lo, h1, h2 => by omega
  | n + 1, lo, h1, h2 => by
    unfold sx_each
    by_cases h : x = lo
    · subst h; exact List.mem_cons_self
    · exact List.mem_cons_of_mem _ (sx_each_mem (by omega) (by omega))
theorem sx_conc_ok {ρ : Nat → Int32} {iv : sx_Iv} (h1 : sx_ivOk ρ iv) {v : sx_V} {qs : List (sx_Iv × Nat)} (h : sx_conc iv (sx_nm iv v) = some qs) : ∃ q ∈ qs, sx_ivOk ρ q.1 ∧ q.1.length = iv.length ∧ ∀ (ad : Nat → Nat) (b : Nat), sx_cv ρ ad b v = .int (Int32.ofNat q.2) := by
  unfold sx_conc at h
  split at h
  next x hx =>
    cases h
    exact ⟨_, List.mem_cons_self, h1, rfl, fun ad b => sx_nm_c h1 ad b hx⟩
  next k hk =>
    split at h
    next lo hi hv =>
      split at h
      next =>
        cases h
        rw [sx_nth_eq] at hv
        have g := h1 k lo hi hv
        refine ⟨_, sx_each_mem (x := sx_b (ρ k)) g.1 (by omega), sx_iv_set h1 k (Nat.le_refl _) (Nat.le_refl _), by show (iv.set _ _).length = _; rw [List.length_set], fun ad b => ?_⟩
        rw [sx_nm_v h1 ad b hk]
        show Value.int (ρ k) = Value.int (Int32.ofNat (sx_bias (sx_b (ρ k))))
        rw [sx_of_b]
      next => cases h
    next => cases h
  next => cases h
theorem sx_look_del {k j : Nat} : ∀ (l : List (Nat × sx_V)), sx_look j (sx_del k l) = if j = k then none else sx_look j l
  | [] => by simp [sx_del, sx_look]
  | (i, v) :: l => by
    have ih := sx_look_del (k := k) (j := j) l
    unfold sx_del
    by_cases hik : i = k
    · rw [sx_beqT hik]
      show sx_look j (sx_del k l) = _
      rw [ih]
      by_cases hjk : j = k
      · rw [if_pos hjk, if_pos hjk]
      · rw [if_neg hjk, if_neg hjk]
        conv => rhs; unfold sx_look
        rw [sx_beqF (show i ≠ j by omega)]
    · rw [sx_beqF hik]
      show sx_look j ((i, v) :: sx_del k l) = _
      unfold sx_look
      by_cases hij : i = j
      · rw [sx_beqT hij, if_neg (show ¬ j = k by omega)]
      · rw [sx_beqF hij]
        exact ih
theorem sx_look_upd {k j : Nat} {v : sx_V} (l : List (Nat × sx_V)) : sx_look j (sx_upd k v l) = if j = k then (if sx_zero v = true then none else some v) else sx_look j l := by
  unfold sx_upd
  cases hz : sx_zero v with
  | true =>
    show sx_look j (sx_del k l) = _
    rw [sx_look_del]
    simp
  | false =>
    show sx_look j ((k, v) :: sx_del k l) = _
    conv => lhs; unfold sx_look
    by_cases hjk : j = k
    · rw [sx_beqT hjk.symm, if_pos hjk]
      simp
    · rw [sx_beqF (fun z => hjk z.symm), if_neg hjk]
      show sx_look j (sx_del k l) = _
      rw [sx_look_del, if_neg hjk]
theorem sx_upd_i {ρ : Nat → Int32} {k : Nat} {v : sx_V} (hv : sx_isInt v = true) (l : List (Nat × sx_V)) : (fun j => sx_xi ρ (sx_ald 0 (sx_upd k v l) j)) = upd (fun j => sx_xi ρ (sx_ald 0 l j)) k (sx_xi ρ v) := by
  funext j
  unfold sx_ald upd
  rw [sx_look_upd]
  by_cases hj : j = k
  · rw [if_pos hj, if_pos hj]
    cases hz : sx_zero v with
    | true =>
      match v, hv, hz with
      | .inl n, _, hz => rw [show n = 0 from Nat.eq_of_beq_eq_true hz]; rfl
      | .inr (.inl _), _, hz => cases hz
      | .inr (.inr (.inl _)), hv, _ => cases hv
      | .inr (.inr (.inr _)), hv, _ => cases hv
    | false => rfl
  · rw [if_neg hj, if_neg hj]
theorem sx_upd_r {ad : Nat → Nat} {k q : Nat} (l : List (Nat × sx_V)) : (fun j => sx_xr ad (sx_ald 4 (sx_upd k (.inr (.inr (.inl q))) l) j)) = va_up (fun j => sx_xr ad (sx_ald 4 l j)) k (some (ad q)) := by
  funext j
  unfold sx_ald va_up
  rw [sx_look_upd]
  by_cases hj : j = k
  · rw [if_pos hj, if_pos hj]
    rfl
  · rw [if_neg hj, if_neg hj]
theorem sx_vin {j n : Nat} (h : j < n) (h2 : j < 65536) : vp_in (Int32.ofNat j) n := by
  unfold vp_in
  rw [sx_clamp (by omega)]
  intro z
  rcases z with z | z
  · exact nI_pos (n := j) (by omega) z
  · omega
section sxArrays
variable {p : Program} {l : Launch} {e : Env} {R : Room} {s : State} {m : MethodId} {args : Array Value} {below : List Frame} {meth : Method} {c : Code} {Q : State → Prop} {D : va_G} {cA : Nat → ClassId} {A : Nat → Prop} {b nL : Nat} {ρ0 : Nat → Int32} {ad0 : Nat → Nat} {n0 m0 : Nat} {cc : ByteArray}
theorem sx_load_inv {sc : Bool} {pc mc ms k kd : Nat} {L : List (Nat × sx_V)} {i : sx_V} {st : List sx_V} {w : List sx_E} {iv : sx_Iv} {ss : List sx_S} (h : sx_load sc (pc, L, i :: (.inr (.inr (.inl k))) :: st, w, iv, mc, ms) kd = some ss) : ∃ n up, w[k]? = some (.inr (kd, n, up)) ∧ ∀ ρ, sx_ivOk ρ iv → ∃ iv' j, sx_ivOk ρ iv' ∧ iv'.length = iv.length ∧ (∀ (ad : Nat → Nat) (b : Nat), sx_cv ρ ad b i = .int (Int32.ofNat j)) ∧ j < n ∧ j < 65536 ∧ sx_lok kd (sx_ald kd up j) = true ∧ (pc + 1, L, sx_ald kd up j :: st, w, iv', mc, ms) ∈ ss := by
  simp only [sx_load] at h
  split at h
  next kd' n up hk =>
    split at h
    next qs hb hq =>
      rw [sx_nth_eq] at hk
      have e := Nat.eq_of_beq_eq_true hb
      subst e
      refine ⟨n, up, hk, fun ρ h1 => ?_⟩
      obtain ⟨q, hqm, g1, g2, g3⟩ := sx_conc_ok h1 hq
      obtain ⟨t, ht, he⟩ := sx_mapO_mem h q hqm
      split at he
      next hz =>
        cases he
        simp only [Bool.and_eq_true] at hz
        exact ⟨q.1, q.2, g1, g2, g3, Nat.le_of_ble_eq_true hz.1.1, Nat.le_of_ble_eq_true hz.1.2, hz.2, ht⟩
      next => cases he
    next => cases h
  next => cases h
theorem sx_store_inv {σ : sx_S} {kd : Nat} {ok : sx_V → Bool} {ss : List sx_S} (h : sx_store σ kd ok = some ss) : ∃ pc L x i k st w iv mc ms n up, σ = (pc, L, x :: i :: (.inr (.inr (.inl k))) :: st, w, iv, mc, ms) ∧ w[k]? = some (.inr (kd, n, up)) ∧ ok x = true ∧ ∀ ρ, sx_ivOk ρ iv → ∃ iv' j, sx_ivOk ρ iv' ∧ iv'.length = iv.length ∧ (∀ (ad : Nat → Nat) (b : Nat), sx_cv ρ ad b i = .int (Int32.ofNat j)) ∧ j < n ∧ j < 65536 ∧ (pc + 1, L, st, w.set k (.inr (kd, n, (sx_upd j x up))), iv', mc, ms) ∈ ss := by
  unfold sx_store at h
  split at h
  next pc L x i k st w iv mc ms =>
    split at h
    next kd' n up hk =>
      split at h
      next qs hb hq =>
        rw [sx_nth_eq] at hk
        rw [Bool.and_eq_true] at hb
        have e := Nat.eq_of_beq_eq_true hb.1
        subst e
        refine ⟨pc, L, x, i, k, st, w, iv, mc, ms, n, up, rfl, hk, hb.2, fun ρ h1 => ?_⟩
        obtain ⟨q, hqm, g1, g2, g3⟩ := sx_conc_ok h1 hq
        obtain ⟨t, ht, he⟩ := sx_mapO_mem h q hqm
        split at he
        next hz =>
          rw [sx_lay_eq, sx_setk_eq] at he
          cases he
          simp only [Bool.and_eq_true] at hz
          exact ⟨q.1, q.2, g1, g2, g3, Nat.le_of_ble_eq_true hz.1, Nat.le_of_ble_eq_true hz.2, ht⟩
        next => cases he
      next => cases h
    next => cases h
  next => cases h
theorem sx_s_iast (hx : p.tables.exec = Jvm.exec) (hb : c.code = cc) (hK : va_K D sx_clL (sx_tys cA) s) {σ : sx_S} {ss : List sx_S} (hdg : decode cc σ.1 = .ok (.iastore, 1)) (h : sx_store σ 0 sx_isInt = some ss) (K : ∀ τ ∈ ss, sx_Ok p l e R s m args below meth c Q D cA A b nL ρ0 ad0 n0 m0 τ) : sx_Ok p l e R s m args below meth c Q D cA A b nL ρ0 ad0 n0 m0 σ := by
  obtain ⟨pc, L, x, i, k, st, w, iv, mc, ms, n, up, rfl, hk, ho, hq⟩ := sx_store_inv h
  intro ρ ad H locs ls h1 h2 h3 h4 h5 hP hD hS hl
  obtain ⟨iv', j, g1, g2, g3, g4, g5, g6⟩ := hq ρ h1
  show W p l e R s m args below meth c H locs mc ms Q (F0 m pc ls (sx_cv ρ ad b x :: sx_cv ρ ad b i :: .ref (ad k) :: st.map (sx_cv ρ ad b)))
  rw [g3, sx_cv_int ho]
  have he : (sx_cW ρ ad b cA w)[k]? = some (ad k, .inl (cA 0, n, .inl (fun j => sx_xi ρ (sx_ald 0 up j)))) := by rw [sx_cW_at, hk]; rfl
  refine va_iast hx hb hK hP hD hS k 0 he rfl (sx_vin g4 g5) hdg (fun H1 locs1 hP1 hD1 hS1 => ?_)
  rw [sx_clamp (by omega), ← sx_upd_i ho] at hP1 hD1
  have e := sx_cW_set (ρ := ρ) (ad := ad) (b := b) (cA := cA) w k (.inr (0, n, (sx_upd j x up)))
  exact K _ g6 ρ ad H1 locs1 ls g1 h2 h3 (by show n0 ≤ iv'.length; rw [g2]; exact h4) (by show m0 ≤ (w.set k _).length; rw [List.length_set]; exact h5) (by show va_P D sx_clL (sx_cW ρ ad b cA (w.set k _)) H1; rw [e]; exact hP1) (by show va_D A (sx_cW ρ ad b cA (w.set k _)); rw [e]; exact hD1) hS1 hl
end sxArrays
