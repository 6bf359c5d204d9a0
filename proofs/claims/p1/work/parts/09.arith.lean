/-! new variables; int operations -/
theorem sx_and (a b : Nat) : Int32.ofNat a &&& Int32.ofNat b = Int32.ofNat (a &&& b) := by
  apply Int32.toBitVec_inj.1
  show BitVec.ofNat 32 a &&& BitVec.ofNat 32 b = BitVec.ofNat 32 (a &&& b)
  apply BitVec.eq_of_getLsbD_eq
  intro i hi
  simp [hi]
theorem sx_b_and (x : Int32) {b : Nat} (h : b < 2147483648) : 2147483648 ≤ sx_b (x &&& Int32.ofNat b) ∧ sx_b (x &&& Int32.ofNat b) ≤ 2147483648 + b := by
  rw [← sx_of_b x, sx_and, sx_b_of]
  have h1 : (sx_bias (sx_b x)) &&& b ≤ b := Nat.and_le_right
  generalize (sx_bias (sx_b x)) &&& b = n at h1
  unfold sx_bias
  omega
theorem sx_b_sub (x : Int32) {b : Nat} (h : b < 2147483648) (h2 : b ≤ sx_b x) : sx_b (x - Int32.ofNat b) = sx_b x - b := by
  have h3 := sx_b_lt x
  have e : x - Int32.ofNat b = Int32.ofNat (sx_bias (sx_b x)) - Int32.ofNat b := by rw [sx_of_b]
  rw [e, sx_sub, sx_b_of]
  generalize sx_b x = n at h2 h3
  unfold sx_bias
  omega
theorem sx_lim_cv {ρ ρ' : Nat → Int32} {ad ad' : Nat → Nat} {b nv nr : Nat} (hρ : ∀ k, k < nv → ρ k = ρ' k) (ha : ∀ k, k < nr → ad k = ad' k) : ∀ {v : sx_V}, sx_lim nv nr v = true → sx_cv ρ ad b v = sx_cv ρ' ad' b v
  | .inl _, _ => rfl
  | .inr (.inl k), h => by
    show Value.int (ρ k) = Value.int (ρ' k)
    rw [hρ k (Nat.le_of_ble_eq_true h)]
  | .inr (.inr (.inl k)), h => by
    show Value.ref (ad k) = Value.ref (ad' k)
    rw [ha k (Nat.le_of_ble_eq_true h)]
  | .inr (.inr (.inr 0)), _ => rfl
  | .inr (.inr (.inr 1)), _ => rfl
  | .inr (.inr (.inr (_ + 2))), _ => rfl
theorem sx_lim_xi {ρ ρ' : Nat → Int32} {nv nr : Nat} (hρ : ∀ k, k < nv → ρ k = ρ' k) : ∀ {v : sx_V}, sx_lim nv nr v = true → sx_xi ρ v = sx_xi ρ' v
  | .inl _, _ => rfl
  | .inr (.inl k), h => hρ k (Nat.le_of_ble_eq_true h)
  | .inr (.inr _), _ => rfl
theorem sx_lim_xr {ad ad' : Nat → Nat} {nv nr : Nat} (ha : ∀ k, k < nr → ad k = ad' k) : ∀ {v : sx_V}, sx_lim nv nr v = true → sx_xr ad v = sx_xr ad' v
  | .inl _, _ => rfl
  | .inr (.inl _), _ => rfl
  | .inr (.inr (.inl k)), h => by
    show some (ad k) = some (ad' k)
    rw [ha k (Nat.le_of_ble_eq_true h)]
  | .inr (.inr (.inr _)), _ => rfl
theorem sx_ald_lim {nv nr : Nat} {up : List (Nat × sx_V)} (h : sx_limP nv nr up = true) (kd j : Nat) : sx_lim nv nr (sx_ald kd up j) = true := by
  unfold sx_ald
  cases hl : sx_look j up with
  | none =>
    show sx_lim nv nr (sx_def kd) = true
    unfold sx_def
    split <;> rfl
  | some v => exact List.all_eq_true.mp h _ (sx_look_mem hl)
theorem sx_cE_lim {ρ ρ' : Nat → Int32} {ad ad' : Nat → Nat} {b nv nr : Nat} {cA : Nat → ClassId} (hρ : ∀ k, k < nv → ρ k = ρ' k) (ha : ∀ k, k < nr → ad k = ad' k) : ∀ {e : sx_E}, sx_limE nv nr e = true → sx_cE ρ ad b cA e = sx_cE ρ' ad' b cA e
  | .inl (ci, fs), h => by
    have h1 : fs.map (sx_cv ρ ad b) = fs.map (sx_cv ρ' ad' b) := List.map_congr_left (fun v hv => sx_lim_cv hρ ha (List.all_eq_true.mp h v hv))
    simp only [sx_cE, h1]
  | .inr (kd, n, up), h => by
    have h1 : (fun j => sx_xr ad (sx_ald 4 up j)) = (fun j => sx_xr ad' (sx_ald 4 up j)) := funext fun j => sx_lim_xr ha (sx_ald_lim h 4 j)
    have h2 : (fun j => sx_xi ρ (sx_ald 0 up j)) = (fun j => sx_xi ρ' (sx_ald 0 up j)) := funext fun j => sx_lim_xi hρ (sx_ald_lim h 0 j)
    simp only [sx_cE, h1, h2]
theorem sx_cW_at {ρ : Nat → Int32} {ad : Nat → Nat} {b : Nat} {cA : Nat → ClassId} (w : List sx_E) (k : Nat) : (sx_cW ρ ad b cA w)[k]? = (w[k]?).map (fun e => (ad k, sx_cE ρ ad b cA e)) := by
  unfold sx_cW
  rw [List.getElem?_mapIdx]
theorem sx_cW_lim {ρ ρ' : Nat → Int32} {ad ad' : Nat → Nat} {b nv nr : Nat} {cA : Nat → ClassId} {w : List sx_E} (hρ : ∀ k, k < nv → ρ k = ρ' k) (ha : ∀ k, k < nr → ad k = ad' k) (hr : w.length ≤ nr) (h : w.all (sx_limE nv nr) = true) : sx_cW ρ ad b cA w = sx_cW ρ' ad' b cA w := by
  apply List.ext_getElem?
  intro k
  rw [sx_cW_at, sx_cW_at]
  cases hk : w[k]? with
  | none => rfl
  | some e =>
    have hl : k < w.length := (List.getElem?_eq_some_iff.mp hk).1
    show some (ad k, sx_cE ρ ad b cA e) = some (ad' k, sx_cE ρ' ad' b cA e)
    rw [ha k (by omega), sx_cE_lim hρ ha (List.all_eq_true.mp h e (List.mem_of_getElem? hk))]
theorem sx_cL_lim {ρ ρ' : Nat → Int32} {ad ad' : Nat → Nat} {b nv nr : Nat} {L : List (Nat × sx_V)} (hρ : ∀ k, k < nv → ρ k = ρ' k) (ha : ∀ k, k < nr → ad k = ad' k) (h : sx_limP nv nr L = true) : sx_cL ρ ad b L = sx_cL ρ' ad' b L :=
  List.map_congr_left (fun q hq => by rw [sx_lim_cv hρ ha (List.all_eq_true.mp h q hq)])
theorem sx_cS_lim {ρ ρ' : Nat → Int32} {ad ad' : Nat → Nat} {b nv nr : Nat} {st : List sx_V} (hρ : ∀ k, k < nv → ρ k = ρ' k) (ha : ∀ k, k < nr → ad k = ad' k) (h : sx_limL nv nr st = true) : st.map (sx_cv ρ ad b) = st.map (sx_cv ρ' ad' b) :=
  List.map_congr_left (fun q hq => sx_lim_cv hρ ha (List.all_eq_true.mp h q hq))
section sxArith
variable {p : Program} {l : Launch} {e : Env} {R : Room} {s : State} {m : MethodId} {args : Array Value} {below : List Frame} {meth : Method} {c : Code} {Q : State → Prop} {D : va_G} {cA : Nat → ClassId} {A : Nat → Prop} {b nL : Nat} {ρ0 : Nat → Int32} {ad0 : Nat → Nat} {n0 m0 : Nat} {cc : ByteArray}
/-- a new variable: its value is x -/
theorem sx_newvar {pc mc ms lo hi : Nat} {L : List (Nat × sx_V)} {st : List sx_V} {w : List sx_E} {iv : sx_Iv} (hlim : sx_limS iv.length w.length L st w = true) (K : sx_Ok p l e R s m args below meth c Q D cA A b nL ρ0 ad0 n0 m0 (pc, L, (.inr (.inl iv.length)) :: st, w, iv ++ [(lo, hi)], mc, ms))
    {ρ : Nat → Int32} {ad : Nat → Nat} {H : Heap} {locs : List Loc} {ls : Array Slot} (x : Int32) (hlo : lo ≤ sx_b x) (hhi : sx_b x ≤ hi) (h1 : sx_ivOk ρ iv) (h2 : ∀ k, k < n0 → ρ k = ρ0 k) (h3 : ∀ k, k < m0 → ad k = ad0 k) (h4 : n0 ≤ iv.length) (h5 : m0 ≤ w.length)
    (hP : va_P D sx_clL (sx_cW ρ ad b cA w) H) (hD : va_D A (sx_cW ρ ad b cA w)) (hS : va_S A s.heap H locs) (hl : lv_has ls nL (sx_cL ρ ad b L)) : W p l e R s m args below meth c H locs mc ms Q (F0 m pc ls (.int x :: st.map (sx_cv ρ ad b))) := by
  simp only [sx_limS, Bool.and_eq_true] at hlim
  obtain ⟨g1, g2, g3⟩ := hlim
  let ρ' : Nat → Int32 := fun j => if j = iv.length then x else ρ j
  have hρ : ∀ k, k < iv.length → ρ k = ρ' k := fun k hk => (if_neg (Nat.ne_of_lt hk)).symm
  have ha : ∀ k, k < w.length → ad k = ad k := fun _ _ => rfl
  have hx : ρ' iv.length = x := if_pos rfl
  rw [sx_cW_lim hρ ha (Nat.le_refl _) g3] at hP hD
  rw [sx_cL_lim hρ ha g1] at hl
  rw [sx_cS_lim hρ ha g2]
  have k := K ρ' ad H locs ls (by
    intro k lo' hi' hk
    by_cases hkl : k < iv.length
    · have hk' : (iv ++ [(lo, hi)])[k]? = some (lo', hi') := hk
      rw [List.getElem?_append_left hkl] at hk'
      rw [← hρ k hkl]
      exact h1 k lo' hi' hk'
    · have hk' : (iv ++ [(lo, hi)])[k]? = some (lo', hi') := hk
      rw [List.getElem?_append_right (by omega)] at hk'
      have hz : k - iv.length < 1 := (List.getElem?_eq_some_iff.mp hk').1
      have hk0 : k = iv.length := by omega
      subst hk0
      rw [Nat.sub_self] at hk'
      cases hk'
      rw [hx]
      exact ⟨hlo, hhi⟩) (fun k hk => by rw [← hρ k (by omega)]; exact h2 k hk) h3 (by show n0 ≤ (iv ++ [(lo, hi)]).length; rw [List.length_append]; omega) h5 hP hD hS hl
  have e : ((.inr (.inl iv.length)) :: st).map (sx_cv ρ' ad b) = .int x :: st.map (sx_cv ρ' ad b) := by
    show Value.int (ρ' iv.length) :: _ = _
    rw [hx]
  rw [← e]
  exact k
theorem sx_full_ok (x : Int32) : sx_full.1 ≤ sx_b x ∧ sx_b x ≤ sx_full.2 := ⟨Nat.zero_le _, Nat.le_of_lt_succ (sx_b_lt x)⟩
theorem sx_fresh_inv {L : List (Nat × sx_V)} {st : List sx_V} {w : List sx_E} {iv : sx_Iv} {q : Nat × Nat} {f : sx_Iv → sx_N} {ss : List sx_S} (h : sx_fresh L st w iv q f = some ss) : sx_limS iv.length w.length L st w = true ∧ f (iv ++ [q]) = some ss := by
  unfold sx_fresh at h
  split at h
  next ho => rw [sx_appk_eq] at h; exact ⟨ho, h⟩
  next => cases h
theorem sx_s_i2b (hx : p.tables.exec = Jvm.exec) (hb : c.code = cc) {σ : sx_S} {ss : List sx_S} (hdg : decode cc σ.1 = .ok (.i2b, 1)) (h : sx_i2b σ = some ss) (K : ∀ τ ∈ ss, sx_Ok p l e R s m args below meth c Q D cA A b nL ρ0 ad0 n0 m0 τ) : sx_Ok p l e R s m args below meth c Q D cA A b nL ρ0 ad0 n0 m0 σ := by
  obtain ⟨pc, L, st, w, iv, mc, ms⟩ := σ
  unfold sx_i2b at h
  split at h
  next pc' L' v st' w' iv' mc' ms' heq =>
    cases heq
    split at h
    next ho =>
      obtain ⟨hlim, h⟩ := sx_fresh_inv h
      cases h
      intro ρ ad H locs ls h1 h2 h3 h4 h5 hP hD hS hl
      show W p l e R s m args below meth c H locs mc ms Q (F0 m pc ls (sx_cv ρ ad b v :: st'.map (sx_cv ρ ad b)))
      rw [sx_cv_int ho]
      exact lv_i2b hx hb hdg rfl (sx_newvar hlim (K _ List.mem_cons_self) _ (sx_full_ok _).1 (sx_full_ok _).2 h1 h2 h3 h4 h5 hP hD hS hl)
    next => cases h
  next => cases h
theorem sx_nm_c {ρ : Nat → Int32} {iv : sx_Iv} (h1 : sx_ivOk ρ iv) {v : sx_V} {n : Nat} (ad : Nat → Nat) (b : Nat) (h : sx_nm iv v = (.inl n)) : sx_cv ρ ad b v = .int (Int32.ofNat n) := by
  rw [← sx_nm_eq h1 v, h]
  rfl
theorem sx_nm_v {ρ : Nat → Int32} {iv : sx_Iv} (h1 : sx_ivOk ρ iv) {v : sx_V} {n : Nat} (ad : Nat → Nat) (b : Nat) (h : sx_nm iv v = (.inr (.inl n))) : sx_cv ρ ad b v = .int (ρ n) := by
  rw [← sx_nm_eq h1 v, h]
  rfl
theorem sx_s_bin {o : Nat} {op : Int32 → Int32 → Int32} {ok : Int32 → Int32 → Prop} {σ : sx_S} {ss : List sx_S}
    (hrow : ∀ (H : Heap) (locs : List Loc) (mc ms : Nat) (ls : Array Slot) (rest : List Value) (x y : Int32), ok x y → W p l e R s m args below meth c H locs mc ms Q (F0 m (σ.1 + 1) ls (.int (op x y) :: rest)) → W p l e R s m args below meth c H locs mc ms Q (F0 m σ.1 ls (.int y :: .int x :: rest)))
    (hcc : ∀ x y n, sx_bin o x y = some n → ok (Int32.ofNat x) (Int32.ofNat y) ∧ op (Int32.ofNat x) (Int32.ofNat y) = Int32.ofNat n)
    (h0 : o = 0 → ∀ x y, op x y = x + y) (h1' : o = 1 → ∀ x y, op x y = x - y) (h3' : o = 3 → ∀ x y, op x y = x &&& y) (hok : o ≠ 7 → ∀ x y, ok x y)
    (h : sx_binop σ o = some ss) (K : ∀ τ ∈ ss, sx_Ok p l e R s m args below meth c Q D cA A b nL ρ0 ad0 n0 m0 τ) : sx_Ok p l e R s m args below meth c Q D cA A b nL ρ0 ad0 n0 m0 σ := by
  obtain ⟨pc, L, st, w, iv, mc, ms⟩ := σ
  unfold sx_binop at h
  split at h
  next pc' L' y x st' w' iv' mc' ms' heq =>
    cases heq
    intro ρ ad H locs ls h1 h2 h3 h4 h5 hP hD hS hl
    show W p l e R s m args below meth c H locs mc ms Q (F0 m pc ls (sx_cv ρ ad b y :: sx_cv ρ ad b x :: st'.map (sx_cv ρ ad b)))
    split at h
    next a b' ha hb' =>
      rw [sx_nm_c h1 ad b ha, sx_nm_c h1 ad b hb']
      split at h
      next n hn =>
        cases h
        obtain ⟨g1, g2⟩ := hcc _ _ _ hn
        refine hrow H locs mc ms ls _ _ _ g1 ?_
        rw [g2]
        exact K _ List.mem_cons_self ρ ad H locs ls h1 h2 h3 h4 h5 hP hD hS hl
      next => cases h
    next a k ha hk =>
      rw [sx_nm_c h1 ad b ha, sx_nm_v h1 ad b hk]
      split at h
      next hz =>
        cases h
        refine hrow H locs mc ms ls _ _ _ (hok (by decide) _ _) ?_
        rw [h0 rfl, sx_zeroAdd _ _ (Nat.eq_of_beq_eq_true hz)]
        exact K _ List.mem_cons_self ρ ad H locs ls h1 h2 h3 h4 h5 hP hD hS hl
      next => cases h
    next k b' hk hb' =>
      rw [sx_nm_v h1 ad b hk, sx_nm_c h1 ad b hb']
      split at h
      next =>
        split at h
        next hz =>
          cases h
          refine hrow H locs mc ms ls _ _ _ (hok (by decide) _ _) ?_
          rw [h0 rfl, sx_addZero _ _ (Nat.eq_of_beq_eq_true hz)]
          exact K _ List.mem_cons_self ρ ad H locs ls h1 h2 h3 h4 h5 hP hD hS hl
        next =>
          obtain ⟨hlim, h⟩ := sx_fresh_inv h
          cases h
          exact hrow H locs mc ms ls _ _ _ (hok (by decide) _ _) (sx_newvar hlim (K _ List.mem_cons_self) _ (sx_full_ok _).1 (sx_full_ok _).2 h1 h2 h3 h4 h5 hP hD hS hl)
      next =>
        split at h
        next lo hi hlh =>
          split at h
          next hz =>
            obtain ⟨hlim, h⟩ := sx_fresh_inv h
            cases h
            rw [sx_nth_eq] at hlh
            have g := h1 k lo hi hlh
            simp only [Bool.and_eq_true] at hz
            have z1 : b' < 2147483648 := Nat.le_of_ble_eq_true hz.1
            have z2 : b' ≤ lo := Nat.le_of_ble_eq_true hz.2
            have e := sx_b_sub (ρ k) z1 (by omega)
            exact hrow H locs mc ms ls _ _ _ (hok (by decide) _ _) (sx_newvar hlim (K _ List.mem_cons_self) _ (by rw [h1' rfl, e]; omega) (by rw [h1' rfl, e]; omega) h1 h2 h3 h4 h5 hP hD hS hl)
          next => cases h
        next => cases h
      next =>
        split at h
        next hz =>
          obtain ⟨hlim, h⟩ := sx_fresh_inv h
          cases h
          have z1 : b' < 2147483648 := Nat.le_of_ble_eq_true hz
          have e := sx_b_and (ρ k) z1
          exact hrow H locs mc ms ls _ _ _ (hok (by decide) _ _) (sx_newvar hlim (K _ List.mem_cons_self) _ (by rw [h3' rfl]; exact e.1) (by rw [h3' rfl]; exact e.2) h1 h2 h3 h4 h5 hP hD hS hl)
        next => cases h
      next =>
        obtain ⟨hlim, h⟩ := sx_fresh_inv h
        cases h
        exact hrow H locs mc ms ls _ _ _ (hok (by decide) _ _) (sx_newvar hlim (K _ List.mem_cons_self) _ (sx_full_ok _).1 (sx_full_ok _).2 h1 h2 h3 h4 h5 hP hD hS hl)
      next =>
        obtain ⟨hlim, h⟩ := sx_fresh_inv h
        cases h
        exact hrow H locs mc ms ls _ _ _ (hok (by decide) _ _) (sx_newvar hlim (K _ List.mem_cons_self) _ (sx_full_ok _).1 (sx_full_ok _).2 h1 h2 h3 h4 h5 hP hD hS hl)
      next => cases h
    next => cases h
  next => cases h
end sxArith
