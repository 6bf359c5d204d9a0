/-! the abstract executor: counters, small ones, calls by summaries -/
section tiCall
variable {Λ : List ti_D} {Ψ : List Nat} {mc ms : Nat}
def ti_inc (k n : Nat) (A : ti_S) : Option (List ti_S) := match A with
  | (pc, L, st, env, F) => match ti_look k L with
    | some a => match ti_iv env a, ti_iv env (.inl n) with
      | some (la, ha), some (lb, hb) => match ti_limS env.length L st F && ti_lim env.length a with
        | true => some [(pc + 3, ti_put (env ++ [(0, ti_ivo 0 la ha lb hb)]) k (.inr env.length) L, st, env ++ [(0, ti_ivo 0 la ha lb hb)], [(1, a, .inl n, .inr env.length)] ++ F)]
        | false => none
      | _, _ => none
    | none => none
theorem ti_limUp {n m : Nat} (h : n ≤ m) : ∀ {a : ti_a}, ti_lim n a = true → ti_lim m a = true
  | .inl _, _ => rfl
  | .inr _, ha => Nat.ble_eq_true_of_le (Nat.le_trans (Nat.le_of_ble_eq_true ha) h)
theorem ti_inc_ok {k n : Nat} {A : ti_S} {As : List ti_S} (h : ti_inc k n A = some As) : ti_sim (zx_inc k (Int32.ofNat n)) Λ Ψ mc ms A As := by
  obtain ⟨pc, L, st, env, F⟩ := A
  simp only [ti_inc] at h
  split at h
  next a hk =>
    split at h
    next la ha lb hb hia hib =>
      split at h
      next hz =>
        cases h
        rw [Bool.and_eq_true] at hz
        intro ρ σ ⟨w, hσ, hw, he, hF⟩
        subst hσ
        obtain ⟨x, hx, a1, a2⟩ := ti_iv_ok he hia
        obtain ⟨y, hy, b1, b2⟩ := ti_iv_ok he hib
        have ey : y = Int32.ofNat n := by
          have hy : (Sum.inl (Int32.ofNat n) : zx_V) = Sum.inl y := hy
          cases hy
          rfl
        subst ey
        have hiv := ti_ivo_ok (n := 0) a1 a2 b1 b2
        obtain ⟨ρ', ⟨w', hσ', hw', he', hF'⟩, hag⟩ := ti_newname (pc := pc) (pc' := pc + 3) (mc := mc) (ms := ms) (t := (0, ti_ivo 0 la ha lb hb)) (v := (.inl (x + Int32.ofNat n))) (G := [(1, a, .inl n, .inr env.length)]) hz.1 hw he hF ⟨_, rfl, hiv.1, hiv.2⟩ (fun ρ' hr hn f hf => by
          rw [List.mem_singleton.mp hf]
          exact ⟨x, Int32.ofNat n, by rw [ti_lim_v hr hz.2]; exact hx, rfl, hn⟩)
        have hσ' : (pc + 3, L.map (fun q : Nat × ti_a => (q.1, ti_v ρ q.2)), ((.inl (x + Int32.ofNat n)) : zx_V) :: st.map (ti_v ρ), w, mc, ms) = (pc + 3, L.map (fun q : Nat × ti_a => (q.1, ti_v ρ' q.2)), ρ' env.length :: st.map (ti_v ρ'), w', mc, ms) := hσ'
        simp only [Prod.mk.injEq, List.cons.injEq] at hσ'
        obtain ⟨-, eL, ⟨ev, eS⟩, ew, -⟩ := hσ'
        subst ew
        refine ⟨(pc + 3, zx_put k (.inl (x + Int32.ofNat n)) (L.map (fun q : Nat × ti_a => (q.1, ti_v ρ q.2))), st.map (ti_v ρ), w, mc, ms), ρ', _, ?_, List.mem_cons_self, ⟨w, ?_, hw', he', hF'⟩, hag⟩
        · have hl := ti_look_ok (ρ := ρ) hk
          rw [hx] at hl
          unfold zx_inc
          show (match zx_look k (L.map (fun q : Nat × ti_a => (q.1, ti_v ρ q.2))), (pc, L.map (fun q : Nat × ti_a => (q.1, ti_v ρ q.2)), st.map (ti_v ρ), w, mc, ms) with
            | some (.inl x), (pc, ls, st, w, mc, ms) => some (pc + 3, zx_put k (.inl (x + Int32.ofNat n)) ls, st, w, mc, ms)
            | _, _ => none) = _
          rw [hl]
        · have hl2 : L.all (fun q => ti_lim (env ++ [(0, ti_ivo 0 la ha lb hb)]).length q.2) = true := by
            have h1 := hz.1
            simp only [ti_limS, Bool.and_eq_true] at h1
            refine List.all_eq_true.mpr (fun q hq => ti_limUp (by rw [List.length_append]; exact Nat.le_add_right _ _) (List.all_eq_true.mp h1.1 q hq))
          have ep := ti_put_ok (k := k) (a := .inr env.length) he' hl2
          show _ = (pc + 3, (ti_put (env ++ [(0, ti_ivo 0 la ha lb hb)]) k (.inr env.length) L).map (fun q : Nat × ti_a => (q.1, ti_v ρ' q.2)), st.map (ti_v ρ'), w, mc, ms)
          rw [ep, ← eL, ← eS]
          show _ = (pc + 3, zx_put k (ρ' env.length) (L.map (fun q : Nat × ti_a => (q.1, ti_v ρ q.2))), st.map (ti_v ρ), w, mc, ms)
          rw [← ev]
      next => cases h
    next => cases h
  next => cases h
def ti_pop (A : ti_S) : Option (List ti_S) := match A with
  | (pc, L, a :: st, env, F) => match ti_lim env.length a && !(ti_cat env a) with
    | true => some [(pc + 1, L, st, env, F)]
    | false => none
  | _ => none
theorem ti_pop_ok {A : ti_S} {As : List ti_S} (h : ti_pop A = some As) : ti_sim zx_pop Λ Ψ mc ms A As := by
  obtain ⟨pc, L, st0, env, F⟩ := A
  unfold ti_pop at h
  split at h
  next pc' L' a st env' F' heq =>
    cases heq
    split at h
    next hz =>
      cases h
      rw [Bool.and_eq_true, Bool.not_eq_true'] at hz
      intro ρ σ ⟨w, hσ, hw, he, hF⟩
      subst hσ
      refine ⟨_, ρ, _, ?_, List.mem_cons_self, ⟨w, rfl, hw, he, hF⟩, fun _ _ => rfl⟩
      have hc := ti_cat_ok he hz.1
      rw [hz.2] at hc
      show zx_pop (pc, L.map (fun q => (q.1, ti_v ρ q.2)), ti_v ρ a :: st.map (ti_v ρ), w, mc, ms) = _
      simp only [zx_pop, hc]
    next => cases h
  next => cases h
def ti_dup (A : ti_S) : Option (List ti_S) := match A with
  | (pc, L, a :: st, env, F) => match ti_lim env.length a && !(ti_cat env a) with
    | true => some [(pc + 1, L, a :: a :: st, env, F)]
    | false => none
  | _ => none
theorem ti_dup_ok {A : ti_S} {As : List ti_S} (h : ti_dup A = some As) : ti_sim zx_dup Λ Ψ mc ms A As := by
  obtain ⟨pc, L, st0, env, F⟩ := A
  unfold ti_dup at h
  split at h
  next pc' L' a st env' F' heq =>
    cases heq
    split at h
    next hz =>
      cases h
      rw [Bool.and_eq_true, Bool.not_eq_true'] at hz
      intro ρ σ ⟨w, hσ, hw, he, hF⟩
      subst hσ
      refine ⟨_, ρ, _, ?_, List.mem_cons_self, ⟨w, rfl, hw, he, hF⟩, fun _ _ => rfl⟩
      have hc := ti_cat_ok he hz.1
      rw [hz.2] at hc
      show zx_dup (pc, L.map (fun q => (q.1, ti_v ρ q.2)), ti_v ρ a :: st.map (ti_v ρ), w, mc, ms) = some (pc + 1, L.map (fun q => (q.1, ti_v ρ q.2)), ti_v ρ a :: ti_v ρ a :: st.map (ti_v ρ), w, mc, ms)
      simp only [zx_dup, hc]
    next => cases h
  next => cases h
def ti_alen (Λ : List ti_D) (A : ti_S) : Option (List ti_S) := match A with
  | (pc, L, .inr r :: st, env, F) => match env[r]? with
    | some (1, l, _) => match Λ[l]? with
      | some (.inr (kd, n, _)) => match Nat.blt kd 5 with
        | true => some [(pc + 1, L, .inl n :: st, env, F)]
        | false => none
      | _ => none
    | _ => none
  | _ => none
theorem ti_alen_ok {X : zx_X} {A : ti_S} {As : List ti_S} (h : ti_alen Λ A = some As) : ti_sim (zx_alen X) Λ Ψ mc ms A As := by
  obtain ⟨pc, L, st0, env, F⟩ := A
  unfold ti_alen at h
  split at h
  next pc' L' r st env' F' heq =>
    cases heq
    split at h
    next l c0 hr =>
      split at h
      next kd n t hd =>
        split at h
        next hz =>
          cases h
          intro ρ σ ⟨w, hσ, hw, he, hF⟩
          subst hσ
          obtain ⟨q, hq, hΨ⟩ := he r _ hr
          obtain ⟨f, hf, -⟩ := ti_arr hw hΨ hd
          refine ⟨_, ρ, _, ?_, List.mem_cons_self, ⟨w, rfl, hw, he, hF⟩, fun _ _ => rfl⟩
          show zx_alen X (pc, L.map (fun q => (q.1, ti_v ρ q.2)), ρ r :: st.map (ti_v ρ), w, mc, ms) = some (pc + 1, L.map (fun q => (q.1, ti_v ρ q.2)), (.inl (Int32.ofNat n)) :: st.map (ti_v ρ), w, mc, ms)
          rw [hq]
          simp only [zx_alen, hf, hz]
        next => cases h
      next => cases h
    next => cases h
  next => cases h
/-- calls: the summaries (method, types of its values, type of its answer) -/
abbrev ti_C : Type := Nat × List ti_y × Option ti_y
def ti_fits (env : List ti_y) : List ti_a → List ti_y → Bool
  | [], [] => true
  | a :: l, t :: ts => ti_sub env a t && ti_fits env l ts
  | _, _ => false
def ti_typed (Ψ : List Nat) : List zx_V → List ti_y → Prop
  | [], [] => True
  | v :: l, t :: ts => ti_vt Ψ t v ∧ ti_typed Ψ l ts
  | _, _ => False
theorem ti_fits_ok {env : List ti_y} {ρ : Nat → zx_V} (he : ∀ k t, env[k]? = some t → ti_vt Ψ t (ρ k)) : ∀ {av : List ti_a} {ts : List ti_y}, ti_fits env av ts = true → ti_typed Ψ (av.map (ti_v ρ)) ts
  | [], [], _ => trivial
  | a :: l, t :: ts, h => by
    simp only [ti_fits, Bool.and_eq_true] at h
    exact ⟨ti_sub_ok he h.1, ti_fits_ok he h.2⟩
  | [], _ :: _, h => by cases h
  | _ :: _, [], h => by cases h
def ti_find (y : Nat) (env : List ti_y) (av : List ti_a) : List ti_C → Option ti_C
  | [] => none
  | (y', ts, rt) :: l => match Nat.beq y y' && ti_fits env av ts with
    | true => some (y', ts, rt)
    | false => ti_find y env av l
theorem ti_find_ok {y : Nat} {env : List ti_y} {av : List ti_a} {q : ti_C} : ∀ {CS : List ti_C}, ti_find y env av CS = some q → q ∈ CS ∧ q.1 = y ∧ ti_fits env av q.2.1 = true
  | [], h => by cases h
  | (y', ts, rt) :: l, h => by
    unfold ti_find at h
    split at h
    next hz =>
      cases h
      rw [Bool.and_eq_true] at hz
      exact ⟨List.mem_cons_self, (Nat.eq_of_beq_eq_true hz.1).symm, hz.2⟩
    next =>
      obtain ⟨h1, h2, h3⟩ := ti_find_ok h
      exact ⟨List.mem_cons_of_mem _ h1, h2, h3⟩
/-- the summaries are true of K -/
def ti_KS (K : zx_K) (Λ : List ti_D) (Ψ : List Nat) (CS : List ti_C) : Prop := ∀ q ∈ CS, ∀ (av : List zx_V) (w : List zx_E), ti_wt Λ Ψ w → ti_typed Ψ av q.2.1 → ∃ r, K q.1 av w (0, 0) r ∧ ti_wt Λ Ψ r.2 ∧ (match q.2.2 with
  | none => r.1 = none
  | some t => ∃ v, r.1 = some v ∧ ti_vt Ψ t v)
def ti_take : Nat → List ti_a → List ti_a → Option (List ti_a × List ti_a)
  | 0, acc, st => some (acc, st)
  | n + 1, acc, v :: st => ti_take n (v :: acc) st
  | _ + 1, _, [] => none
theorem ti_take_ok {ρ : Nat → zx_V} : ∀ {n : Nat} {acc st av st' : List ti_a}, ti_take n acc st = some (av, st') → zx_take n (acc.map (ti_v ρ)) (st.map (ti_v ρ)) = some (av.map (ti_v ρ), st'.map (ti_v ρ))
  | 0, acc, st, av, st', h => by
    simp only [ti_take] at h
    cases h
    rfl
  | n + 1, acc, v :: st, av, st', h => by
    simp only [ti_take] at h
    exact ti_take_ok (ρ := ρ) (n := n) (acc := v :: acc) (st := st) h
  | n + 1, acc, [], av, st', h => by
    simp only [ti_take] at h
    cases h
def ti_isOp (f : ti_f) : Bool := match f.1 with
  | 0 => false
  | _ => true
theorem ti_isOp_ok {ρ : Nat → zx_V} {w w' : List zx_E} : ∀ {f : ti_f}, ti_isOp f = true → ti_fd ρ w f → ti_fd ρ w' f
  | (0, _, _, _), h, _ => by cases h
  | (n + 1, a, b, c), _, h => h
def ti_call (CS : List ti_C) (y n : Nat) (A : ti_S) : Option (List ti_S) := match A with
  | (pc, L, st0, env, F) => match ti_take n [] st0 with
    | some (av, st) => match ti_find y env av CS with
      | some (_, _, rt) => match Nat.ble st.length 4 && ti_limS env.length L st (F.filter ti_isOp) with
        | true => match rt with
          | none => some [(pc + 3, L, st, env, F.filter ti_isOp)]
          | some t => some [(pc + 3, L, .inr env.length :: st, env ++ [t], [] ++ F.filter ti_isOp)]
        | false => none
      | none => none
    | none => none
theorem ti_alim {env : List ti_y} {ρ : Nat → zx_V} {w : List zx_E} (hw : ti_wt Λ Ψ w) (he : ∀ k t, env[k]? = some t → ti_vt Ψ t (ρ k)) : ∀ {a : ti_a}, ti_lim env.length a = true → zx_lim w.length (ti_v ρ a) = true
  | .inl _, _ => rfl
  | .inr k, h => ti_vlim hw (he k _ (List.getElem?_eq_getElem (Nat.le_of_ble_eq_true h)))
theorem ti_call_ok {K : zx_K} {CS : List ti_C} (hKS : ti_KS K Λ Ψ CS) {cap : Nat × Nat} (hcap : mc ≤ cap.1 ∧ ms ≤ cap.2) {y n : Nat} {A : ti_S} {As : List ti_S} (h : ti_call CS y n A = some As) {ρ : Nat → zx_V} {σ : zx_S} (hG : ti_G Λ Ψ mc ms A ρ σ) : ∃ μ ρ' A', zx_callS K cap y n σ μ ∧ A' ∈ As ∧ ti_G Λ Ψ mc ms A' ρ' μ ∧ ∀ k, k < A.2.2.2.1.length → ρ' k = ρ k := by
  obtain ⟨pc, L, st0, env, F⟩ := A
  obtain ⟨w, hσ, hw, he, hF⟩ := hG
  subst hσ
  simp only [ti_call] at h
  split at h
  next av st ht =>
    split at h
    next y' ts rt hf =>
      split at h
      next hz =>
        rw [Bool.and_eq_true] at hz
        have z1 : st.length ≤ 4 := Nat.le_of_ble_eq_true hz.1
        have hlim := hz.2
        have hlim' := hlim
        simp only [ti_limS, Bool.and_eq_true] at hlim'
        obtain ⟨f1, f2, f3⟩ := ti_find_ok hf
        obtain ⟨r, hK, hwr, hrt⟩ := hKS _ f1 (av.map (ti_v ρ)) w hw (ti_fits_ok he f3)
        have f2 : y' = y := f2
        subst f2
        have hFr : ∀ f ∈ F.filter ti_isOp, ti_fd ρ r.2 f := fun f hf => by
          obtain ⟨g1, g2⟩ := List.mem_filter.mp hf
          exact ti_isOp_ok g2 (hF f g1)
        have hcall : zx_callS K cap y' n (pc, L.map (fun q : Nat × ti_a => (q.1, ti_v ρ q.2)), st0.map (ti_v ρ), w, mc, ms) (pc + 3, L.map (fun q : Nat × ti_a => (q.1, ti_v ρ q.2)), r.1.toList ++ st.map (ti_v ρ), r.2, mc, ms) :=
          ⟨av.map (ti_v ρ), st.map (ti_v ρ), (0, 0), r, ti_take_ok (ρ := ρ) ht, by rw [List.length_map]; exact z1, List.all_eq_true.mpr (fun q hq => by
            obtain ⟨q', hq', e⟩ := List.mem_map.mp hq
            rw [← e]
            exact ti_alim hw he (List.all_eq_true.mp hlim'.1 q' hq')), List.all_eq_true.mpr (fun v hv => by
            obtain ⟨a, ha, e⟩ := List.mem_map.mp hv
            rw [← e]
            exact ti_alim hw he (List.all_eq_true.mp hlim'.2.1 a ha)), hcap.1, hcap.2, hK, rfl⟩
        split at h
        next =>
          cases h
          have hrt : r.1 = none := hrt
          rw [hrt] at hcall
          exact ⟨_, ρ, _, hcall, List.mem_cons_self, ⟨r.2, rfl, hwr, he, hFr⟩, fun _ _ => rfl⟩
        next t =>
          cases h
          obtain ⟨v, hv, hvt⟩ := hrt
          rw [hv] at hcall
          obtain ⟨ρ', hG, hag⟩ := ti_newname (pc := pc) (pc' := pc + 3) (mc := mc) (ms := ms) (G := []) hlim hwr he hFr hvt (fun _ _ _ f hf => absurd hf List.not_mem_nil)
          exact ⟨_, ρ', _, hcall, List.mem_cons_self, hG, hag⟩
      next => cases h
    next => cases h
  next => cases h
end tiCall
