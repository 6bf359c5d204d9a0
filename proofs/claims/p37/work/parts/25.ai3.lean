/-! the abstract executor: stores, branches, sums -/
section tiStore
variable {Λ : List ti_D} {Ψ : List Nat} {mc ms : Nat}
/-- a value has a type -/
def ti_sub (env : List ti_y) (a : ti_a) (t : ti_y) : Bool := match t with
  | (0, lo, hi) => match ti_iv env a with
    | some (l, h) => Nat.ble lo l && Nat.ble h hi
    | none => false
  | (1, l, _) => match a with
    | .inr k => match env[k]? with
      | some (1, l', _) => Nat.beq l l'
      | _ => false
    | .inl _ => false
  | (2, l, _) => match a with
    | .inr k => match env[k]? with
      | some (1, l', _) => Nat.beq l l'
      | some (2, l', _) => Nat.beq l l'
      | _ => false
    | .inl _ => false
  | _ => match a with
    | .inr k => match env[k]? with
      | some (n + 3, _, _) => true
      | _ => false
    | .inl _ => false
theorem ti_sub_ok {env : List ti_y} {ρ : Nat → zx_V} (he : ∀ k t, env[k]? = some t → ti_vt Ψ t (ρ k)) : ∀ {a : ti_a} {t : ti_y}, ti_sub env a t = true → ti_vt Ψ t (ti_v ρ a)
  | a, (0, lo, hi), h => by
    simp only [ti_sub] at h
    split at h
    next l h' hi' =>
      rw [Bool.and_eq_true] at h
      obtain ⟨x, hx, b1, b2⟩ := ti_iv_ok he hi'
      have y1 := Nat.le_of_ble_eq_true h.1
      have y2 := Nat.le_of_ble_eq_true h.2
      exact ⟨x, hx, by omega, by omega⟩
    next => cases h
  | .inr k, (1, l, c), h => by
    simp only [ti_sub] at h
    split at h
    next l' c' hk =>
      obtain ⟨q, h1, h2⟩ := he k _ hk
      rw [← Nat.eq_of_beq_eq_true h] at h2
      exact ⟨q, h1, h2⟩
    next => cases h
  | .inl _, (1, l, c), h => by cases h
  | .inr k, (2, l, c), h => by
    simp only [ti_sub] at h
    split at h
    next l' c' hk =>
      obtain ⟨q, h1, h2⟩ := he k _ hk
      rw [← Nat.eq_of_beq_eq_true h] at h2
      exact Or.inr ⟨q, h1, h2⟩
    next l' c' hk =>
      rcases he k _ hk with h1 | ⟨q, h1, h2⟩
      · exact Or.inl h1
      · rw [← Nat.eq_of_beq_eq_true h] at h2
        exact Or.inr ⟨q, h1, h2⟩
    next => cases h
  | .inl _, (2, l, c), h => by cases h
  | .inr k, (n + 3, l, c), h => by
    simp only [ti_sub] at h
    split at h
    next n' x y hk =>
      obtain ⟨x, hx⟩ := he k _ hk
      exact ⟨x, hx⟩
    next => cases h
  | .inl _, (n + 3, l, c), h => by cases h
/-- what is of a type may lie in a field of that fit -/
def ti_fit (fit : Nat) (t : ti_y) : Bool := match fit, t with
  | 0, (0, _, _) => true
  | 1, (1, _, _) => true
  | 1, (2, _, _) => true
  | 2, (0, lo, hi) => Nat.ble 2147483648 lo && Nat.ble hi 2147483649
  | n + 3, (m + 3, _, _) => true
  | _, _ => false
theorem ti_fit_ok {fit : Nat} {t : ti_y} {v : zx_V} (h : ti_fit fit t = true) (hv : ti_vt Ψ t v) : zx_fit fit v = true := by
  unfold ti_fit at h
  split at h
  next lo hi =>
    obtain ⟨x, e, _⟩ := hv
    rw [e]; rfl
  next l c =>
    obtain ⟨q, e, _⟩ := hv
    rw [e]; rfl
  next l c =>
    rcases hv with e | ⟨q, e, _⟩ <;> rw [e] <;> rfl
  next lo hi =>
    obtain ⟨x, e, h1, h2⟩ := hv
    rw [Bool.and_eq_true] at h
    have y1 := Nat.le_of_ble_eq_true h.1
    have y2 := Nat.le_of_ble_eq_true h.2
    have hb := zx_b_int x
    rw [e]
    show (decide (x = 0) || decide (x = 1)) = true
    rw [Bool.or_eq_true]
    by_cases hx : zx_b x = 2147483648
    · left
      refine decide_eq_true (Int32.toInt_inj.mp ?_)
      have : (0 : Int32).toInt = 0 := rfl
      omega
    · right
      refine decide_eq_true (Int32.toInt_inj.mp ?_)
      have : (1 : Int32).toInt = 1 := rfl
      omega
  next n m l c =>
    obtain ⟨x, e⟩ := hv
    rw [e]; rfl
  next => cases h
/-- facts of other fields stay -/
def ti_keep (k : Nat) (f : ti_f) : Bool := match f with
  | (0, _, .inl k', _) => !(Nat.beq k k')
  | _ => true
theorem ti_keep_ok {ρ : Nat → zx_V} {w : List zx_E} {q ci k : Nat} {fs : List zx_V} {v : zx_V} (hf : w[q]? = some (.inl (ci, fs))) : ∀ {f : ti_f}, ti_keep k f = true → ti_fd ρ w f → ti_fd ρ (w.set q (.inl (ci, (fs.set k v)))) f
  | (0, r, .inl k', u), hk, ⟨q', c', fs', h1, h2, h3⟩ => by
    have hk : (!(Nat.beq k k')) = true := hk
    by_cases hq : q = q'
    · subst hq
      rw [hf] at h2
      cases h2
      have hlt : q < w.length := (List.getElem?_eq_some_iff.mp hf).1
      refine ⟨q, ci, fs.set k v, h1, by rw [List.getElem?_set_self hlt], ?_⟩
      have hne : k ≠ k' := fun e => by rw [e, Nat.beq_refl] at hk; cases hk
      rw [List.getElem?_set_ne hne]
      exact h3
    · exact ⟨q', c', fs', h1, by rw [List.getElem?_set_ne hq]; exact h2, h3⟩
  | (0, _, .inr _, _), _, _ => trivial
  | (n + 1, a, b, c), _, h => h
def ti_pf (Λ : List ti_D) (ci k fit : Nat) (A : ti_S) : Option (List ti_S) := match A with
  | (pc, L, v :: .inr r :: st, env, F) => match env[r]? with
    | some (1, l, _) => match Λ[l]? with
      | some (.inl (c, fts)) => match Nat.beq ci c, fts[k]? with
        | true, some t => match ti_sub env v t && ti_fit fit t with
          | true => some [(pc + 3, L, st, env, (0, .inr r, .inl k, v) :: F.filter (ti_keep k))]
          | false => none
        | _, _ => none
      | _ => none
    | _ => none
  | _ => none
theorem ti_pf_ok {ci k fit : Nat} {A : ti_S} {As : List ti_S} (h : ti_pf Λ ci k fit A = some As) : ti_sim (zx_pf ci k fit) Λ Ψ mc ms A As := by
  obtain ⟨pc, L, st0, env, F⟩ := A
  unfold ti_pf at h
  split at h
  next pc' L' v r st env' F' heq =>
    cases heq
    split at h
    next l c0 hr =>
      split at h
      next c fts hd =>
        split at h
        next t hc hk =>
          split at h
          next hz =>
            cases h
            have ec := Nat.eq_of_beq_eq_true hc
            subst ec
            rw [Bool.and_eq_true] at hz
            intro ρ σ ⟨w, hσ, hw, he, hF⟩
            subst hσ
            obtain ⟨q, hq, hΨ⟩ := he r _ hr
            obtain ⟨fs, hf, hlen, -⟩ := ti_obj hw hΨ hd
            have hvt := ti_sub_ok he hz.1
            have hfit := ti_fit_ok hz.2 hvt
            have hkl : k < fs.length := by rw [hlen]; exact (List.getElem?_eq_some_iff.mp hk).1
            have hlt : q < w.length := (List.getElem?_eq_some_iff.mp hf).1
            refine ⟨(pc + 3, L.map (fun q => (q.1, ti_v ρ q.2)), st.map (ti_v ρ), w.set q (.inl (ci, (fs.set k (ti_v ρ v)))), mc, ms), ρ, _, ?_, List.mem_cons_self, ⟨_, rfl, ti_setf hw hΨ hd hf hk hvt, he, fun f hf' => ?_⟩, fun _ _ => rfl⟩
            · show zx_pf ci k fit (pc, L.map (fun q => (q.1, ti_v ρ q.2)), ti_v ρ v :: ρ r :: st.map (ti_v ρ), w, mc, ms) = _
              rw [hq]
              have hb : Nat.blt k fs.length = true := Nat.ble_eq_true_of_le hkl
              simp only [zx_pf, hf, zx_beqT (rfl : ci = ci), hb, hfit, Bool.and_self]
            · rcases List.mem_cons.mp hf' with e | e
              · rw [e]
                exact ⟨q, ci, fs.set k (ti_v ρ v), hq, by rw [List.getElem?_set_self hlt], by rw [List.getElem?_set_self hkl]⟩
              · obtain ⟨e1, e2⟩ := List.mem_filter.mp e
                exact ti_keep_ok hf e2 (hF f e1)
          next => cases h
        next => cases h
      next => cases h
    next => cases h
  next => cases h
/-- an array's cell changed: facts are of objects -/
theorem ti_arr_fd {ρ : Nat → zx_V} {w : List zx_E} {q kd n : Nat} {g : zx_A} {e : zx_E} (hf : w[q]? = some (.inr (kd, n, g))) : ∀ {f : ti_f}, ti_fd ρ w f → ti_fd ρ (w.set q e) f
  | (0, r, .inl k', u), ⟨q', c', fs', h1, h2, h3⟩ => by
    have hq : q ≠ q' := fun h => by
      subst h
      rw [hf] at h2
      cases h2
    exact ⟨q', c', fs', h1, by rw [List.getElem?_set_ne hq]; exact h2, h3⟩
  | (0, _, .inr _, _), _ => trivial
  | (n + 1, a, b, c), h => h
def ti_ast (Λ : List ti_D) (A : ti_S) : Option (List ti_S) := match A with
  | (pc, L, x :: i :: .inr r :: st, env, F) => match env[r]?, ti_iv env i with
    | some (1, l, _), some (lo, hi) => match Λ[l]? with
      | some (.inr (0, n, (0, tl, th))) => match ti_sub env x (0, tl, th) && (Nat.ble 2147483648 lo && Nat.blt hi (2147483648 + n)) with
        | true => some [(pc + 1, L, st, env, F)]
        | false => none
      | _ => none
    | _, _ => none
  | _ => none
theorem ti_ast_ok {A : ti_S} {As : List ti_S} (h : ti_ast Λ A = some As) : ti_sim (zx_ast 0 (fun x => x)) Λ Ψ mc ms A As := by
  obtain ⟨pc, L, st0, env, F⟩ := A
  unfold ti_ast at h
  split at h
  next pc' L' x i r st env' F' heq =>
    cases heq
    split at h
    next l c0 lo hi hr hi' =>
      split at h
      next n tl th hd =>
        split at h
        next hz =>
          cases h
          simp only [Bool.and_eq_true] at hz
          obtain ⟨z1, z3, z4⟩ := hz
          intro ρ σ ⟨w, hσ, hw, he, hF⟩
          subst hσ
          obtain ⟨q, hq, hΨ⟩ := he r _ hr
          obtain ⟨g, hg, hty⟩ := ti_iarr hw hΨ hd (Or.inl rfl)
          obtain ⟨j, hj, b1, b2⟩ := ti_iv_ok he hi'
          have y3 : 2147483648 ≤ lo := Nat.le_of_ble_eq_true z3
          have y4 : hi < 2147483648 + n := Nat.le_of_ble_eq_true z4
          obtain ⟨hin, hlt⟩ := ti_in (x := j) (n := n) (by omega) (by omega)
          have hvt := ti_sub_ok he z1
          obtain ⟨y, hy, hy2⟩ := hvt
          refine ⟨(pc + 1, L.map (fun q => (q.1, ti_v ρ q.2)), st.map (ti_v ρ), w.set q (.inr (0, n, .inl (upd g j.toNatClampNeg y))), mc, ms), ρ, _, ?_, List.mem_cons_self, ⟨_, rfl, ti_seti hw hΨ hd hg ⟨y, rfl, hy2⟩, he, fun f hf => ti_arr_fd hg (hF f hf)⟩, fun _ _ => rfl⟩
          show zx_ast 0 (fun x => x) (pc, L.map (fun q => (q.1, ti_v ρ q.2)), ti_v ρ x :: ti_v ρ i :: ρ r :: st.map (ti_v ρ), w, mc, ms) = _
          rw [hy, hj, hq]
          simp only [zx_ast, hg, zx_beqT (rfl : (0 : Nat) = 0), hin, Bool.and_self]
        next => cases h
      next => cases h
    next => cases h
  next => cases h
end tiStore
