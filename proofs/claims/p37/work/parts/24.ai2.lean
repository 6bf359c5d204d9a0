/-! the abstract executor: fields, arrays -/
section tiHeap2
variable {Λ : List ti_D} {Ψ : List Nat} {mc ms : Nat}
/-- a field that is known -/
def ti_fk (r k : Nat) : List ti_f → Option ti_a
  | [] => none
  | (0, .inr r', .inl k', v) :: F => match Nat.beq r r' && Nat.beq k k' with
    | true => some v
    | false => ti_fk r k F
  | _ :: F => ti_fk r k F
theorem ti_fk_mem {r k : Nat} {v : ti_a} : ∀ {F : List ti_f}, ti_fk r k F = some v → (0, .inr r, .inl k, v) ∈ F
  | [], h => by cases h
  | (0, .inr r', .inl k', u) :: F, h => by
    simp only [ti_fk] at h
    split at h
    next hz =>
      cases h
      rw [Bool.and_eq_true] at hz
      rw [Nat.eq_of_beq_eq_true hz.1, Nat.eq_of_beq_eq_true hz.2]
      exact List.mem_cons_self
    next => exact List.mem_cons_of_mem _ (ti_fk_mem h)
  | (0, .inl _, _, _) :: F, h => List.mem_cons_of_mem _ (ti_fk_mem (F := F) (by simpa only [ti_fk] using h))
  | (0, .inr _, .inr _, _) :: F, h => List.mem_cons_of_mem _ (ti_fk_mem (F := F) (by simpa only [ti_fk] using h))
  | (n + 1, _, _, _) :: F, h => List.mem_cons_of_mem _ (ti_fk_mem (F := F) (by simpa only [ti_fk] using h))
def ti_gf (Λ : List ti_D) (ci k : Nat) (A : ti_S) : Option (List ti_S) := match A with
  | (pc, L, .inr r :: st, env, F) => match env[r]? with
    | some (1, l, _) => match Λ[l]? with
      | some (.inl (c, fts)) => match Nat.beq ci c, fts[k]? with
        | true, some t => match ti_fk r k F with
          | some v => some [(pc + 3, L, v :: st, env, F)]
          | none => match ti_limS env.length L st F with
            | true => some [(pc + 3, L, .inr env.length :: st, env ++ [t], [(0, .inr r, .inl k, .inr env.length)] ++ F)]
            | false => none
        | _, _ => none
      | _ => none
    | _ => none
  | _ => none
theorem ti_gf_ok {ci k : Nat} {A : ti_S} {As : List ti_S} (h : ti_gf Λ ci k A = some As) : ti_sim (zx_gf ci k) Λ Ψ mc ms A As := by
  obtain ⟨pc, L, st0, env, F⟩ := A
  unfold ti_gf at h
  split at h
  next pc' L' r st env' F' heq =>
    cases heq
    split at h
    next l c0 hr =>
      split at h
      next c fts hd =>
        split at h
        next t hc hk =>
          have ec := Nat.eq_of_beq_eq_true hc
          subst ec
          have hstep : ∀ (ρ : Nat → zx_V) (w : List zx_E), ti_wt Λ Ψ w → (∀ k t, env[k]? = some t → ti_vt Ψ t (ρ k)) → ∃ q fs v, ρ r = (.inr (.inr (.inl q))) ∧ w[q]? = some (.inl (ci, fs)) ∧ fs[k]? = some v ∧ ti_vt Ψ t v ∧ zx_gf ci k (pc, L.map (fun q => (q.1, ti_v ρ q.2)), ρ r :: st.map (ti_v ρ), w, mc, ms) = some (pc + 3, L.map (fun q => (q.1, ti_v ρ q.2)), v :: st.map (ti_v ρ), w, mc, ms) := by
            intro ρ w hw he
            obtain ⟨q, hq, hΨ⟩ := he r _ hr
            obtain ⟨fs, hf, -, hty⟩ := ti_obj hw hΨ hd
            obtain ⟨v, hv, hvt⟩ := hty k t hk
            refine ⟨q, fs, v, hq, hf, hv, hvt, ?_⟩
            rw [hq]
            simp only [zx_gf, hf, hv, zx_beqT (rfl : ci = ci)]
          split at h
          next v hv =>
            cases h
            intro ρ σ ⟨w, hσ, hw, he, hF⟩
            subst hσ
            obtain ⟨q, fs, v', hq, hf, hv', hvt, hs⟩ := hstep ρ w hw he
            obtain ⟨q2, ci2, fs2, g1, g2, g3⟩ := hF _ (ti_fk_mem hv)
            have e1 : q2 = q := by
              have g1 : ρ r = (.inr (.inr (.inl q2))) := g1
              rw [hq] at g1
              cases g1
              rfl
            subst e1
            rw [hf] at g2
            cases g2
            rw [hv'] at g3
            cases g3
            exact ⟨_, ρ, _, hs, List.mem_cons_self, ⟨w, rfl, hw, he, hF⟩, fun _ _ => rfl⟩
          next =>
            split at h
            next hlim =>
              cases h
              intro ρ σ ⟨w, hσ, hw, he, hF⟩
              subst hσ
              obtain ⟨q, fs, v, hq, hf, hv, hvt, hs⟩ := hstep ρ w hw he
              have hrl : r < env.length := (List.getElem?_eq_some_iff.mp hr).1
              obtain ⟨ρ', hG, hag⟩ := ti_newname (pc := pc) (pc' := pc + 3) (mc := mc) (ms := ms) (G := [(0, .inr r, .inl k, .inr env.length)]) hlim hw he hF hvt (fun ρ' ha hn f hf' => by
                rw [List.mem_singleton.mp hf']
                exact ⟨q, ci, fs, by show ρ' r = _; rw [ha r hrl]; exact hq, hf, by show _ = some (ρ' env.length); rw [hn]; exact hv⟩)
              exact ⟨_, ρ', _, hs, List.mem_cons_self, hG, hag⟩
            next => cases h
        next => cases h
      next => cases h
    next => cases h
  next => cases h
/-- an index that lies in an array -/
theorem ti_in {x : Int32} {n : Nat} (h1 : 2147483648 ≤ zx_b x) (h2 : zx_b x < 2147483648 + n) : zx_in x n = true ∧ x.toNatClampNeg < n := by
  have hb := zx_b_int x
  have hp : ¬ x < 0 := by
    rw [Int32.lt_iff_toInt_lt]
    have : (0 : Int32).toInt = 0 := rfl
    omega
  have hc : (x.toNatClampNeg : Int) = x.toInt := by
    unfold Int32.toNatClampNeg
    omega
  have hlt : x.toNatClampNeg < n := by omega
  refine ⟨?_, hlt⟩
  unfold zx_in
  rw [decide_eq_false hp]
  have : Nat.ble n x.toNatClampNeg = false := by
    cases e : Nat.ble n x.toNatClampNeg with
    | false => rfl
    | true => exact absurd (Nat.le_of_ble_eq_true e) (by omega)
  rw [this]
  rfl
def ti_kd (kd : Nat) : Bool := Nat.beq kd 0 || (Nat.beq kd 2 || Nat.beq kd 3)
theorem ti_kd_ok {kd : Nat} (h : ti_kd kd = true) : kd = 0 ∨ kd = 2 ∨ kd = 3 := by
  unfold ti_kd at h
  rw [Bool.or_eq_true, Bool.or_eq_true] at h
  rcases h with h | h | h
  · exact Or.inl (Nat.eq_of_beq_eq_true h)
  · exact Or.inr (Or.inl (Nat.eq_of_beq_eq_true h))
  · exact Or.inr (Or.inr (Nat.eq_of_beq_eq_true h))
def ti_ald (Λ : List ti_D) (kd : Nat) (A : ti_S) : Option (List ti_S) := match A with
  | (pc, L, i :: .inr r :: st, env, F) => match env[r]?, ti_iv env i with
    | some (1, l, _), some (lo, hi) => match Λ[l]? with
      | some (.inr (kd', n, t)) => match Nat.beq kd kd' && (ti_kd kd && (Nat.ble 2147483648 lo && (Nat.blt hi (2147483648 + n) && ti_limS env.length L st F))) with
        | true => some [(pc + 1, L, .inr env.length :: st, env ++ [t], [] ++ F)]
        | false => none
      | _ => none
    | _, _ => none
  | _ => none
theorem ti_ald_ok {kd : Nat} {X : zx_X} {A : ti_S} {As : List ti_S} (h : ti_ald Λ kd A = some As) : ti_sim (zx_ald kd X) Λ Ψ mc ms A As := by
  obtain ⟨pc, L, st0, env, F⟩ := A
  unfold ti_ald at h
  split at h
  next pc' L' i r st env' F' heq =>
    cases heq
    split at h
    next l c0 lo hi hr hi' =>
      split at h
      next kd' n t hd =>
        split at h
        next hz =>
          cases h
          simp only [Bool.and_eq_true] at hz
          obtain ⟨z1, z2, z3, z4, z5⟩ := hz
          have ek := Nat.eq_of_beq_eq_true z1
          subst ek
          intro ρ σ ⟨w, hσ, hw, he, hF⟩
          subst hσ
          obtain ⟨q, hq, hΨ⟩ := he r _ hr
          obtain ⟨g, hg, hty⟩ := ti_iarr hw hΨ hd (ti_kd_ok z2)
          obtain ⟨x, hx, b1, b2⟩ := ti_iv_ok he hi'
          have y3 : 2147483648 ≤ lo := Nat.le_of_ble_eq_true z3
          have y4 : hi < 2147483648 + n := Nat.le_of_ble_eq_true z4
          obtain ⟨hin, hlt⟩ := ti_in (x := x) (n := n) (by omega) (by omega)
          obtain ⟨ρ', hG, hag⟩ := ti_newname (pc := pc) (pc' := pc + 1) (mc := mc) (ms := ms) (G := []) z5 hw he hF (hty _ hlt) (fun _ _ _ f hf => absurd hf List.not_mem_nil)
          refine ⟨_, ρ', _, ?_, List.mem_cons_self, hG, hag⟩
          show zx_ald kd X (pc, L.map (fun q => (q.1, ti_v ρ q.2)), ti_v ρ i :: ρ r :: st.map (ti_v ρ), w, mc, ms) = _
          rw [hx, hq]
          simp only [zx_ald, hg, zx_beqT (rfl : kd = kd), hin, Bool.and_self]
        next => cases h
      next => cases h
    next => cases h
  next => cases h
end tiHeap2
