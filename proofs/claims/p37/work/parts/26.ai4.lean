/-! the abstract executor: branches, sums -/
def ti_rel (o : ClassFile.Cond) (a b : Nat) : Prop := match o with
  | .eq => a = b
  | .ne => a ≠ b
  | .lt => a < b
  | .ge => b ≤ a
  | .gt => b < a
  | .le => a ≤ b
def ti_neg (o : ClassFile.Cond) : ClassFile.Cond := match o with
  | .eq => .ne
  | .ne => .eq
  | .lt => .ge
  | .ge => .lt
  | .gt => .le
  | .le => .gt
theorem ti_b_inj {x y : Int32} (h : zx_b x = zx_b y) : x = y := by
  have h1 := zx_b_int x
  have h2 := zx_b_int y
  exact Int32.toInt_inj.mp (by omega)
theorem ti_b_ltI (x y : Int32) : x < y ↔ zx_b x < zx_b y := by
  have h1 := zx_b_int x
  have h2 := zx_b_int y
  rw [Int32.lt_iff_toInt_lt]
  omega
theorem ti_cmp_rel (o : ClassFile.Cond) (x y : Int32) : (zx_cmp o x y = true → ti_rel o (zx_b x) (zx_b y)) ∧ (zx_cmp o x y = false → ti_rel (ti_neg o) (zx_b x) (zx_b y)) := by
  have hl := ti_b_ltI x y
  have hg := ti_b_ltI y x
  have he : x = y ↔ zx_b x = zx_b y := ⟨fun h => by rw [h], ti_b_inj⟩
  cases o
  · exact ⟨fun h => he.mp (of_decide_eq_true h), fun h => fun q => absurd (he.mpr q) (of_decide_eq_false h)⟩
  · exact ⟨fun h => fun q => (by have h : (!decide (x = y)) = true := h; rw [decide_eq_true (he.mpr q)] at h; cases h), fun h => he.mp (by have h : (!decide (x = y)) = false := h; simpa using h)⟩
  · exact ⟨fun h => hl.mp (of_decide_eq_true h), fun h => Nat.not_lt.mp (fun q => absurd (hl.mpr q) (of_decide_eq_false h))⟩
  · exact ⟨fun h => Nat.not_lt.mp (fun q => by have h : (!decide (x < y)) = true := h; rw [decide_eq_true (hl.mpr q)] at h; cases h), fun h => hl.mp (by have h : (!decide (x < y)) = false := h; simpa using h)⟩
  · exact ⟨fun h => hg.mp (of_decide_eq_true h), fun h => Nat.not_lt.mp (fun q => absurd (hg.mpr q) (of_decide_eq_false h))⟩
  · exact ⟨fun h => Nat.not_lt.mp (fun q => by have h : (!decide (y < x)) = true := h; rw [decide_eq_true (hg.mpr q)] at h; cases h), fun h => hg.mp (by have h : (!decide (y < x)) = false := h; simpa using h)⟩
def ti_ne1 (la lb hb : Nat) : Nat := match Nat.beq lb hb && Nat.beq la lb with
  | true => la + 1
  | false => 0
def ti_ne2 (ha lb hb : Nat) : Nat := match Nat.beq lb hb && Nat.beq ha lb with
  | true => ha - 1
  | false => 4294967295
/-- by a relation: bounds of the first and of the second -/
def ti_bnd (o : ClassFile.Cond) (la ha lb hb : Nat) : (Nat × Nat) × (Nat × Nat) := match o with
  | .lt => ((0, hb - 1), (la + 1, 4294967295))
  | .le => ((0, hb), (la, 4294967295))
  | .gt => ((lb + 1, 4294967295), (0, ha - 1))
  | .ge => ((lb, 4294967295), (0, ha))
  | .eq => ((lb, hb), (la, ha))
  | .ne => ((ti_ne1 la lb hb, ti_ne2 ha lb hb), (0, 4294967295))
theorem ti_b_lt (x : Int32) : zx_b x < 4294967296 := by
  have h := zx_b_int x
  have h2 := Int32.toInt_lt x
  have h3 := Int32.le_toInt x
  omega
theorem ti_bnd_ok {o : ClassFile.Cond} {la ha lb hb a b : Nat} (hr : ti_rel o a b) (a1 : la ≤ a) (a2 : a ≤ ha) (b1 : lb ≤ b) (b2 : b ≤ hb) (am : a < 4294967296) (bm : b < 4294967296) : ((ti_bnd o la ha lb hb).1.1 ≤ a ∧ a ≤ (ti_bnd o la ha lb hb).1.2) ∧ ((ti_bnd o la ha lb hb).2.1 ≤ b ∧ b ≤ (ti_bnd o la ha lb hb).2.2) := by
  cases o with
  | eq =>
    have hr : a = b := hr
    show (lb ≤ a ∧ a ≤ hb) ∧ (la ≤ b ∧ b ≤ ha)
    omega
  | lt =>
    have hr : a < b := hr
    show (0 ≤ a ∧ a ≤ hb - 1) ∧ (la + 1 ≤ b ∧ b ≤ 4294967295)
    omega
  | ge =>
    have hr : b ≤ a := hr
    show (lb ≤ a ∧ a ≤ 4294967295) ∧ (0 ≤ b ∧ b ≤ ha)
    omega
  | gt =>
    have hr : b < a := hr
    show (lb + 1 ≤ a ∧ a ≤ 4294967295) ∧ (0 ≤ b ∧ b ≤ ha - 1)
    omega
  | le =>
    have hr : a ≤ b := hr
    show (0 ≤ a ∧ a ≤ hb) ∧ (la ≤ b ∧ b ≤ 4294967295)
    omega
  | ne =>
    have hr : a ≠ b := hr
    show (ti_ne1 la lb hb ≤ a ∧ a ≤ ti_ne2 ha lb hb) ∧ (0 ≤ b ∧ b ≤ 4294967295)
    refine ⟨⟨?_, ?_⟩, Nat.zero_le _, by omega⟩
    · unfold ti_ne1
      split
      next h1 =>
        rw [Bool.and_eq_true] at h1
        have e1 := Nat.eq_of_beq_eq_true h1.1
        have e2 := Nat.eq_of_beq_eq_true h1.2
        show la + 1 ≤ a
        omega
      next => exact Nat.zero_le _
    · unfold ti_ne2
      split
      next h1 =>
        rw [Bool.and_eq_true] at h1
        have e1 := Nat.eq_of_beq_eq_true h1.1
        have e2 := Nat.eq_of_beq_eq_true h1.2
        show a ≤ ha - 1
        omega
      next =>
        show a ≤ 4294967295
        omega
theorem ti_iv_lt {env : List ti_y} {k l h : Nat} (hi : ti_iv env (.inr k) = some (l, h)) : k < env.length := by
  have hi : (match env[k]? with
    | some (0, lo, hi) => some (lo, hi)
    | _ => none) = some (l, h) := hi
  split at hi
  next hk => exact (List.getElem?_eq_some_iff.mp hk).1
  next => cases hi
/-- types narrowed: none if nothing is left -/
def ti_nar (env : List ti_y) (a : ti_a) (q : Nat × Nat) : Option (List ti_y) := match ti_iv env a with
  | some (l, h) => match Nat.ble (Nat.max l q.1) (Nat.min h q.2) with
    | true => match a with
      | .inr k => some (env.set k (0, Nat.max l q.1, Nat.min h q.2))
      | .inl _ => some env
    | false => none
  | none => none
section tiBranch
variable {Λ : List ti_D} {Ψ : List Nat} {mc ms : Nat}
theorem ti_nar_ok {env : List ti_y} {ρ : Nat → zx_V} (he : ∀ k t, env[k]? = some t → ti_vt Ψ t (ρ k)) {a : ti_a} {q : Nat × Nat} {x : Int32} {l h : Nat} (hi : ti_iv env a = some (l, h)) (hx : ti_v ρ a = (.inl x)) (h1 : q.1 ≤ zx_b x) (h2 : zx_b x ≤ q.2) : ∃ env', ti_nar env a q = some env' ∧ env'.length = env.length ∧ ∀ k t, env'[k]? = some t → ti_vt Ψ t (ρ k) := by
  obtain ⟨x', hx', b1, b2⟩ := ti_iv_ok he hi
  rw [hx] at hx'
  cases hx'
  have hle : Nat.max l q.1 ≤ zx_b x := Nat.max_le.mpr ⟨b1, h1⟩
  have hge : zx_b x ≤ Nat.min h q.2 := Nat.le_min.mpr ⟨b2, h2⟩
  unfold ti_nar
  rw [hi]
  simp only
  rw [Nat.ble_eq_true_of_le (Nat.le_trans hle hge)]
  cases a with
  | inl n => exact ⟨env, rfl, rfl, he⟩
  | inr k =>
    refine ⟨_, rfl, by rw [List.length_set], fun j t hj => ?_⟩
    by_cases hjk : k = j
    · subst hjk
      have hlt : k < env.length := ti_iv_lt hi
      rw [List.getElem?_set_self hlt] at hj
      cases hj
      exact ⟨x, hx, hle, hge⟩
    · rw [List.getElem?_set_ne hjk] at hj
      exact he j t hj
/-- one side of a branch: no state if it can't be -/
def ti_side (o : ClassFile.Cond) (env : List ti_y) (a b : ti_a) (mk : List ti_y → ti_S) : Option (List ti_S) := match ti_iv env a, ti_iv env b with
  | some (la, ha), some (lb, hb) => match ti_nar env a (ti_bnd o la ha lb hb).1 with
    | none => some []
    | some env1 => match ti_nar env1 b (ti_bnd o la ha lb hb).2 with
      | none => some []
      | some env2 => some [mk env2]
  | _, _ => none
theorem ti_iv_nar {env env1 : List ti_y} {a b : ti_a} {q : Nat × Nat} (h : ti_nar env a q = some env1) {l h' : Nat} (hb : ti_iv env b = some (l, h')) : ∃ l2 h2, ti_iv env1 b = some (l2, h2) := by
  unfold ti_nar at h
  split at h
  next la ha hia =>
    split at h
    next =>
      split at h
      next k =>
        cases h
        cases b with
        | inl n => exact ⟨_, _, rfl⟩
        | inr j =>
          by_cases hkj : k = j
          · subst hkj
            have hlt : k < env.length := ti_iv_lt hia
            refine ⟨Nat.max la q.1, Nat.min ha q.2, ?_⟩
            unfold ti_iv
            simp only
            rw [List.getElem?_set_self hlt]
            rfl
          · refine ⟨l, h', ?_⟩
            unfold ti_iv at hb ⊢
            simp only at hb ⊢
            rw [List.getElem?_set_ne hkj]
            exact hb
      next => cases h; exact ⟨l, h', hb⟩
    next => cases h
  next => cases h
theorem ti_side_ok {o : ClassFile.Cond} {env : List ti_y} {a b : ti_a} {mk : List ti_y → ti_S} {As : List ti_S} (h : ti_side o env a b mk = some As) {ρ : Nat → zx_V} (he : ∀ k t, env[k]? = some t → ti_vt Ψ t (ρ k)) {x y : Int32} (hx : ti_v ρ a = (.inl x)) (hy : ti_v ρ b = (.inl y)) (hr : ti_rel o (zx_b x) (zx_b y)) : ∃ env', mk env' ∈ As ∧ env'.length = env.length ∧ ∀ k t, env'[k]? = some t → ti_vt Ψ t (ρ k) := by
  unfold ti_side at h
  split at h
  next la ha lb hb hia hib =>
    obtain ⟨x', hx', a1, a2⟩ := ti_iv_ok he hia
    obtain ⟨y', hy', b1, b2⟩ := ti_iv_ok he hib
    rw [hx] at hx'
    cases hx'
    rw [hy] at hy'
    cases hy'
    obtain ⟨⟨c1, c2⟩, c3, c4⟩ := ti_bnd_ok hr a1 a2 b1 b2 (ti_b_lt x) (ti_b_lt y)
    obtain ⟨env1, e1, e2, e3⟩ := ti_nar_ok he hia hx c1 c2
    rw [e1] at h
    obtain ⟨l2, h2, hib2⟩ := ti_iv_nar e1 hib
    obtain ⟨env2, f1, f2, f3⟩ := ti_nar_ok e3 hib2 hy c3 c4
    simp only at h
    rw [f1] at h
    cases h
    exact ⟨env2, List.mem_cons_self, f2.trans e2, f3⟩
  next => cases h
def ti_two (r s : Option (List ti_S)) : Option (List ti_S) := match r, s with
  | some a, some b => some (a ++ b)
  | _, _ => none
def ti_jt (o : ClassFile.Cond) (t : Nat) (A : ti_S) : Option (List ti_S) := match A with
  | (pc, L, b :: a :: st, env, F) => ti_two (ti_side o env a b (fun env' => (t, L, st, env', F))) (ti_side (ti_neg o) env a b (fun env' => (pc + 3, L, st, env', F)))
  | _ => none
theorem ti_br_ok {o : ClassFile.Cond} {pc t : Nat} {L : List (Nat × ti_a)} {st : List ti_a} {env : List ti_y} {F : List ti_f} {a b : ti_a} {As : List ti_S} (h : ti_two (ti_side o env a b (fun env' => (t, L, st, env', F))) (ti_side (ti_neg o) env a b (fun env' => (pc + 3, L, st, env', F))) = some As) {ρ : Nat → zx_V} {w : List zx_E} (hw : ti_wt Λ Ψ w) (he : ∀ k t, env[k]? = some t → ti_vt Ψ t (ρ k)) (hF : ∀ f ∈ F, ti_fd ρ w f) : ∃ x y A', ti_v ρ a = (.inl x) ∧ ti_v ρ b = (.inl y) ∧ A' ∈ As ∧ ti_G Λ Ψ mc ms A' ρ (zx_pick (zx_cmp o x y) t (pc + 3), L.map (fun q => (q.1, ti_v ρ q.2)), st.map (ti_v ρ), w, mc, ms) := by
  unfold ti_two at h
  split at h
  next r s h1 h2 =>
    cases h
    have hia : ∃ la ha, ti_iv env a = some (la, ha) := by
      unfold ti_side at h1
      split at h1
      next la ha lb hb hia hib => exact ⟨la, ha, hia⟩
      next => cases h1
    have hib : ∃ la ha, ti_iv env b = some (la, ha) := by
      unfold ti_side at h1
      split at h1
      next la ha lb hb hia hib => exact ⟨lb, hb, hib⟩
      next => cases h1
    obtain ⟨la, ha, hia⟩ := hia
    obtain ⟨lb, hb, hib⟩ := hib
    obtain ⟨x, hx, -⟩ := ti_iv_ok he hia
    obtain ⟨y, hy, -⟩ := ti_iv_ok he hib
    obtain ⟨c1, c2⟩ := ti_cmp_rel o x y
    cases hc : zx_cmp o x y with
    | true =>
      obtain ⟨env', m1, m2, m3⟩ := ti_side_ok h1 he hx hy (c1 hc)
      exact ⟨x, y, _, hx, hy, List.mem_append_left _ m1, ⟨w, by rw [hc]; rfl, hw, m3, hF⟩⟩
    | false =>
      obtain ⟨env', m1, m2, m3⟩ := ti_side_ok h2 he hx hy (c2 hc)
      exact ⟨x, y, _, hx, hy, List.mem_append_right _ m1, ⟨w, by rw [hc]; rfl, hw, m3, hF⟩⟩
  next => cases h
theorem ti_jt_ok {o : ClassFile.Cond} {t : Nat} {A : ti_S} {As : List ti_S} (h : ti_jt o t A = some As) : ti_sim (zx_jt o t) Λ Ψ mc ms A As := by
  obtain ⟨pc, L, st0, env, F⟩ := A
  unfold ti_jt at h
  split at h
  next pc' L' b a st env' F' heq =>
    cases heq
    intro ρ σ ⟨w, hσ, hw, he, hF⟩
    subst hσ
    obtain ⟨x, y, A', hx, hy, hA, hG⟩ := ti_br_ok (mc := mc) (ms := ms) h hw he hF
    refine ⟨_, ρ, A', ?_, hA, hG, fun _ _ => rfl⟩
    show zx_jt o t (pc, L.map (fun q => (q.1, ti_v ρ q.2)), ti_v ρ b :: ti_v ρ a :: st.map (ti_v ρ), w, mc, ms) = _
    rw [hx, hy]
    rfl
  next => cases h
def ti_j0 (o : ClassFile.Cond) (t : Nat) (A : ti_S) : Option (List ti_S) := match A with
  | (pc, L, a :: st, env, F) => ti_two (ti_side o env a (.inl 0) (fun env' => (t, L, st, env', F))) (ti_side (ti_neg o) env a (.inl 0) (fun env' => (pc + 3, L, st, env', F)))
  | _ => none
theorem ti_j0_ok {o : ClassFile.Cond} {t : Nat} {A : ti_S} {As : List ti_S} (h : ti_j0 o t A = some As) : ti_sim (zx_j0 o t) Λ Ψ mc ms A As := by
  obtain ⟨pc, L, st0, env, F⟩ := A
  unfold ti_j0 at h
  split at h
  next pc' L' a st env' F' heq =>
    cases heq
    intro ρ σ ⟨w, hσ, hw, he, hF⟩
    subst hσ
    obtain ⟨x, y, A', hx, hy, hA, hG⟩ := ti_br_ok (mc := mc) (ms := ms) h hw he hF
    have ey : y = 0 := by
      have hy : Sum.inl (Int32.ofNat 0) = (Sum.inl y : zx_V) := hy
      cases hy
      rfl
    subst ey
    refine ⟨_, ρ, A', ?_, hA, hG, fun _ _ => rfl⟩
    show zx_j0 o t (pc, L.map (fun q => (q.1, ti_v ρ q.2)), ti_v ρ a :: st.map (ti_v ρ), w, mc, ms) = _
    rw [hx]
    rfl
  next => cases h
end tiBranch
