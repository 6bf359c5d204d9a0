/-! the abstract executor: branches -/
def tj_rel (o : ClassFile.Cond) (a b : Nat) : Prop := match o with
  | .eq => a = b
  | .ne => a ≠ b
  | .lt => a < b
  | .ge => b ≤ a
  | .gt => b < a
  | .le => a ≤ b
def tj_neg (o : ClassFile.Cond) : ClassFile.Cond := match o with
  | .eq => .ne
  | .ne => .eq
  | .lt => .ge
  | .ge => .lt
  | .gt => .le
  | .le => .gt
theorem tj_cmp_rel (o : ClassFile.Cond) (x y : Int32) : (zx_cmp o x y = true → tj_rel o (zx_b x) (zx_b y)) ∧ (zx_cmp o x y = false → tj_rel (tj_neg o) (zx_b x) (zx_b y)) := by
  have hl := tj_b_ltI x y
  have hg := tj_b_ltI y x
  have he : x = y ↔ zx_b x = zx_b y := ⟨fun h => by rw [h], tj_b_inj⟩
  cases o
  · exact ⟨fun h => he.mp (of_decide_eq_true h), fun h => fun q => absurd (he.mpr q) (of_decide_eq_false h)⟩
  · exact ⟨fun h => fun q => (by have h : (!decide (x = y)) = true := h; rw [decide_eq_true (he.mpr q)] at h; cases h), fun h => he.mp (by have h : (!decide (x = y)) = false := h; simpa using h)⟩
  · exact ⟨fun h => hl.mp (of_decide_eq_true h), fun h => Nat.not_lt.mp (fun q => absurd (hl.mpr q) (of_decide_eq_false h))⟩
  · exact ⟨fun h => Nat.not_lt.mp (fun q => by have h : (!decide (x < y)) = true := h; rw [decide_eq_true (hl.mpr q)] at h; cases h), fun h => hl.mp (by have h : (!decide (x < y)) = false := h; simpa using h)⟩
  · exact ⟨fun h => hg.mp (of_decide_eq_true h), fun h => Nat.not_lt.mp (fun q => absurd (hg.mpr q) (of_decide_eq_false h))⟩
  · exact ⟨fun h => Nat.not_lt.mp (fun q => by have h : (!decide (y < x)) = true := h; rw [decide_eq_true (hg.mpr q)] at h; cases h), fun h => hg.mp (by have h : (!decide (y < x)) = false := h; simpa using h)⟩
def tj_ne1 (la lb hb : Nat) : Nat := match Nat.beq lb hb && Nat.beq la lb with
  | true => la + 1
  | false => 0
def tj_ne2 (ha lb hb : Nat) : Nat := match Nat.beq lb hb && Nat.beq ha lb with
  | true => ha - 1
  | false => 4294967295
theorem tj_ne1_ok {la lb hb a b : Nat} (hr : a ≠ b) (a1 : la ≤ a) (b1 : lb ≤ b) (b2 : b ≤ hb) : tj_ne1 la lb hb ≤ a := by
  unfold tj_ne1
  split
  next h1 =>
    rw [Bool.and_eq_true] at h1
    have e1 := Nat.eq_of_beq_eq_true h1.1
    have e2 := Nat.eq_of_beq_eq_true h1.2
    omega
  next => exact Nat.zero_le _
theorem tj_ne2_ok {ha lb hb a b : Nat} (hr : a ≠ b) (a2 : a ≤ ha) (b1 : lb ≤ b) (b2 : b ≤ hb) (am : a < 4294967296) : a ≤ tj_ne2 ha lb hb := by
  unfold tj_ne2
  split
  next h1 =>
    rw [Bool.and_eq_true] at h1
    have e1 := Nat.eq_of_beq_eq_true h1.1
    have e2 := Nat.eq_of_beq_eq_true h1.2
    omega
  next => omega
/-- by a relation: bounds of the first and of the second -/
def tj_bnd (o : ClassFile.Cond) (la ha lb hb : Nat) : (Nat × Nat) × (Nat × Nat) := match o with
  | .lt => ((0, hb - 1), (la + 1, 4294967295))
  | .le => ((0, hb), (la, 4294967295))
  | .gt => ((lb + 1, 4294967295), (0, ha - 1))
  | .ge => ((lb, 4294967295), (0, ha))
  | .eq => ((lb, hb), (la, ha))
  | .ne => ((tj_ne1 la lb hb, tj_ne2 ha lb hb), (tj_ne1 lb la ha, tj_ne2 hb la ha))
theorem tj_bnd_ok {o : ClassFile.Cond} {la ha lb hb a b : Nat} (hr : tj_rel o a b) (a1 : la ≤ a) (a2 : a ≤ ha) (b1 : lb ≤ b) (b2 : b ≤ hb) (am : a < 4294967296) (bm : b < 4294967296) : ((tj_bnd o la ha lb hb).1.1 ≤ a ∧ a ≤ (tj_bnd o la ha lb hb).1.2) ∧ ((tj_bnd o la ha lb hb).2.1 ≤ b ∧ b ≤ (tj_bnd o la ha lb hb).2.2) := by
  cases o with
  | eq =>
    have hr : a = b := hr
    show (lb ≤ a ∧ a ≤ hb) ∧ (la ≤ b ∧ b ≤ ha)
    omega
  | lt =>
    have hr : a < b := hr
    show (0 ≤ a ∧ a ≤ hb - 1) ∧ (la + 1 ≤ b ∧ b ≤ 4294967295)
    omega
  | ge =>
    have hr : b ≤ a := hr
    show (lb ≤ a ∧ a ≤ 4294967295) ∧ (0 ≤ b ∧ b ≤ ha)
    omega
  | gt =>
    have hr : b < a := hr
    show (lb + 1 ≤ a ∧ a ≤ 4294967295) ∧ (0 ≤ b ∧ b ≤ ha - 1)
    omega
  | le =>
    have hr : a ≤ b := hr
    show (0 ≤ a ∧ a ≤ hb) ∧ (la ≤ b ∧ b ≤ 4294967295)
    omega
  | ne =>
    have hr : a ≠ b := hr
    exact ⟨⟨tj_ne1_ok hr a1 b1 b2, tj_ne2_ok hr a2 b1 b2 am⟩, tj_ne1_ok (Ne.symm hr) b1 a1 a2, tj_ne2_ok (Ne.symm hr) b2 a1 a2 bm⟩
theorem tj_iv_lt {env : List tj_y} {k : Nat} {q : Nat × Nat} (hi : tj_iv env (.inr k) = some q) : k < env.length := Nat.le_of_ble_eq_true (tj_iv_lim hi)
/-- types narrowed: none if nothing is left -/
def tj_nar1 (env : List tj_y) (a : tj_a) (q : Nat × Nat) : Option (List tj_y) := match tj_iv env a with
  | some (l, h) => match Nat.ble (tj_mx l q.1) (tj_mn h q.2) with
    | true => match a with
      | .inr k => some (env.set k (0, tj_mx l q.1, tj_mn h q.2))
      | .inl _ => some env
    | false => none
  | none => none
section tjBranch
variable {Λ : List tj_D} {cap : Nat × Nat} {E : tj_Ef} {Ψ0 : List Nat} {w0 : List zx_E}
theorem tj_nar1_ok {Ψ : List Nat} {env : List tj_y} {ρ : Nat → zx_V} (he : tj_env Ψ env ρ) {a : tj_a} {q : Nat × Nat} {x : Int32} {l h : Nat} (hi : tj_iv env a = some (l, h)) (hx : tj_v ρ a = (.inl x)) (h1 : q.1 ≤ zx_b x) (h2 : zx_b x ≤ q.2) : ∃ env', tj_nar1 env a q = some env' ∧ env'.length = env.length ∧ tj_env Ψ env' ρ := by
  obtain ⟨x', hx', b1, b2⟩ := tj_iv_ok he hi
  rw [hx] at hx'
  cases hx'
  have m1 := tj_mx_ok l q.1
  have m2 := tj_mn_ok h q.2
  have hle : tj_mx l q.1 ≤ zx_b x := by omega
  have hge : zx_b x ≤ tj_mn h q.2 := by omega
  unfold tj_nar1
  rw [hi]
  simp only
  rw [Nat.ble_eq_true_of_le (Nat.le_trans hle hge)]
  cases a with
  | inl n => exact ⟨env, rfl, rfl, he⟩
  | inr k =>
    refine ⟨_, rfl, by rw [List.length_set], fun j t hj => ?_⟩
    by_cases hjk : k = j
    · subst hjk
      have hlt : k < env.length := tj_iv_lt hi
      rw [List.getElem?_set_self hlt] at hj
      cases hj
      exact ⟨x, hx, hle, hge⟩
    · rw [List.getElem?_set_ne hjk] at hj
      exact he j t hj
/-- facts c = x + n of the name k: x is narrowed, too -/
def tj_bk (k : Nat) (f : tj_f) : Option (Nat × Nat) := match f with
  | (3, .inr x, .inl n, .inr k') => match Nat.beq k k' with
    | true => some (x, n)
    | false => none
  | _ => none
theorem tj_bk_ok {k x n : Nat} : ∀ {f : tj_f}, tj_bk k f = some (x, n) → f = (3, .inr x, .inl n, .inr k) := by
  intro f h
  unfold tj_bk at h
  split at h
  next x' n' k' =>
    split at h
    next hk => cases h; rw [Nat.eq_of_beq_eq_true hk]
    next => cases h
  next => cases h
def tj_cb (n : Nat) : Nat := (n + 2147483648) % 4294967296
theorem tj_b_cb (n : Nat) : zx_b (Int32.ofNat n) = tj_cb n := tj_b_of n
def tj_fitA (la ha c : Nat) : Bool := Nat.ble 2147483648 (la + c) && Nat.blt (ha + c) 6442450944
def tj_dn (l c : Nat) : Nat := l + 2147483648 - c
theorem tj_dn_ok {la ha c l h : Nat} {a v : Nat} (hz : tj_fitA la ha c = true) (q1 : la ≤ a) (q2 : a ≤ ha) (hb : v = (a + c + 2147483648) % 4294967296) (h1 : l ≤ v) (h2 : v ≤ h) : tj_dn l c ≤ a ∧ a ≤ tj_dn h c := by
  unfold tj_fitA at hz
  rw [Bool.and_eq_true] at hz
  have z1 := Nat.le_of_ble_eq_true hz.1
  have z2 := tj_blt_t hz.2
  unfold tj_dn
  omega
def tj_back3 (x l h c : Nat) (env : List tj_y) (p : Nat × Nat) : Option (List tj_y) := match tj_fitA p.1 p.2 c with
  | false => some env
  | true => tj_nar1 env (.inr x) (tj_dn l c, tj_dn h c)
def tj_back2 (x l h c : Nat) (env : List tj_y) : Option (List tj_y) := match tj_iv env (.inr x) with
  | none => some env
  | some p => tj_back3 x l h c env p
def tj_back1 (k l h : Nat) (f : tj_f) (env : List tj_y) : Option (List tj_y) := match tj_bk k f with
  | none => some env
  | some q => tj_back2 q.1 l h (tj_cb q.2) env
def tj_addc (a : Int32) (n : Nat) : Int32 := a + Int32.ofNat n
theorem tj_addc_b (a : Int32) (n : Nat) : zx_b (tj_addc a n) = (zx_b a + tj_cb n + 2147483648) % 4294967296 := by
  unfold tj_addc
  rw [tj_b_add, tj_b_cb]
theorem tj_add_fact {ρ : Nat → zx_V} {w : List zx_E} {f : tj_f} {x n k : Nat} (hf : tj_fd ρ w f) (h : f = (0 + 3, .inr x, .inl n, .inr k)) : ∃ a, ρ x = (.inl a) ∧ ρ k = (.inl (tj_addc a n)) := by
  subst h
  have hf : tj_opf 0 (ρ x) (.inl (Int32.ofNat n)) (ρ k) := hf
  obtain ⟨a, b, e1, e2, e3⟩ := hf
  have eb : Int32.ofNat n = b := Sum.inl.inj e2
  subst eb
  exact ⟨a, e1, e3⟩
theorem tj_back2_ok {Ψ : List Nat} {ρ : Nat → zx_V} {x l h c : Nat} {a : Int32} {v : Nat} {env : List tj_y} (he : tj_env Ψ env ρ) (hx : ρ x = (.inl a)) (hv : v = (zx_b a + c + 2147483648) % 4294967296) (h1 : l ≤ v) (h2 : v ≤ h) : ∃ env', tj_back2 x l h c env = some env' ∧ env'.length = env.length ∧ tj_env Ψ env' ρ := by
  unfold tj_back2
  split
  next => exact ⟨env, rfl, rfl, he⟩
  next p hia =>
    unfold tj_back3
    split
    next => exact ⟨env, rfl, rfl, he⟩
    next hz =>
      obtain ⟨a', e1', q1, q2⟩ := tj_iv_ok (lo := p.1) (hi := p.2) he hia
      have ea : a = a' := Sum.inl.inj (hx.symm.trans e1')
      subst ea
      obtain ⟨t1, t2⟩ := tj_dn_ok hz q1 q2 hv h1 h2
      exact tj_nar1_ok (l := p.1) (h := p.2) he hia hx t1 t2
theorem tj_back1_ok {Ψ : List Nat} {ρ : Nat → zx_V} {w : List zx_E} {k l h : Nat} {v : Int32} (hv : ρ k = (.inl v)) (h1 : l ≤ zx_b v) (h2 : zx_b v ≤ h) {f : tj_f} {env : List tj_y} (he : tj_env Ψ env ρ) (hf : tj_fd ρ w f) : ∃ env', tj_back1 k l h f env = some env' ∧ env'.length = env.length ∧ tj_env Ψ env' ρ := by
  unfold tj_back1
  split
  next => exact ⟨env, rfl, rfl, he⟩
  next q hk =>
    obtain ⟨a, e1, e3⟩ := tj_add_fact (hf := hf) (x := q.1) (n := q.2) (tj_bk_ok hk)
    have ev : v = tj_addc a q.2 := Sum.inl.inj (hv.symm.trans e3)
    exact tj_back2_ok he e1 (ev ▸ tj_addc_b a q.2) h1 h2
def tj_back (k l h : Nat) : List tj_f → List tj_y → Option (List tj_y)
  | [], env => some env
  | f :: F, env => match tj_back1 k l h f env with
    | none => none
    | some env1 => tj_back k l h F env1
theorem tj_back_ok {Ψ : List Nat} {ρ : Nat → zx_V} {w : List zx_E} {k l h : Nat} {v : Int32} (hv : ρ k = (.inl v)) (h1 : l ≤ zx_b v) (h2 : zx_b v ≤ h) (F : List tj_f) : ∀ {env : List tj_y}, tj_env Ψ env ρ → (∀ g ∈ F, tj_fd ρ w g) → ∃ env', tj_back k l h F env = some env' ∧ env'.length = env.length ∧ tj_env Ψ env' ρ := by
  induction F with
  | nil => intro env he _; exact ⟨env, rfl, rfl, he⟩
  | cons f F ih =>
    intro env he hF
    obtain ⟨env1, g1, g2, g3⟩ := tj_back1_ok hv h1 h2 he (hF f List.mem_cons_self)
    obtain ⟨env2, k1, k2, k3⟩ := ih g3 (fun g hg => hF g (List.mem_cons_of_mem _ hg))
    refine ⟨env2, ?_, k2.trans g2, k3⟩
    unfold tj_back
    rw [g1]
    exact k1
def tj_nar (env : List tj_y) (F : List tj_f) (a : tj_a) (q : Nat × Nat) : Option (List tj_y) := match tj_nar1 env a q with
  | none => none
  | some env1 => match a with
    | .inl _ => some env1
    | .inr k => match tj_iv env1 (.inr k) with
      | some (l, h) => tj_back k l h F env1
      | none => some env1
theorem tj_nar_ok {Ψ : List Nat} {env : List tj_y} {F : List tj_f} {ρ : Nat → zx_V} {w : List zx_E} (he : tj_env Ψ env ρ) (hF : ∀ g ∈ F, tj_fd ρ w g) {a : tj_a} {q p : Nat × Nat} {x : Int32} (hi : tj_iv env a = some p) (hx : tj_v ρ a = (.inl x)) (h1 : q.1 ≤ zx_b x) (h2 : zx_b x ≤ q.2) : ∃ env', tj_nar env F a q = some env' ∧ env'.length = env.length ∧ tj_env Ψ env' ρ := by
  obtain ⟨env1, g1, g2, g3⟩ := tj_nar1_ok he hi hx h1 h2
  unfold tj_nar
  rw [g1]
  cases a with
  | inl n => exact ⟨env1, rfl, g2, g3⟩
  | inr k =>
    simp only
    split
    next l h hi1 =>
      obtain ⟨x', e1, q1, q2⟩ := tj_iv_ok g3 hi1
      obtain ⟨env2, k1, k2, k3⟩ := tj_back_ok e1 q1 q2 F g3 hF
      exact ⟨env2, k1, k2.trans g2, k3⟩
    next => exact ⟨env1, rfl, g2, g3⟩
theorem tj_iv_of {Ψ : List Nat} {env env' : List tj_y} {ρ : Nat → zx_V} (he' : tj_env Ψ env' ρ) (hl : env'.length = env.length) {b : tj_a} {y : Int32} (hy : tj_v ρ b = (.inl y)) {p : Nat × Nat} (hb : tj_iv env b = some p) : ∃ p', tj_iv env' b = some p' := by
  cases b with
  | inl n => exact ⟨_, rfl⟩
  | inr k =>
    have hk : k < env'.length := by rw [hl]; exact tj_iv_lt hb
    have ht := he' k _ (List.getElem?_eq_getElem hk)
    have hy : ρ k = (.inl y) := hy
    unfold tj_iv
    simp only
    rw [List.getElem?_eq_getElem hk]
    rw [hy] at ht
    match env'[k], ht with
    | (0, lo, hi), _ => exact ⟨(lo, hi), rfl⟩
    | (1, l, _), ⟨q, e, _⟩ => cases e
    | (2, l, _), Or.inl e => cases e
    | (2, l, _), Or.inr ⟨q, e, _⟩ => cases e
    | (n + 3, _, _), ⟨q, e⟩ => cases e
/-- one side of a branch: no state if it can't be -/
def tj_nef (o : ClassFile.Cond) (a b : tj_a) (F : List tj_f) : List tj_f := match o with
  | .ne => (2, a, b, b) :: F
  | _ => F
/-- known not to be so -/
def tj_nee (o : ClassFile.Cond) (a b : tj_a) (F : List tj_f) : Bool := match o, b with
  | .eq, .inl c => F.any (fun f => Nat.beq f.1 2 && (tj_eqa a f.2.1 && tj_eqa (.inl c) f.2.2.1))
  | _, _ => false
theorem tj_nee_ok {o : ClassFile.Cond} {a b : tj_a} {F : List tj_f} {ρ : Nat → zx_V} {w : List zx_E} (hF : ∀ g ∈ F, tj_fd ρ w g) {x y : Int32} (hx : tj_v ρ a = (.inl x)) (hy : tj_v ρ b = (.inl y)) (hr : tj_rel o (zx_b x) (zx_b y)) : tj_nee o a b F = false := by
  cases h : tj_nee o a b F with
  | false => rfl
  | true =>
    unfold tj_nee at h
    split at h
    next c =>
      obtain ⟨f, hf, hz⟩ := List.any_eq_true.mp h
      rw [Bool.and_eq_true, Bool.and_eq_true] at hz
      obtain ⟨t, u, d, e⟩ := f
      have e1 : t = 2 := Nat.eq_of_beq_eq_true hz.1
      have e2 : a = u := tj_eqa_ok hz.2.1
      have e3 : .inl c = d := tj_eqa_ok hz.2.2
      subst e1
      subst e2
      subst e3
      obtain ⟨x', h1, h2⟩ := hF _ hf
      rw [hx] at h1
      cases h1
      have hy : (Sum.inl (Int32.ofNat c) : zx_V) = Sum.inl y := hy
      have ey := Sum.inl.inj hy
      exact absurd ((tj_b_inj hr).trans ey.symm) h2
    next => cases h
def tj_side (o : ClassFile.Cond) (pc : Nat) (L : List (Nat × tj_a)) (st : List tj_a) (env : List tj_y) (F : List tj_f) (a b : tj_a) : Option (List tj_S) := match tj_iv env a, tj_iv env b with
  | some (la, ha), some (lb, hb) => match tj_nee o a b F with
    | true => some []
    | false => match tj_nar env F a (tj_bnd o la ha lb hb).1 with
      | none => some []
      | some env1 => match tj_nar env1 F b (tj_bnd o la ha lb hb).2 with
        | none => some []
        | some env2 => some [(pc, L, st, env2, tj_nef o a b F)]
  | _, _ => none
theorem tj_side_ok {o : ClassFile.Cond} {pc : Nat} {L : List (Nat × tj_a)} {st : List tj_a} {env : List tj_y} {F : List tj_f} {a b : tj_a} {As : List tj_S} (h : tj_side o pc L st env F a b = some As) {Ψ : List Nat} {ρ : Nat → zx_V} {w : List zx_E} (he : tj_env Ψ env ρ) (hF : ∀ g ∈ F, tj_fd ρ w g) {x y : Int32} (hx : tj_v ρ a = (.inl x)) (hy : tj_v ρ b = (.inl y)) (hr : tj_rel o (zx_b x) (zx_b y)) : ∃ env', (pc, L, st, env', tj_nef o a b F) ∈ As ∧ env'.length = env.length ∧ tj_env Ψ env' ρ := by
  unfold tj_side at h
  split at h
  next la ha lb hb hia hib =>
    obtain ⟨x', hx', a1, a2⟩ := tj_iv_ok he hia
    obtain ⟨y', hy', b1, b2⟩ := tj_iv_ok he hib
    rw [hx] at hx'
    cases hx'
    rw [hy] at hy'
    cases hy'
    rw [tj_nee_ok hF hx hy hr] at h
    simp only at h
    obtain ⟨⟨c1, c2⟩, c3, c4⟩ := tj_bnd_ok hr a1 a2 b1 b2 (tj_b_lt x) (tj_b_lt y)
    obtain ⟨env1, e1, e2, e3⟩ := tj_nar_ok he hF hia hx c1 c2
    rw [e1] at h
    obtain ⟨p', hib2⟩ := tj_iv_of e3 e2 hy hib
    obtain ⟨env2, f1, f2, f3⟩ := tj_nar_ok e3 hF hib2 hy c3 c4
    simp only at h
    rw [f1] at h
    cases h
    exact ⟨env2, List.mem_cons_self, f2.trans e2, f3⟩
  next => cases h
theorem tj_nef_ok {o : ClassFile.Cond} {a b : tj_a} {F : List tj_f} {ρ : Nat → zx_V} {w : List zx_E} (hF : ∀ g ∈ F, tj_fd ρ w g) {x y : Int32} (hx : tj_v ρ a = (.inl x)) (hy : tj_v ρ b = (.inl y)) (hr : tj_rel o (zx_b x) (zx_b y)) : ∀ g ∈ tj_nef o a b F, tj_fd ρ w g := by
  unfold tj_nef
  split
  next =>
    intro g hg
    rcases List.mem_cons.mp hg with e | e
    · rw [e]
      cases b with
      | inr k => exact trivial
      | inl n =>
        refine ⟨x, hx, fun e0 => ?_⟩
        have hr : zx_b x ≠ zx_b y := hr
        have hy : (Sum.inl (Int32.ofNat n) : zx_V) = Sum.inl y := hy
        have ey := Sum.inl.inj hy
        exact hr (by rw [e0, ey])
    · exact hF g e
  next => exact hF
def tj_two (r s : Option (List tj_S)) : Option (List tj_S) := match r, s with
  | some a, some b => some (a ++ b)
  | _, _ => none
theorem tj_two_inv {r s : Option (List tj_S)} {As : List tj_S} (h : tj_two r s = some As) : ∃ a b, r = some a ∧ s = some b ∧ As = a ++ b := by
  unfold tj_two at h
  split at h
  next a b => cases h; exact ⟨a, b, rfl, rfl, rfl⟩
  next => cases h
theorem tj_side_iv {o : ClassFile.Cond} {pc : Nat} {L : List (Nat × tj_a)} {st : List tj_a} {env : List tj_y} {F : List tj_f} {a b : tj_a} {As : List tj_S} (h : tj_side o pc L st env F a b = some As) : ∃ p q, tj_iv env a = some p ∧ tj_iv env b = some q := by
  unfold tj_side at h
  split at h
  next la ha lb hb hia hib => exact ⟨_, _, hia, hib⟩
  next => cases h
theorem tj_br {f : zx_S → Option zx_S} {o : ClassFile.Cond} {pc t n : Nat} {L : List (Nat × tj_a)} {st0 st : List tj_a} {env : List tj_y} {F : List tj_f} {a b : tj_a} {As : List tj_S} (h : tj_two (tj_side o t L st env F a b) (tj_side (tj_neg o) (pc + n) L st env F a b) = some As)
    (hf : ∀ (ρ : Nat → zx_V) (ls : List (Nat × zx_V)) (w : List zx_E) (mc ms : Nat) (x y : Int32), tj_v ρ a = (.inl x) → tj_v ρ b = (.inl y) → f (pc, ls, st0.map (tj_v ρ), w, mc, ms) = some (zx_pick (zx_cmp o x y) t (pc + n), ls, st.map (tj_v ρ), w, mc, ms)) : tj_sim Λ cap E Ψ0 w0 (tj_fn f) (pc, L, st0, env, F) As := by
  obtain ⟨As1, As2, h1, h2, rfl⟩ := tj_two_inv h
  intro Ψ ρ σ ⟨ls, w, mc, ms, hσ, hW, hL, hls, he, hF⟩
  subst hσ
  obtain ⟨p, q, hia, hib⟩ := tj_side_iv h1
  obtain ⟨x, hx, -⟩ := tj_iv_ok he hia
  obtain ⟨y, hy, -⟩ := tj_iv_ok he hib
  obtain ⟨c1, c2⟩ := tj_cmp_rel o x y
  have hs := hf ρ ls w mc ms x y hx hy
  cases hc : zx_cmp o x y with
  | true =>
    rw [hc] at hs
    obtain ⟨env', m1, m2, m3⟩ := tj_side_ok h1 he hF hx hy (c1 hc)
    exact ⟨_, Ψ, ρ, _, hs, List.mem_append_left _ m1, ⟨ls, w, mc, ms, rfl, hW, hL, hls, m3, tj_nef_ok hF hx hy (c1 hc)⟩, by show env.length ≤ env'.length; rw [m2]; exact Nat.le_refl _, fun _ _ => rfl⟩
  | false =>
    rw [hc] at hs
    obtain ⟨env', m1, m2, m3⟩ := tj_side_ok h2 he hF hx hy (c2 hc)
    exact ⟨_, Ψ, ρ, _, hs, List.mem_append_right _ m1, ⟨ls, w, mc, ms, rfl, hW, hL, hls, m3, tj_nef_ok hF hx hy (c2 hc)⟩, by show env.length ≤ env'.length; rw [m2]; exact Nat.le_refl _, fun _ _ => rfl⟩
def tj_jt (o : ClassFile.Cond) (t : Nat) (A : tj_S) : Option (List tj_S) := match A with
  | (pc, L, b :: a :: st, env, F) => tj_two (tj_side o t L st env F a b) (tj_side (tj_neg o) (pc + 3) L st env F a b)
  | _ => none
theorem tj_jt_ok {o : ClassFile.Cond} {t : Nat} {A : tj_S} {As : List tj_S} (h : tj_jt o t A = some As) : tj_sim Λ cap E Ψ0 w0 (tj_fn (zx_jt o t)) A As := by
  unfold tj_jt at h
  split at h
  next pc L b a st env F =>
    refine tj_br h (fun ρ ls w mc ms x y hx hy => ?_)
    show zx_jt o t (pc, ls, tj_v ρ b :: tj_v ρ a :: st.map (tj_v ρ), w, mc, ms) = _
    rw [hx, hy]
    rfl
  next => cases h
def tj_j0 (o : ClassFile.Cond) (t : Nat) (A : tj_S) : Option (List tj_S) := match A with
  | (pc, L, a :: st, env, F) => tj_two (tj_side o t L st env F a (.inl 0)) (tj_side (tj_neg o) (pc + 3) L st env F a (.inl 0))
  | _ => none
theorem tj_j0_ok {o : ClassFile.Cond} {t : Nat} {A : tj_S} {As : List tj_S} (h : tj_j0 o t A = some As) : tj_sim Λ cap E Ψ0 w0 (tj_fn (zx_j0 o t)) A As := by
  unfold tj_j0 at h
  split at h
  next pc L a st env F =>
    refine tj_br h (fun ρ ls w mc ms x y hx hy => ?_)
    have hy : (Sum.inl (Int32.ofNat 0) : zx_V) = Sum.inl y := hy
    cases hy
    show zx_j0 o t (pc, ls, tj_v ρ a :: st.map (tj_v ρ), w, mc, ms) = _
    rw [hx]
    rfl
  next => cases h
def tj_goto (t : Nat) (A : tj_S) : Option (List tj_S) := match A with
  | (_, L, st, env, F) => some [(t, L, st, env, F)]
theorem tj_goto_ok {t : Nat} {A : tj_S} {As : List tj_S} (h : tj_goto t A = some As) : tj_sim Λ cap E Ψ0 w0 (tj_fn (zx_gt t)) A As := by
  obtain ⟨pc, L, st, env, F⟩ := A
  cases h
  exact tj_mv (fun Ψ ρ ls w mc ms _ _ _ _ => rfl)
/-- null or not -/
def tj_nn2 (t : Nat) (A : tj_S) : Option (List tj_S) := match A with
  | (pc, L, .inr k :: st, env, F) => match env[k]? with
    | some (1, _, _) => some [(t, L, st, env, F)]
    | some (2, l, c) => some [(t, L, st, env.set k (1, l, c), F), (pc + 3, L, st, env, F)]
    | _ => none
  | _ => none
theorem tj_nn_ok {t : Nat} {A : tj_S} {As : List tj_S} (h : tj_nn2 t A = some As) : tj_sim Λ cap E Ψ0 w0 (tj_fn (zx_nn t)) A As := by
  unfold tj_nn2 at h
  split at h
  next pc L k st env F =>
    split at h
    next l c hk =>
      cases h
      refine tj_mv (fun Ψ ρ ls w mc ms _ he _ _ => ?_)
      obtain ⟨q, e, -⟩ := he k _ hk
      show zx_nn t (pc, ls, ρ k :: st.map (tj_v ρ), w, mc, ms) = _
      rw [e]
      rfl
    next l c hk =>
      cases h
      intro Ψ ρ σ ⟨ls, w, mc, ms, hσ, hW, hL, hls, he, hF⟩
      subst hσ
      rcases he k _ hk with e | ⟨q, e, hq⟩
      · refine ⟨(pc + 3, ls, st.map (tj_v ρ), w, mc, ms), Ψ, ρ, _, ?_, List.mem_cons_of_mem _ List.mem_cons_self, ⟨ls, w, mc, ms, rfl, hW, hL, hls, he, hF⟩, Nat.le_refl _, fun _ _ => rfl⟩
        show zx_nn t (pc, ls, ρ k :: st.map (tj_v ρ), w, mc, ms) = _
        rw [e]
        rfl
      · refine ⟨(t, ls, st.map (tj_v ρ), w, mc, ms), Ψ, ρ, _, ?_, List.mem_cons_self, ⟨ls, w, mc, ms, rfl, hW, hL, hls, fun j u hj => ?_, hF⟩, by show env.length ≤ (env.set k _).length; rw [List.length_set]; exact Nat.le_refl _, fun _ _ => rfl⟩
        · show zx_nn t (pc, ls, ρ k :: st.map (tj_v ρ), w, mc, ms) = _
          rw [e]
          rfl
        · by_cases hjk : k = j
          · subst hjk
            have hlt : k < env.length := (List.getElem?_eq_some_iff.mp hk).1
            have hj : (env.set k (1, l, c))[k]? = some u := hj
            rw [List.getElem?_set_self hlt] at hj
            cases hj
            exact ⟨q, e, hq⟩
          · have hj : (env.set k (1, l, c))[j]? = some u := hj
            rw [List.getElem?_set_ne hjk] at hj
            exact he j u hj
    next => cases h
  next => cases h
/-- switches -/
def tj_neb (n : Nat) : tj_a → Bool
  | .inl c => Nat.beq (tj_cb c) n
  | .inr _ => false
def tj_nec (F : List tj_f) (a : tj_a) (n : Nat) : Bool := F.any (fun f => Nat.beq f.1 2 && (tj_eqa a f.2.1 && tj_neb n f.2.2.1))
theorem tj_nec_ok {F : List tj_f} {a : tj_a} {n : Nat} {ρ : Nat → zx_V} {w : List zx_E} (hF : ∀ g ∈ F, tj_fd ρ w g) {x : Int32} (hx : tj_v ρ a = (.inl x)) (hn : n = zx_b x) : tj_nec F a n = false := by
  cases h : tj_nec F a n with
  | false => rfl
  | true =>
    obtain ⟨f, hf, hz⟩ := List.any_eq_true.mp h
    rw [Bool.and_eq_true, Bool.and_eq_true] at hz
    obtain ⟨t, u, d, e⟩ := f
    have e1 : t = 2 := Nat.eq_of_beq_eq_true hz.1
    have e2 : a = u := tj_eqa_ok hz.2.1
    subst e1
    subst e2
    cases d with
    | inr k => cases hz.2.2
    | inl c =>
      have e3 : tj_cb c = n := Nat.eq_of_beq_eq_true hz.2.2
      obtain ⟨x', h1, h2⟩ := hF _ hf
      rw [hx] at h1
      cases h1
      refine absurd (tj_b_inj ?_) h2
      rw [tj_b_cb, e3, hn]
def tj_cases (L : List (Nat × tj_a)) (st : List tj_a) (env : List tj_y) (F : List tj_f) (a : tj_a) : List (Nat × Nat) → List tj_S
  | [] => []
  | (n, t) :: r => match tj_nec F a n with
    | true => tj_cases L st env F a r
    | false => match tj_nar env F a (n, n) with
      | some env1 => (t, L, st, env1, F) :: tj_cases L st env F a r
      | none => tj_cases L st env F a r
def tj_sw (d : Nat) (ts : List (Nat × Nat)) (A : tj_S) : Option (List tj_S) := match A with
  | (_, L, a :: st, env, F) => match tj_iv env a with
    | some _ => some ((d, L, st, env, F) :: tj_cases L st env F a ts)
    | none => none
  | _ => none
theorem tj_cases_ok {L : List (Nat × tj_a)} {st : List tj_a} {env : List tj_y} {F : List tj_f} {a : tj_a} {Ψ : List Nat} {ρ : Nat → zx_V} {w : List zx_E} {x : Int32} {p : Nat × Nat} (he : tj_env Ψ env ρ) (hF : ∀ g ∈ F, tj_fd ρ w g) (hi : tj_iv env a = some p) (hx : tj_v ρ a = (.inl x)) {d : Nat} : ∀ {ts : List (Nat × Nat)}, (zx_swc (zx_b x) d ts = d) ∨ ∃ env', (zx_swc (zx_b x) d ts, L, st, env', F) ∈ tj_cases L st env F a ts ∧ env'.length = env.length ∧ tj_env Ψ env' ρ
  | [] => Or.inl rfl
  | (n, t) :: r => by
    unfold zx_swc tj_cases
    split
    next hn =>
      have hn := Nat.eq_of_beq_eq_true hn
      obtain ⟨env', g1, g2, g3⟩ := tj_nar_ok he hF hi hx (q := (n, n)) (by show n ≤ _; omega) (by show _ ≤ n; omega)
      rw [tj_nec_ok hF hx hn]
      simp only
      rw [g1]
      exact Or.inr ⟨env', List.mem_cons_self, g2, g3⟩
    next =>
      rcases tj_cases_ok he hF hi hx (d := d) (ts := r) with e | ⟨env', g1, g2, g3⟩
      · exact Or.inl e
      · refine Or.inr ⟨env', ?_, g2, g3⟩
        split
        next => exact g1
        next =>
          split
          next => exact List.mem_cons_of_mem _ g1
          next => exact g1
theorem tj_sw_ok {d : Nat} {ts : List (Nat × Nat)} {A : tj_S} {As : List tj_S} (h : tj_sw d ts A = some As) : tj_sim Λ cap E Ψ0 w0 (tj_fn (zx_sg d ts)) A As := by
  unfold tj_sw at h
  split at h
  next pc L a st env F =>
    split at h
    next p hi =>
      cases h
      intro Ψ ρ σ ⟨ls, w, mc, ms, hσ, hW, hL, hls, he, hF⟩
      subst hσ
      obtain ⟨x, hx, -⟩ := tj_iv_ok he (lo := p.1) (hi := p.2) hi
      have hs : tj_fn (zx_sg d ts) (pc, ls, tj_v ρ a :: st.map (tj_v ρ), w, mc, ms) (zx_swc (zx_b x) d ts, ls, st.map (tj_v ρ), w, mc, ms) := by
        rw [hx]
        rfl
      rcases tj_cases_ok (L := L) (st := st) (d := d) (ts := ts) he hF hi hx with e | ⟨env', g1, g2, g3⟩
      · rw [e] at hs
        exact ⟨_, Ψ, ρ, _, hs, List.mem_cons_self, ⟨ls, w, mc, ms, rfl, hW, hL, hls, he, hF⟩, Nat.le_refl _, fun _ _ => rfl⟩
      · exact ⟨_, Ψ, ρ, _, hs, List.mem_cons_of_mem _ g1, ⟨ls, w, mc, ms, rfl, hW, hL, hls, g3, hF⟩, by show env.length ≤ env'.length; rw [g2]; exact Nat.le_refl _, fun _ _ => rfl⟩
    next => cases h
  next => cases h
end tjBranch
