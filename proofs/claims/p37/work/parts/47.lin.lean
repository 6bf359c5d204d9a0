/-! LINEAR FACTS within the executor: laid down by branches, derived by hints (sums of facts with multipliers), used for bounds -/
abbrev tl_F : Type := List (Nat × Int)
def tl_n (ρ : Nat → zx_V) (n : Nat) : Int := match ρ n with
  | (.inl x) => x.toInt
  | _ => 0
def tl_s (ρ : Nat → zx_V) : tl_F → Int
  | [] => 0
  | (n, c) :: l => c * tl_n ρ n + tl_s ρ l
def tl_a (n : Nat) (c : Int) : tl_F → tl_F
  | [] => [(n, c)]
  | (m, d) :: l => match Nat.beq m n with
    | true => (m, d + c) :: l
    | false => (m, d) :: tl_a n c l
theorem tl_a_ok {ρ : Nat → zx_V} {n : Nat} {c : Int} : ∀ {l : tl_F}, tl_s ρ (tl_a n c l) = tl_s ρ l + c * tl_n ρ n
  | [] => by
    show c * tl_n ρ n + 0 = 0 + c * tl_n ρ n
    rw [Int.add_zero, Int.zero_add]
  | (m, d) :: l => by
    unfold tl_a
    split
    next h =>
      have e := Nat.eq_of_beq_eq_true h
      subst e
      show (d + c) * tl_n ρ m + tl_s ρ l = d * tl_n ρ m + tl_s ρ l + c * tl_n ρ m
      rw [Int.add_mul]
      omega
    next =>
      show d * tl_n ρ m + tl_s ρ (tl_a n c l) = d * tl_n ρ m + tl_s ρ l + c * tl_n ρ n
      rw [tl_a_ok (l := l)]
      omega
def tl_z : tl_F → Bool
  | [] => true
  | (_, c) :: l => decide (c = 0) && tl_z l
theorem tl_z_ok {ρ : Nat → zx_V} : ∀ {l : tl_F}, tl_z l = true → tl_s ρ l = 0
  | [], _ => rfl
  | (n, c) :: l, h => by
    have h : (decide (c = 0) && tl_z l) = true := h
    rw [Bool.and_eq_true] at h
    have hc : c = 0 := of_decide_eq_true h.1
    show c * tl_n ρ n + tl_s ρ l = 0
    rw [hc, tl_z_ok h.2, Int.zero_mul, Int.zero_add]
/-- a value as a whole number -/
def tl_av (ρ : Nat → zx_V) (a : tj_a) : Int := match tj_v ρ a with
  | (.inl x) => x.toInt
  | _ => 0
def tl_c (m : Nat) : Int := (((m + 2147483648) % 4294967296 : Nat) : Int) - 2147483648
theorem tl_c_ok {ρ : Nat → zx_V} {m : Nat} : tl_av ρ (.inl m) = tl_c m := by
  show (Int32.ofNat m).toInt = tl_c m
  have h1 := zx_b_int (Int32.ofNat m)
  rw [tj_b_of] at h1
  unfold tl_c
  omega
theorem tl_av_i {ρ : Nat → zx_V} {a : tj_a} {x : Int32} (h : tj_v ρ a = (.inl x)) : tl_av ρ a = x.toInt := by
  unfold tl_av
  rw [h]
abbrev tl_L : Type := List (Int × tj_a)
def tl_t (ρ : Nat → zx_V) : tl_L → Int
  | [] => 0
  | (c, a) :: l => c * tl_av ρ a + tl_t ρ l
def tl_p (c : Int) (a : tj_a) (q : tl_F × Int) : tl_F × Int := match a with
  | .inl m => (q.1, q.2 - c * tl_c m)
  | .inr n => (tl_a n c q.1, q.2)
def tl_w (ρ : Nat → zx_V) (q : tl_F × Int) : Int := tl_s ρ q.1 - q.2
theorem tl_p_ok {ρ : Nat → zx_V} {c : Int} : ∀ {a : tj_a} {q : tl_F × Int}, tl_w ρ (tl_p c a q) = tl_w ρ q + c * tl_av ρ a
  | .inl m, q => by
    show tl_s ρ q.1 - (q.2 - c * tl_c m) = tl_s ρ q.1 - q.2 + c * tl_av ρ (.inl m)
    rw [tl_c_ok]
    omega
  | .inr n, q => by
    show tl_s ρ (tl_a n c q.1) - q.2 = tl_s ρ q.1 - q.2 + c * tl_n ρ n
    rw [tl_a_ok]
    omega
def tl_add (lam : Int) : tl_L → tl_F × Int → tl_F × Int
  | [], q => q
  | (c, a) :: l, q => tl_add lam l (tl_p (lam * c) a q)
theorem tl_add_ok {ρ : Nat → zx_V} {lam : Int} : ∀ {l : tl_L} {q : tl_F × Int}, tl_w ρ (tl_add lam l q) = tl_w ρ q + lam * tl_t ρ l
  | [], q => by
    show tl_w ρ q = tl_w ρ q + lam * 0
    rw [Int.mul_zero, Int.add_zero]
  | (c, a) :: l, q => by
    show tl_w ρ (tl_add lam l (tl_p (lam * c) a q)) = tl_w ρ q + lam * (c * tl_av ρ a + tl_t ρ l)
    rw [tl_add_ok (l := l), tl_p_ok, Int.mul_add, Int.mul_assoc]
    omega
/-! keys: how hints name values: a local k, 1000 + a place on the stack, 2000 + a name, 1000000 + an int; then steps: (0, k) field k, (1, c) what lies at c, (2, n) (3, n) the operands of the operation n that made it, (4, k) what lies at local k, (5, n) (6, n) what the operation n made with it as its first or second operand, (7, _) what lies at it in an array, (8, 0) (8, 1) the second, third of a linear fact whose first it is, (9, _) the first of one whose second it is; 16 times so many such ones ahead of it -/
abbrev tl_K : Type := Nat × List (Nat × Nat)
def tl_opd (n : Nat) (c : tj_a) : List tj_f → Option (tj_a × tj_a)
  | [] => none
  | f :: F => match Nat.beq f.1 (n + 3) && tj_eqa f.2.2.2 c with
    | true => some (f.2.1, f.2.2.1)
    | false => tl_opd n c F
theorem tl_opd_mem {n : Nat} {c a b : tj_a} : ∀ {F : List tj_f}, tl_opd n c F = some (a, b) → (n + 3, a, b, c) ∈ F
  | [], h => by cases h
  | (k, x, y, z) :: F, h => by
    unfold tl_opd at h
    split at h
    next hz =>
      rw [Bool.and_eq_true] at hz
      have e1 : k = n + 3 := Nat.eq_of_beq_eq_true hz.1
      have e2 : z = c := tj_eqa_ok hz.2
      subst e1
      subst e2
      cases h
      exact List.mem_cons_self
    next => exact List.mem_cons_of_mem _ (tl_opd_mem h)
def tl_nth (P : tj_f → Bool) : Nat → List tj_f → Option tj_f
  | _, [] => none
  | n, f :: F => match P f with
    | true => (match n with
      | 0 => some f
      | m + 1 => tl_nth P m F)
    | false => tl_nth P n F
def tl_ks (L : List (Nat × tj_a)) (F : List tj_f) : List (Nat × Nat) → tj_a → Option tj_a
  | [], v => some v
  | (s, k) :: r, v => match (match s % 16 with
    | 0 => tj_fk 0 v (.inl k) F
    | 1 => tj_fk 1 v (.inl k) F
    | 2 => (tl_opd k v F).map (fun q => q.1)
    | 3 => (tl_opd k v F).map (fun q => q.2)
    | 4 => (match tj_look k L with
      | some i => tj_fk 1 v i F
      | none => none)
    | 5 => (tl_nth (fun f => Nat.beq f.1 (k + 3) && tj_eqa f.2.1 v) (s / 16) F).map (fun f => f.2.2.2)
    | 6 => (tl_nth (fun f => Nat.beq f.1 (k + 3) && tj_eqa f.2.2.1 v) (s / 16) F).map (fun f => f.2.2.2)
    | 7 => (tl_nth (fun f => Nat.beq f.1 1 && tj_eqa f.2.2.1 v) (s / 16) F).map (fun f => f.2.2.2)
    | 8 => (tl_nth (fun f => Nat.blt 1102 f.1 && tj_eqa f.2.1 v) (s / 16) F).map (fun f => match k with
      | 0 => f.2.2.1
      | _ => f.2.2.2)
    | _ => (tl_nth (fun f => Nat.blt 1102 f.1 && tj_eqa f.2.2.1 v) (s / 16) F).map (fun f => f.2.1)) with
    | some v' => tl_ks L F r v'
    | none => none
def tl_root (k : Nat) (L : List (Nat × tj_a)) (st : List tj_a) : Option tj_a := match Nat.blt k 1000 with
  | true => tj_look k L
  | false => match Nat.blt k 2000 with
    | true => st[k - 1000]?
    | false => match Nat.blt k 1000000 with
      | true => some (.inr (k - 2000))
      | false => some (.inl (k - 1000000))
def tl_key (k : tl_K) (A : tj_S) : Option tj_a := match tl_root k.1 A.2.1 A.2.2.1 with
  | some v => tl_ks A.2.1 A.2.2.2.2 k.2 v
  | none => none
/-! sources: inequalities that hold of a state -/
abbrev tl_S : Type := Nat × tl_K × tl_K × tl_K × Nat
def tl_i (n : Nat) : Int := (n : Int) - 2147483648
def tl_sgn (b : Bool) (l : tl_L) : tl_L := match b with
  | true => l
  | false => l.map (fun q => (-q.1, q.2))
def tl_fitS (la ha lb hb : Nat) : Bool := Nat.ble 2147483648 (la + lb) && Nat.blt (ha + hb) 6442450944
def tl_fitD (la ha lb hb : Nat) : Bool := Nat.ble hb (la + 2147483648) && Nat.blt ha (lb + 2147483648)
def tl_srcA (up : Bool) (c : tj_a) (env : List tj_y) (F : List tj_f) : Option (tl_L × Int) := match tl_opd 0 c F with
  | some (a, b) => match tj_iv env a, tj_iv env b with
    | some (la, ha), some (lb, hb) => match tl_fitS la ha lb hb with
      | true => some (tl_sgn up [(1, c), (-1, a), (-1, b)], 0)
      | false => none
    | _, _ => none
  | none => none
def tl_srcS (up : Bool) (c : tj_a) (env : List tj_y) (F : List tj_f) : Option (tl_L × Int) := match tl_opd 1 c F with
  | some (a, b) => match tj_iv env a, tj_iv env b with
    | some (la, ha), some (lb, hb) => match tl_fitD la ha lb hb with
      | true => some (tl_sgn up [(1, c), (-1, a), (1, b)], 0)
      | false => none
    | _, _ => none
  | none => none
/-- a product by a constant -/
def tl_mulc (c : tj_a) (F : List tj_f) : Option (tj_a × Nat) := match tl_opd 2 c F with
  | some (a, .inl m) => some (a, m)
  | some (.inl m, a) => some (a, m)
  | _ => none
def tl_srcM (up : Bool) (c : tj_a) (env : List tj_y) (F : List tj_f) : Option (tl_L × Int) := match tl_mulc c F with
  | some (a, m) => match tj_iv env a with
    | some (la, ha) => match Nat.ble 2147483648 la && (Nat.blt m 2147483648 && Nat.blt ((ha - 2147483648) * m) 2147483648) with
      | true => some (tl_sgn up [(1, c), (-(m : Int), a)], 0)
      | false => none
    | none => none
  | _ => none
def tl_srcQ (up : Bool) (c : tj_a) (env : List tj_y) (F : List tj_f) : Option (tl_L × Int) := match tl_opd 5 c F with
  | some (a, .inl m) => match tj_iv env a with
    | some (la, _) => match Nat.ble 2147483648 la && (Nat.blt m 2147483648 && Nat.blt 0 m) with
      | true => (match up with
        | true => some ([((m : Int), c), (-1, a)], 0)
        | false => some ([(-(m : Int), c), (1, a)], (m : Int) - 1))
      | false => none
    | none => none
  | _ => none
def tl_srcI (two : Bool) (c : tj_a) (env : List tj_y) (F : List tj_f) : Option (tl_L × Int) := match tl_opd 12 c F with
  | some (a, b) => (match two with
    | true => some ([(1, c), (-1, b)], 0)
    | false => some ([(1, c), (-1, a)], 0))
  | none => none
def tl_srcX (two : Bool) (c : tj_a) (env : List tj_y) (F : List tj_f) : Option (tl_L × Int) := match tl_opd 11 c F with
  | some (a, b) => (match two with
    | true => some ([(-1, c), (1, b)], 0)
    | false => some ([(-1, c), (1, a)], 0))
  | none => none
/-! sources out of facts of worlds -/
def tl_srcR (c : tj_a) (env : List tj_y) (F : List tj_f) : Option (tl_L × Int) := match tl_opd 4 c F with
  | some (a, b) => match tj_iv env b with
    | some (lb, _) => match Nat.ble 2147483649 lb with
      | true => some ([(1, c), (-1, b)], -1)
      | false => none
    | none => none
  | none => none
def tl_sem (k : Nat) (a : tj_a) : List tj_f → Option (tj_a × tj_a)
  | [] => none
  | f :: F => match Nat.beq f.1 k && tj_eqa f.2.1 a with
    | true => some (f.2.2.1, f.2.2.2)
    | false => tl_sem k a F
theorem tl_sem_mem {k : Nat} {a b c : tj_a} : ∀ {F : List tj_f}, tl_sem k a F = some (b, c) → (k, a, b, c) ∈ F
  | [], h => by cases h
  | (j, x, y, z) :: F, h => by
    unfold tl_sem at h
    split at h
    next hz =>
      rw [Bool.and_eq_true] at hz
      have e1 : j = k := Nat.eq_of_beq_eq_true hz.1
      have e2 : x = a := tj_eqa_ok hz.2
      subst e1
      subst e2
      cases h
      exact List.mem_cons_self
    next => exact List.mem_cons_of_mem _ (tl_sem_mem h)
def tl_has (k : Nat) (a b c : tj_a) (F : List tj_f) : Bool := F.any (fun f => Nat.beq f.1 k && (tj_eqa f.2.1 a && (tj_eqa f.2.2.1 b && tj_eqa f.2.2.2 c)))
theorem tl_has_mem {k : Nat} {a b c : tj_a} {F : List tj_f} (h : tl_has k a b c F = true) : (k, a, b, c) ∈ F := by
  obtain ⟨f, hf, hm⟩ := List.any_eq_true.mp h
  obtain ⟨j, x, y, z⟩ := f
  simp only [Bool.and_eq_true] at hm
  obtain ⟨m1, m2, m3, m4⟩ := hm
  have m1 : j = k := Nat.eq_of_beq_eq_true m1
  have m2 : x = a := tj_eqa_ok m2
  have m3 : y = b := tj_eqa_ok m3
  have m4 : z = c := tj_eqa_ok m4
  subst m1
  subst m2
  subst m3
  subst m4
  exact hf
def tl_rng (n : Nat) (i : tj_a) (env : List tj_y) : Bool := match tj_iv env i with
  | some (lo, hi) => Nat.ble 2147483648 lo && Nat.blt hi (2147483648 + n)
  | none => false
theorem tl_rng_ok {Ψ : List Nat} {env : List tj_y} {ρ : Nat → zx_V} (he : tj_env Ψ env ρ) {n : Nat} {i : tj_a} (h : tl_rng n i env = true) {x : Int32} (hx : tj_v ρ i = (.inl x)) : 0 ≤ x.toInt ∧ x.toInt < n := by
  unfold tl_rng at h
  split at h
  next lo hi hi' =>
    rw [Bool.and_eq_true] at h
    have z1 := Nat.le_of_ble_eq_true h.1
    have z2 := tj_blt_t h.2
    obtain ⟨y, e, h1, h2⟩ := tj_iv_ok he hi'
    rw [hx] at e
    cases e
    have := zx_b_int x
    omega
  next => cases h
section tlWorld
variable {ρ : Nat → zx_V} {w : List zx_E} {F : List tj_f}
/-- what lies in an array that a field of an object names -/
theorem tl_fa_el (hF : ∀ g ∈ F, tj_fd ρ w g) {this sa i v : tj_a} {k q ci n : Nat} {g : Nat → Int32} (h1 : tj_fk 0 this (.inl k) F = some sa) (h2 : tj_fk 1 sa i F = some v) (hq : tj_v ρ this = (.inr (.inr (.inl q)))) (h : tj_fa w q ci k n g) : ∃ x : Int32, tj_v ρ i = (.inl x) ∧ tj_v ρ v = (.inl (g x.toInt.toNat)) := by
  obtain ⟨q', ci', fs', a1, a2, a3⟩ := hF _ (tj_fk_mem h1)
  obtain ⟨p', x, b1, b2, b3⟩ := hF _ (tj_fk_mem h2)
  obtain ⟨fs, p, c1, c2, c3⟩ := h
  rw [hq] at a1
  cases a1
  rw [c1] at a2
  cases a2
  rw [c2] at a3
  have a3 : some (Sum.inr (Sum.inr (Sum.inl p))) = some (tj_v ρ sa) := a3
  have a4 := Option.some.inj a3
  rw [b1] at a4
  cases a4
  refine ⟨x, b2, ?_⟩
  rcases b3 with ⟨kd, m, g', d1, d2⟩ | ⟨m, l, o, d1, d2, d3⟩
  · rw [c3] at d1
    cases d1
    exact d2
  · rw [c3] at d1
    cases d1
theorem tl_fi_el (hF : ∀ g ∈ F, tj_fd ρ w g) {this v : tj_a} {k q ci : Nat} {x : Int32} (h1 : tj_fk 0 this (.inl k) F = some v) (hq : tj_v ρ this = (.inr (.inr (.inl q)))) (h : tj_fi w q ci k x) : tj_v ρ v = (.inl x) := by
  obtain ⟨q', ci', fs', a1, a2, a3⟩ := hF _ (tj_fk_mem h1)
  obtain ⟨fs, c1, c2⟩ := h
  rw [hq] at a1
  cases a1
  rw [c1] at a2
  cases a2
  rw [c2] at a3
  exact (Option.some.inj a3).symm
theorem tl_sem_fd (hF : ∀ g ∈ F, tj_fd ρ w g) {k : Nat} {a b c : tj_a} (hk : Nat.blt k 1000 = true) (h : (k + 103, a, b, c) ∈ F) : tj_smk k (tj_v ρ a) (tj_v ρ b) (tj_v ρ c) w := by
  have h1 := hF _ h
  have e0 : k + 103 = (k + 100) + 3 := rfl
  rw [e0, tl_fd3] at h1
  unfold tj_of at h1
  rw [tl_bltF (Nat.le_add_left 100 k)] at h1
  have h1 : tj_sem (k + 100 - 100) (tj_v ρ a) (tj_v ρ b) (tj_v ρ c) w := h1
  rw [Nat.add_sub_cancel] at h1
  unfold tj_sem at h1
  rw [hk] at h1
  exact h1
end tlWorld
/-- 20: a stretch of sums within its room -/
def tl_w20 (this i : tj_a) (env : List tj_y) (F : List tj_f) : Option (tl_L × Int) := match tj_fk 0 this (.inl 5) F, tj_fk 0 this (.inl 6) F with
  | some sa, some ca => (match tj_fk 1 sa i F, tj_fk 1 ca i F, tl_sem 106 this F with
    | some s, some n, some (.inl m, _) => (match tl_rng 2100 i env with
      | true => some ([(1, s), (1, n)], tl_c m)
      | false => none)
    | _, _, _ => none)
  | _, _ => none
theorem tl_w20_ok {Ψ : List Nat} {env : List tj_y} {ρ : Nat → zx_V} {w : List zx_E} {F : List tj_f} (he : tj_env Ψ env ρ) (hF : ∀ g ∈ F, tj_fd ρ w g) {this i : tj_a} {l : tl_L} {K : Int} (h : tl_w20 this i env F = some (l, K)) : tl_t ρ l ≤ K := by
  unfold tl_w20 at h
  split at h
  next sa ca h1 h2 =>
    split at h
    next s n m u h3 h4 h5 =>
      split at h
      next hr =>
        cases h
        have hs := tl_sem_fd hF (k := 3) rfl (tl_sem_mem h5)
        obtain ⟨q, n', sg, cg, k1, k2, k3, k4, k5⟩ := hs
        obtain ⟨x, x1, x2⟩ := tl_fa_el hF h1 h3 k1 k3
        obtain ⟨y, y1, y2⟩ := tl_fa_el hF h2 h4 k1 k4
        rw [x1] at y1
        cases y1
        obtain ⟨r1, r2⟩ := tl_rng_ok he hr x1
        have := k5 x.toInt.toNat (by omega)
        have hm : tl_c m = n'.toInt := by
          rw [← tl_c_ok (ρ := ρ)]
          exact tl_av_i k2
        show 1 * tl_av ρ s + (1 * tl_av ρ n + 0) ≤ tl_c m
        rw [tl_av_i x2, tl_av_i y2, hm]
        omega
      next => cases h
    next => cases h
  next => cases h
/-- 21: a stretch that is known is not empty -/
def tl_w21 (this i : tj_a) (env : List tj_y) (F : List tj_f) : Option (tl_L × Int) := match tj_fk 0 this (.inl 5) F, tj_fk 0 this (.inl 6) F with
  | some sa, some ca => (match tj_fk 1 sa i F, tj_fk 1 ca i F, tl_sem 105 i F with
    | some s, some n, some (t, ld) => (match tl_has 108 this t ld F with
      | true => some ([(-1, s), (-1, n)], -1)
      | false => none)
    | _, _, _ => none)
  | _, _ => none
theorem tl_w21_ok {ρ : Nat → zx_V} {w : List zx_E} {F : List tj_f} {env : List tj_y} (hF : ∀ g ∈ F, tj_fd ρ w g) {this i : tj_a} {l : tl_L} {K : Int} (h : tl_w21 this i env F = some (l, K)) : tl_t ρ l ≤ K := by
  unfold tl_w21 at h
  split at h
  next sa ca h1 h2 =>
    split at h
    next s n t ld h3 h4 h5 =>
      split at h
      next hr =>
        cases h
        have hc := tl_sem_fd hF (k := 2) rfl (tl_sem_mem h5)
        have hs := tl_sem_fd hF (k := 5) rfl (tl_has_mem hr)
        obtain ⟨q, sg, cg, y, z, k1, k2, k3, k4, k5, k6, k7, k8, k9⟩ := hs
        obtain ⟨x0, y0, z0, c1, c2, c3, c4⟩ := hc
        rw [k4] at c2
        cases c2
        rw [k5] at c3
        cases c3
        obtain ⟨x, x1, x2⟩ := tl_fa_el hF h1 h3 k1 k2
        obtain ⟨x', y1, y2⟩ := tl_fa_el hF h2 h4 k1 k3
        rw [x1] at y1
        cases y1
        rw [c1] at x1
        cases x1
        have e : x0.toInt.toNat = 100 * y.toInt.toNat + tj_cl z.toInt := by omega
        rw [e] at x2 y2
        show -1 * tl_av ρ s + (-1 * tl_av ρ n + 0) ≤ -1
        rw [tl_av_i x2, tl_av_i y2]
        omega
      next => cases h
    next => cases h
  next => cases h
/-- 22: a deed of the bargain is a deed -/
def tl_w22 (this i : tj_a) (env : List tj_y) (F : List tj_f) : Option (tl_L × Int) := match tj_fk 0 this (.inl 57) F, tj_fk 0 this (.inl 58) F, tj_fk 0 this (.inl 39) F, tj_fk 0 this (.inl 14) F with
  | some ga, some m, some bk, some da => (match tj_fk 1 ga i F, tj_fk 1 da bk F, tl_sem 111 this F with
    | some v, some dm, some _ => (match tl_rng 14 i env && tl_has 9932525098444199596950291534 i m (.inl 0) F with
      | true => some ([(1, v), (-1, dm)], -1)
      | false => none)
    | _, _, _ => none)
  | _, _, _, _ => none
theorem tl_w22_ok {Ψ : List Nat} {env : List tj_y} {ρ : Nat → zx_V} {w : List zx_E} {F : List tj_f} (he : tj_env Ψ env ρ) (hF : ∀ g ∈ F, tj_fd ρ w g) {this i : tj_a} {l : tl_L} {K : Int} (h : tl_w22 this i env F = some (l, K)) : tl_t ρ l ≤ K := by
  unfold tl_w22 at h
  split at h
  next ga m bk da h1 h2 h3 h4 =>
    split at h
    next v dm u h5 h6 h7 =>
      split at h
      next hr =>
        cases h
        rw [Bool.and_eq_true] at hr
        obtain ⟨u1, u2⟩ := u
        have hs := tl_sem_fd hF (k := 8) rfl (tl_sem_mem h7)
        obtain ⟨q, bk', m', dv, g, k1, k2, k3, k4, k5, k6⟩ := hs
        obtain ⟨x, x1, x2⟩ := tl_fa_el hF h1 h5 k1 k5
        obtain ⟨y, y1, y2⟩ := tl_fa_el hF h4 h6 k1 k4
        have e1 := tl_fi_el hF h2 k1 k3
        have e2 := tl_fi_el hF h3 k1 k2
        rw [e2] at y1
        cases y1
        obtain ⟨r1, r2⟩ := tl_rng_ok he hr.1 x1
        obtain ⟨a1, a2, a3, l1, l2, l3, l4⟩ := tl_lin_fd (n := 9932525098444199596950290431) (by decide +kernel) (hF _ (tl_has_mem hr.2))
        rw [x1] at l1
        cases l1
        rw [e1] at l2
        cases l2
        obtain ⟨c1, c2, c3, c4⟩ := tl_k1
        rw [c1, c2, c3, c4] at l4
        have := k6 x.toInt.toNat (by omega)
        show 1 * tl_av ρ v + (-1 * tl_av ρ dm + 0) ≤ -1
        rw [tl_av_i x2, tl_av_i y2]
        omega
      next => cases h
    next => cases h
  next => cases h
theorem tl_sgn_ok {ρ : Nat → zx_V} {l : tl_L} (h : tl_t ρ l = 0) : ∀ b : Bool, tl_t ρ (tl_sgn b l) ≤ 0
  | true => by rw [show tl_sgn true l = l from rfl, h]; exact Int.le_refl _
  | false => by
    have e : ∀ m : tl_L, tl_t ρ (m.map (fun q => (-q.1, q.2))) = - tl_t ρ m := by
      intro m
      induction m with
      | nil => rfl
      | cons q m ih =>
        show -q.1 * tl_av ρ q.2 + tl_t ρ (m.map (fun q => (-q.1, q.2))) = -(q.1 * tl_av ρ q.2 + tl_t ρ m)
        rw [ih, Int.neg_mul, Int.neg_add]
    show tl_t ρ (l.map (fun q => (-q.1, q.2))) ≤ 0
    rw [e, h]
    exact Int.le_refl _
theorem tl_op_fd {ρ : Nat → zx_V} {w : List zx_E} {F : List tj_f} (hF : ∀ g ∈ F, tj_fd ρ w g) {n : Nat} (hn : Nat.blt n 100 = true) {a b c : tj_a} (h : tl_opd n c F = some (a, b)) : ∃ x y : Int32, tj_v ρ a = (.inl x) ∧ tj_v ρ b = (.inl y) ∧ tj_v ρ c = (.inl (tj_op n x y)) := by
  have h1 := hF _ (tl_opd_mem h)
  have h1 : tj_of n (tj_v ρ a) (tj_v ρ b) (tj_v ρ c) w := h1
  rw [tj_of_op hn] at h1
  exact h1
/-- 24, 25: the game of a search is that of its sums: one length -/
def tl_w24 (up : Bool) (this : tj_a) (F : List tj_f) : Option (tl_L × Int) := match tj_fk 0 this (.inl 0) F, tj_fk 0 this (.inl 1) F, tl_sem 114 this F with
  | some g1, some s, some _ => (match tj_fk 0 s (.inl 1) F, tj_fk 0 g1 (.inl 9) F with
    | some g2, some x => (match tj_fk 0 g2 (.inl 9) F with
      | some y => some (tl_sgn up [(1, x), (-1, y)], 0)
      | none => none)
    | _, _ => none)
  | _, _, _ => none
theorem tl_fld_el {ρ : Nat → zx_V} {w : List zx_E} {F : List tj_f} (hF : ∀ g ∈ F, tj_fd ρ w g) {this v : tj_a} {k q ci : Nat} {fs : List zx_V} (h1 : tj_fk 0 this (.inl k) F = some v) (hq : tj_v ρ this = (.inr (.inr (.inl q)))) (h : w[q]? = some (.inl (ci, fs))) : fs[k]? = some (tj_v ρ v) := by
  obtain ⟨q', ci', fs', a1, a2, a3⟩ := hF _ (tj_fk_mem h1)
  rw [hq] at a1
  cases a1
  rw [h] at a2
  cases a2
  exact a3
theorem tl_w24_ok {Ψ : List Nat} {env : List tj_y} {ρ : Nat → zx_V} {w : List zx_E} {F : List tj_f} (he : tj_env Ψ env ρ) (hF : ∀ g ∈ F, tj_fd ρ w g) {up : Bool} {this : tj_a} {l : tl_L} {K : Int} (h : tl_w24 up this F = some (l, K)) : tl_t ρ l ≤ K := by
  unfold tl_w24 at h
  split at h
  next g1 s u h1 h2 h3 =>
    split at h
    next g2 x h4 h5 =>
      split at h
      next y h6 =>
        cases h
        obtain ⟨u1, u2⟩ := u
        have hs := tl_sem_fd hF (k := 11) rfl (tl_sem_mem h3)
        obtain ⟨q, p, z, fs, fs', k1, k2, k3, k4, k5, k6⟩ := hs
        have e1 := tl_fld_el hF h1 k1 k2
        rw [k3] at e1
        have e1 := (Option.some.inj e1).symm
        have e2 := tl_fld_el hF h2 k1 k2
        rw [k4] at e2
        have e2 := (Option.some.inj e2).symm
        have e3 := tl_fld_el hF h4 e2 k5
        rw [k6] at e3
        have e3 := (Option.some.inj e3).symm
        obtain ⟨q1, c1, f1, a1, a2, a3⟩ := hF _ (tj_fk_mem h5)
        rw [e1] at a1
        cases a1
        have e4 := tl_fld_el hF h6 e3 a2
        rw [a3] at e4
        have e4 : tj_v ρ x = tj_v ρ y := Option.some.inj e4
        refine tl_sgn_ok ?_ up
        show 1 * tl_av ρ x + (-1 * tl_av ρ y + 0) = 0
        have e5 : tl_av ρ x = tl_av ρ y := by
          unfold tl_av
          rw [e4]
        omega
      next => cases h
    next => cases h
  next => cases h
/-- 26: what is said twice to lie at one place is one value -/
def tl_w26 (x y : tj_a) (F : List tj_f) : Option (tl_L × Int) := match tl_nth (fun f => Nat.beq f.1 1 && tj_eqa f.2.2.2 x) 0 F, tl_nth (fun f => Nat.beq f.1 1 && tj_eqa f.2.2.2 y) 0 F with
  | some (_, a, i, _), some (_, b, j, _) => (match tl_nth (fun f => Nat.beq f.1 0 && tj_eqa f.2.2.2 a) 0 F, tl_nth (fun f => Nat.beq f.1 0 && tj_eqa f.2.2.2 b) 0 F with
    | some (_, r, .inl k, _), some (_, s, .inl m, _) => (match (tj_eqa r s && Nat.beq k m) && (tj_eqa i j || (match tl_opd 0 i F, tl_opd 0 j F with
      | some (c, d), some (e, f) => tj_eqa c e && tj_eqa d f
      | _, _ => false) || (match tl_nth (fun f => Nat.beq f.1 0 && tj_eqa f.2.2.2 i) 0 F, tl_nth (fun f => Nat.beq f.1 0 && tj_eqa f.2.2.2 j) 0 F with
      | some (_, t, .inl k1, _), some (_, u, .inl k2, _) => tj_eqa t u && Nat.beq k1 k2
      | _, _ => false)) with
      | true => some ([(1, x), (-1, y)], 0)
      | false => none)
    | _, _ => none)
  | _, _ => none
theorem tl_nth_mem {P : tj_f → Bool} : ∀ {n : Nat} {F : List tj_f} {f : tj_f}, tl_nth P n F = some f → f ∈ F ∧ P f = true
  | n, [], f, h => by cases h
  | n, g :: F, f, h => by
    unfold tl_nth at h
    split at h
    next hp =>
      split at h
      next => cases h; exact ⟨List.mem_cons_self, hp⟩
      next =>
        obtain ⟨h1, h2⟩ := tl_nth_mem h
        exact ⟨List.mem_cons_of_mem _ h1, h2⟩
    next =>
      obtain ⟨h1, h2⟩ := tl_nth_mem h
      exact ⟨List.mem_cons_of_mem _ h1, h2⟩
theorem tl_w26_ok {ρ : Nat → zx_V} {w : List zx_E} {F : List tj_f} (hF : ∀ g ∈ F, tj_fd ρ w g) {x y : tj_a} {l : tl_L} {K : Int} (h : tl_w26 x y F = some (l, K)) : tl_t ρ l ≤ K := by
  unfold tl_w26 at h
  split at h
  next n1 a i x' n2 b j y' h1 h2 =>
    split at h
    next n3 r k a' n4 s m b' h3 h4 =>
      split at h
      next hz =>
        cases h
        simp only [Bool.and_eq_true, Bool.or_eq_true] at hz
        obtain ⟨⟨z1, z2⟩, z3⟩ := hz
        have z1 : r = s := tj_eqa_ok z1
        have z2 : k = m := Nat.eq_of_beq_eq_true z2
        subst z1
        subst z2
        obtain ⟨m1, p1⟩ := tl_nth_mem h1
        obtain ⟨m2, p2⟩ := tl_nth_mem h2
        obtain ⟨m3, p3⟩ := tl_nth_mem h3
        obtain ⟨m4, p4⟩ := tl_nth_mem h4
        simp only [Bool.and_eq_true] at p1 p2 p3 p4
        have q1 : n1 = 1 := Nat.eq_of_beq_eq_true p1.1
        have q2 : n2 = 1 := Nat.eq_of_beq_eq_true p2.1
        have q3 : n3 = 0 := Nat.eq_of_beq_eq_true p3.1
        have q4 : n4 = 0 := Nat.eq_of_beq_eq_true p4.1
        have q5 : x' = x := tj_eqa_ok p1.2
        have q6 : y' = y := tj_eqa_ok p2.2
        have q7 : a' = a := tj_eqa_ok p3.2
        have q8 : b' = b := tj_eqa_ok p4.2
        subst q1 q2 q3 q4 q5 q6 q7 q8
        obtain ⟨qa, xa, a1, a2, a3⟩ := hF _ m1
        obtain ⟨qb, xb, b1, b2, b3⟩ := hF _ m2
        obtain ⟨qr, cr, fr, r1, r2, r3⟩ := hF _ m3
        obtain ⟨qs, cs, fs, s1, s2, s3⟩ := hF _ m4
        rw [r1] at s1
        cases s1
        rw [r2] at s2
        cases s2
        rw [r3] at s3
        have e1 : tj_v ρ a' = tj_v ρ b' := Option.some.inj s3
        rw [a1, b1] at e1
        cases e1
        have ei : xa = xb := by
          rcases z3 with (z3 | z3) | z3
          · have e2 : i = j := tj_eqa_ok z3
            subst e2
            rw [a2] at b2
            cases b2
            rfl
          rotate_left
          · split at z3
            next n5 t k1 i' n6 u k2 j' h5 h6 =>
              rw [Bool.and_eq_true] at z3
              have e2 : t = u := tj_eqa_ok z3.1
              have e3 : k1 = k2 := Nat.eq_of_beq_eq_true z3.2
              subst e2
              subst e3
              obtain ⟨m5, p5⟩ := tl_nth_mem h5
              obtain ⟨m6, p6⟩ := tl_nth_mem h6
              simp only [Bool.and_eq_true] at p5 p6
              have w1 : n5 = 0 := Nat.eq_of_beq_eq_true p5.1
              have w2 : n6 = 0 := Nat.eq_of_beq_eq_true p6.1
              have w3 : i' = i := tj_eqa_ok p5.2
              have w4 : j' = j := tj_eqa_ok p6.2
              subst w1 w2 w3 w4
              obtain ⟨qt, ct, ft, t1, t2, t3⟩ := hF _ m5
              obtain ⟨qu, cu, fu, u1, u2, u3⟩ := hF _ m6
              rw [t1] at u1
              cases u1
              rw [t2] at u2
              cases u2
              rw [t3] at u3
              have e4 : tj_v ρ i' = tj_v ρ j' := Option.some.inj u3
              rw [a2, b2] at e4
              exact Sum.inl.inj e4
            next => cases z3
          · split at z3
            next c d e f hc he =>
              rw [Bool.and_eq_true] at z3
              have e2 : c = e := tj_eqa_ok z3.1
              have e3 : d = f := tj_eqa_ok z3.2
              subst e2
              subst e3
              obtain ⟨u, v, g1, g2, g3⟩ := tl_op_fd hF (n := 0) rfl hc
              obtain ⟨u', v', k1, k2, k3⟩ := tl_op_fd hF (n := 0) rfl he
              rw [g1] at k1
              cases k1
              rw [g2] at k2
              cases k2
              rw [a2] at g3
              rw [b2] at k3
              cases g3
              cases k3
              rfl
            next => cases z3
        subst ei
        have e5 : tl_av ρ x' = tl_av ρ y' := by
          unfold tl_av
          rcases a3 with ⟨kd, n, g, d1, d2⟩ | ⟨n, lr, o, d1, d2, d3⟩
          · rcases b3 with ⟨kd', n', g', f1, f2⟩ | ⟨n', lr', o', f1, f2, f3⟩
            · rw [d1] at f1
              cases f1
              rw [d2, f2]
            · rw [d1] at f1
              cases f1
          · rcases b3 with ⟨kd', n', g', f1, f2⟩ | ⟨n', lr', o', f1, f2, f3⟩
            · rw [d1] at f1
              cases f1
            · rw [d1] at f1
              cases f1
              rw [d2] at f2
              cases f2
              rw [d3, f3]
        show 1 * tl_av ρ x' + (-1 * tl_av ρ y' + 0) ≤ 0
        omega
      next => cases h
    next => cases h
  next => cases h
def tl_src (s : tl_S) (A : tj_S) : Option (tl_L × Int) := match tl_key s.2.1 A with
  | none => none
  | some c => match s.1 with
    | 0 => (match tj_iv A.2.2.2.1 c with
      | some (_, hi) => some ([(1, c)], tl_i hi)
      | none => none)
    | 1 => (match tj_iv A.2.2.2.1 c with
      | some (lo, _) => some ([(-1, c)], - tl_i lo)
      | none => none)
    | 2 => tl_srcA true c A.2.2.2.1 A.2.2.2.2
    | 3 => tl_srcA false c A.2.2.2.1 A.2.2.2.2
    | 4 => tl_srcS true c A.2.2.2.1 A.2.2.2.2
    | 5 => tl_srcS false c A.2.2.2.1 A.2.2.2.2
    | 6 => tl_srcM true c A.2.2.2.1 A.2.2.2.2
    | 7 => tl_srcM false c A.2.2.2.1 A.2.2.2.2
    | 8 => tl_srcQ true c A.2.2.2.1 A.2.2.2.2
    | 9 => tl_srcQ false c A.2.2.2.1 A.2.2.2.2
    | 10 => tl_srcI false c A.2.2.2.1 A.2.2.2.2
    | 11 => tl_srcI true c A.2.2.2.1 A.2.2.2.2
    | 12 => tl_srcX false c A.2.2.2.1 A.2.2.2.2
    | 13 => tl_srcX true c A.2.2.2.1 A.2.2.2.2
    | 20 => (match tl_key s.2.2.1 A with
      | some i => tl_w20 c i A.2.2.2.1 A.2.2.2.2
      | none => none)
    | 21 => (match tl_key s.2.2.1 A with
      | some i => tl_w21 c i A.2.2.2.1 A.2.2.2.2
      | none => none)
    | 22 => (match tl_key s.2.2.1 A with
      | some i => tl_w22 c i A.2.2.2.1 A.2.2.2.2
      | none => none)
    | 27 => tl_srcR c A.2.2.2.1 A.2.2.2.2
    | 24 => tl_w24 true c A.2.2.2.2
    | 25 => tl_w24 false c A.2.2.2.2
    | 26 => (match tl_key s.2.2.1 A with
      | some i => tl_w26 c i A.2.2.2.2
      | none => none)
    | _ => match tl_key s.2.2.1 A, tl_key s.2.2.2.1 A with
      | some d, some e => (match A.2.2.2.2.any (fun f => Nat.beq f.1 (s.2.2.2.2 + 1103) && (tj_eqa f.2.1 c && (tj_eqa f.2.2.1 d && tj_eqa f.2.2.2 e))) with
        | true => some ([(tj_l1 s.2.2.2.2, c), (tj_l2 s.2.2.2.2, d), (tj_l3 s.2.2.2.2, e)], tj_l0 s.2.2.2.2)
        | false => none)
      | _, _ => none
theorem tl_iv_av {Ψ : List Nat} {env : List tj_y} {ρ : Nat → zx_V} (he : tj_env Ψ env ρ) {a : tj_a} {lo hi : Nat} (h : tj_iv env a = some (lo, hi)) : ∃ x : Int32, tj_v ρ a = (.inl x) ∧ tl_av ρ a = x.toInt ∧ tl_i lo ≤ x.toInt ∧ x.toInt ≤ tl_i hi ∧ lo ≤ zx_b x ∧ zx_b x ≤ hi := by
  obtain ⟨x, h1, h2, h3⟩ := tj_iv_ok he h
  have := zx_b_int x
  exact ⟨x, h1, tl_av_i h1, by unfold tl_i; omega, by unfold tl_i; omega, h2, h3⟩
section tlSrc
variable {Ψ : List Nat} {env : List tj_y} {ρ : Nat → zx_V} {w : List zx_E} {F : List tj_f} {up : Bool} {c : tj_a} {l : tl_L} {K : Int}
theorem tl_srcA_ok (he : tj_env Ψ env ρ) (hF : ∀ g ∈ F, tj_fd ρ w g) (h : tl_srcA up c env F = some (l, K)) : tl_t ρ l ≤ K := by
  unfold tl_srcA at h
  split at h
  next a b hab =>
    split at h
    next la ha lb hb ia ib =>
      split at h
      next hz =>
        cases h
        obtain ⟨x, y, hx, hy, hc⟩ := tl_op_fd hF (n := 0) rfl hab
        obtain ⟨x', k1, k2, -, -, k3, k4⟩ := tl_iv_av he ia
        obtain ⟨y', m1, m2, -, -, m3, m4⟩ := tl_iv_av he ib
        rw [hx] at k1
        cases k1
        rw [hy] at m1
        cases m1
        have e := tl_av_i hc
        have hc2 : (tj_op 0 x y).toInt = x.toInt + y.toInt := by
          show (x + y).toInt = _
          have h1 := tj_b_add x y
          have h2 := zx_b_int x
          have h3 := zx_b_int y
          have h4 := zx_b_int (x + y)
          unfold tl_fitS at hz
          rw [Bool.and_eq_true] at hz
          have z1 := Nat.le_of_ble_eq_true hz.1
          have z2 := tj_blt_t hz.2
          omega
        refine tl_sgn_ok ?_ up
        show 1 * tl_av ρ c + (-1 * tl_av ρ a + (-1 * tl_av ρ b + 0)) = 0
        rw [e, k2, m2, hc2]
        omega
      next => cases h
    next => cases h
  next => cases h
theorem tl_srcS_ok (he : tj_env Ψ env ρ) (hF : ∀ g ∈ F, tj_fd ρ w g) (h : tl_srcS up c env F = some (l, K)) : tl_t ρ l ≤ K := by
  unfold tl_srcS at h
  split at h
  next a b hab =>
    split at h
    next la ha lb hb ia ib =>
      split at h
      next hz =>
        cases h
        obtain ⟨x, y, hx, hy, hc⟩ := tl_op_fd hF (n := 1) rfl hab
        obtain ⟨x', k1, k2, -, -, k3, k4⟩ := tl_iv_av he ia
        obtain ⟨y', m1, m2, -, -, m3, m4⟩ := tl_iv_av he ib
        rw [hx] at k1
        cases k1
        rw [hy] at m1
        cases m1
        have e := tl_av_i hc
        have hc2 : (tj_op 1 x y).toInt = x.toInt - y.toInt := by
          show (x - y).toInt = _
          have h1 := tj_b_sub x y
          have h2 := zx_b_int x
          have h3 := zx_b_int y
          have h4 := zx_b_int (x - y)
          unfold tl_fitD at hz
          rw [Bool.and_eq_true] at hz
          have z1 := Nat.le_of_ble_eq_true hz.1
          have z2 := tj_blt_t hz.2
          have z3 := tj_b_lt y
          omega
        refine tl_sgn_ok ?_ up
        show 1 * tl_av ρ c + (-1 * tl_av ρ a + (1 * tl_av ρ b + 0)) = 0
        rw [e, k2, m2, hc2]
        omega
      next => cases h
    next => cases h
  next => cases h
theorem tl_const {m : Nat} (hm : m < 2147483648) : zx_b (Int32.ofNat m) = 2147483648 + m ∧ (Int32.ofNat m).toInt = (m : Int) := by
  have h1 := tj_b_of m
  have h2 := zx_b_int (Int32.ofNat m)
  constructor <;> omega
theorem tl_mulc_ok {ρ : Nat → zx_V} {w : List zx_E} {F : List tj_f} (hF : ∀ g ∈ F, tj_fd ρ w g) {c a : tj_a} {m : Nat} (h : tl_mulc c F = some (a, m)) : ∃ x : Int32, tj_v ρ a = (.inl x) ∧ tj_v ρ c = (.inl (tj_op 2 x (Int32.ofNat m))) := by
  unfold tl_mulc at h
  split at h
  next a' m' hab =>
    cases h
    obtain ⟨x, y, hx, hy, hc⟩ := tl_op_fd hF (n := 2) rfl hab
    have hy : (Sum.inl (Int32.ofNat m) : zx_V) = Sum.inl y := hy
    have ey : Int32.ofNat m = y := Sum.inl.inj hy
    subst ey
    exact ⟨x, hx, hc⟩
  next m' a' hne hab =>
    cases h
    obtain ⟨x, y, hx, hy, hc⟩ := tl_op_fd hF (n := 2) rfl hab
    have hx : (Sum.inl (Int32.ofNat m) : zx_V) = Sum.inl x := hx
    have ex : Int32.ofNat m = x := Sum.inl.inj hx
    subst ex
    refine ⟨y, hy, ?_⟩
    rw [hc]
    show (Sum.inl (Int32.ofNat m * y) : zx_V) = Sum.inl (y * Int32.ofNat m)
    rw [Int32.mul_comm]
  next => cases h
theorem tl_srcM_ok (he : tj_env Ψ env ρ) (hF : ∀ g ∈ F, tj_fd ρ w g) (h : tl_srcM up c env F = some (l, K)) : tl_t ρ l ≤ K := by
  unfold tl_srcM at h
  split at h
  next a m hab =>
    split at h
    next la ha ia =>
      split at h
      next hz =>
        cases h
        obtain ⟨x, hx, hc⟩ := tl_mulc_ok hF hab
        obtain ⟨x', k1, k2, -, -, k3, k4⟩ := tl_iv_av he ia
        rw [hx] at k1
        cases k1
        simp only [Bool.and_eq_true] at hz
        have z1 := Nat.le_of_ble_eq_true hz.1
        have z2 := tj_blt_t hz.2.1
        have z3 := tj_blt_t hz.2.2
        obtain ⟨c1, c2⟩ := tl_const z2
        have hle : (zx_b x - 2147483648) * m ≤ (ha - 2147483648) * m := Nat.mul_le_mul_right m (by omega)
        obtain ⟨X, hX⟩ := Nat.exists_eq_add_of_le (Nat.le_trans z1 k3)
        obtain ⟨b1, b2⟩ := tj_b_mul (x := x) (y := Int32.ofNat m) (a := X) (b := X) (c := m) (d := m) (Nat.le_of_eq hX.symm) (Nat.le_of_eq hX) (Nat.le_of_eq c1.symm) (Nat.le_of_eq c1) (by rw [hX, Nat.add_sub_cancel_left] at hle; omega)
        have e := tl_av_i hc
        have h2 := zx_b_int x
        have h4 := zx_b_int (x * Int32.ofNat m)
        have hX2 : (X : Int) = x.toInt := by omega
        have hc2 : (tj_op 2 x (Int32.ofNat m)).toInt = x.toInt * (m : Int) := by
          show (x * Int32.ofNat m).toInt = _
          rw [← hX2, ← Int.natCast_mul]
          omega
        refine tl_sgn_ok ?_ up
        show 1 * tl_av ρ c + (-(m : Int) * tl_av ρ a + 0) = 0
        rw [e, k2, hc2, Int.neg_mul, Int.mul_comm (m : Int)]
        omega
      next => cases h
    next => cases h
  next => cases h
theorem tl_srcQ_ok (he : tj_env Ψ env ρ) (hF : ∀ g ∈ F, tj_fd ρ w g) (h : tl_srcQ up c env F = some (l, K)) : tl_t ρ l ≤ K := by
  unfold tl_srcQ at h
  split at h
  next a m hab =>
    split at h
    next la ha ia =>
      split at h
      next hz =>
        obtain ⟨x, y, hx, hy, hc⟩ := tl_op_fd hF (n := 5) rfl hab
        obtain ⟨x', k1, k2, -, -, k3, k4⟩ := tl_iv_av he ia
        rw [hx] at k1
        cases k1
        have hy : (Sum.inl (Int32.ofNat m) : zx_V) = Sum.inl y := hy
        have ey : Int32.ofNat m = y := Sum.inl.inj hy
        subst ey
        simp only [Bool.and_eq_true] at hz
        have z1 := Nat.le_of_ble_eq_true hz.1
        have z2 := tj_blt_t hz.2.1
        have z3 := tj_blt_t hz.2.2
        obtain ⟨c1, c2⟩ := tl_const z2
        have e := tl_av_i hc
        have h2 := zx_b_int x
        have hne : Int32.ofNat m ≠ -1 := fun e => by
          rw [e] at c2
          have : (-1 : Int32).toInt = -1 := by decide
          omega
        have hd := Int32.toInt_div_of_ne_right x (Int32.ofNat m) hne
        rw [c2] at hd
        have hm := Int.mul_tdiv_add_tmod x.toInt (m : Int)
        have hlt := Int.tmod_lt_of_pos x.toInt (show (0 : Int) < (m : Int) by omega)
        have hnn : 0 ≤ x.toInt.tmod (m : Int) := Int.tmod_nonneg _ (by omega)
        have hc2 : (tj_op 5 x (Int32.ofNat m)).toInt = x.toInt.tdiv (m : Int) := hd
        split at h
        next =>
          cases h
          show (m : Int) * tl_av ρ c + (-1 * tl_av ρ a + 0) ≤ 0
          rw [e, k2, hc2]
          omega
        next =>
          cases h
          show -(m : Int) * tl_av ρ c + (1 * tl_av ρ a + 0) ≤ (m : Int) - 1
          rw [e, k2, hc2, Int.neg_mul]
          omega
      next => cases h
    next => cases h
  next => cases h
theorem tl_srcR_ok {Ψ : List Nat} {env : List tj_y} {ρ : Nat → zx_V} {w : List zx_E} {F : List tj_f} {c : tj_a} {l : tl_L} {K : Int} (he : tj_env Ψ env ρ) (hF : ∀ g ∈ F, tj_fd ρ w g) (h : tl_srcR c env F = some (l, K)) : tl_t ρ l ≤ K := by
  unfold tl_srcR at h
  split at h
  next a b hab =>
    split at h
    next lb hb ib =>
      split at h
      next hz =>
        cases h
        obtain ⟨x, y, hx, hy, hc⟩ := tl_op_fd hF (n := 4) rfl hab
        obtain ⟨y', k1, k2, -, -, k3, k4⟩ := tl_iv_av he ib
        rw [hy] at k1
        cases k1
        have z1 := Nat.le_of_ble_eq_true hz
        have hr := (tj_b_rem (x := x) (y := y) (by omega)).1.1
        have b1 := zx_b_int (x - x / y * y)
        have b2 := zx_b_int y
        show 1 * tl_av ρ c + (-1 * tl_av ρ b + 0) ≤ -1
        rw [tl_av_i hc, k2]
        show 1 * (x - x / y * y).toInt + (-1 * y.toInt + 0) ≤ -1
        omega
      next => cases h
    next => cases h
  next => cases h
theorem tl_lt_int (x y : Int32) : x < y ↔ x.toInt < y.toInt := Int32.lt_iff_toInt_lt
theorem tl_srcI_ok (hF : ∀ g ∈ F, tj_fd ρ w g) (h : tl_srcI up c env F = some (l, K)) : tl_t ρ l ≤ K := by
  unfold tl_srcI at h
  split at h
  next a b hab =>
    obtain ⟨x, y, hx, hy, hc⟩ := tl_op_fd hF (n := 12) rfl hab
    have e := tl_av_i hc
    have e1 := tl_av_i hx
    have e2 := tl_av_i hy
    have hq : (tj_op 12 x y).toInt ≤ x.toInt ∧ (tj_op 12 x y).toInt ≤ y.toInt := by
      show (if y < x then y else x).toInt ≤ _ ∧ (if y < x then y else x).toInt ≤ _
      split
      next h => have := (tl_lt_int y x).mp h; omega
      next h =>
        have h2 : ¬ y.toInt < x.toInt := fun q => h ((tl_lt_int y x).mpr q)
        omega
    split at h
    next =>
      cases h
      show 1 * tl_av ρ c + (-1 * tl_av ρ b + 0) ≤ 0
      rw [e, e2]
      omega
    next =>
      cases h
      show 1 * tl_av ρ c + (-1 * tl_av ρ a + 0) ≤ 0
      rw [e, e1]
      omega
  next => cases h
theorem tl_srcX_ok (hF : ∀ g ∈ F, tj_fd ρ w g) (h : tl_srcX up c env F = some (l, K)) : tl_t ρ l ≤ K := by
  unfold tl_srcX at h
  split at h
  next a b hab =>
    obtain ⟨x, y, hx, hy, hc⟩ := tl_op_fd hF (n := 11) rfl hab
    have e := tl_av_i hc
    have e1 := tl_av_i hx
    have e2 := tl_av_i hy
    have hq : x.toInt ≤ (tj_op 11 x y).toInt ∧ y.toInt ≤ (tj_op 11 x y).toInt := by
      show _ ≤ (if x < y then y else x).toInt ∧ _ ≤ (if x < y then y else x).toInt
      split
      next h => have := (tl_lt_int x y).mp h; omega
      next h =>
        have h2 : ¬ x.toInt < y.toInt := fun q => h ((tl_lt_int x y).mpr q)
        omega
    split at h
    next =>
      cases h
      show -1 * tl_av ρ c + (1 * tl_av ρ b + 0) ≤ 0
      rw [e, e2]
      omega
    next =>
      cases h
      show -1 * tl_av ρ c + (1 * tl_av ρ a + 0) ≤ 0
      rw [e, e1]
      omega
  next => cases h
end tlSrc
theorem tl_src_ok {Ψ : List Nat} {A : tj_S} {ρ : Nat → zx_V} {w : List zx_E} (he : tj_env Ψ A.2.2.2.1 ρ) (hF : ∀ g ∈ A.2.2.2.2, tj_fd ρ w g) {s : tl_S} {l : tl_L} {K : Int} (h : tl_src s A = some (l, K)) : tl_t ρ l ≤ K := by
  unfold tl_src at h
  split at h
  next => cases h
  next c hc =>
    split at h
    next =>
      split at h
      next lo hi hi' =>
        cases h
        obtain ⟨x, k1, k2, k3, k4, -, -⟩ := tl_iv_av he hi'
        show 1 * tl_av ρ c + 0 ≤ tl_i hi
        rw [k2]
        omega
      next => cases h
    next =>
      split at h
      next lo hi hi' =>
        cases h
        obtain ⟨x, k1, k2, k3, k4, -, -⟩ := tl_iv_av he hi'
        show -1 * tl_av ρ c + 0 ≤ - tl_i lo
        rw [k2]
        omega
      next => cases h
    next => exact tl_srcA_ok he hF h
    next => exact tl_srcA_ok he hF h
    next => exact tl_srcS_ok he hF h
    next => exact tl_srcS_ok he hF h
    next => exact tl_srcM_ok he hF h
    next => exact tl_srcM_ok he hF h
    next => exact tl_srcQ_ok he hF h
    next => exact tl_srcQ_ok he hF h
    next => exact tl_srcI_ok hF h
    next => exact tl_srcI_ok hF h
    next => exact tl_srcX_ok hF h
    next => exact tl_srcX_ok hF h
    next =>
      split at h
      next i hi => exact tl_w20_ok he hF h
      next => cases h
    next =>
      split at h
      next i hi => exact tl_w21_ok hF h
      next => cases h
    next =>
      split at h
      next i hi => exact tl_w22_ok he hF h
      next => cases h
    next => exact tl_srcR_ok he hF h
    next => exact tl_w24_ok he hF h
    next => exact tl_w24_ok he hF h
    next =>
      split at h
      next i hi => exact tl_w26_ok hF h
      next => cases h
    next =>
      split at h
      next d e hd he' =>
        split at h
        next hz =>
          cases h
          obtain ⟨f, hf, hm⟩ := List.any_eq_true.mp hz
          obtain ⟨k, x, y, z⟩ := f
          simp only [Bool.and_eq_true] at hm
          obtain ⟨m1, m2, m3, m4⟩ := hm
          have m1 : k = s.2.2.2.2 + 1103 := Nat.eq_of_beq_eq_true m1
          have m2 : x = c := tj_eqa_ok m2
          have m3 : y = d := tj_eqa_ok m3
          have m4 : z = e := tj_eqa_ok m4
          subst m2
          subst m3
          subst m4
          obtain ⟨a1, a2, a3, q1, q2, q3, q4⟩ := tl_lin_fd m1 (hF _ hf)
          show tj_l1 s.2.2.2.2 * tl_av ρ x + (tj_l2 s.2.2.2.2 * tl_av ρ y + (tj_l3 s.2.2.2.2 * tl_av ρ z + 0)) ≤ tj_l0 s.2.2.2.2
          rw [tl_av_i q1, tl_av_i q2, tl_av_i q3]
          omega
        next => cases h
      next => cases h
/-! hints: multipliers and sources; a divisor; what comes of it: values with coefficients, a bound -/
abbrev tl_H : Type := List (Nat × tl_S) × Nat × List (Int × tl_K) × Int
def tl_sum (A : tj_S) : List (Nat × tl_S) → tl_F × Int → Option (tl_F × Int)
  | [], q => some q
  | (m, s) :: r, q => match tl_src s A with
    | some (l, K) => (match tl_add m l q with
      | (f, k) => tl_sum A r (f, k + m * K))
    | none => none
theorem tl_sum_ok {Ψ : List Nat} {A : tj_S} {ρ : Nat → zx_V} {w : List zx_E} (he : tj_env Ψ A.2.2.2.1 ρ) (hF : ∀ g ∈ A.2.2.2.2, tj_fd ρ w g) : ∀ {r : List (Nat × tl_S)} {q q' : tl_F × Int}, tl_sum A r q = some q' → tl_w ρ q ≤ 0 → tl_w ρ q' ≤ 0
  | [], q, q', h, hq => by cases h; exact hq
  | (m, s) :: r, q, q', h, hq => by
    unfold tl_sum at h
    split at h
    next l K hs =>
      have h1 := tl_src_ok he hF hs
      have h2 := tl_add_ok (ρ := ρ) (lam := (m : Int)) (l := l) (q := q)
      generalize tl_add (m : Int) l q = p at h h2
      obtain ⟨f, k⟩ := p
      refine tl_sum_ok he hF h ?_
      have h3 : (m : Int) * tl_t ρ l ≤ (m : Int) * K := Int.mul_le_mul_of_nonneg_left h1 (by omega)
      show tl_s ρ f - (k + (m : Int) * K) ≤ 0
      have h2 : tl_s ρ f - k = tl_w ρ q + (m : Int) * tl_t ρ l := h2
      generalize (m : Int) * K = u at *
      generalize (m : Int) * tl_t ρ l = v at *
      omega
    next => cases h
def tl_tgt (A : tj_S) : List (Int × tl_K) → Option tl_L
  | [] => some []
  | (c, k) :: r => match tl_key k A, tl_tgt A r with
    | some v, some l => some ((c, v) :: l)
    | _, _ => none
def tl_der (h : tl_H) (A : tj_S) : Option tl_L := match tl_sum A h.1 ([], 0), tl_tgt A h.2.2.1 with
  | some q, some l => (match tl_add (-(h.2.1 : Int)) l q with
    | (f, k) => (match tl_z f && (Nat.blt 0 h.2.1 && decide (k < (h.2.1 : Int) * (h.2.2.2 + 1))) with
      | true => some l
      | false => none))
  | _, _ => none
theorem tl_der_ok {Ψ : List Nat} {A : tj_S} {ρ : Nat → zx_V} {w : List zx_E} (he : tj_env Ψ A.2.2.2.1 ρ) (hF : ∀ g ∈ A.2.2.2.2, tj_fd ρ w g) {h : tl_H} {l : tl_L} (hd : tl_der h A = some l) : tl_t ρ l ≤ h.2.2.2 := by
  unfold tl_der at hd
  split at hd
  next q l' hq ht =>
    have h1 := tl_sum_ok he hF hq (by show tl_s ρ [] - 0 ≤ 0; exact Int.le_refl _)
    have h2 := tl_add_ok (ρ := ρ) (lam := -(h.2.1 : Int)) (l := l') (q := q)
    generalize tl_add (-(h.2.1 : Int)) l' q = p at hd h2
    obtain ⟨f, k⟩ := p
    simp only at hd
    split at hd
    next hz =>
      cases hd
      simp only [Bool.and_eq_true] at hz
      have z1 := tl_z_ok (ρ := ρ) hz.1
      have z2 := tj_blt_t hz.2.1
      have z3 : k < (h.2.1 : Int) * (h.2.2.2 + 1) := of_decide_eq_true hz.2.2
      have h2 : tl_s ρ f - k = tl_w ρ q + -(h.2.1 : Int) * tl_t ρ l := h2
      rw [z1, Int.neg_mul] at h2
      have h3 : (h.2.1 : Int) * tl_t ρ l < (h.2.1 : Int) * (h.2.2.2 + 1) := by
        generalize (h.2.1 : Int) * tl_t ρ l = v at *
        generalize (h.2.1 : Int) * (h.2.2.2 + 1) = u at *
        omega
      have h4 := Int.lt_of_mul_lt_mul_left h3 (by omega)
      omega
    next => cases hd
  next => cases hd
def tl_code (a b c k : Int) : Nat := (((a + 512).toNat * 1024 + (b + 512).toNat) * 1024 + (c + 512).toNat) * 18446744073709551616 + (k + 9223372036854775808).toNat
def tl_good (n : Nat) (a b c k : Int) : Bool := decide (tj_l1 n = a) && (decide (tj_l2 n = b) && (decide (tj_l3 n = c) && decide (tj_l0 n = k)))
def tl_lay (l : tl_L) (K : Int) (A : tj_S) (n k : Nat) : List tj_S := match l with
  | [(a, x), (b, y)] => (match (Nat.beq k (n + 1103) && tl_good n a b 0 K) && ((tj_iv A.2.2.2.1 x).isSome && (tj_iv A.2.2.2.1 y).isSome) with
    | true => [(A.1, A.2.1, A.2.2.1, A.2.2.2.1, (k, x, y, .inl 0) :: A.2.2.2.2)]
    | false => [A])
  | [(a, x), (b, y), (c, z)] => (match (Nat.beq k (n + 1103) && tl_good n a b c K) && ((tj_iv A.2.2.2.1 x).isSome && ((tj_iv A.2.2.2.1 y).isSome && (tj_iv A.2.2.2.1 z).isSome)) with
    | true => [(A.1, A.2.1, A.2.2.1, A.2.2.2.1, (k, x, y, z) :: A.2.2.2.2)]
    | false => [A])
  | _ => [A]
def tl_hi (k : Nat) (K : Int) (env : List tj_y) : List tj_y := match env[k]? with
  | some (0, lo, hi) => env.set k (0, lo, tj_mn hi (K + 2147483648).toNat)
  | _ => env
def tl_lo (k : Nat) (K : Int) (env : List tj_y) : List tj_y := match env[k]? with
  | some (0, lo, hi) => env.set k (0, tj_mx lo (2147483648 - K).toNat, hi)
  | _ => env
def tl_use (l : tl_L) (K : Int) (A : tj_S) : List tj_S := match l with
  | [] => (match decide (K < 0) with
    | true => []
    | false => [A])
  | [(c, .inr k)] => (match decide (c = 1) with
    | true => [(A.1, A.2.1, A.2.2.1, tl_hi k K A.2.2.2.1, A.2.2.2.2)]
    | false => (match decide (c = -1) with
      | true => [(A.1, A.2.1, A.2.2.1, tl_lo k K A.2.2.2.1, A.2.2.2.2)]
      | false => [A]))
  | [(a, x), (b, y)] => tl_lay l K A (tl_code a b 0 K) (tl_code a b 0 K + 1103)
  | [(a, x), (b, y), (c, z)] => tl_lay l K A (tl_code a b c K) (tl_code a b c K + 1103)
  | _ => [A]
/-- a divisor 0: two cases, below the bound and not -/
def tl_spl (a : tj_a) (c : Int) (A : tj_S) : List tj_S := match a with
  | .inr k => (match A.2.2.2.1[k]? with
    | some (0, lo, hi) => (match decide (tl_i lo < c) with
      | true => [(A.1, A.2.1, A.2.2.1, tl_hi k (c - 1) A.2.2.2.1, A.2.2.2.2)]
      | false => []) ++ (match decide (c ≤ tl_i hi) with
      | true => [(A.1, A.2.1, A.2.2.1, tl_lo k (-c) A.2.2.2.1, A.2.2.2.2)]
      | false => [])
    | _ => [A])
  | _ => [A]
/-- a divisor 0, two values: a name for their sum -/
def tl_gho (a b : tj_a) (A : tj_S) : List tj_S := match tj_iv A.2.2.2.1 a, tj_iv A.2.2.2.1 b, tj_fk 3 a b A.2.2.2.2 with
  | some (la, ha), some (lb, hb), none => (match tj_limS A.2.2.2.1.length A.2.1 A.2.2.1 A.2.2.2.2 with
    | true => [(A.1, A.2.1, A.2.2.1, A.2.2.2.1 ++ [(0, (tj_ivo 0 la ha lb hb).1, (tj_ivo 0 la ha lb hb).2)], (3, a, b, .inr A.2.2.2.1.length) :: A.2.2.2.2)]
    | false => [A])
  | _, _, _ => [A]
/-- an int of an array looked up, where no fact says it -/
def tl_ael (Λ : List tj_D) (r i : tj_a) (A : tj_S) : List tj_S := match A with
  | (pc, L, st, env, F) => match r with
    | .inr q => (match tj_ix Λ env i q with
      | some (_, kd, _, s, a, b) => (match tj_rd s a b, tj_kd kd && tj_limS env.length L st F with
        | some (lo, hi), true => [(pc, L, st, env ++ [(0, lo, hi)], (1, r, i, .inr env.length) :: F)]
        | _, _ => [A])
      | none => [A])
    | .inl _ => [A]
def tl_one (Λ : List tj_D) (h : tl_H) (A : tj_S) : List tj_S := match Nat.beq h.2.1 0 with
  | true => (match h.2.2.1 with
    | [(_, k)] => (match tl_key k A with
      | some a => tl_spl a h.2.2.2 A
      | none => [A])
    | [(_, k), (_, j)] => (match tl_key k A, tl_key j A with
      | some a, some b => tl_gho a b A
      | _, _ => [A])
    | [(f, k), (g, _), _] => (match tl_key k A with
      | some (.inr r) => (match Nat.beq g.toNat 1 && (tj_fk 0 (.inr r) (.inl f.toNat) A.2.2.2.2).isSome with
        | true => [A]
        | false => (match tj_mat Λ r f.toNat A with
          | some (_, A1) => [A1]
          | none => [A]))
      | _ => [A])
    | [(_, k), (_, j), (g, _), _] => (match tl_key k A, tl_key j A with
      | some a, some b => (match Nat.beq g.toNat 1 && (tj_fk 1 a b A.2.2.2.2).isSome with
        | true => [A]
        | false => tl_ael Λ a b A)
      | _, _ => [A])
    | _ => [A])
  | false => match tl_der h A with
    | some l => tl_use l h.2.2.2 A
    | none => [A]
def tl_all (Λ : List tj_D) : List tl_H → tj_S → List tj_S
  | [], A => [A]
  | h :: r, A => (tl_one Λ h A).flatMap (tl_all Λ r)
section tlUse
variable {Λ : List tj_D} {cap : Nat × Nat} {E : tj_Ef} {Ψ0 : List Nat} {w0 : List zx_E}
variable {Ψ : List Nat} {A : tj_S} {ρ : Nat → zx_V} {σ : zx_S}
theorem tl_env_set {env : List tj_y} {k : Nat} {t : tj_y} (he : tj_env Ψ env ρ) (ht : tj_vt Ψ t (ρ k)) : tj_env Ψ (env.set k t) ρ := by
  intro j t' hj
  by_cases e : k = j
  · subst e
    have hlt : k < env.length := by
      have := (List.getElem?_eq_some_iff.mp hj).1
      rwa [List.length_set] at this
    rw [List.getElem?_set_self hlt] at hj
    cases hj
    exact ht
  · rw [List.getElem?_set_ne e] at hj
    exact he j t' hj
theorem tl_hi_ok {env : List tj_y} {k : Nat} {K : Int} (he : tj_env Ψ env ρ) (h : tl_av ρ (.inr k) ≤ K) : tj_env Ψ (tl_hi k K env) ρ ∧ (tl_hi k K env).length = env.length := by
  unfold tl_hi
  split
  next lo hi hk =>
    refine ⟨tl_env_set he ?_, List.length_set⟩
    obtain ⟨x, e, h1, h2⟩ := he k _ hk
    have e2 := tl_av_i (ρ := ρ) (a := .inr k) e
    have := zx_b_int x
    obtain ⟨-, -, m⟩ := tj_mn_ok hi (K + 2147483648).toNat
    refine ⟨x, e, h1, ?_⟩
    rcases m with m | m <;> rw [m] <;> omega
  next => exact ⟨he, rfl⟩
theorem tl_lo_ok {env : List tj_y} {k : Nat} {K : Int} (he : tj_env Ψ env ρ) (h : - tl_av ρ (.inr k) ≤ K) : tj_env Ψ (tl_lo k K env) ρ ∧ (tl_lo k K env).length = env.length := by
  unfold tl_lo
  split
  next lo hi hk =>
    refine ⟨tl_env_set he ?_, List.length_set⟩
    obtain ⟨x, e, h1, h2⟩ := he k _ hk
    have e2 := tl_av_i (ρ := ρ) (a := .inr k) e
    have := zx_b_int x
    obtain ⟨-, -, m⟩ := tj_mx_ok lo (2147483648 - K).toNat
    refine ⟨x, e, ?_, h2⟩
    rcases m with m | m <;> rw [m] <;> omega
  next => exact ⟨he, rfl⟩
theorem tl_some_i {env : List tj_y} (he : tj_env Ψ env ρ) {a : tj_a} (h : (tj_iv env a).isSome = true) : ∃ x : Int32, tj_v ρ a = (.inl x) ∧ tl_av ρ a = x.toInt := by
  cases hi : tj_iv env a with
  | none => rw [hi] at h; cases h
  | some q =>
    obtain ⟨lo, hi'⟩ := q
    obtain ⟨x, h1, h2, -⟩ := tl_iv_av he hi
    exact ⟨x, h1, h2⟩
theorem tl_lay_ok {l : tl_L} {K : Int} {n k : Nat} (hl : tl_t ρ l ≤ K) (hG : tj_G Λ cap E Ψ0 w0 A Ψ ρ σ) : ∃ B ∈ tl_lay l K A n k, tj_G Λ cap E Ψ0 w0 B Ψ ρ σ ∧ B.1 = A.1 ∧ B.2.2.2.1.length = A.2.2.2.1.length := by
  unfold tl_lay
  split
  next a x b y =>
    split
    next hz =>
      obtain ⟨ls, w, mc, ms, hσ, hW, hL, hls, he, hF⟩ := hG
      refine ⟨_, List.mem_cons_self, ⟨ls, w, mc, ms, hσ, hW, hL, hls, he, fun g hg => ?_⟩, rfl, rfl⟩
      rcases List.mem_cons.mp hg with e | e
      · subst e
        simp only [tl_good, Bool.and_eq_true] at hz
        obtain ⟨⟨hk, g1, g2, g3, g4⟩, i1, i2⟩ := hz
        obtain ⟨u, u1, u2⟩ := tl_some_i he i1
        obtain ⟨v, v1, v2⟩ := tl_some_i he i2
        refine tl_fd_lin (Nat.eq_of_beq_eq_true hk) ⟨u, v, Int32.ofNat 0, u1, v1, rfl, ?_⟩
        rw [of_decide_eq_true g1, of_decide_eq_true g2, of_decide_eq_true g3, of_decide_eq_true g4]
        have hl : a * tl_av ρ x + (b * tl_av ρ y + 0) ≤ K := hl
        rw [u2, v2] at hl
        omega
      · exact hF g e
    next => exact ⟨A, List.mem_cons_self, hG, rfl, rfl⟩
  next a x b y c z =>
    split
    next hz =>
      obtain ⟨ls, w, mc, ms, hσ, hW, hL, hls, he, hF⟩ := hG
      refine ⟨_, List.mem_cons_self, ⟨ls, w, mc, ms, hσ, hW, hL, hls, he, fun g hg => ?_⟩, rfl, rfl⟩
      rcases List.mem_cons.mp hg with e | e
      · subst e
        simp only [tl_good, Bool.and_eq_true] at hz
        obtain ⟨⟨hk, g1, g2, g3, g4⟩, i1, i2, i3⟩ := hz
        obtain ⟨u, u1, u2⟩ := tl_some_i he i1
        obtain ⟨v, v1, v2⟩ := tl_some_i he i2
        obtain ⟨t, t1, t2⟩ := tl_some_i he i3
        refine tl_fd_lin (Nat.eq_of_beq_eq_true hk) ⟨u, v, t, u1, v1, t1, ?_⟩
        rw [of_decide_eq_true g1, of_decide_eq_true g2, of_decide_eq_true g3, of_decide_eq_true g4]
        have hl : a * tl_av ρ x + (b * tl_av ρ y + (c * tl_av ρ z + 0)) ≤ K := hl
        rw [u2, v2, t2] at hl
        omega
      · exact hF g e
    next => exact ⟨A, List.mem_cons_self, hG, rfl, rfl⟩
  next => exact ⟨A, List.mem_cons_self, hG, rfl, rfl⟩
theorem tl_use_ok {l : tl_L} {K : Int} (hl : tl_t ρ l ≤ K) (hG : tj_G Λ cap E Ψ0 w0 A Ψ ρ σ) : ∃ B ∈ tl_use l K A, tj_G Λ cap E Ψ0 w0 B Ψ ρ σ ∧ B.1 = A.1 ∧ B.2.2.2.1.length = A.2.2.2.1.length := by
  unfold tl_use
  split
  next =>
    split
    next hz =>
      have hK : K < 0 := of_decide_eq_true hz
      have hl : (0 : Int) ≤ K := hl
      omega
    next => exact ⟨A, List.mem_cons_self, hG, rfl, rfl⟩
  next c k =>
    have hl : c * tl_av ρ (.inr k) + 0 ≤ K := hl
    split
    next hz =>
      have hc : c = 1 := of_decide_eq_true hz
      subst hc
      obtain ⟨ls, w, mc, ms, hσ, hW, hL, hls, he, hF⟩ := hG
      obtain ⟨k1, k2⟩ := tl_hi_ok he (k := k) (K := K) (by omega)
      exact ⟨_, List.mem_cons_self, ⟨ls, w, mc, ms, hσ, hW, hL, hls, k1, hF⟩, rfl, k2⟩
    next =>
      split
      next hz =>
        have hc : c = -1 := of_decide_eq_true hz
        subst hc
        obtain ⟨ls, w, mc, ms, hσ, hW, hL, hls, he, hF⟩ := hG
        obtain ⟨k1, k2⟩ := tl_lo_ok he (k := k) (K := K) (by omega)
        exact ⟨_, List.mem_cons_self, ⟨ls, w, mc, ms, hσ, hW, hL, hls, k1, hF⟩, rfl, k2⟩
      next => exact ⟨A, List.mem_cons_self, hG, rfl, rfl⟩
  next => exact tl_lay_ok hl hG
  next => exact tl_lay_ok hl hG
  next => exact ⟨A, List.mem_cons_self, hG, rfl, rfl⟩
theorem tl_spl_ok {a : tj_a} {c : Int} (hG : tj_G Λ cap E Ψ0 w0 A Ψ ρ σ) : ∃ B ∈ tl_spl a c A, tj_G Λ cap E Ψ0 w0 B Ψ ρ σ ∧ B.1 = A.1 ∧ B.2.2.2.1.length = A.2.2.2.1.length := by
  unfold tl_spl
  split
  next k =>
    split
    next lo hi hk =>
      obtain ⟨ls, w, mc, ms, hσ, hW, hL, hls, he, hF⟩ := hG
      obtain ⟨x, e, h1, h2⟩ := he k _ hk
      have e2 := tl_av_i (ρ := ρ) (a := .inr k) e
      have hb := zx_b_int x
      by_cases hx : x.toInt < c
      · have hd : decide (tl_i lo < c) = true := decide_eq_true (by unfold tl_i; omega)
        rw [hd]
        obtain ⟨k1, k2⟩ := tl_hi_ok he (k := k) (K := c - 1) (by omega)
        exact ⟨_, List.mem_append_left _ List.mem_cons_self, ⟨ls, w, mc, ms, hσ, hW, hL, hls, k1, hF⟩, rfl, k2⟩
      · have hd : decide (c ≤ tl_i hi) = true := decide_eq_true (by unfold tl_i; omega)
        rw [hd]
        obtain ⟨k1, k2⟩ := tl_lo_ok he (k := k) (K := -c) (by omega)
        exact ⟨_, List.mem_append_right _ List.mem_cons_self, ⟨ls, w, mc, ms, hσ, hW, hL, hls, k1, hF⟩, rfl, k2⟩
    next => exact ⟨A, List.mem_cons_self, hG, rfl, rfl⟩
  next => exact ⟨A, List.mem_cons_self, hG, rfl, rfl⟩
/-- the same state, perhaps with more names -/
def tl_Nx (Λ : List tj_D) (cap : Nat × Nat) (E : tj_Ef) (Ψ0 : List Nat) (w0 : List zx_E) (A : tj_S) (Ψ : List Nat) (ρ : Nat → zx_V) (σ : zx_S) (Bs : List tj_S) : Prop := ∃ B ∈ Bs, ∃ ρ', tj_G Λ cap E Ψ0 w0 B Ψ ρ' σ ∧ A.2.2.2.1.length ≤ B.2.2.2.1.length ∧ ∀ k, k < A.2.2.2.1.length → ρ' k = ρ k
theorem tl_Nx_of {Bs : List tj_S} (h : ∃ B ∈ Bs, tj_G Λ cap E Ψ0 w0 B Ψ ρ σ ∧ B.1 = A.1 ∧ B.2.2.2.1.length = A.2.2.2.1.length) : tl_Nx Λ cap E Ψ0 w0 A Ψ ρ σ Bs := by
  obtain ⟨B, b1, b2, b3, b4⟩ := h
  exact ⟨B, b1, ρ, b2, Nat.le_of_eq b4.symm, fun _ _ => rfl⟩
theorem tl_gho_ok {a b : tj_a} (hG : tj_G Λ cap E Ψ0 w0 A Ψ ρ σ) : tl_Nx Λ cap E Ψ0 w0 A Ψ ρ σ (tl_gho a b A) := by
  have same : tl_Nx Λ cap E Ψ0 w0 A Ψ ρ σ [A] := tl_Nx_of ⟨A, List.mem_cons_self, hG, rfl, rfl⟩
  unfold tl_gho
  split
  next la ha lb hb ia ib hn =>
    split
    next hlim =>
      obtain ⟨pc, L, st, env, F⟩ := A
      obtain ⟨ls, w, mc, ms, hσ, hW, hL, hls, he, hF⟩ := hG
      simp only [tj_limS, Bool.and_eq_true] at hlim
      obtain ⟨l1, l2, l3⟩ := hlim
      obtain ⟨x, hx, a1, a2⟩ := tj_iv_ok he ia
      obtain ⟨y, hy, b1, b2⟩ := tj_iv_ok he ib
      obtain ⟨c1, c2⟩ := tj_ivo_ok (n := 0) a1 a2 b1 b2
      let ρ' : Nat → zx_V := fun k => if k = env.length then (.inl (tj_op 0 x y)) else ρ k
      have hr : ∀ k, k < env.length → ρ' k = ρ k := fun k hk => if_neg (Nat.ne_of_lt hk)
      have hnn : ρ' env.length = (.inl (tj_op 0 x y)) := if_pos rfl
      have hla : tj_lim env.length a = true := tj_iv_lim ia
      have hlb : tj_lim env.length b = true := tj_iv_lim ib
      refine ⟨_, List.mem_cons_self, ρ', ⟨ls, w, mc, ms, ?_, hW, tj_L_lim hr l1 hL, hls, tj_env_new he hr (by rw [hnn]; exact ⟨_, rfl, c1, c2⟩), fun g hg => ?_⟩, ?_, hr⟩
      · rw [hσ]
        show _ = (pc, ls, st.map (tj_v ρ'), w, mc, ms)
        rw [tj_st_lim hr l2]
      · rcases List.mem_cons.mp hg with e | e
        · subst e
          have e3 : tj_fd ρ' w (0 + 3, a, b, .inr env.length) := by
            rw [tl_fd3, tj_of_op rfl]
            exact ⟨x, y, by rw [tj_lim_v hr hla]; exact hx, by rw [tj_lim_v hr hlb]; exact hy, hnn⟩
          exact e3
        · exact tj_lim_f hr (List.all_eq_true.mp l3 g e) (hF g e)
      · show env.length ≤ (env ++ _).length
        rw [List.length_append]
        exact Nat.le_add_right _ _
    next => exact same
  next => exact same
theorem tl_ael_ok {r i : tj_a} (hG : tj_G Λ cap E Ψ0 w0 A Ψ ρ σ) : tl_Nx Λ cap E Ψ0 w0 A Ψ ρ σ (tl_ael Λ r i A) := by
  have same : tl_Nx Λ cap E Ψ0 w0 A Ψ ρ σ [A] := tl_Nx_of ⟨A, List.mem_cons_self, hG, rfl, rfl⟩
  obtain ⟨pc, L, st, env, F⟩ := A
  unfold tl_ael
  split
  next pc' L' st' env' F' heq =>
    cases heq
    split
    next q =>
      split
      next l kd n s a b hix =>
        split
        next lo hi hrd hz =>
          rw [Bool.and_eq_true] at hz
          obtain ⟨z1, hlim⟩ := hz
          obtain ⟨ls, w, mc, ms, hσ, hW, hL, hls, he, hF⟩ := hG
          simp only [tj_limS, Bool.and_eq_true] at hlim
          obtain ⟨l1, l2, l3⟩ := hlim
          obtain ⟨p, x, hq, hΨ, hd, hx, hin, hlt, h1, h2⟩ := tj_ix_ok hix he
          obtain ⟨g, hg, hb⟩ := tj_iarr hW.1 hΨ hd (tj_kd_ok z1)
          obtain ⟨c, d, r1, r2, r3⟩ := tj_rd_ok hrd _ h1 h2
          obtain ⟨b1, b2⟩ := hb _ hlt c d r1
          let ρ' : Nat → zx_V := fun k => if k = env.length then (.inl (g x.toNatClampNeg)) else ρ k
          have hr : ∀ k, k < env.length → ρ' k = ρ k := fun k hk => if_neg (Nat.ne_of_lt hk)
          have hnn : ρ' env.length = (.inl (g x.toNatClampNeg)) := if_pos rfl
          have hql : q < env.length := Nat.le_of_ble_eq_true (tj_ix_r hix).1
          have hil := (tj_ix_r hix).2
          refine ⟨_, List.mem_cons_self, ρ', ⟨ls, w, mc, ms, ?_, hW, tj_L_lim hr l1 hL, hls, tj_env_new he hr (by rw [hnn]; exact ⟨_, rfl, by omega, by omega⟩), fun f hf => ?_⟩, ?_, hr⟩
          · rw [hσ]
            show _ = (pc, ls, st.map (tj_v ρ'), w, mc, ms)
            rw [tj_st_lim hr l2]
          · rcases List.mem_cons.mp hf with e | e
            · subst e
              exact ⟨p, x, by show ρ' q = _; rw [hr q hql]; exact hq, by rw [tj_lim_v hr hil]; exact hx, Or.inl ⟨kd, n, g, hg, hnn⟩⟩
            · exact tj_lim_f hr (List.all_eq_true.mp l3 f e) (hF f e)
          · show env.length ≤ (env ++ _).length
            rw [List.length_append]
            exact Nat.le_add_right _ _
        next => exact same
      next => exact same
    next => exact same
theorem tl_one_ok {h : tl_H} (hG : tj_G Λ cap E Ψ0 w0 A Ψ ρ σ) : tl_Nx Λ cap E Ψ0 w0 A Ψ ρ σ (tl_one Λ h A) := by
  have same : tl_Nx Λ cap E Ψ0 w0 A Ψ ρ σ [A] := tl_Nx_of ⟨A, List.mem_cons_self, hG, rfl, rfl⟩
  unfold tl_one
  split
  next =>
    split
    next =>
      split
      next => exact tl_Nx_of (tl_spl_ok hG)
      next => exact same
    next =>
      split
      next => exact tl_gho_ok hG
      next => exact same
    next =>
      split
      next r hk =>
        split
        next => exact same
        next =>
          split
          next v A1 hm =>
            obtain ⟨ρ', m1, m2, m3⟩ := tj_mat_ok hm hG
            exact ⟨A1, List.mem_cons_self, ρ', m1, m2, m3⟩
          next => exact same
      next => exact same
    next =>
      split
      next =>
        split
        next => exact same
        next => exact tl_ael_ok hG
      next => exact same
    next => exact same
  next =>
    split
    next l hd =>
      have hG' := hG
      obtain ⟨ls, w, mc, ms, hσ, hW, hL, hls, he, hF⟩ := hG'
      exact tl_Nx_of (tl_use_ok (tl_der_ok he hF hd) hG)
    next => exact same
end tlUse
theorem tl_all_ok {Λ : List tj_D} {cap : Nat × Nat} {E : tj_Ef} {Ψ0 : List Nat} {w0 : List zx_E} {Ψ : List Nat} {σ : zx_S} : ∀ {hs : List tl_H} {A : tj_S} {ρ : Nat → zx_V}, tj_G Λ cap E Ψ0 w0 A Ψ ρ σ → tl_Nx Λ cap E Ψ0 w0 A Ψ ρ σ (tl_all Λ hs A)
  | [], A, ρ, hG => tl_Nx_of ⟨A, List.mem_cons_self, hG, rfl, rfl⟩
  | h :: hs, A, ρ, hG => by
    obtain ⟨B, b1, ρ1, b2, b4, b5⟩ := tl_one_ok (h := h) hG
    obtain ⟨C, c1, ρ2, c2, c4, c5⟩ := tl_all_ok (hs := hs) b2
    exact ⟨C, List.mem_flatMap.mpr ⟨B, b1, c1⟩, ρ2, c2, Nat.le_trans b4 c4, fun k hk => (c5 k (Nat.lt_of_lt_of_le hk b4)).trans (b5 k hk)⟩
