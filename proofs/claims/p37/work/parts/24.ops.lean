/-! the abstract executor: operations -/
theorem tj_b_lt (x : Int32) : zx_b x < 4294967296 := by
  have h := zx_b_int x
  have h2 := Int32.toInt_lt x
  have h3 := Int32.le_toInt x
  omega
theorem tj_b_of (n : Nat) : zx_b (Int32.ofNat n) = (n + 2147483648) % 4294967296 := by
  have h1 := zx_b_int (Int32.ofNat n)
  rw [Int32.toInt_ofNat'] at h1
  rw [Int.bmod_def] at h1
  simp only [Int32.size] at h1
  split at h1 <;> omega
theorem tj_b_inj {x y : Int32} (h : zx_b x = zx_b y) : x = y := by
  have h1 := zx_b_int x
  have h2 := zx_b_int y
  exact Int32.toInt_inj.mp (by omega)
theorem tj_b_add (x y : Int32) : zx_b (x + y) = (zx_b x + zx_b y + 2147483648) % 4294967296 := by
  have h1 := zx_b_int x
  have h2 := zx_b_int y
  have h3 := zx_b_int (x + y)
  rw [Int32.toInt_add, Int.bmod_def] at h3
  split at h3 <;> omega
theorem tj_b_sub (x y : Int32) : zx_b (x - y) = (zx_b x + 4294967296 - zx_b y + 2147483648) % 4294967296 := by
  have h1 := zx_b_int x
  have h2 := zx_b_int y
  have h4 := tj_b_lt y
  have h3 := zx_b_int (x - y)
  rw [Int32.toInt_sub, Int.bmod_def] at h3
  split at h3 <;> omega
theorem tj_b_mul {x y : Int32} {a b c d : Nat} (x1 : 2147483648 + a ≤ zx_b x) (x2 : zx_b x ≤ 2147483648 + b) (y1 : 2147483648 + c ≤ zx_b y) (y2 : zx_b y ≤ 2147483648 + d) (h : b * d < 2147483648) : 2147483648 + a * c ≤ zx_b (x * y) ∧ zx_b (x * y) ≤ 2147483648 + b * d := by
  have h1 := zx_b_int x
  have h2 := zx_b_int y
  have h3 := zx_b_int (x * y)
  obtain ⟨X, hX⟩ : ∃ X : Nat, zx_b x = 2147483648 + X := ⟨zx_b x - 2147483648, by omega⟩
  obtain ⟨Y, hY⟩ : ∃ Y : Nat, zx_b y = 2147483648 + Y := ⟨zx_b y - 2147483648, by omega⟩
  have ex : x.toInt = (X : Int) := by omega
  have ey : y.toInt = (Y : Int) := by omega
  have l1 : a * c ≤ X * Y := Nat.mul_le_mul (by omega) (by omega)
  have l2 : X * Y ≤ b * d := Nat.mul_le_mul (by omega) (by omega)
  rw [Int32.toInt_mul, ex, ey, ← Int.natCast_mul, Int.bmod_def] at h3
  generalize X * Y = P at *
  generalize a * c = Q at *
  generalize b * d = S at *
  split at h3 <;> omega
theorem tj_b_and {x y : Int32} (hy : 2147483648 ≤ zx_b y) : 2147483648 ≤ zx_b (x &&& y) ∧ zx_b (x &&& y) ≤ zx_b y := by
  have h2 := zx_b_int y
  have h3 := zx_b_int (x &&& y)
  have e1 : y.toInt = y.toBitVec.toInt := rfl
  have e2 : (x &&& y).toInt = (x &&& y).toBitVec.toInt := rfl
  have e3 : (x &&& y).toBitVec.toNat = x.toBitVec.toNat &&& y.toBitVec.toNat := by
    rw [Int32.toBitVec_and, BitVec.toNat_and]
  have e4 : x.toBitVec.toNat &&& y.toBitVec.toNat ≤ y.toBitVec.toNat := Nat.and_le_right
  rw [e1, BitVec.toInt_eq_toNat_cond] at h2
  rw [e2, BitVec.toInt_eq_toNat_cond, e3] at h3
  have hlt := y.toBitVec.isLt
  split at h2
  next hc =>
    split at h3
    next => omega
    next hn => omega
  next hc => omega
theorem tj_and_comm (x y : Int32) : x &&& y = y &&& x := by
  have h : (x &&& y).toBitVec = (y &&& x).toBitVec := by rw [Int32.toBitVec_and, Int32.toBitVec_and, BitVec.and_comm]
  exact Int32.toBitVec_inj.mp h
theorem tj_b_rem {x y : Int32} (hy : 2147483649 ≤ zx_b y) : (zx_b (x - x / y * y) < zx_b y ∧ 4294967296 < zx_b (x - x / y * y) + zx_b y) ∧ (2147483648 ≤ zx_b x → 2147483648 ≤ zx_b (x - x / y * y) ∧ zx_b (x - x / y * y) ≤ zx_b x) := by
  have hb := zx_b_int x
  have hc := zx_b_int y
  have hx1 := Int32.toInt_lt x
  have hx2 := Int32.le_toInt x
  have hy1 : 1 ≤ y.toInt := by omega
  have hne : y ≠ -1 := fun e => by
    rw [e] at hy1
    exact absurd hy1 (by decide)
  have hd := Int32.toInt_div_of_ne_right x y hne
  have hm := Int.mul_tdiv_add_tmod x.toInt y.toInt
  have hlt := Int.tmod_lt_of_pos x.toInt (show (0 : Int) < y.toInt by omega)
  have hgt := Int.tmod_lt_of_pos (-x.toInt) (show (0 : Int) < y.toInt by omega)
  rw [Int.neg_tmod] at hgt
  have hnn : 0 ≤ x.toInt → 0 ≤ x.toInt.tmod y.toInt := fun h => Int.tmod_nonneg _ h
  have hnp : x.toInt ≤ 0 → x.toInt.tmod y.toInt ≤ 0 := fun h => by
    have := Int.tmod_nonneg (a := -x.toInt) y.toInt (by omega)
    rw [Int.neg_tmod] at this
    omega
  have hle : 0 ≤ x.toInt → x.toInt.tmod y.toInt ≤ x.toInt := fun h => by
    have h1 := Int.mul_nonneg (show (0 : Int) ≤ y.toInt by omega) (Int.tdiv_nonneg h (show (0 : Int) ≤ y.toInt by omega))
    omega
  have hge : x.toInt ≤ 0 → x.toInt ≤ x.toInt.tmod y.toInt := fun h => by
    have h1 := Int.mul_nonneg (show (0 : Int) ≤ y.toInt by omega) (Int.tdiv_nonneg (show (0 : Int) ≤ -x.toInt by omega) (show (0 : Int) ≤ y.toInt by omega))
    rw [Int.neg_tdiv, Int.mul_neg] at h1
    omega
  have ht : (x - x / y * y).toInt = x.toInt.tmod y.toInt := by
    rw [Int32.toInt_sub, Int32.toInt_mul, hd, Int.mul_comm (x.toInt.tdiv y.toInt)]
    generalize y.toInt * x.toInt.tdiv y.toInt = k at *
    generalize x.toInt.tmod y.toInt = r at *
    have ek : k.bmod (2 ^ 32) = k := by
      rw [Int.bmod_def]
      split <;> omega
    rw [ek, Int.bmod_def]
    split <;> omega
  have h3 := zx_b_int (x - x / y * y)
  rw [ht] at h3
  generalize x.toInt.tmod y.toInt = r at *
  omega
theorem tj_b_ltI (x y : Int32) : x < y ↔ zx_b x < zx_b y := by
  have h1 := zx_b_int x
  have h2 := zx_b_int y
  rw [Int32.lt_iff_toInt_lt]
  omega
def tj_mx (a b : Nat) : Nat := match Nat.ble a b with
  | true => b
  | false => a
def tj_mn (a b : Nat) : Nat := match Nat.ble a b with
  | true => a
  | false => b
theorem tj_mx_ok (a b : Nat) : a ≤ tj_mx a b ∧ b ≤ tj_mx a b ∧ (tj_mx a b = a ∨ tj_mx a b = b) := by
  unfold tj_mx
  split
  next h => exact ⟨Nat.le_of_ble_eq_true h, Nat.le_refl _, Or.inr rfl⟩
  next h => exact ⟨Nat.le_refl _, Nat.le_of_lt (tj_ble_f h), Or.inl rfl⟩
theorem tj_mn_ok (a b : Nat) : tj_mn a b ≤ a ∧ tj_mn a b ≤ b ∧ (tj_mn a b = a ∨ tj_mn a b = b) := by
  unfold tj_mn
  split
  next h => exact ⟨Nat.le_refl _, Nat.le_of_ble_eq_true h, Or.inl rfl⟩
  next h => exact ⟨Nat.le_of_lt (tj_ble_f h), Nat.le_refl _, Or.inr rfl⟩
/-- bounds of what comes -/
def tj_ivo (n la ha lb hb : Nat) : Nat × Nat := match n with
  | 0 => match Nat.ble 2147483648 (la + lb) && Nat.blt (ha + hb) 6442450944 with
    | true => (la + lb - 2147483648, ha + hb - 2147483648)
    | false => (0, 4294967295)
  | 1 => match Nat.ble hb (la + 2147483648) && Nat.blt (ha + 2147483648) (lb + 4294967296) with
    | true => (la + 2147483648 - hb, ha + 2147483648 - lb)
    | false => (0, 4294967295)
  | 2 => match Nat.ble 2147483648 la && (Nat.ble 2147483648 lb && Nat.blt ((ha - 2147483648) * (hb - 2147483648)) 2147483648) with
    | true => (2147483648 + (la - 2147483648) * (lb - 2147483648), 2147483648 + (ha - 2147483648) * (hb - 2147483648))
    | false => (0, 4294967295)
  | 3 => match Nat.ble 2147483648 lb with
    | true => (2147483648, match Nat.ble 2147483648 la with
      | true => tj_mn ha hb
      | false => hb)
    | false => match Nat.ble 2147483648 la with
      | true => (2147483648, ha)
      | false => (0, 4294967295)
  | 4 => match Nat.ble 2147483649 lb with
    | true => match Nat.ble 2147483648 la with
      | true => (2147483648, tj_mn ha (hb - 1))
      | false => (4294967297 - hb, hb - 1)
    | false => (0, 4294967295)
  | 11 => (tj_mx la lb, tj_mx ha hb)
  | 12 => (tj_mn la lb, tj_mn ha hb)
  | _ => (0, 4294967295)
theorem tj_ivo_ok {n la ha lb hb : Nat} {x y : Int32} (a1 : la ≤ zx_b x) (a2 : zx_b x ≤ ha) (b1 : lb ≤ zx_b y) (b2 : zx_b y ≤ hb) : (tj_ivo n la ha lb hb).1 ≤ zx_b (tj_op n x y) ∧ zx_b (tj_op n x y) ≤ (tj_ivo n la ha lb hb).2 := by
  have hfull : 0 ≤ zx_b (tj_op n x y) ∧ zx_b (tj_op n x y) ≤ 4294967295 := by
    have := tj_b_lt (tj_op n x y)
    omega
  unfold tj_ivo
  split
  next =>
    split
    next h =>
      rw [Bool.and_eq_true] at h
      have h1 := Nat.le_of_ble_eq_true h.1
      have h2 := tj_blt_t h.2
      have e : zx_b (tj_op 0 x y) = (zx_b x + zx_b y + 2147483648) % 4294967296 := tj_b_add x y
      rw [e]
      omega
    next => exact hfull
  next =>
    split
    next h =>
      rw [Bool.and_eq_true] at h
      have h1 := Nat.le_of_ble_eq_true h.1
      have h2 := tj_blt_t h.2
      have e : zx_b (tj_op 1 x y) = (zx_b x + 4294967296 - zx_b y + 2147483648) % 4294967296 := tj_b_sub x y
      rw [e]
      omega
    next => exact hfull
  next =>
    split
    next h =>
      rw [Bool.and_eq_true, Bool.and_eq_true] at h
      have h1 := Nat.le_of_ble_eq_true h.1
      have h2 := Nat.le_of_ble_eq_true h.2.1
      have h3 := tj_blt_t h.2.2
      exact tj_b_mul (x := x) (y := y) (a := la - 2147483648) (b := ha - 2147483648) (c := lb - 2147483648) (d := hb - 2147483648) (by omega) (by omega) (by omega) (by omega) h3
    next => exact hfull
  next =>
    have e : tj_op 3 x y = x &&& y := rfl
    rw [e]
    split
    next h =>
      have h := Nat.le_of_ble_eq_true h
      have q := tj_b_and (x := x) (y := y) (by omega)
      split
      next h' =>
        have h' := Nat.le_of_ble_eq_true h'
        have q' := tj_b_and (x := y) (y := x) (by omega)
        rw [tj_and_comm] at q'
        rcases (tj_mn_ok ha hb).2.2 with e | e <;> rw [e] <;> (show 2147483648 ≤ _ ∧ _) <;> omega
      next => show 2147483648 ≤ _ ∧ _; omega
    next =>
      split
      next h' =>
        have h' := Nat.le_of_ble_eq_true h'
        have q' := tj_b_and (x := y) (y := x) (by omega)
        rw [tj_and_comm] at q'
        show 2147483648 ≤ _ ∧ _
        omega
      next => exact hfull
  next =>
    split
    next h =>
      have h := Nat.le_of_ble_eq_true h
      have q : (zx_b (tj_op 4 x y) < zx_b y ∧ 4294967296 < zx_b (tj_op 4 x y) + zx_b y) ∧ (2147483648 ≤ zx_b x → 2147483648 ≤ zx_b (tj_op 4 x y) ∧ zx_b (tj_op 4 x y) ≤ zx_b x) := tj_b_rem (x := x) (y := y) (by omega)
      split
      next h' =>
        have h' := Nat.le_of_ble_eq_true h'
        have q2 := q.2 (by omega)
        rcases (tj_mn_ok ha (hb - 1)).2.2 with e | e <;> rw [e] <;> (show 2147483648 ≤ _ ∧ _) <;> omega
      next => show 4294967297 - hb ≤ _ ∧ _ ≤ hb - 1; omega
    next => exact hfull
  next =>
    have hl := tj_b_ltI x y
    have m1 := tj_mx_ok la lb
    have m2 := tj_mx_ok ha hb
    show tj_mx la lb ≤ zx_b (if x < y then y else x) ∧ zx_b (if x < y then y else x) ≤ tj_mx ha hb
    split
    next hc => have := hl.mp hc; omega
    next hc => have : ¬ zx_b x < zx_b y := fun q => hc (hl.mpr q); omega
  next =>
    have hl := tj_b_ltI y x
    have m1 := tj_mn_ok la lb
    have m2 := tj_mn_ok ha hb
    show tj_mn la lb ≤ zx_b (if y < x then y else x) ∧ zx_b (if y < x then y else x) ≤ tj_mn ha hb
    split
    next hc => have := hl.mp hc; omega
    next hc => have : ¬ zx_b y < zx_b x := fun q => hc (hl.mpr q); omega
  next => exact hfull
/-- the bounds of an int -/
def tj_iv (env : List tj_y) : tj_a → Option (Nat × Nat)
  | .inl n => some ((n + 2147483648) % 4294967296, (n + 2147483648) % 4294967296)
  | .inr k => match env[k]? with
    | some (0, lo, hi) => some (lo, hi)
    | _ => none
theorem tj_iv_ok {Ψ : List Nat} {env : List tj_y} {ρ : Nat → zx_V} (he : tj_env Ψ env ρ) : ∀ {a : tj_a} {lo hi : Nat}, tj_iv env a = some (lo, hi) → ∃ x, tj_v ρ a = (.inl x) ∧ lo ≤ zx_b x ∧ zx_b x ≤ hi
  | .inl n, lo, hi, h => by
    simp only [tj_iv, Option.some.injEq, Prod.mk.injEq] at h
    obtain ⟨e1, e2⟩ := h
    exact ⟨Int32.ofNat n, rfl, by rw [tj_b_of, e1]; exact Nat.le_refl _, by rw [tj_b_of, e2]; exact Nat.le_refl _⟩
  | .inr k, lo, hi, h => by
    have h : (match env[k]? with
      | some (0, lo, hi) => some (lo, hi)
      | _ => none) = some (lo, hi) := h
    split at h
    next lo' hi' hk =>
      simp only [Option.some.injEq, Prod.mk.injEq] at h
      obtain ⟨e1, e2⟩ := h
      subst e1
      subst e2
      exact he k _ hk
    next => cases h
theorem tj_iv_lim {env : List tj_y} : ∀ {a : tj_a} {q : Nat × Nat}, tj_iv env a = some q → tj_lim env.length a = true
  | .inl _, _, _ => rfl
  | .inr k, q, h => by
    refine Nat.ble_eq_true_of_le (Nat.not_le.mp (fun hl => ?_))
    have e : env[k]? = none := List.getElem?_eq_none hl
    simp only [tj_iv, e] at h
    cases h
def tj_eqa : tj_a → tj_a → Bool
  | .inl a, .inl b => Nat.beq a b
  | .inr a, .inr b => Nat.beq a b
  | _, _ => false
theorem tj_eqa_ok : ∀ {a b : tj_a}, tj_eqa a b = true → a = b
  | .inl _, .inl _, h => by rw [Nat.eq_of_beq_eq_true h]
  | .inr _, .inr _, h => by rw [Nat.eq_of_beq_eq_true h]
  | .inl _, .inr _, h => by cases h
  | .inr _, .inl _, h => by cases h
/-- a fact (t, a, b, ..) that is there -/
def tj_fk (t : Nat) (a b : tj_a) : List tj_f → Option tj_a
  | [] => none
  | (m, a', b', c) :: F => match Nat.beq m t && (tj_eqa a a' && tj_eqa b b') with
    | true => some c
    | false => tj_fk t a b F
theorem tj_fk_mem {t : Nat} {a b c : tj_a} : ∀ {F : List tj_f}, tj_fk t a b F = some c → (t, a, b, c) ∈ F
  | [], h => by cases h
  | (m, a', b', c') :: F, h => by
    unfold tj_fk at h
    split at h
    next hz =>
      cases h
      simp only [Bool.and_eq_true] at hz
      rw [Nat.eq_of_beq_eq_true hz.1, tj_eqa_ok hz.2.1, tj_eqa_ok hz.2.2]
      exact List.mem_cons_self
    next => exact List.mem_cons_of_mem _ (tj_fk_mem h)
section tjOps
variable {Λ : List tj_D} {cap : Nat × Nat} {E : tj_Ef} {Ψ0 : List Nat} {w0 : List zx_E}
def tj_bin (len n : Nat) (A : tj_S) : Option (List tj_S) := match A with
  | (pc, L, b :: a :: st, env, F) => match tj_iv env a, tj_iv env b with
    | some (la, ha), some (lb, hb) => match tj_fk (n + 3) a b F with
      | some c => some [(pc + len, L, c :: st, env, F)]
      | none => match tj_limS env.length L st F with
        | true => some [(pc + len, L, .inr env.length :: st, env ++ [(0, tj_ivo n la ha lb hb)], [(n + 3, a, b, .inr env.length)] ++ F)]
        | false => none
    | _, _ => none
  | _ => none
theorem tj_bin_ok {f : zx_S → Option zx_S} {len n pc : Nat} {L : List (Nat × tj_a)} {a b : tj_a} {st : List tj_a} {env : List tj_y} {F : List tj_f} {As : List tj_S} (hn0 : Nat.blt n 100 = true) (h : tj_bin len n (pc, L, b :: a :: st, env, F) = some As)
    (hf : ∀ (Ψ : List Nat) (ρ : Nat → zx_V) (ls : List (Nat × zx_V)) (w : List zx_E) (mc ms : Nat), tj_W Λ cap E Ψ0 w0 Ψ w mc ms → tj_env Ψ env ρ → (∀ g ∈ F, tj_fd ρ w g) → tj_L ρ L ls → ∀ x y, tj_v ρ a = (.inl x) → tj_v ρ b = (.inl y) → f (pc, ls, (.inl y) :: (.inl x) :: st.map (tj_v ρ), w, mc, ms) = some (pc + len, ls, (.inl (tj_op n x y)) :: st.map (tj_v ρ), w, mc, ms)) : tj_sim Λ cap E Ψ0 w0 (tj_fn f) (pc, L, b :: a :: st, env, F) As := by
  simp only [tj_bin] at h
  split at h
  next la ha lb hb hia hib =>
    split at h
    next c hc =>
      cases h
      refine tj_mv (fun Ψ ρ ls w mc ms hW he hF hL => ?_)
      have hf0 : tj_of n (tj_v ρ a) (tj_v ρ b) (tj_v ρ c) w := hF _ (tj_fk_mem hc)
      rw [tj_of_op hn0] at hf0
      obtain ⟨x, y, h1, h2, h3⟩ := hf0
      show f (pc, ls, tj_v ρ b :: tj_v ρ a :: st.map (tj_v ρ), w, mc, ms) = some (pc + len, ls, tj_v ρ c :: st.map (tj_v ρ), w, mc, ms)
      rw [h1, h2, h3]
      exact hf Ψ ρ ls w mc ms hW he hF hL x y h1 h2
    next =>
      split at h
      next hl =>
        cases h
        refine tj_val hl (fun Ψ ρ ls w mc ms hW he hF hL => ?_)
        obtain ⟨x, hx, a1, a2⟩ := tj_iv_ok he hia
        obtain ⟨y, hy, b1, b2⟩ := tj_iv_ok he hib
        have hiv := tj_ivo_ok (n := n) a1 a2 b1 b2
        refine ⟨(.inl (tj_op n x y)), ?_, ⟨_, rfl, hiv.1, hiv.2⟩, fun ρ' hr hn g hg => ?_⟩
        · show f (pc, ls, tj_v ρ b :: tj_v ρ a :: st.map (tj_v ρ), w, mc, ms) = _
          rw [hx, hy]
          exact hf Ψ ρ ls w mc ms hW he hF hL x y hx hy
        · rw [List.mem_singleton.mp hg]
          show tj_of n _ _ _ w
          rw [tj_of_op hn0]
          exact ⟨x, y, by rw [tj_lim_v hr (tj_iv_lim hia)]; exact hx, by rw [tj_lim_v hr (tj_iv_lim hib)]; exact hy, hn⟩
      next => cases h
  next => cases h
theorem tj_bin_none {len n : Nat} {A : tj_S} {As : List tj_S} (h : tj_bin len n A = some As) : ∃ pc L b a st env F, A = (pc, L, b :: a :: st, env, F) := by
  unfold tj_bin at h
  split at h
  next pc L b a st env F => exact ⟨pc, L, b, a, st, env, F, rfl⟩
  next => cases h
theorem tj_bi_ok {n : Nat} (hn0 : Nat.blt n 100 = true) {A : tj_S} {As : List tj_S} (h : tj_bin 1 n A = some As) : tj_sim Λ cap E Ψ0 w0 (tj_fn (zx_bi (tj_op n))) A As := by
  obtain ⟨pc, L, b, a, st, env, F, rfl⟩ := tj_bin_none h
  exact tj_bin_ok hn0 h (fun Ψ ρ ls w mc ms _ _ _ _ x y _ _ => rfl)
/-- not 0 -/
def tj_nz (env : List tj_y) (F : List tj_f) (a : tj_a) : Bool := match tj_iv env a with
  | some (lo, hi) => Nat.blt 2147483648 lo || (Nat.blt hi 2147483648 || F.any (fun f => Nat.beq f.1 2 && (tj_eqa a f.2.1 && tj_eqa (.inl 0) f.2.2.1)))
  | none => false
theorem tj_nz_ok {Ψ : List Nat} {env : List tj_y} {ρ : Nat → zx_V} {F : List tj_f} {w : List zx_E} (he : tj_env Ψ env ρ) (hF : ∀ g ∈ F, tj_fd ρ w g) {a : tj_a} (h : tj_nz env F a = true) {y : Int32} (hy : tj_v ρ a = (.inl y)) : y ≠ 0 := by
  unfold tj_nz at h
  split at h
  next lo hi hia =>
    obtain ⟨y', hy', b1, b2⟩ := tj_iv_ok he hia
    rw [hy] at hy'
    cases hy'
    have hb := zx_b_int y
    rw [Bool.or_eq_true, Bool.or_eq_true] at h
    rcases h with h | h | h
    · have h := tj_blt_t h
      intro e
      rw [e] at hb b1
      have : (0 : Int32).toInt = 0 := by decide
      omega
    · have h := tj_blt_t h
      intro e
      rw [e] at hb b2
      have : (0 : Int32).toInt = 0 := by decide
      omega
    · obtain ⟨f, hf, hz⟩ := List.any_eq_true.mp h
      rw [Bool.and_eq_true, Bool.and_eq_true] at hz
      obtain ⟨t, c, d, e⟩ := f
      have e1 : t = 2 := Nat.eq_of_beq_eq_true hz.1
      have e2 : a = c := tj_eqa_ok hz.2.1
      have e3 : .inl 0 = d := tj_eqa_ok hz.2.2
      subst e1
      subst e2
      subst e3
      obtain ⟨x, h1, h2⟩ := hF _ hf
      rw [hy] at h1
      cases h1
      exact h2
  next => cases h
def tj_bd (n : Nat) (A : tj_S) : Option (List tj_S) := match A with
  | (_, _, b :: _, env, F) => match tj_nz env F b with
    | true => tj_bin 1 n A
    | false => none
  | _ => none
theorem tj_bd_ok {n : Nat} (hn0 : Nat.blt n 100 = true) {A : tj_S} {As : List tj_S} (h : tj_bd n A = some As) : tj_sim Λ cap E Ψ0 w0 (tj_fn (zx_bd (tj_op n))) A As := by
  unfold tj_bd at h
  split at h
  next pc L b st0 env F =>
    split at h
    next hz =>
      obtain ⟨pc', L', b', a, st, env', F', heq⟩ := tj_bin_none h
      cases heq
      refine tj_bin_ok hn0 h (fun Ψ ρ ls w mc ms _ he hF _ x y _ hy => ?_)
      have hne := tj_nz_ok he hF hz hy
      simp only [zx_bd, decide_eq_false hne]
    next => cases h
  next => cases h
def tj_mm (n : Nat) (A : tj_S) : Option (List tj_S) := match A with
  | (_, _, _ :: _ :: st, _, _) => match Nat.ble st.length 4 with
    | true => tj_bin 3 n A
    | false => none
  | _ => none
theorem tj_mm_ok {n : Nat} (hn0 : Nat.blt n 100 = true) {A : tj_S} {As : List tj_S} (h : tj_mm n A = some As) : tj_sim Λ cap E Ψ0 w0 (tj_fn (zx_mm (tj_op n) cap)) A As := by
  unfold tj_mm at h
  split at h
  next pc L b a st env F =>
    split at h
    next hz =>
      refine tj_bin_ok hn0 h (fun Ψ ρ ls w mc ms hW he hF _ x y _ hy => ?_)
      have c1 : Nat.ble mc cap.1 = true := Nat.ble_eq_true_of_le (by have := hW.2.1.1; omega)
      have c2 : Nat.ble ms cap.2 = true := Nat.ble_eq_true_of_le (by have := hW.2.1.2; omega)
      simp only [zx_mm, List.length_map, hz, c1, c2, Bool.and_self]
    next => cases h
  next => cases h
/-- unary: 0 ineg, 1 i2c, 2 i2b -/
def tj_u : Nat → Int32 → Int32
  | 0 => fun x => -x
  | 1 => fun x => (x.toUInt32 % 65536).toInt32
  | _ => fun x => x.toInt8.toInt32
def tj_uv (n la ha : Nat) : Nat × Nat := match n with
  | 0 => match Nat.blt 0 la with
    | true => (4294967296 - ha, 4294967296 - la)
    | false => (0, 4294967295)
  | 2 => (2147483520, 2147483775)
  | _ => (0, 4294967295)
theorem tj_uv_ok {n la ha : Nat} {x : Int32} (a1 : la ≤ zx_b x) (a2 : zx_b x ≤ ha) : (tj_uv n la ha).1 ≤ zx_b (tj_u n x) ∧ zx_b (tj_u n x) ≤ (tj_uv n la ha).2 := by
  have hfull : 0 ≤ zx_b (tj_u n x) ∧ zx_b (tj_u n x) ≤ 4294967295 := by
    have := tj_b_lt (tj_u n x)
    omega
  unfold tj_uv
  split
  next =>
    split
    next h =>
      have h := tj_blt_t h
      have h1 := zx_b_int x
      have h2 := zx_b_int (tj_u 0 x)
      have e : (tj_u 0 x).toInt = (-x.toInt).bmod (2 ^ 32) := Int32.toInt_neg x
      rw [e, Int.bmod_def] at h2
      have h3 := Int32.toInt_lt x
      show 4294967296 - ha ≤ zx_b (tj_u 0 x) ∧ zx_b (tj_u 0 x) ≤ 4294967296 - la
      split at h2 <;> omega
    next => exact hfull
  next =>
    have h2 := zx_b_int (tj_u 2 x)
    have e : (tj_u 2 x).toInt = x.toInt8.toInt := Int8.toInt_toInt32 _
    have e1 := Int8.toInt_lt x.toInt8
    have e2 := Int8.le_toInt x.toInt8
    rw [e] at h2
    show 2147483520 ≤ zx_b (tj_u 2 x) ∧ zx_b (tj_u 2 x) ≤ 2147483775
    omega
  next => exact hfull
def tj_un (n : Nat) (A : tj_S) : Option (List tj_S) := match A with
  | (pc, L, a :: st, env, F) => match tj_iv env a with
    | some (la, ha) => match tj_limS env.length L st F with
      | true => some [(pc + 1, L, .inr env.length :: st, env ++ [(0, tj_uv n la ha)], [] ++ F)]
      | false => none
    | none => none
  | _ => none
theorem tj_un_ok {n : Nat} {A : tj_S} {As : List tj_S} (h : tj_un n A = some As) : tj_sim Λ cap E Ψ0 w0 (tj_fn (zx_un (tj_u n))) A As := by
  obtain ⟨pc, L, st0, env, F⟩ := A
  unfold tj_un at h
  split at h
  next pc' L' a st env' F' heq =>
    cases heq
    split at h
    next la ha hia =>
      split at h
      next hl =>
        cases h
        refine tj_val hl (fun Ψ ρ ls w mc ms hW he hF hL => ?_)
        obtain ⟨x, hx, a1, a2⟩ := tj_iv_ok he hia
        have hiv := tj_uv_ok (n := n) a1 a2
        refine ⟨(.inl (tj_u n x)), ?_, ⟨_, rfl, hiv.1, hiv.2⟩, fun _ _ _ g hg => absurd hg List.not_mem_nil⟩
        show zx_un (tj_u n) (pc, ls, tj_v ρ a :: st.map (tj_v ρ), w, mc, ms) = _
        rw [hx]
        rfl
      next => cases h
    next => cases h
  next => cases h
/-- a new long or int of any size out of so many values of kinds; what the machine does with them -/
def tj_any (len : Nat) (t : tj_y) (ks : List Nat) (A : tj_S) : Option (List tj_S) := match A with
  | (pc, L, st0, env, F) => match ks with
    | [k] => match st0 with
      | a :: st => match Nat.beq (tj_k env a) k && tj_limS env.length L st F with
        | true => some [(pc + len, L, .inr env.length :: st, env ++ [t], [] ++ F)]
        | false => none
      | _ => none
    | [k, k'] => match st0 with
      | b :: a :: st => match (Nat.beq (tj_k env a) k && Nat.beq (tj_k env b) k') && tj_limS env.length L st F with
        | true => some [(pc + len, L, .inr env.length :: st, env ++ [t], [] ++ F)]
        | false => none
      | _ => none
    | _ => none
theorem tj_any1 {f : zx_S → Option zx_S} {len k : Nat} {t : tj_y} {A : tj_S} {As : List tj_S} (h : tj_any len t [k] A = some As)
    (hf : ∀ (Ψ : List Nat) (env : List tj_y) (ρ : Nat → zx_V) (a : tj_a) (pc : Nat) (ls : List (Nat × zx_V)) (st : List zx_V) (w : List zx_E) (mc ms : Nat), tj_env Ψ env ρ → tj_k env a = k → ∃ v, f (pc, ls, tj_v ρ a :: st, w, mc, ms) = some (pc + len, ls, v :: st, w, mc, ms) ∧ tj_vt Ψ t v) : tj_sim Λ cap E Ψ0 w0 (tj_fn f) A As := by
  obtain ⟨pc, L, st0, env, F⟩ := A
  simp only [tj_any] at h
  split at h
  next a st =>
    split at h
    next hz =>
      cases h
      rw [Bool.and_eq_true] at hz
      refine tj_val hz.2 (fun Ψ ρ ls w mc ms hW he hF hL => ?_)
      obtain ⟨v, h1, h2⟩ := hf Ψ env ρ a pc ls (st.map (tj_v ρ)) w mc ms he (Nat.eq_of_beq_eq_true hz.1)
      exact ⟨v, h1, h2, fun _ _ _ g hg => absurd hg List.not_mem_nil⟩
    next => cases h
  next => cases h
theorem tj_any2 {f : zx_S → Option zx_S} {len k k' : Nat} {t : tj_y} {A : tj_S} {As : List tj_S} (h : tj_any len t [k, k'] A = some As)
    (hf : ∀ (Ψ : List Nat) (env : List tj_y) (ρ : Nat → zx_V) (a b : tj_a) (pc : Nat) (ls : List (Nat × zx_V)) (st : List zx_V) (w : List zx_E) (mc ms : Nat), tj_env Ψ env ρ → tj_k env a = k → tj_k env b = k' → ∃ v, f (pc, ls, tj_v ρ b :: tj_v ρ a :: st, w, mc, ms) = some (pc + len, ls, v :: st, w, mc, ms) ∧ tj_vt Ψ t v) : tj_sim Λ cap E Ψ0 w0 (tj_fn f) A As := by
  obtain ⟨pc, L, st0, env, F⟩ := A
  simp only [tj_any] at h
  split at h
  next b a st =>
    split at h
    next hz =>
      cases h
      rw [Bool.and_eq_true, Bool.and_eq_true] at hz
      refine tj_val hz.2 (fun Ψ ρ ls w mc ms hW he hF hL => ?_)
      obtain ⟨v, h1, h2⟩ := hf Ψ env ρ a b pc ls (st.map (tj_v ρ)) w mc ms he (Nat.eq_of_beq_eq_true hz.1.1) (Nat.eq_of_beq_eq_true hz.1.2)
      exact ⟨v, h1, h2, fun _ _ _ g hg => absurd hg List.not_mem_nil⟩
    next => cases h
  next => cases h
theorem tj_full {Ψ : List Nat} (x : Int32) : tj_vt Ψ (0, 0, 4294967295) (.inl x) := ⟨x, rfl, Nat.zero_le _, by have := tj_b_lt x; omega⟩
theorem tj_i2l_ok {A : tj_S} {As : List tj_S} (h : tj_any 1 (3, 0, 0) [0] A = some As) : tj_sim Λ cap E Ψ0 w0 (tj_fn zx_i2l) A As :=
  tj_any1 h (fun Ψ env ρ a pc ls st w mc ms he hk => by
    obtain ⟨x, hx⟩ := tj_k0 he hk
    rw [hx]
    exact ⟨(.inr (.inl x.toInt64)), rfl, ⟨_, rfl⟩⟩)
theorem tj_l2i_ok {A : tj_S} {As : List tj_S} (h : tj_any 1 (0, 0, 4294967295) [3] A = some As) : tj_sim Λ cap E Ψ0 w0 (tj_fn zx_l2i) A As :=
  tj_any1 h (fun Ψ env ρ a pc ls st w mc ms he hk => by
    obtain ⟨x, hx⟩ := tj_k3 he hk
    rw [hx]
    exact ⟨(.inl x.toInt32), rfl, tj_full _⟩)
theorem tj_lcmp_ok {A : tj_S} {As : List tj_S} (h : tj_any 1 (0, 2147483647, 2147483649) [3, 3] A = some As) : tj_sim Λ cap E Ψ0 w0 (tj_fn zx_lcmp) A As :=
  tj_any2 h (fun Ψ env ρ a b pc ls st w mc ms he hk hk' => by
    obtain ⟨x, hx⟩ := tj_k3 he hk
    obtain ⟨y, hy⟩ := tj_k3 he hk'
    rw [hx, hy]
    refine ⟨(.inl (lg_cmp x y)), rfl, ⟨_, rfl, ?_⟩⟩
    have hb := zx_b_int (lg_cmp x y)
    have : (lg_cmp x y).toInt = 0 ∨ (lg_cmp x y).toInt = 1 ∨ (lg_cmp x y).toInt = -1 := by
      unfold lg_cmp
      repeat' split
      all_goals decide
    omega)
theorem tj_bj_ok {g : Int64 → Int64 → Int64} {A : tj_S} {As : List tj_S} (h : tj_any 1 (3, 0, 0) [3, 3] A = some As) : tj_sim Λ cap E Ψ0 w0 (tj_fn (zx_bj g)) A As :=
  tj_any2 h (fun Ψ env ρ a b pc ls st w mc ms he hk hk' => by
    obtain ⟨x, hx⟩ := tj_k3 he hk
    obtain ⟨y, hy⟩ := tj_k3 he hk'
    rw [hx, hy]
    exact ⟨(.inr (.inl (g x y))), rfl, ⟨_, rfl⟩⟩)
theorem tj_sj_ok {g : Int64 → Int32 → Int64} {A : tj_S} {As : List tj_S} (h : tj_any 1 (3, 0, 0) [3, 0] A = some As) : tj_sim Λ cap E Ψ0 w0 (tj_fn (zx_sj g)) A As :=
  tj_any2 h (fun Ψ env ρ a b pc ls st w mc ms he hk hk' => by
    obtain ⟨x, hx⟩ := tj_k3 he hk
    obtain ⟨y, hy⟩ := tj_k0 he hk'
    rw [hx, hy]
    exact ⟨(.inr (.inl (g x y))), rfl, ⟨_, rfl⟩⟩)
end tjOps
