/-! THE ABSTRACT EXECUTOR over typed worlds: values are inl n (the int n), inr k (the name k); a state: pc, locals, stack, types of names, facts. Facts: (0, r, inl k, v): field k of r is v; (1, r, i, v): what lies at i in r is v; (2, a, inl c, _): a is not c; (n + 3, a, b, c): c is the operation n of a and b; (n + 103, a, b, c): the fact n of tj_sem -/
abbrev tj_a : Type := Nat ⊕ Nat
abbrev tj_f : Type := Nat × tj_a × tj_a × tj_a
abbrev tj_S : Type := Nat × List (Nat × tj_a) × List tj_a × List tj_y × List tj_f
def tj_v (ρ : Nat → zx_V) : tj_a → zx_V
  | .inl n => (.inl (Int32.ofNat n))
  | .inr k => ρ k
def tj_op : Nat → Int32 → Int32 → Int32
  | 0 => fun x y => x + y
  | 1 => fun x y => x - y
  | 2 => fun x y => x * y
  | 3 => fun x y => x &&& y
  | 4 => fun x y => x - x / y * y
  | 5 => fun x y => x / y
  | 6 => fun x y => x ||| y
  | 7 => fun x y => x ^^^ y
  | 8 => fun x y => x <<< (y &&& 31)
  | 9 => fun x y => x >>> (y &&& 31)
  | 10 => fun x y => (x.toUInt32 >>> (y.toUInt32 &&& Int32.toUInt32 31)).toInt32
  | 11 => fun x y => if x < y then y else x
  | 12 => fun x y => if y < x then y else x
  | _ => fun x _ => x
def tj_opf (n : Nat) (a b c : zx_V) : Prop := ∃ x y, a = (.inl x) ∧ b = (.inl y) ∧ c = (.inl (tj_op n x y))
def tj_of (n : Nat) (a b c : zx_V) (w : List zx_E) : Prop := match Nat.blt n 100 with
  | true => tj_opf n a b c
  | false => tj_sem (n - 100) a b c w
theorem tj_of_op {n : Nat} (hn : Nat.blt n 100 = true) {a b c : zx_V} {w : List zx_E} : tj_of n a b c w = tj_opf n a b c := by
  unfold tj_of
  rw [hn]
def tj_fd (ρ : Nat → zx_V) (w : List zx_E) : tj_f → Prop
  | (0, r, .inl k, v) => ∃ q ci fs, tj_v ρ r = (.inr (.inr (.inl q))) ∧ w[q]? = some (.inl (ci, fs)) ∧ fs[k]? = some (tj_v ρ v)
  | (0, _, .inr _, _) => True
  | (1, r, i, v) => ∃ q x, tj_v ρ r = (.inr (.inr (.inl q))) ∧ tj_v ρ i = (.inl x) ∧ ((∃ kd n g, w[q]? = some (.inr (kd, n, .inl g)) ∧ tj_v ρ v = (.inl (g x.toNatClampNeg))) ∨ ∃ n l o, w[q]? = some (.inr (4, n, .inr (.inr l))) ∧ l[x.toNatClampNeg]? = some o ∧ tj_v ρ v = zx_ref o)
  | (2, a, .inl c, _) => ∃ x, tj_v ρ a = (.inl x) ∧ x ≠ Int32.ofNat c
  | (2, _, .inr _, _) => True
  | (n + 3, a, b, c) => tj_of n (tj_v ρ a) (tj_v ρ b) (tj_v ρ c) w
def tj_L (ρ : Nat → zx_V) (L : List (Nat × tj_a)) (ls : List (Nat × zx_V)) : Prop := ∀ q ∈ L, zx_look q.1 ls = some (tj_v ρ q.2)
def tj_env (Ψ : List Nat) (env : List tj_y) (ρ : Nat → zx_V) : Prop := ∀ k t, env[k]? = some t → tj_vt Ψ t (ρ k)
/-- the states that an abstract one speaks of -/
def tj_G (Λ : List tj_D) (cap : Nat × Nat) (E : tj_Ef) (Ψ0 : List Nat) (w0 : List zx_E) (A : tj_S) (Ψ : List Nat) (ρ : Nat → zx_V) (σ : zx_S) : Prop := ∃ ls w mc ms, σ = (A.1, ls, A.2.2.1.map (tj_v ρ), w, mc, ms) ∧ tj_W Λ cap E Ψ0 w0 Ψ w mc ms ∧ tj_L ρ A.2.1 ls ∧ zx_limP w.length ls = true ∧ tj_env Ψ A.2.2.2.1 ρ ∧ ∀ g ∈ A.2.2.2.2, tj_fd ρ w g
def tj_lim (n : Nat) : tj_a → Bool
  | .inl _ => true
  | .inr k => Nat.blt k n
def tj_limS (n : Nat) (L : List (Nat × tj_a)) (st : List tj_a) (F : List tj_f) : Bool := L.all (fun q => tj_lim n q.2) && (st.all (tj_lim n) && F.all (fun f => tj_lim n f.2.1 && (tj_lim n f.2.2.1 && tj_lim n f.2.2.2)))
theorem tj_lim_v {ρ ρ' : Nat → zx_V} {n : Nat} (h : ∀ k, k < n → ρ' k = ρ k) : ∀ {a : tj_a}, tj_lim n a = true → tj_v ρ' a = tj_v ρ a
  | .inl _, _ => rfl
  | .inr k, ha => h k (Nat.le_of_ble_eq_true ha)
theorem tj_lim_f {ρ ρ' : Nat → zx_V} {n : Nat} {w : List zx_E} (h : ∀ k, k < n → ρ' k = ρ k) : ∀ {f : tj_f}, (tj_lim n f.2.1 && (tj_lim n f.2.2.1 && tj_lim n f.2.2.2)) = true → tj_fd ρ w f → tj_fd ρ' w f
  | (0, r, .inl k, v), hl, hf => by
    simp only [Bool.and_eq_true] at hl
    obtain ⟨q, ci, fs, h1, h2, h3⟩ := hf
    exact ⟨q, ci, fs, by rw [tj_lim_v h hl.1]; exact h1, h2, by rw [tj_lim_v h hl.2.2]; exact h3⟩
  | (0, _, .inr _, _), _, _ => trivial
  | (1, r, i, v), hl, hf => by
    simp only [Bool.and_eq_true] at hl
    obtain ⟨q, x, h1, h2, h3⟩ := hf
    refine ⟨q, x, by rw [tj_lim_v h hl.1]; exact h1, by rw [tj_lim_v h hl.2.1]; exact h2, ?_⟩
    rw [tj_lim_v h hl.2.2]
    exact h3
  | (2, a, .inl b, c), hl, hf => by
    simp only [Bool.and_eq_true] at hl
    obtain ⟨x, h1, h2⟩ := hf
    exact ⟨x, by rw [tj_lim_v h hl.1]; exact h1, h2⟩
  | (2, _, .inr _, _), _, _ => trivial
  | (n + 3, a, b, c), hl, hf => by
    simp only [Bool.and_eq_true] at hl
    show tj_of n (tj_v ρ' a) (tj_v ρ' b) (tj_v ρ' c) w
    rw [tj_lim_v h hl.1, tj_lim_v h hl.2.1, tj_lim_v h hl.2.2]
    exact hf
/-- what a step of the exact machine from such a state comes to -/
def tj_sim (Λ : List tj_D) (cap : Nat × Nat) (E : tj_Ef) (Ψ0 : List Nat) (w0 : List zx_E) (S : zx_S → zx_S → Prop) (A : tj_S) (As : List tj_S) : Prop := ∀ Ψ ρ σ, tj_G Λ cap E Ψ0 w0 A Ψ ρ σ → ∃ μ Ψ' ρ' A', S σ μ ∧ A' ∈ As ∧ tj_G Λ cap E Ψ0 w0 A' Ψ' ρ' μ ∧ A.2.2.2.1.length ≤ A'.2.2.2.1.length ∧ ∀ k, k < A.2.2.2.1.length → ρ' k = ρ k
def tj_fn (f : zx_S → Option zx_S) (σ μ : zx_S) : Prop := f σ = some μ
section tjBase
variable {Λ : List tj_D} {cap : Nat × Nat} {E : tj_Ef} {Ψ0 : List Nat} {w0 : List zx_E}
theorem tj_env_new {Ψ : List Nat} {env : List tj_y} {ρ ρ' : Nat → zx_V} {t : tj_y} (he : tj_env Ψ env ρ) (hr : ∀ k, k < env.length → ρ' k = ρ k) (hv : tj_vt Ψ t (ρ' env.length)) : tj_env Ψ (env ++ [t]) ρ' := by
  intro k t' hk
  by_cases hl : k < env.length
  · rw [show (env ++ [t])[k]? = env[k]? from List.getElem?_append_left hl] at hk
    rw [hr k hl]
    exact he k t' hk
  · rw [List.getElem?_append_right (by omega)] at hk
    have hz : k - env.length < 1 := (List.getElem?_eq_some_iff.mp hk).1
    have e : k = env.length := by omega
    subst e
    rw [Nat.sub_self] at hk
    cases hk
    exact hv
theorem tj_L_lim {ρ ρ' : Nat → zx_V} {n : Nat} {L : List (Nat × tj_a)} {ls : List (Nat × zx_V)} (hr : ∀ k, k < n → ρ' k = ρ k) (hl : L.all (fun q => tj_lim n q.2) = true) (h : tj_L ρ L ls) : tj_L ρ' L ls := fun q hq => by
  rw [tj_lim_v hr (List.all_eq_true.mp hl q hq)]
  exact h q hq
theorem tj_st_lim {ρ ρ' : Nat → zx_V} {n : Nat} {st : List tj_a} (hr : ∀ k, k < n → ρ' k = ρ k) (hl : st.all (tj_lim n) = true) : st.map (tj_v ρ') = st.map (tj_v ρ) := List.map_congr_left (fun a ha => tj_lim_v hr (List.all_eq_true.mp hl a ha))
/-- a new name pushed -/
theorem tj_val {f : zx_S → Option zx_S} {pc pc' : Nat} {L : List (Nat × tj_a)} {st0 st : List tj_a} {env : List tj_y} {F G : List tj_f} {t : tj_y} (hlim : tj_limS env.length L st F = true)
    (h : ∀ (Ψ : List Nat) (ρ : Nat → zx_V) (ls : List (Nat × zx_V)) (w : List zx_E) (mc ms : Nat), tj_W Λ cap E Ψ0 w0 Ψ w mc ms → tj_env Ψ env ρ → (∀ g ∈ F, tj_fd ρ w g) → tj_L ρ L ls → ∃ v, f (pc, ls, st0.map (tj_v ρ), w, mc, ms) = some (pc', ls, v :: st.map (tj_v ρ), w, mc, ms) ∧ tj_vt Ψ t v ∧ ∀ ρ' : Nat → zx_V, (∀ k, k < env.length → ρ' k = ρ k) → ρ' env.length = v → ∀ g ∈ G, tj_fd ρ' w g) : tj_sim Λ cap E Ψ0 w0 (tj_fn f) (pc, L, st0, env, F) [(pc', L, .inr env.length :: st, env ++ [t], G ++ F)] := by
  intro Ψ ρ σ ⟨ls, w, mc, ms, hσ, hW, hL, hls, he, hF⟩
  subst hσ
  obtain ⟨v, h1, h2, h3⟩ := h Ψ ρ ls w mc ms hW he hF hL
  simp only [tj_limS, Bool.and_eq_true] at hlim
  obtain ⟨l1, l2, l3⟩ := hlim
  let ρ' : Nat → zx_V := fun k => if k = env.length then v else ρ k
  have hr : ∀ k, k < env.length → ρ' k = ρ k := fun k hk => if_neg (Nat.ne_of_lt hk)
  have hn : ρ' env.length = v := if_pos rfl
  refine ⟨_, Ψ, ρ', _, h1, List.mem_cons_self, ⟨ls, w, mc, ms, ?_, hW, tj_L_lim hr l1 hL, hls, tj_env_new he hr (by rw [hn]; exact h2), fun g hg => ?_⟩, ?_, hr⟩
  · show _ = (pc', ls, ρ' env.length :: st.map (tj_v ρ'), w, mc, ms)
    rw [hn, tj_st_lim hr l2]
  · rcases List.mem_append.mp hg with q | q
    · exact h3 ρ' hr hn g q
    · exact tj_lim_f hr (List.all_eq_true.mp l3 g q) (hF g q)
  · show env.length ≤ (env ++ [t]).length
    rw [List.length_append]
    exact Nat.le_add_right _ _
/-- nothing new -/
theorem tj_mv {f : zx_S → Option zx_S} {pc pc' : Nat} {L : List (Nat × tj_a)} {st0 st : List tj_a} {env : List tj_y} {F : List tj_f}
    (h : ∀ (Ψ : List Nat) (ρ : Nat → zx_V) (ls : List (Nat × zx_V)) (w : List zx_E) (mc ms : Nat), tj_W Λ cap E Ψ0 w0 Ψ w mc ms → tj_env Ψ env ρ → (∀ g ∈ F, tj_fd ρ w g) → tj_L ρ L ls → f (pc, ls, st0.map (tj_v ρ), w, mc, ms) = some (pc', ls, st.map (tj_v ρ), w, mc, ms)) : tj_sim Λ cap E Ψ0 w0 (tj_fn f) (pc, L, st0, env, F) [(pc', L, st, env, F)] := by
  intro Ψ ρ σ ⟨ls, w, mc, ms, hσ, hW, hL, hls, he, hF⟩
  subst hσ
  exact ⟨_, Ψ, ρ, _, h Ψ ρ ls w mc ms hW he hF hL, List.mem_cons_self, ⟨ls, w, mc, ms, rfl, hW, hL, hls, he, hF⟩, Nat.le_refl _, fun _ _ => rfl⟩
/-- constants -/
def tj_push (n c : Nat) (A : tj_S) : Option (List tj_S) := match A with
  | (pc, L, st, env, F) => some [(pc + n, L, .inl c :: st, env, F)]
theorem tj_push_ok {n c : Nat} {A : tj_S} {As : List tj_S} (h : tj_push n c A = some As) : tj_sim Λ cap E Ψ0 w0 (tj_fn (zx_push n (.inl (Int32.ofNat c)))) A As := by
  obtain ⟨pc, L, st, env, F⟩ := A
  cases h
  exact tj_mv (fun Ψ ρ ls w mc ms _ _ _ _ => rfl)
def tj_pushJ (n : Nat) (A : tj_S) : Option (List tj_S) := match A with
  | (pc, L, st, env, F) => match tj_limS env.length L st F with
    | true => some [(pc + n, L, .inr env.length :: st, env ++ [(3, 0, 0)], [] ++ F)]
    | false => none
theorem tj_pushJ_ok {n : Nat} {c : Int64} {A : tj_S} {As : List tj_S} (h : tj_pushJ n A = some As) : tj_sim Λ cap E Ψ0 w0 (tj_fn (zx_push n (.inr (.inl c)))) A As := by
  obtain ⟨pc, L, st, env, F⟩ := A
  simp only [tj_pushJ] at h
  split at h
  next hl =>
    cases h
    exact tj_val hl (fun Ψ ρ ls w mc ms _ _ _ _ => ⟨(.inr (.inl c)), rfl, ⟨c, rfl⟩, fun _ _ _ g hg => absurd hg List.not_mem_nil⟩)
  next => cases h
def tj_look (k : Nat) : List (Nat × tj_a) → Option tj_a
  | [] => none
  | (j, v) :: l => match Nat.beq j k with
    | true => some v
    | false => tj_look k l
theorem tj_look_mem {k : Nat} {a : tj_a} : ∀ {L : List (Nat × tj_a)}, tj_look k L = some a → (k, a) ∈ L
  | [], h => by cases h
  | (j, u) :: L, h => by
    unfold tj_look at h
    split at h
    next hj =>
      cases h
      rw [Nat.eq_of_beq_eq_true hj]
      exact List.mem_cons_self
    next => exact List.mem_cons_of_mem _ (tj_look_mem h)
/-- the kind of a value: 0 an int, 1 a cell, 2 a cell or null, 3 a long -/
def tj_k (env : List tj_y) : tj_a → Nat
  | .inl _ => 0
  | .inr k => match env[k]? with
    | some (0, _, _) => 0
    | some (1, _, _) => 1
    | some (2, _, _) => 2
    | some (_ + 3, _, _) => 3
    | none => 9
theorem tj_k0 {Ψ : List Nat} {env : List tj_y} {ρ : Nat → zx_V} (he : tj_env Ψ env ρ) : ∀ {a : tj_a}, tj_k env a = 0 → ∃ x, tj_v ρ a = (.inl x)
  | .inl n, _ => ⟨_, rfl⟩
  | .inr k, h => by
    simp only [tj_k] at h
    split at h
    next hk => obtain ⟨x, e, _⟩ := he k _ hk; exact ⟨x, e⟩
    all_goals cases h
theorem tj_k3 {Ψ : List Nat} {env : List tj_y} {ρ : Nat → zx_V} (he : tj_env Ψ env ρ) : ∀ {a : tj_a}, tj_k env a = 3 → ∃ x, tj_v ρ a = (.inr (.inl x))
  | .inl n, h => by cases h
  | .inr k, h => by
    simp only [tj_k] at h
    split at h
    next => cases h
    next => cases h
    next => cases h
    next hk => obtain ⟨x, e⟩ := he k _ hk; exact ⟨x, e⟩
    next => cases h
theorem tj_k12 {Ψ : List Nat} {env : List tj_y} {ρ : Nat → zx_V} (he : tj_env Ψ env ρ) : ∀ {a : tj_a}, tj_k env a = 1 ∨ tj_k env a = 2 → (∃ q, tj_v ρ a = (.inr (.inr (.inl q)))) ∨ tj_v ρ a = (.inr (.inr (.inr 0)))
  | .inl n, h => by rcases h with h | h <;> cases h
  | .inr k, h => by
    simp only [tj_k] at h
    split at h
    next => rcases h with h | h <;> cases h
    next hk => obtain ⟨q, e, _⟩ := he k _ hk; exact Or.inl ⟨q, e⟩
    next hk =>
      rcases he k _ hk with e | ⟨q, e, _⟩
      · exact Or.inr e
      · exact Or.inl ⟨q, e⟩
    next => rcases h with h | h <;> cases h
    next => rcases h with h | h <;> cases h
/-- loads: c is 0 of an int, 1 of a cell, 3 of a long -/
def tj_is (c k : Nat) : Bool := match c with
  | 1 => Nat.beq k 1 || Nat.beq k 2
  | _ => Nat.beq k c
def tj_ld (c n k : Nat) (A : tj_S) : Option (List tj_S) := match A with
  | (pc, L, st, env, F) => match tj_look k L with
    | some a => match tj_is c (tj_k env a) with
      | true => some [(pc + n, L, a :: st, env, F)]
      | false => none
    | none => none
theorem tj_ld_inv {c n k : Nat} {A : tj_S} {As : List tj_S} (h : tj_ld c n k A = some As) : ∃ pc L st env F a, A = (pc, L, st, env, F) ∧ (k, a) ∈ L ∧ tj_is c (tj_k env a) = true ∧ As = [(pc + n, L, a :: st, env, F)] := by
  obtain ⟨pc, L, st, env, F⟩ := A
  simp only [tj_ld] at h
  split at h
  next a hk =>
    split at h
    next hi => cases h; exact ⟨pc, L, st, env, F, a, rfl, tj_look_mem hk, hi, rfl⟩
    next => cases h
  next => cases h
theorem tj_ldI_ok {n k : Nat} {A : tj_S} {As : List tj_S} (h : tj_ld 0 n k A = some As) : tj_sim Λ cap E Ψ0 w0 (tj_fn (zx_ldI n k)) A As := by
  obtain ⟨pc, L, st, env, F, a, rfl, hm, hi, rfl⟩ := tj_ld_inv h
  refine tj_mv (fun Ψ ρ ls w mc ms _ he _ hL => ?_)
  obtain ⟨x, hx⟩ := tj_k0 he (Nat.eq_of_beq_eq_true hi)
  have hk : zx_look k ls = some (tj_v ρ a) := hL (k, a) hm
  rw [hx] at hk
  show zx_ldI n k (pc, ls, st.map (tj_v ρ), w, mc, ms) = some (pc + n, ls, tj_v ρ a :: st.map (tj_v ρ), w, mc, ms)
  rw [hx]
  simp only [zx_ldI, hk, zx_push]
theorem tj_ldJ_ok {n k : Nat} {A : tj_S} {As : List tj_S} (h : tj_ld 3 n k A = some As) : tj_sim Λ cap E Ψ0 w0 (tj_fn (zx_ldJ n k)) A As := by
  obtain ⟨pc, L, st, env, F, a, rfl, hm, hi, rfl⟩ := tj_ld_inv h
  refine tj_mv (fun Ψ ρ ls w mc ms _ he _ hL => ?_)
  obtain ⟨x, hx⟩ := tj_k3 he (Nat.eq_of_beq_eq_true hi)
  have hk : zx_look k ls = some (tj_v ρ a) := hL (k, a) hm
  rw [hx] at hk
  show zx_ldJ n k (pc, ls, st.map (tj_v ρ), w, mc, ms) = some (pc + n, ls, tj_v ρ a :: st.map (tj_v ρ), w, mc, ms)
  rw [hx]
  simp only [zx_ldJ, hk, zx_push]
theorem tj_is1 {k : Nat} (h : tj_is 1 k = true) : k = 1 ∨ k = 2 := by
  have h : (Nat.beq k 1 || Nat.beq k 2) = true := h
  rw [Bool.or_eq_true] at h
  rcases h with h | h
  · exact Or.inl (Nat.eq_of_beq_eq_true h)
  · exact Or.inr (Nat.eq_of_beq_eq_true h)
theorem tj_ldA_ok {n k : Nat} {A : tj_S} {As : List tj_S} (h : tj_ld 1 n k A = some As) : tj_sim Λ cap E Ψ0 w0 (tj_fn (zx_ldA n k)) A As := by
  obtain ⟨pc, L, st, env, F, a, rfl, hm, hi, rfl⟩ := tj_ld_inv h
  refine tj_mv (fun Ψ ρ ls w mc ms _ he _ hL => ?_)
  have hk : zx_look k ls = some (tj_v ρ a) := hL (k, a) hm
  show zx_ldA n k (pc, ls, st.map (tj_v ρ), w, mc, ms) = some (pc + n, ls, tj_v ρ a :: st.map (tj_v ρ), w, mc, ms)
  rcases tj_k12 he (tj_is1 hi) with ⟨q, hx⟩ | hx
  · rw [hx] at hk ⊢
    simp only [zx_ldA, hk, zx_push]
  · rw [hx] at hk ⊢
    simp only [zx_ldA, hk, zx_push]
/-- locals: what a store leaves -/
theorem tj_look_filter {P : Nat × zx_V → Bool} {k : Nat} {u : zx_V} (hP : P (k, u) = true) : ∀ {ls : List (Nat × zx_V)}, zx_look k ls = some u → zx_look k (ls.filter P) = some u
  | [], h => by cases h
  | (j, v) :: ls, h => by
    unfold zx_look at h
    split at h
    next hj =>
      cases h
      have e := Nat.eq_of_beq_eq_true hj
      subst e
      rw [List.filter_cons_of_pos hP]
      unfold zx_look
      rw [hj]
    next hj =>
      have ih := tj_look_filter hP (ls := ls) h
      rw [List.filter_cons]
      split
      next =>
        unfold zx_look
        rw [hj]
        exact ih
      next => exact ih
def tj_put (env : List tj_y) (k : Nat) (a : tj_a) (L : List (Nat × tj_a)) : List (Nat × tj_a) := (k, a) :: L.filter (fun q => !(Nat.beq q.1 k) && !(Nat.beq (q.1 + 1) k && !(Nat.blt (tj_k env q.2) 3)))
def tj_putL (env : List tj_y) (k : Nat) (a : tj_a) (L : List (Nat × tj_a)) : List (Nat × tj_a) := (k, a) :: L.filter (fun q => !(Nat.beq q.1 k) && (!(Nat.beq q.1 (k + 1)) && !(Nat.beq (q.1 + 1) k && !(Nat.blt (tj_k env q.2) 3))))
theorem tj_k_cat {Ψ : List Nat} {env : List tj_y} {ρ : Nat → zx_V} (he : tj_env Ψ env ρ) {a : tj_a} (h : Nat.blt (tj_k env a) 3 = true) : zx_cat (tj_v ρ a) = false := by
  have h := tj_blt_t h
  by_cases h0 : tj_k env a = 0
  · obtain ⟨x, e⟩ := tj_k0 he h0
    rw [e]; rfl
  · rcases tj_k12 he (a := a) (by omega) with ⟨q, e⟩ | e <;> rw [e] <;> rfl
theorem tj_beqN {a b : Nat} (h : Nat.beq a b = false) : (a == b) = false := by
  cases e : a == b with
  | false => rfl
  | true =>
    have := eq_of_beq e
    rw [this, Nat.beq_refl] at h
    cases h
theorem tj_put_ok {Ψ : List Nat} {env : List tj_y} {ρ : Nat → zx_V} (he : tj_env Ψ env ρ) {k : Nat} {a : tj_a} {L : List (Nat × tj_a)} {ls : List (Nat × zx_V)} (hL : tj_L ρ L ls) : tj_L ρ (tj_put env k a L) (zx_put k (tj_v ρ a) ls) := by
  intro q hq
  rcases List.mem_cons.mp hq with e | hq
  · rw [e]
    show zx_look k ((k, _) :: _) = _
    unfold zx_look
    rw [Nat.beq_refl]
  · obtain ⟨h1, h2⟩ := List.mem_filter.mp hq
    simp only [Bool.and_eq_true, Bool.not_eq_true'] at h2
    have hk := hL q h1
    show zx_look q.1 ((k, _) :: ls.filter _) = _
    unfold zx_look
    have hne : Nat.beq k q.1 = false := by
      cases e : Nat.beq k q.1 with
      | false => rfl
      | true => rw [← Nat.eq_of_beq_eq_true e, Nat.beq_refl] at h2; cases h2.1
    rw [hne]
    refine tj_look_filter ?_ hk
    simp only [Bool.and_eq_true, Bool.not_eq_true']
    refine ⟨tj_beqN h2.1, ?_⟩
    cases hb : Nat.beq (q.1 + 1) k with
    | false => rw [tj_beqN hb]; rfl
    | true =>
      have h3 := h2.2
      rw [hb] at h3
      have h4 : Nat.blt (tj_k env q.2) 3 = true := by
        cases e : Nat.blt (tj_k env q.2) 3 with
        | true => rfl
        | false => rw [e] at h3; cases h3
      rw [tj_k_cat he h4, Bool.and_false]
theorem tj_putL_ok {Ψ : List Nat} {env : List tj_y} {ρ : Nat → zx_V} (he : tj_env Ψ env ρ) {k : Nat} {a : tj_a} {L : List (Nat × tj_a)} {ls : List (Nat × zx_V)} (hL : tj_L ρ L ls) : tj_L ρ (tj_putL env k a L) (zx_putL k (tj_v ρ a) ls) := by
  intro q hq
  rcases List.mem_cons.mp hq with e | hq
  · rw [e]
    show zx_look k ((k, _) :: _) = _
    unfold zx_look
    rw [Nat.beq_refl]
  · obtain ⟨h1, h2⟩ := List.mem_filter.mp hq
    simp only [Bool.and_eq_true, Bool.not_eq_true'] at h2
    have hk := hL q h1
    show zx_look q.1 ((k, _) :: ls.filter _) = _
    unfold zx_look
    have hne : Nat.beq k q.1 = false := by
      cases e : Nat.beq k q.1 with
      | false => rfl
      | true => rw [← Nat.eq_of_beq_eq_true e, Nat.beq_refl] at h2; cases h2.1
    rw [hne]
    refine tj_look_filter ?_ hk
    simp only [Bool.and_eq_true, Bool.not_eq_true']
    refine ⟨tj_beqN h2.1, tj_beqN h2.2.1, ?_⟩
    cases hb : Nat.beq (q.1 + 1) k with
    | false => rw [tj_beqN hb]; rfl
    | true =>
      have h3 := h2.2.2
      rw [hb] at h3
      have h4 : Nat.blt (tj_k env q.2) 3 = true := by
        cases e : Nat.blt (tj_k env q.2) 3 with
        | true => rfl
        | false => rw [e] at h3; cases h3
      rw [tj_k_cat he h4, Bool.and_false]
theorem tj_limP_put {n k : Nat} {v : zx_V} {ls : List (Nat × zx_V)} {P : Nat × zx_V → Bool} (hv : zx_lim n v = true) (h : zx_limP n ls = true) : zx_limP n ((k, v) :: ls.filter P) = true := by
  refine List.all_eq_true.mpr (fun q hq => ?_)
  rcases List.mem_cons.mp hq with e | hq
  · rw [e]; exact hv
  · exact List.all_eq_true.mp h q (List.mem_filter.mp hq).1
/-- every value there is speaks of cells that are there -/
theorem tj_alim {Ψ : List Nat} {env : List tj_y} {ρ : Nat → zx_V} {w : List zx_E} (hw : tj_wt Λ Ψ w) (he : tj_env Ψ env ρ) : ∀ {a : tj_a}, tj_lim env.length a = true → zx_lim w.length (tj_v ρ a) = true
  | .inl _, _ => rfl
  | .inr k, h => tj_vlim hw (he k _ (List.getElem?_eq_getElem (Nat.le_of_ble_eq_true h)))
theorem tj_k_lim {env : List tj_y} : ∀ {a : tj_a}, Nat.blt (tj_k env a) 4 = true → tj_lim env.length a = true
  | .inl _, _ => rfl
  | .inr k, h => by
    refine Nat.ble_eq_true_of_le (Nat.not_le.mp (fun hl => ?_))
    have : env[k]? = none := List.getElem?_eq_none hl
    simp only [tj_k, this] at h
    cases h
def tj_pt (c : Nat) (env : List tj_y) (k : Nat) (a : tj_a) (L : List (Nat × tj_a)) : List (Nat × tj_a) := match c with
  | 3 => tj_putL env k a L
  | _ => tj_put env k a L
/-- stores: c is 0 of an int, 1 of a cell, 3 of a long -/
def tj_st (c n k : Nat) (A : tj_S) : Option (List tj_S) := match A with
  | (pc, L, a :: st, env, F) => match tj_is c (tj_k env a) with
    | true => some [(pc + n, tj_pt c env k a L, st, env, F)]
    | false => none
  | _ => none
theorem tj_st_inv {c n k : Nat} {A : tj_S} {As : List tj_S} (h : tj_st c n k A = some As) : ∃ pc L a st env F, A = (pc, L, a :: st, env, F) ∧ tj_is c (tj_k env a) = true ∧ As = [(pc + n, tj_pt c env k a L, st, env, F)] := by
  obtain ⟨pc, L, st0, env, F⟩ := A
  unfold tj_st at h
  split at h
  next pc' L' a st env' F' heq =>
    cases heq
    split at h
    next hi => cases h; exact ⟨pc, L, a, st, env, F, rfl, hi, rfl⟩
    next => cases h
  next => cases h
theorem tj_stI_ok {n k : Nat} {A : tj_S} {As : List tj_S} (h : tj_st 0 n k A = some As) : tj_sim Λ cap E Ψ0 w0 (tj_fn (zx_stI n k)) A As := by
  obtain ⟨pc, L, a, st, env, F, rfl, hi, rfl⟩ := tj_st_inv h
  intro Ψ ρ σ ⟨ls, w, mc, ms, hσ, hW, hL, hls, he, hF⟩
  subst hσ
  have hi := Nat.eq_of_beq_eq_true hi
  obtain ⟨x, hx⟩ := tj_k0 he hi
  refine ⟨(pc + n, zx_put k (tj_v ρ a) ls, st.map (tj_v ρ), w, mc, ms), Ψ, ρ, _, ?_, List.mem_cons_self, ⟨_, w, mc, ms, rfl, hW, tj_put_ok he hL, tj_limP_put (tj_alim hW.1 he (tj_k_lim (by rw [hi]; rfl))) hls, he, hF⟩, Nat.le_refl _, fun _ _ => rfl⟩
  show zx_stI n k (pc, ls, tj_v ρ a :: st.map (tj_v ρ), w, mc, ms) = _
  rw [hx]
  rfl
theorem tj_stJ_ok {n k : Nat} {A : tj_S} {As : List tj_S} (h : tj_st 3 n k A = some As) : tj_sim Λ cap E Ψ0 w0 (tj_fn (zx_stJ n k)) A As := by
  obtain ⟨pc, L, a, st, env, F, rfl, hi, rfl⟩ := tj_st_inv h
  intro Ψ ρ σ ⟨ls, w, mc, ms, hσ, hW, hL, hls, he, hF⟩
  subst hσ
  have hi := Nat.eq_of_beq_eq_true hi
  obtain ⟨x, hx⟩ := tj_k3 he hi
  refine ⟨(pc + n, zx_putL k (tj_v ρ a) ls, st.map (tj_v ρ), w, mc, ms), Ψ, ρ, _, ?_, List.mem_cons_self, ⟨_, w, mc, ms, rfl, hW, tj_putL_ok he hL, tj_limP_put (tj_alim hW.1 he (tj_k_lim (by rw [hi]; rfl))) hls, he, hF⟩, Nat.le_refl _, fun _ _ => rfl⟩
  show zx_stJ n k (pc, ls, tj_v ρ a :: st.map (tj_v ρ), w, mc, ms) = _
  rw [hx]
  rfl
theorem tj_stA_ok {n k : Nat} {A : tj_S} {As : List tj_S} (h : tj_st 1 n k A = some As) : tj_sim Λ cap E Ψ0 w0 (tj_fn (zx_stA n k)) A As := by
  obtain ⟨pc, L, a, st, env, F, rfl, hi, rfl⟩ := tj_st_inv h
  intro Ψ ρ σ ⟨ls, w, mc, ms, hσ, hW, hL, hls, he, hF⟩
  subst hσ
  have hi := tj_is1 hi
  refine ⟨(pc + n, zx_put k (tj_v ρ a) ls, st.map (tj_v ρ), w, mc, ms), Ψ, ρ, _, ?_, List.mem_cons_self, ⟨_, w, mc, ms, rfl, hW, tj_put_ok he hL, tj_limP_put (tj_alim hW.1 he (tj_k_lim (by rcases hi with e | e <;> rw [e] <;> rfl))) hls, he, hF⟩, Nat.le_refl _, fun _ _ => rfl⟩
  show zx_stA n k (pc, ls, tj_v ρ a :: st.map (tj_v ρ), w, mc, ms) = _
  rcases tj_k12 he hi with ⟨q, hx⟩ | hx <;> rw [hx] <;> rfl
end tjBase
