/-! the abstract executor: stores into locals, sums, small ones -/
theorem ti_b_add (x y : Int32) : zx_b (x + y) = (zx_b x + zx_b y + 2147483648) % 4294967296 := by
  have h1 := zx_b_int x
  have h2 := zx_b_int y
  have h3 := zx_b_int (x + y)
  rw [Int32.toInt_add, Int.bmod_def] at h3
  split at h3 <;> omega
theorem ti_b_sub (x y : Int32) : zx_b (x - y) = (zx_b x + 4294967296 - zx_b y + 2147483648) % 4294967296 := by
  have h1 := zx_b_int x
  have h2 := zx_b_int y
  have h4 := ti_b_lt y
  have h3 := zx_b_int (x - y)
  rw [Int32.toInt_sub, Int.bmod_def] at h3
  split at h3 <;> omega
/-- intervals of what comes -/
def ti_ivo (n la ha lb hb : Nat) : Nat × Nat := match n with
  | 0 => match Nat.ble 2147483648 (la + lb) && Nat.blt (ha + hb) 6442450944 with
    | true => (la + lb - 2147483648, ha + hb - 2147483648)
    | false => (0, 4294967295)
  | 1 => match Nat.ble hb (la + 2147483648) && Nat.blt (ha + 2147483648) (lb + 4294967296) with
    | true => (la + 2147483648 - hb, ha + 2147483648 - lb)
    | false => (0, 4294967295)
  | _ => (0, 4294967295)
theorem ti_ivo_ok {n la ha lb hb : Nat} {x y : Int32} (a1 : la ≤ zx_b x) (a2 : zx_b x ≤ ha) (b1 : lb ≤ zx_b y) (b2 : zx_b y ≤ hb) : (ti_ivo n la ha lb hb).1 ≤ zx_b (ti_op n x y) ∧ zx_b (ti_op n x y) ≤ (ti_ivo n la ha lb hb).2 := by
  have hfull : 0 ≤ zx_b (ti_op n x y) ∧ zx_b (ti_op n x y) ≤ 4294967295 := by
    have := ti_b_lt (ti_op n x y)
    omega
  match n with
  | 0 =>
    unfold ti_ivo
    simp only
    split
    next h =>
      rw [Bool.and_eq_true] at h
      have h1 := Nat.le_of_ble_eq_true h.1
      have h2 : ha + hb < 6442450944 := Nat.le_of_ble_eq_true h.2
      have e : zx_b (ti_op 0 x y) = (zx_b x + zx_b y + 2147483648) % 4294967296 := ti_b_add x y
      rw [e]
      omega
    next => exact hfull
  | 1 =>
    unfold ti_ivo
    simp only
    split
    next h =>
      rw [Bool.and_eq_true] at h
      have h1 := Nat.le_of_ble_eq_true h.1
      have h2 : ha + 2147483648 < lb + 4294967296 := Nat.le_of_ble_eq_true h.2
      have e : zx_b (ti_op 1 x y) = (zx_b x + 4294967296 - zx_b y + 2147483648) % 4294967296 := ti_b_sub x y
      rw [e]
      omega
    next => exact hfull
  | n + 2 => exact hfull
def ti_eqa : ti_a → ti_a → Bool
  | .inl a, .inl b => Nat.beq a b
  | .inr a, .inr b => Nat.beq a b
  | _, _ => false
theorem ti_eqa_ok : ∀ {a b : ti_a}, ti_eqa a b = true → a = b
  | .inl _, .inl _, h => by rw [Nat.eq_of_beq_eq_true h]
  | .inr _, .inr _, h => by rw [Nat.eq_of_beq_eq_true h]
  | .inl _, .inr _, h => by cases h
  | .inr _, .inl _, h => by cases h
/-- an operation that was done before -/
def ti_ok (n : Nat) (a b : ti_a) : List ti_f → Option ti_a
  | [] => none
  | (m, a', b', c) :: F => match Nat.beq m (n + 1) && (ti_eqa a a' && ti_eqa b b') with
    | true => some c
    | false => ti_ok n a b F
theorem ti_ok_mem {n : Nat} {a b c : ti_a} : ∀ {F : List ti_f}, ti_ok n a b F = some c → (n + 1, a, b, c) ∈ F
  | [], h => by cases h
  | (m, a', b', c') :: F, h => by
    unfold ti_ok at h
    split at h
    next hz =>
      cases h
      simp only [Bool.and_eq_true] at hz
      rw [Nat.eq_of_beq_eq_true hz.1, ti_eqa_ok hz.2.1, ti_eqa_ok hz.2.2]
      exact List.mem_cons_self
    next => exact List.mem_cons_of_mem _ (ti_ok_mem h)
def ti_bin (n : Nat) (A : ti_S) : Option (List ti_S) := match A with
  | (pc, L, b :: a :: st, env, F) => match ti_iv env a, ti_iv env b with
    | some (la, ha), some (lb, hb) => match ti_ok n a b F with
      | some c => some [(pc + 1, L, c :: st, env, F)]
      | none => match ti_limS env.length L st F && (ti_lim env.length a && ti_lim env.length b) with
        | true => some [(pc + 1, L, .inr env.length :: st, env ++ [(0, ti_ivo n la ha lb hb)], [(n + 1, a, b, .inr env.length)] ++ F)]
        | false => none
    | _, _ => none
  | _ => none
section tiMore
variable {Λ : List ti_D} {Ψ : List Nat} {mc ms : Nat}
theorem ti_bin_ok {n : Nat} {A : ti_S} {As : List ti_S} (h : ti_bin n A = some As) : ti_sim (zx_bi (ti_op n)) Λ Ψ mc ms A As := by
  obtain ⟨pc, L, st0, env, F⟩ := A
  unfold ti_bin at h
  split at h
  next pc' L' b a st env' F' heq =>
    cases heq
    split at h
    next la ha lb hb hia hib =>
      have hs : ∀ (ρ : Nat → zx_V) (w : List zx_E) (x y : Int32), ti_v ρ a = (.inl x) → ti_v ρ b = (.inl y) → zx_bi (ti_op n) (pc, L.map (fun q => (q.1, ti_v ρ q.2)), (b :: a :: st).map (ti_v ρ), w, mc, ms) = some (pc + 1, L.map (fun q => (q.1, ti_v ρ q.2)), (.inl (ti_op n x y)) :: st.map (ti_v ρ), w, mc, ms) := by
        intro ρ w x y hx hy
        show zx_bi (ti_op n) (pc, L.map (fun q => (q.1, ti_v ρ q.2)), ti_v ρ b :: ti_v ρ a :: st.map (ti_v ρ), w, mc, ms) = _
        rw [hx, hy]
        rfl
      split at h
      next c hc =>
        cases h
        intro ρ σ ⟨w, hσ, hw, he, hF⟩
        subst hσ
        obtain ⟨x, y, hx, hy, hxy⟩ := hF _ (ti_ok_mem hc)
        refine ⟨_, ρ, _, hs ρ w x y hx hy, List.mem_cons_self, ⟨w, ?_, hw, he, hF⟩, fun _ _ => rfl⟩
        show _ = (pc + 1, L.map (fun q => (q.1, ti_v ρ q.2)), ti_v ρ c :: st.map (ti_v ρ), w, mc, ms)
        rw [hxy]
      next =>
        split at h
        next hz =>
          cases h
          simp only [Bool.and_eq_true] at hz
          intro ρ σ ⟨w, hσ, hw, he, hF⟩
          subst hσ
          obtain ⟨x, hx, a1, a2⟩ := ti_iv_ok he hia
          obtain ⟨y, hy, b1, b2⟩ := ti_iv_ok he hib
          have hiv := ti_ivo_ok (n := n) a1 a2 b1 b2
          obtain ⟨ρ', hG, hag⟩ := ti_newname (pc := pc) (pc' := pc + 1) (mc := mc) (ms := ms) (t := (0, ti_ivo n la ha lb hb)) (v := (.inl (ti_op n x y))) (G := [(n + 1, a, b, .inr env.length)]) hz.1 hw he hF ⟨_, rfl, hiv.1, hiv.2⟩ (fun ρ' hr hn f hf => by
            rw [List.mem_singleton.mp hf]
            exact ⟨x, y, by rw [ti_lim_v hr hz.2.1]; exact hx, by rw [ti_lim_v hr hz.2.2]; exact hy, hn⟩)
          exact ⟨_, ρ', _, hs ρ w x y hx hy, List.mem_cons_self, hG, hag⟩
        next => cases h
    next => cases h
  next => cases h
/-- categories by types -/
def ti_cat (env : List ti_y) : ti_a → Bool
  | .inl _ => false
  | .inr k => match env[k]? with
    | some (n + 3, _, _) => true
    | _ => false
theorem ti_cat_ok {env : List ti_y} {ρ : Nat → zx_V} (he : ∀ k t, env[k]? = some t → ti_vt Ψ t (ρ k)) : ∀ {a : ti_a}, ti_lim env.length a = true → zx_cat (ti_v ρ a) = ti_cat env a
  | .inl _, _ => rfl
  | .inr k, h => by
    have hlt : k < env.length := Nat.le_of_ble_eq_true h
    have hk := List.getElem?_eq_getElem hlt
    have ht := he k _ hk
    unfold ti_cat
    simp only
    rw [hk]
    match env[k], ht with
    | (0, lo, hi), ⟨x, e, _⟩ => show zx_cat (ρ k) = false; rw [e]; rfl
    | (1, l, _), ⟨q, e, _⟩ => show zx_cat (ρ k) = false; rw [e]; rfl
    | (2, l, _), Or.inl e => show zx_cat (ρ k) = false; rw [e]; rfl
    | (2, l, _), Or.inr ⟨q, e, _⟩ => show zx_cat (ρ k) = false; rw [e]; rfl
    | (n + 3, _, _), ⟨x, e⟩ => show zx_cat (ρ k) = true; rw [e]; rfl
def ti_put (env : List ti_y) (k : Nat) (a : ti_a) (L : List (Nat × ti_a)) : List (Nat × ti_a) := (k, a) :: L.filter (fun q => !(q.1 == k) && !(q.1 + 1 == k && ti_cat env q.2))
theorem ti_put_ok {env : List ti_y} {ρ : Nat → zx_V} (he : ∀ k t, env[k]? = some t → ti_vt Ψ t (ρ k)) {k : Nat} {a : ti_a} {L : List (Nat × ti_a)} (hl : L.all (fun q => ti_lim env.length q.2) = true) : (ti_put env k a L).map (fun q => (q.1, ti_v ρ q.2)) = zx_put k (ti_v ρ a) (L.map (fun q => (q.1, ti_v ρ q.2))) := by
  unfold ti_put zx_put
  rw [List.map_cons, List.filter_map]
  congr 2
  apply List.filter_congr
  intro q hq
  show _ = (!(q.1 == k) && !(q.1 + 1 == k && zx_cat (ti_v ρ q.2)))
  rw [ti_cat_ok he (List.all_eq_true.mp hl q hq)]
def ti_stI (n k : Nat) (A : ti_S) : Option (List ti_S) := match A with
  | (pc, L, a :: st, env, F) => match ti_iv env a, L.all (fun q => ti_lim env.length q.2) with
    | some _, true => some [(pc + n, ti_put env k a L, st, env, F)]
    | _, _ => none
  | _ => none
theorem ti_stI_ok {n k : Nat} {A : ti_S} {As : List ti_S} (h : ti_stI n k A = some As) : ti_sim (zx_stI n k) Λ Ψ mc ms A As := by
  obtain ⟨pc, L, st0, env, F⟩ := A
  unfold ti_stI at h
  split at h
  next pc' L' a st env' F' heq =>
    cases heq
    split at h
    next q hq hl =>
      cases h
      intro ρ σ ⟨w, hσ, hw, he, hF⟩
      subst hσ
      obtain ⟨x, hx, -⟩ := ti_iv_ok he (lo := q.1) (hi := q.2) hq
      refine ⟨_, ρ, _, ?_, List.mem_cons_self, ⟨w, rfl, hw, he, hF⟩, fun _ _ => rfl⟩
      show zx_stI n k (pc, L.map (fun q => (q.1, ti_v ρ q.2)), ti_v ρ a :: st.map (ti_v ρ), w, mc, ms) = some (pc + n, (ti_put env k a L).map (fun q => (q.1, ti_v ρ q.2)), st.map (ti_v ρ), w, mc, ms)
      rw [ti_put_ok he hl, hx]
      rfl
    next => cases h
  next => cases h
end tiMore
