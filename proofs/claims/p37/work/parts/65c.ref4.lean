/-! by hand: bitsOf, common -/
theorem tr_irem (x y : Int32) : (x - (x / y) * y).toInt = x.toInt.tmod y.toInt := by
  have e : x - (x / y) * y = x % y := by
    apply Int32.toInt_inj.mp
    have h1 := Int32.le_toInt (x % y)
    have h2 := Int32.toInt_lt (x % y)
    rw [Int32.toInt_sub, Int32.toInt_mul, Int32.toInt_div, Int.bmod_mul_bmod, Int.sub_bmod_bmod, Int.mul_comm (x.toInt.tdiv y.toInt), ← Int.tmod_def, ← Int32.toInt_mod]
    exact Int.bmod_eq_of_le_mul_two (by omega) (by omega)
  rw [e, Int32.toInt_mod]
theorem tr_full {Ψ : List Nat} (x : Int32) : tj_vt Ψ (0, 0, 4294967295) (.inl x) := ⟨x, rfl, Nat.zero_le _, by have := tj_b_lt x; omega⟩
theorem tr_bits (x : Int32) (h : x ≠ 0) : (x &&& (x - Int32.ofNat 1)).toBitVec.toNat < x.toBitVec.toNat := by
  have e : (x &&& (x - Int32.ofNat 1)).toBitVec = x.toBitVec &&& (x.toBitVec - 1#32) := rfl
  rw [e, BitVec.toNat_and]
  have hne : x.toBitVec.toNat ≠ 0 := fun e => h (by
    apply Int32.toBitVec_inj.mp
    apply BitVec.eq_of_toNat_eq
    rw [e]
    rfl)
  have hlt := x.toBitVec.isLt
  have hs : (x.toBitVec - 1#32).toNat = x.toBitVec.toNat - 1 := by
    rw [BitVec.toNat_sub]
    show (2 ^ 32 - 1 + x.toBitVec.toNat) % 2 ^ 32 = _
    omega
  rw [hs]
  have := Nat.and_le_right (n := x.toBitVec.toNat) (m := x.toBitVec.toNat - 1)
  omega
set_option maxRecDepth 20000 in
theorem tr_b_bitsOf0 : tj_KS1 (zx_Cl zx_mt zx_rc zx_mx' 1) tj_Lam tr_h_bitsOf0 := by
  refine zy_method (d := 0) (dt := zx_d_X12_bitsOf) (by rw [← zx_q_X12_bitsOf]; rfl) (by decide +kernel) (by decide +kernel) ?_
  intro Ψ av w hw hty hp
  match av, hty with
  | [v0], ⟨⟨s, hv0, _⟩, _⟩ =>
    subst hv0
    have hty1 : tj_typed Ψ [(.inl s)] [(0, 0, 4294967295)] := ⟨tr_full s, trivial⟩
    let WP : zx_S → Prop := fun σ => zx_wp (zx_Cl zx_mt zx_rc zx_mx' 0) none (tj_P tj_c1 w, tj_P tj_c2 w) (zx_find (zx_cT zx_d_X12_bitsOf)) (tj_Post tj_Lam tr_h_bitsOf0.2.2.1 Ψ w zx_d_X12_bitsOf tr_h_bitsOf0.2.2.2.1 [(.inl s)]) σ
    have loop : ∀ (m : Nat) (k n : Int32) (ls : List (Nat × zx_V)), k.toBitVec.toNat = m → zx_look 1 ls = some (.inl n) → zx_look 2 ls = some (.inl k) → WP (4, ls, [], w, 0, 0) := by
      intro m
      induction m using Nat.strongRecOn with
      | _ m ih =>
        intro k n ls hm l1 l2
        refine zy_li rfl l2 ?_
        refine zy_j0 rfl (fun _ => ?_) (fun hne => ?_)
        · refine zy_li rfl l1 ?_
          exact zx_wp_done ⟨(some (.inl n), w), Ψ, _, ⟨Nat.le_refl _, Nat.le_refl _, rfl, ⟨_, rfl, rfl⟩⟩, Nat.le_of_eq (Nat.zero_add _), Nat.le_of_eq (Nat.zero_add _), tj_le_rf, hw, tj_fr_rf, List.mem_cons_self, hty1, ⟨_, rfl, tr_full n⟩, zy_outF (tr_full n) (fun f hf => absurd hf List.not_mem_nil)⟩
        · have hne : zx_b k ≠ 2147483648 := hne
          have hk : k ≠ 0 := fun e => by
            rw [e] at hne
            exact hne (by decide)
          have hlt := tr_bits k hk
          refine zy_ik (k := 1) (n := 1) rfl l1 ?_
          have l2' : zx_look 2 (zx_put 1 (.inl (n + Int32.ofNat 1)) ls) = some (.inl k) := zy_look_ne (by decide) rfl l2
          refine zy_li rfl l2' ?_
          refine zy_li rfl l2' ?_
          refine zy_ci (n := 1) (c := 1) rfl ?_
          refine zy_sub rfl ?_
          refine zy_and rfl ?_
          refine zy_si (k := 2) rfl ?_
          refine zy_goto rfl ?_
          exact ih _ (by rw [← hm]; exact hlt) _ (n + Int32.ofNat 1) _ rfl (zy_look_ne (by decide) rfl zy_look_put) zy_look_put
    show WP (0, [(0, (.inl s))], [], w, 0, 0)
    refine zy_ci (n := 1) (c := 0) rfl ?_
    refine zy_si (k := 1) rfl ?_
    refine zy_li (k := 0) rfl rfl ?_
    refine zy_si (k := 2) rfl ?_
    exact loop _ s (Int32.ofNat 0) _ rfl rfl rfl
set_option maxRecDepth 20000 in
theorem tr_b_common0 : tj_KS1 (zx_Cl zx_mt zx_rc zx_mx' 1) tj_Lam tr_h_common0 := by
  refine zy_method (d := 0) (dt := zx_d_X12_common) (by rw [← zx_q_X12_common]; rfl) (by decide +kernel) (by decide +kernel) ?_
  intro Ψ av w hw hty hp
  match av, hty with
  | [v0, v1], ⟨⟨a, hv0, _⟩, ⟨b, hv1, _⟩, _⟩ =>
    subst hv0
    subst hv1
    obtain ⟨ρ, r1, r2, r3⟩ := hp
    have e1 : ρ 1 = (.inl b) := r1 1 _ rfl
    have F : ∃ x, ρ 1 = (.inl x) ∧ x ≠ Int32.ofNat 0 := r3 (2, .inr 1, .inl 0, .inl 0) List.mem_cons_self
    rw [e1] at F
    obtain ⟨x, hx, hb⟩ := F
    cases hx
    have hty2 : tj_typed Ψ [(.inl a), (.inl b)] [(0, 0, 4294967295), (0, 0, 4294967295)] := ⟨tr_full a, tr_full b, trivial⟩
    let WP : zx_S → Prop := fun σ => zx_wp (zx_Cl zx_mt zx_rc zx_mx' 0) none (tj_P tj_c1 w, tj_P tj_c2 w) (zx_find (zx_cT zx_d_X12_common)) (tj_Post tj_Lam tr_h_common0.2.2.1 Ψ w zx_d_X12_common tr_h_common0.2.2.2.1 [(.inl a), (.inl b)]) σ
    have loop : ∀ (m : Nat) (x y : Int32) (ls : List (Nat × zx_V)), y.toInt.natAbs = m → (y ≠ 0 ∨ x ≠ 0) → zx_look 2 ls = some (.inl x) → zx_look 3 ls = some (.inl y) → WP (4, ls, [], w, 0, 0) := by
      intro m
      induction m using Nat.strongRecOn with
      | _ m ih =>
        intro x y ls hm hne l2 l3
        refine zy_li rfl l3 ?_
        refine zy_j0 rfl (fun he => ?_) (fun hn => ?_)
        · have he : zx_b y = 2147483648 := he
          have hy0 : y = 0 := tr_beq (by rw [he]; decide)
          have hx0 : x ≠ 0 := by
            rcases hne with h | h
            · exact absurd hy0 h
            · exact h
          have bx := zx_b_int x
          have hxi : x.toInt ≠ 0 := fun e => hx0 (Int32.toInt_inj.mp (by rw [e]; decide))
          refine zy_li rfl l2 ?_
          by_cases hs : x.toInt < 0
          · have hvt : tj_vt Ψ (0, 0, 2147483647) (.inl x) := ⟨x, rfl, Nat.zero_le _, by omega⟩
            exact zx_wp_done ⟨(some (.inl x), w), Ψ, _, ⟨Nat.le_refl _, Nat.le_refl _, rfl, ⟨_, rfl, rfl⟩⟩, Nat.le_of_eq (Nat.zero_add _), Nat.le_of_eq (Nat.zero_add _), tj_le_rf, hw, tj_fr_rf, List.mem_cons_self, hty2, ⟨_, rfl, hvt⟩, zy_outF hvt (fun f hf => absurd hf List.not_mem_nil)⟩
          · have hvt : tj_vt Ψ (0, 2147483649, 4294967295) (.inl x) := ⟨x, rfl, by omega, by have := tj_b_lt x; omega⟩
            exact zx_wp_done ⟨(some (.inl x), w), Ψ, _, ⟨Nat.le_refl _, Nat.le_refl _, rfl, ⟨_, rfl, rfl⟩⟩, Nat.le_of_eq (Nat.zero_add _), Nat.le_of_eq (Nat.zero_add _), tj_le_rf, hw, tj_fr_rf, List.mem_cons_of_mem _ List.mem_cons_self, hty2, ⟨_, rfl, hvt⟩, zy_outF hvt (fun f hf => absurd hf List.not_mem_nil)⟩
        · have hn : zx_b y ≠ 2147483648 := hn
          have hy0 : y ≠ 0 := fun e => by
            rw [e] at hn
            exact hn (by decide)
          have hyi : y.toInt ≠ 0 := fun e => hy0 (Int32.toInt_inj.mp (by rw [e]; decide))
          refine zy_li rfl l2 ?_
          refine zy_li rfl l3 ?_
          refine zy_rem rfl hy0 ?_
          refine zy_si (k := 4) rfl ?_
          refine zy_li rfl (zy_look_ne (by decide) rfl l3) ?_
          refine zy_si (k := 2) rfl ?_
          refine zy_li rfl (zy_look_ne (by decide) rfl zy_look_put) ?_
          refine zy_si (k := 3) rfl ?_
          refine zy_goto rfl ?_
          refine ih (x - x / y * y).toInt.natAbs ?_ y (x - x / y * y) _ rfl (Or.inr hy0) (zy_look_ne (by decide) rfl zy_look_put) zy_look_put
          rw [← hm, tr_irem, Int.natAbs_tmod]
          exact Nat.mod_lt _ (by omega)
    show WP (0, [(0, (.inl a)), (1, (.inl b))], [], w, 0, 0)
    refine zy_li (k := 0) rfl rfl ?_
    refine zy_si (k := 2) rfl ?_
    refine zy_li (k := 1) rfl rfl ?_
    refine zy_si (k := 3) rfl ?_
    exact loop _ a b _ rfl (Or.inl hb) rfl rfl
