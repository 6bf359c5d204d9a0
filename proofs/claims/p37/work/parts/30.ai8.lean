/-! the abstract executor: one instruction, by its name; it is right -/
section tiStep
variable {Λ : List ti_D} {Ψ : List Nat} {mc ms : Nat}
theorem ti_push_len {n c : Nat} {A : ti_S} {As : List ti_S} (h : ti_push n c A = some As) : ∀ A' ∈ As, A.2.2.2.1.length ≤ A'.2.2.2.1.length := by
  obtain ⟨pc, L, st0, env, F⟩ := A
  unfold ti_push at h
  repeat' split at h
  all_goals first
    | (cases h; done)
    | (simp only [Option.some.injEq] at h; subst h; simp_all [List.length_append])
theorem ti_ldI_len {n k : Nat} {A : ti_S} {As : List ti_S} (h : ti_ldI n k A = some As) : ∀ A' ∈ As, A.2.2.2.1.length ≤ A'.2.2.2.1.length := by
  obtain ⟨pc, L, st0, env, F⟩ := A
  unfold ti_ldI at h
  repeat' split at h
  all_goals first
    | (cases h; done)
    | (simp only [Option.some.injEq] at h; subst h; simp_all [List.length_append])
theorem ti_ldA_len {n k : Nat} {A : ti_S} {As : List ti_S} (h : ti_ldA n k A = some As) : ∀ A' ∈ As, A.2.2.2.1.length ≤ A'.2.2.2.1.length := by
  obtain ⟨pc, L, st0, env, F⟩ := A
  unfold ti_ldA at h
  repeat' split at h
  all_goals first
    | (cases h; done)
    | (simp only [Option.some.injEq] at h; subst h; simp_all [List.length_append])
theorem ti_goto_len {t : Nat} {A : ti_S} {As : List ti_S} (h : ti_goto t A = some As) : ∀ A' ∈ As, A.2.2.2.1.length ≤ A'.2.2.2.1.length := by
  obtain ⟨pc, L, st0, env, F⟩ := A
  unfold ti_goto at h
  repeat' split at h
  all_goals first
    | (cases h; done)
    | (simp only [Option.some.injEq] at h; subst h; simp_all [List.length_append])
theorem ti_gf_len {ci k : Nat} {A : ti_S} {As : List ti_S} (h : ti_gf Λ ci k A = some As) : ∀ A' ∈ As, A.2.2.2.1.length ≤ A'.2.2.2.1.length := by
  obtain ⟨pc, L, st0, env, F⟩ := A
  unfold ti_gf at h
  repeat' split at h
  all_goals first
    | (cases h; done)
    | (simp only [Option.some.injEq] at h; subst h; simp_all [List.length_append])
theorem ti_ald_len {kd : Nat} {A : ti_S} {As : List ti_S} (h : ti_ald Λ kd A = some As) : ∀ A' ∈ As, A.2.2.2.1.length ≤ A'.2.2.2.1.length := by
  obtain ⟨pc, L, st0, env, F⟩ := A
  unfold ti_ald at h
  repeat' split at h
  all_goals first
    | (cases h; done)
    | (simp only [Option.some.injEq] at h; subst h; simp_all [List.length_append])
theorem ti_pf_len {ci k fit : Nat} {A : ti_S} {As : List ti_S} (h : ti_pf Λ ci k fit A = some As) : ∀ A' ∈ As, A.2.2.2.1.length ≤ A'.2.2.2.1.length := by
  obtain ⟨pc, L, st0, env, F⟩ := A
  unfold ti_pf at h
  repeat' split at h
  all_goals first
    | (cases h; done)
    | (simp only [Option.some.injEq] at h; subst h; simp_all [List.length_append])
theorem ti_ast_len {A : ti_S} {As : List ti_S} (h : ti_ast Λ A = some As) : ∀ A' ∈ As, A.2.2.2.1.length ≤ A'.2.2.2.1.length := by
  obtain ⟨pc, L, st0, env, F⟩ := A
  unfold ti_ast at h
  repeat' split at h
  all_goals first
    | (cases h; done)
    | (simp only [Option.some.injEq] at h; subst h; simp_all [List.length_append])
theorem ti_bin_len {n : Nat} {A : ti_S} {As : List ti_S} (h : ti_bin n A = some As) : ∀ A' ∈ As, A.2.2.2.1.length ≤ A'.2.2.2.1.length := by
  obtain ⟨pc, L, st0, env, F⟩ := A
  unfold ti_bin at h
  repeat' split at h
  all_goals first
    | (cases h; done)
    | (simp only [Option.some.injEq] at h; subst h; simp_all [List.length_append])
theorem ti_stI_len {n k : Nat} {A : ti_S} {As : List ti_S} (h : ti_stI n k A = some As) : ∀ A' ∈ As, A.2.2.2.1.length ≤ A'.2.2.2.1.length := by
  obtain ⟨pc, L, st0, env, F⟩ := A
  unfold ti_stI at h
  repeat' split at h
  all_goals first
    | (cases h; done)
    | (simp only [Option.some.injEq] at h; subst h; simp_all [List.length_append])
theorem ti_inc_len {k n : Nat} {A : ti_S} {As : List ti_S} (h : ti_inc k n A = some As) : ∀ A' ∈ As, A.2.2.2.1.length ≤ A'.2.2.2.1.length := by
  obtain ⟨pc, L, st0, env, F⟩ := A
  unfold ti_inc at h
  repeat' split at h
  all_goals first
    | (cases h; done)
    | (simp only [Option.some.injEq] at h; subst h; simp_all [List.length_append])
theorem ti_pop_len {A : ti_S} {As : List ti_S} (h : ti_pop A = some As) : ∀ A' ∈ As, A.2.2.2.1.length ≤ A'.2.2.2.1.length := by
  obtain ⟨pc, L, st0, env, F⟩ := A
  unfold ti_pop at h
  repeat' split at h
  all_goals first
    | (cases h; done)
    | (simp only [Option.some.injEq] at h; subst h; simp_all [List.length_append])
theorem ti_dup_len {A : ti_S} {As : List ti_S} (h : ti_dup A = some As) : ∀ A' ∈ As, A.2.2.2.1.length ≤ A'.2.2.2.1.length := by
  obtain ⟨pc, L, st0, env, F⟩ := A
  unfold ti_dup at h
  repeat' split at h
  all_goals first
    | (cases h; done)
    | (simp only [Option.some.injEq] at h; subst h; simp_all [List.length_append])
theorem ti_alen_len {A : ti_S} {As : List ti_S} (h : ti_alen Λ A = some As) : ∀ A' ∈ As, A.2.2.2.1.length ≤ A'.2.2.2.1.length := by
  obtain ⟨pc, L, st0, env, F⟩ := A
  unfold ti_alen at h
  repeat' split at h
  all_goals first
    | (cases h; done)
    | (simp only [Option.some.injEq] at h; subst h; simp_all [List.length_append])
theorem ti_call_len {CS : List ti_C} {y n : Nat} {A : ti_S} {As : List ti_S} (h : ti_call CS y n A = some As) : ∀ A' ∈ As, A.2.2.2.1.length ≤ A'.2.2.2.1.length := by
  obtain ⟨pc, L, st0, env, F⟩ := A
  unfold ti_call at h
  repeat' split at h
  all_goals first
    | (cases h; done)
    | (simp only [Option.some.injEq] at h; subst h; simp_all [List.length_append])
theorem ti_nar_len {env env' : List ti_y} {a : ti_a} {q : Nat × Nat} (h : ti_nar env a q = some env') : env'.length = env.length := by
  unfold ti_nar at h
  repeat' split at h
  all_goals first
    | (cases h; done)
    | (simp only [Option.some.injEq] at h; subst h; simp)
theorem ti_side_len {o : ClassFile.Cond} {env : List ti_y} {a b : ti_a} {pc : Nat} {L : List (Nat × ti_a)} {st : List ti_a} {F : List ti_f} {As : List ti_S} (h : ti_side o env a b (fun env' => (pc, L, st, env', F)) = some As) : ∀ A' ∈ As, env.length ≤ A'.2.2.2.1.length := by
  unfold ti_side at h
  split at h
  next =>
    split at h
    next => cases h; intro A' hA; exact absurd hA List.not_mem_nil
    next env1 h1 =>
      split at h
      next => cases h; intro A' hA; exact absurd hA List.not_mem_nil
      next env2 h2 =>
        cases h
        intro A' hA
        rw [List.mem_singleton.mp hA]
        show env.length ≤ env2.length
        rw [ti_nar_len h2, ti_nar_len h1]
        exact Nat.le_refl _
  next => cases h
theorem ti_jt_len {o : ClassFile.Cond} {t : Nat} {A : ti_S} {As : List ti_S} (h : ti_jt o t A = some As) : ∀ A' ∈ As, A.2.2.2.1.length ≤ A'.2.2.2.1.length := by
  obtain ⟨pc, L, st0, env, F⟩ := A
  unfold ti_jt at h
  split at h
  next pc' L' b a st env' F' heq =>
    cases heq
    unfold ti_two at h
    split at h
    next r s h1 h2 =>
      cases h
      intro A' hA
      rcases List.mem_append.mp hA with g | g
      · exact ti_side_len h1 A' g
      · exact ti_side_len h2 A' g
    next => cases h
  next => cases h
theorem ti_j0_len {o : ClassFile.Cond} {t : Nat} {A : ti_S} {As : List ti_S} (h : ti_j0 o t A = some As) : ∀ A' ∈ As, A.2.2.2.1.length ≤ A'.2.2.2.1.length := by
  obtain ⟨pc, L, st0, env, F⟩ := A
  unfold ti_j0 at h
  split at h
  next pc' L' a st env' F' heq =>
    cases heq
    unfold ti_two at h
    split at h
    next r s h1 h2 =>
      cases h
      intro A' hA
      rcases List.mem_append.mp hA with g | g
      · exact ti_side_len h1 A' g
      · exact ti_side_len h2 A' g
    next => cases h
  next => cases h
/-- what an instruction does in the exact machine -/
def ti_does (K : zx_K) (X : zx_X) (cap : Nat × Nat) (q : zx_Q) (σ μ : zx_S) : Prop := match q with
  | (0, _, _, g) => g X cap σ = some μ
  | (3, y, n, _) => zx_callS K cap y n σ μ
  | _ => False
theorem ti_does_step {K : zx_K} {X : zx_X} {cap : Nat × Nat} {tab : Nat → Option zx_Q} {q : zx_Q} {σ μ : zx_S} (ht : tab σ.1 = some q) (h : ti_does K X cap q σ μ) : zx_step K X cap tab σ μ := by
  unfold zx_step
  rw [ht]
  unfold ti_does at h
  split at h
  next a1 a2 g => exact h
  next y n g => exact h
  next => exact h.elim
def ti_rt (K : zx_K) (X : zx_X) (cap : Nat × Nat) (Λ : List ti_D) (Ψ : List Nat) (mc ms : Nat) (q : zx_Q) (A : ti_S) (As : List ti_S) : Prop := ∀ ρ σ, ti_G Λ Ψ mc ms A ρ σ → ∃ μ ρ' A', ti_does K X cap q σ μ ∧ A' ∈ As ∧ ti_G Λ Ψ mc ms A' ρ' μ ∧ A.2.2.2.1.length ≤ A'.2.2.2.1.length ∧ ∀ k, k < A.2.2.2.1.length → ρ' k = ρ k
theorem ti_rt_of {K : zx_K} {X : zx_X} {cap : Nat × Nat} {a1 a2 : Nat} {g : zx_F} {A : ti_S} {As : List ti_S} (hs : ti_sim (g X cap) Λ Ψ mc ms A As) (hl : ∀ A' ∈ As, A.2.2.2.1.length ≤ A'.2.2.2.1.length) : ti_rt K X cap Λ Ψ mc ms (0, a1, a2, g) A As := by
  intro ρ σ hG
  obtain ⟨μ, ρ', A', h1, h2, h3, h4⟩ := hs ρ σ hG
  exact ⟨μ, ρ', A', h1, h2, h3, hl A' h2, h4⟩
def ti_ins (Λ : List ti_D) (CS : List ti_C) (I : Instr) (ex : List Nat) (A : ti_S) : Option (List ti_S) := match I with
  | .iconst _ => ti_push 1 (zx_hd ex) A
  | .bipush _ => ti_push 2 (zx_hd ex) A
  | .sipush _ => ti_push 3 (zx_hd ex) A
  | .ldc _ => ti_push 2 (zx_hd ex) A
  | .ldc_w _ => ti_push 3 (zx_hd ex) A
  | .iload_n k => ti_ldI 1 k.val A
  | .iload k => ti_ldI 2 k A
  | .aload_n k => ti_ldA 1 k.val A
  | .aload k => ti_ldA 2 k A
  | .istore_n k => ti_stI 1 k.val A
  | .istore k => ti_stI 2 k A
  | .iadd => ti_bin 0 A
  | .isub => ti_bin 1 A
  | .imul => ti_bin 2 A
  | .iand => ti_bin 3 A
  | .iinc k _ => ti_inc k (zx_hd ex) A
  | .goto _ => ti_goto (zx_hd ex) A
  | .if_icmp o _ => ti_jt o (zx_hd ex) A
  | .ifCond o _ => ti_j0 o (zx_hd ex) A
  | .getfield _ => match ex with
    | ci :: k :: _ => ti_gf Λ ci k A
    | _ => none
  | .putfield _ => match ex with
    | ci :: k :: fit :: _ => ti_pf Λ ci k fit A
    | _ => none
  | .arraylength => ti_alen Λ A
  | .iaload => ti_ald Λ 0 A
  | .baload => ti_ald Λ (zx_hd ex) A
  | .iastore => ti_ast Λ A
  | .dup => ti_dup A
  | .pop => ti_pop A
  | .invokevirtual _ => match ex with
    | 2 :: y :: n :: _ => ti_call CS y n A
    | _ => none
  | .invokespecial _ => match ex with
    | 2 :: y :: n :: _ => ti_call CS y n A
    | _ => none
  | .invokestatic _ => match ex with
    | 2 :: y :: n :: _ => ti_call CS y n A
    | _ => none
  | _ => none
theorem ti_ins_ok {K : zx_K} {X : zx_X} {CS : List ti_C} (hKS : ti_KS K Λ Ψ CS) {cap : Nat × Nat} (hcap : mc ≤ cap.1 ∧ ms ≤ cap.2) {I : Instr} {ex : List Nat} {A : ti_S} {As : List ti_S} (h : ti_ins Λ CS I ex A = some As) : ti_rt K X cap Λ Ψ mc ms (zx_den I ex) A As := by
  have hcl : ∀ {y n : Nat} {g : zx_F}, ti_call CS y n A = some As → ti_rt K X cap Λ Ψ mc ms (3, y, n, g) A As := fun hc ρ σ hG => by
    obtain ⟨μ, ρ', A', h1, h2, h3, h4⟩ := ti_call_ok hKS hcap hc hG
    exact ⟨μ, ρ', A', h1, h2, h3, ti_call_len hc A' h2, h4⟩
  cases I
  case iconst n => exact ti_rt_of (ti_push_ok h) (ti_push_len h)
  case bipush n => exact ti_rt_of (ti_push_ok h) (ti_push_len h)
  case sipush n => exact ti_rt_of (ti_push_ok h) (ti_push_len h)
  case ldc i => exact ti_rt_of (ti_push_ok h) (ti_push_len h)
  case ldc_w i => exact ti_rt_of (ti_push_ok h) (ti_push_len h)
  case iload_n k => exact ti_rt_of (ti_ldI_ok h) (ti_ldI_len h)
  case iload k => exact ti_rt_of (ti_ldI_ok h) (ti_ldI_len h)
  case aload_n k => exact ti_rt_of (ti_ldA_ok h) (ti_ldA_len h)
  case aload k => exact ti_rt_of (ti_ldA_ok h) (ti_ldA_len h)
  case istore_n k => exact ti_rt_of (ti_stI_ok h) (ti_stI_len h)
  case istore k => exact ti_rt_of (ti_stI_ok h) (ti_stI_len h)
  case iadd => exact ti_rt_of (ti_bin_ok h) (ti_bin_len h)
  case isub => exact ti_rt_of (ti_bin_ok h) (ti_bin_len h)
  case imul => exact ti_rt_of (ti_bin_ok h) (ti_bin_len h)
  case iand => exact ti_rt_of (ti_bin_ok h) (ti_bin_len h)
  case iinc k i => exact ti_rt_of (ti_inc_ok h) (ti_inc_len h)
  case goto off => exact ti_rt_of (ti_goto_ok h) (ti_goto_len h)
  case if_icmp o off => exact ti_rt_of (ti_jt_ok h) (ti_jt_len h)
  case ifCond o off => exact ti_rt_of (ti_j0_ok h) (ti_j0_len h)
  case arraylength => exact ti_rt_of (ti_alen_ok h) (ti_alen_len h)
  case iaload => exact ti_rt_of (ti_ald_ok h) (ti_ald_len h)
  case baload => exact ti_rt_of (ti_ald_ok h) (ti_ald_len h)
  case iastore => exact ti_rt_of (ti_ast_ok h) (ti_ast_len h)
  case dup => exact ti_rt_of (ti_dup_ok h) (ti_dup_len h)
  case pop => exact ti_rt_of (ti_pop_ok h) (ti_pop_len h)
  case getfield i =>
    simp only [ti_ins] at h
    split at h
    next ci k t => exact ti_rt_of (ti_gf_ok h) (ti_gf_len h)
    next => cases h
  case putfield i =>
    simp only [ti_ins] at h
    split at h
    next ci k fit t => exact ti_rt_of (ti_pf_ok h) (ti_pf_len h)
    next => cases h
  case invokevirtual i =>
    simp only [ti_ins] at h
    split at h
    next y n t => exact hcl h
    next => cases h
  case invokespecial i =>
    simp only [ti_ins] at h
    split at h
    next y n t => exact hcl h
    next => cases h
  case invokestatic i =>
    simp only [ti_ins] at h
    split at h
    next y n t => exact hcl h
    next => cases h
  all_goals cases h
/-- the executor over a table of data is right over its closures -/
def ti_step (Λ : List ti_D) (CS : List ti_C) (dt : List (List (Nat × zx_I))) (A : ti_S) : Option (List ti_S) := match zx_find dt A.1 with
  | some (I, _, ex) => ti_ins Λ CS I ex A
  | none => none
theorem zx_row_map {α β : Type} {f : α → β} {k : Nat} {x : α} : ∀ {l : List (Nat × α)}, zx_row k l = some x → zx_row k (l.map (fun q => (q.1, f q.2))) = some (f x)
  | [], h => by cases h
  | (j, u) :: l, h => by
    unfold zx_row at h
    show (match Nat.beq j k with
      | true => some (f u)
      | false => zx_row k (l.map (fun q : Nat × α => (q.1, f q.2)))) = _
    split at h
    next hj => cases h; rw [hj]
    next hj => rw [hj]; exact zx_row_map (f := f) h
theorem ti_find_cT {dt : List (List (Nat × zx_I))} {pc : Nat} {q : zx_I} (h : zx_find dt pc = some q) : zx_find (zx_cT dt) pc = some (zx_den q.1 q.2.2) := by
  unfold zx_find at h ⊢
  unfold zx_cT
  rw [List.getElem?_map]
  split at h
  next l hl =>
    rw [hl]
    exact zx_row_map (f := fun q : zx_I => zx_den q.1 q.2.2) h
  next => cases h
theorem ti_step_right {K : zx_K} {X : zx_X} {CS : List ti_C} (hKS : ti_KS K Λ Ψ CS) {cap : Nat × Nat} (hcap : mc ≤ cap.1 ∧ ms ≤ cap.2) {dt : List (List (Nat × zx_I))} : ti_right K X cap (zx_find (zx_cT dt)) Λ Ψ mc ms (ti_step Λ CS dt) := by
  intro A As h ρ σ hG
  unfold ti_step at h
  split at h
  next I len ex hf =>
    obtain ⟨μ, ρ', A', h1, h2, h3, h4, h5⟩ := ti_ins_ok (X := X) hKS hcap h ρ σ hG
    refine ⟨μ, ρ', A', ?_, h2, h3, h4, h5⟩
    have ht := ti_find_cT hf
    have hpc : σ.1 = A.1 := by
      obtain ⟨w, hσ, _⟩ := hG
      rw [hσ]
    exact ti_does_step (by rw [hpc]; exact ht) h1
  next => cases h
end tiStep
