/-! the abstract executor: one instruction, by its name; it is right -/
def tj_does (K : zx_K) (X : zx_X) (cap : Nat × Nat) (q : zx_Q) (σ μ : zx_S) : Prop := match q with
  | (0, _, _, g) => g X cap σ = some μ
  | (3, y, n, _) => zx_callS K cap y n σ μ
  | _ => False
theorem tj_does_step {K : zx_K} {X : zx_X} {cap : Nat × Nat} {tab : Nat → Option zx_Q} {q : zx_Q} {σ μ : zx_S} (ht : tab σ.1 = some q) (h : tj_does K X cap q σ μ) : zx_step K X cap tab σ μ := by
  unfold zx_step
  rw [ht]
  unfold tj_does at h
  split at h
  next a1 a2 g => exact h
  next y n g => exact h
  next => exact h.elim
def tj_ins (Λ : List tj_D) (E : tj_Ef) (CS : List tj_C) (I : Instr) (ex : List Nat) (A : tj_S) : Option (List tj_S) := match I with
  | .iconst _ => tj_push 1 (zx_hd ex) A
  | .bipush _ => tj_push 2 (zx_hd ex) A
  | .sipush _ => tj_push 3 (zx_hd ex) A
  | .ldc _ => tj_push 2 (zx_hd ex) A
  | .ldc_w _ => tj_push 3 (zx_hd ex) A
  | .lconst _ => tj_pushJ 1 A
  | .ldc2_w _ => tj_pushJ 3 A
  | .iload_n k => tj_ld 0 1 k.val A
  | .iload k => tj_ld 0 2 k A
  | .lload_n k => tj_ld 3 1 k.val A
  | .lload k => tj_ld 3 2 k A
  | .aload_n k => tj_ld 1 1 k.val A
  | .aload k => tj_ld 1 2 k A
  | .istore_n k => tj_st 0 1 k.val A
  | .istore k => tj_st 0 2 k A
  | .lstore_n k => tj_st 3 1 k.val A
  | .lstore k => tj_st 3 2 k A
  | .astore_n k => tj_st 1 1 k.val A
  | .iadd => tj_bin 1 0 A
  | .isub => tj_bin 1 1 A
  | .imul => tj_bin 1 2 A
  | .iand => tj_bin 1 3 A
  | .ior => tj_bin 1 6 A
  | .ixor => tj_bin 1 7 A
  | .ishl => tj_bin 1 8 A
  | .ishr => tj_bin 1 9 A
  | .iushr => tj_bin 1 10 A
  | .irem => tj_bd 4 A
  | .idiv => tj_bd 5 A
  | .ineg => tj_un 0 A
  | .i2c => tj_un 1 A
  | .i2b => tj_un 2 A
  | .i2l => tj_any 1 (3, 0, 0) [0] A
  | .l2i => tj_any 1 (0, 0, 4294967295) [3] A
  | .lcmp => tj_any 1 (0, 2147483647, 2147483649) [3, 3] A
  | .ladd => tj_any 1 (3, 0, 0) [3, 3] A
  | .lsub => tj_any 1 (3, 0, 0) [3, 3] A
  | .lmul => tj_any 1 (3, 0, 0) [3, 3] A
  | .land => tj_any 1 (3, 0, 0) [3, 3] A
  | .lor => tj_any 1 (3, 0, 0) [3, 3] A
  | .lshl => tj_any 1 (3, 0, 0) [3, 0] A
  | .lshr => tj_any 1 (3, 0, 0) [3, 0] A
  | .lushr => tj_any 1 (3, 0, 0) [3, 0] A
  | .iinc k _ => tj_inc k (zx_hd ex) A
  | .goto _ => tj_goto (zx_hd ex) A
  | .if_icmp o _ => tj_jt o (zx_hd ex) A
  | .ifCond o _ => tj_j0 o (zx_hd ex) A
  | .ifnonnull _ => tj_nn2 (zx_hd ex) A
  | .arraylength => tj_alen Λ A
  | .iaload => tj_ald Λ 0 A
  | .baload => tj_ald Λ (zx_hd ex) A
  | .laload => tj_lald Λ A
  | .aaload => tj_aald Λ A
  | .iastore => tj_ast Λ E 0 A
  | .lastore => tj_last Λ E A
  | .dup => tj_dup A
  | .dup2 => tj_dup2 A
  | .pop => tj_pop A
  | .tableswitch .. => match ex with
    | d :: lo :: ts => tj_sw d (zx_zip lo ts) A
    | _ => none
  | .lookupswitch .. => match ex with
    | d :: ts => tj_sw d (zx_two ts) A
    | _ => none
  | .bastore => match zx_hd ex with
    | 2 => tj_ast Λ E 2 A
    | _ => tj_ast Λ E 3 A
  | .getfield _ => match ex with
    | ci :: k :: _ => tj_gf Λ ci k A
    | _ => none
  | .putfield _ => match ex with
    | ci :: k :: fit :: _ => tj_pf Λ E ci k fit A
    | _ => none
  | .invokevirtual _ => match ex with
    | 2 :: y :: n :: _ => tj_call E CS y n A
    | _ => none
  | .invokespecial _ => match ex with
    | 2 :: y :: n :: _ => tj_call E CS y n A
    | _ => none
  | .invokestatic _ => match ex with
    | 1 :: _ => tj_copy Λ E A
    | 3 :: _ => tj_mm 11 A
    | 4 :: _ => tj_mm 12 A
    | 5 :: _ => tj_ml A
    | 6 :: _ => tj_ml A
    | 2 :: y :: n :: _ => tj_call E CS y n A
    | _ => none
  | _ => none
section tjStep
variable {Λ : List tj_D} {cap : Nat × Nat} {E : tj_Ef} {Ψ0 : List Nat} {w0 : List zx_E}
theorem tj_ins_ok (hso : tj_SO Λ) {K : zx_K} {X : zx_X} {CS : List tj_C} (hKS : tj_KS K Λ CS) {I : Instr} {ex : List Nat} {A : tj_S} {As : List tj_S} (h : tj_ins Λ E CS I ex A = some As) : tj_sim Λ cap E Ψ0 w0 (tj_does K X cap (zx_den I ex)) A As := by
  cases I
  case iconst i => exact tj_push_ok h
  case bipush i => exact tj_push_ok h
  case sipush i => exact tj_push_ok h
  case ldc i => exact tj_push_ok h
  case ldc_w i => exact tj_push_ok h
  case lconst i => exact tj_pushJ_ok h
  case ldc2_w i => exact tj_pushJ_ok h
  case iload_n k => exact tj_ldI_ok h
  case iload k => exact tj_ldI_ok h
  case lload_n k => exact tj_ldJ_ok h
  case lload k => exact tj_ldJ_ok h
  case aload_n k => exact tj_ldA_ok h
  case aload k => exact tj_ldA_ok h
  case istore_n k => exact tj_stI_ok h
  case istore k => exact tj_stI_ok h
  case lstore_n k => exact tj_stJ_ok h
  case lstore k => exact tj_stJ_ok h
  case astore_n k => exact tj_stA_ok h
  case iadd => exact tj_bi_ok (n := 0) rfl h
  case isub => exact tj_bi_ok (n := 1) rfl h
  case imul => exact tj_bi_ok (n := 2) rfl h
  case iand => exact tj_bi_ok (n := 3) rfl h
  case ior => exact tj_bi_ok (n := 6) rfl h
  case ixor => exact tj_bi_ok (n := 7) rfl h
  case ishl => exact tj_bi_ok (n := 8) rfl h
  case ishr => exact tj_bi_ok (n := 9) rfl h
  case iushr => exact tj_bi_ok (n := 10) rfl h
  case irem => exact tj_bd_ok (n := 4) rfl h
  case idiv => exact tj_bd_ok (n := 5) rfl h
  case ineg => exact tj_un_ok (n := 0) h
  case i2c => exact tj_un_ok (n := 1) h
  case i2b => exact tj_un_ok (n := 2) h
  case i2l => exact tj_i2l_ok h
  case l2i => exact tj_l2i_ok h
  case lcmp => exact tj_lcmp_ok h
  case ladd => exact tj_bj_ok h
  case lsub => exact tj_bj_ok h
  case lmul => exact tj_bj_ok h
  case land => exact tj_bj_ok h
  case lor => exact tj_bj_ok h
  case lshl => exact tj_sj_ok h
  case lshr => exact tj_sj_ok h
  case lushr => exact tj_sj_ok h
  case iinc k i => exact tj_inc_ok h
  case goto o => exact tj_goto_ok h
  case if_icmp o i => exact tj_jt_ok h
  case ifCond o i => exact tj_j0_ok h
  case ifnonnull i => exact tj_nn_ok h
  case arraylength => exact tj_alen_ok (X := X) h
  case iaload => exact tj_ald_ok (X := X) h
  case baload => exact tj_ald_ok (X := X) h
  case laload => exact tj_lald_ok h
  case aaload => exact tj_aald_ok h
  case iastore => exact tj_ai_ok hso h
  case lastore => exact tj_last_ok hso h
  case dup => exact tj_dup_ok h
  case dup2 => exact tj_dup2_ok h
  case pop => exact tj_pop_ok h
  case tableswitch =>
    simp only [tj_ins] at h
    split at h
    next d lo ts => exact tj_sw_ok h
    next => cases h
  case lookupswitch =>
    simp only [tj_ins] at h
    split at h
    next d ts => exact tj_sw_ok h
    next => cases h
  case bastore =>
    simp only [tj_ins] at h
    split at h
    next hx =>
      have e : zx_den .bastore ex = zx_az := by
        unfold zx_den
        simp only [hx]
      rw [e]
      exact tj_az_ok hso h
    next hx =>
      have e : zx_den .bastore ex = zx_ab := by
        unfold zx_den
        simp only
      rw [e]
      exact tj_ab_ok hso h
  case getfield i =>
    simp only [tj_ins] at h
    split at h
    next ci k t => exact tj_gf_ok h
    next => cases h
  case putfield i =>
    simp only [tj_ins] at h
    split at h
    next ci k fit t => exact tj_pf_ok hso h
    next => cases h
  case invokevirtual i =>
    simp only [tj_ins] at h
    split at h
    next y n t => exact tj_call_ok hso hKS h
    next => cases h
  case invokespecial i =>
    simp only [tj_ins] at h
    split at h
    next y n t => exact tj_call_ok hso hKS h
    next => cases h
  case invokestatic i =>
    simp only [tj_ins] at h
    split at h
    next t => exact tj_copy_ok hso h
    next t => exact tj_mm_ok (n := 11) rfl h
    next t => exact tj_mm_ok (n := 12) rfl h
    next t => exact tj_ml_ok h
    next t => exact tj_ml_ok h
    next y n t => exact tj_call_ok hso hKS h
    next => cases h
  all_goals cases h
/-- the executor over a table of data is right over its closures -/
def tj_step (Λ : List tj_D) (E : tj_Ef) (CS : List tj_C) (dt : List (List (Nat × zx_I))) (A : tj_S) : Option (List tj_S) := match zx_find dt A.1 with
  | some (I, _, ex) => tj_ins Λ E CS I ex A
  | none => none
theorem zx_row_map {α β : Type} {f : α → β} {k : Nat} {x : α} : ∀ {l : List (Nat × α)}, zx_row k l = some x → zx_row k (l.map (fun q => (q.1, f q.2))) = some (f x)
  | [], h => by cases h
  | (j, u) :: l, h => by
    unfold zx_row at h
    show (match Nat.beq j k with
      | true => some (f u)
      | false => zx_row k (l.map (fun q : Nat × α => (q.1, f q.2)))) = _
    split at h
    next hj => cases h; rw [hj]
    next hj => rw [hj]; exact zx_row_map (f := f) h
theorem tj_find_cT {dt : List (List (Nat × zx_I))} {pc : Nat} {q : zx_I} (h : zx_find dt pc = some q) : zx_find (zx_cT dt) pc = some (zx_den q.1 q.2.2) := by
  unfold zx_find at h ⊢
  unfold zx_cT
  rw [List.getElem?_map]
  split at h
  next l hl =>
    rw [hl]
    exact zx_row_map (f := fun q : zx_I => zx_den q.1 q.2.2) h
  next => cases h
theorem tj_step_ok (hso : tj_SO Λ) {K : zx_K} {X : zx_X} {CS : List tj_C} (hKS : tj_KS K Λ CS) {dt : List (List (Nat × zx_I))} {A : tj_S} {As : List tj_S} (h : tj_step Λ E CS dt A = some As) : tj_sim Λ cap E Ψ0 w0 (zx_step K X cap (zx_find (zx_cT dt))) A As := by
  unfold tj_step at h
  split at h
  next I len ex hf =>
    intro Ψ ρ σ hG
    obtain ⟨μ, Ψ', ρ', A', h1, h2, h3, h4, h5⟩ := tj_ins_ok hso (X := X) hKS h Ψ ρ σ hG
    refine ⟨μ, Ψ', ρ', A', ?_, h2, h3, h4, h5⟩
    have ht := tj_find_cT hf
    have hpc : σ.1 = A.1 := by
      obtain ⟨ls, w, mc, ms, hσ, _⟩ := hG
      rw [hσ]
    exact tj_does_step (by rw [hpc]; exact ht) h1
  next => cases h
end tjStep
