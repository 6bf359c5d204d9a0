/-! tables: what stands in them; steps, runs, calls -/
def zx_no : zx_F := fun _ _ _ => none
def zx_xz : zx_Q := (0, 0, 0, zx_no)
def zx_q (g : zx_S → Option zx_S) : zx_Q := (0, 0, 0, fun _ _ σ => g σ)
def zx_ci (n v : Nat) : zx_Q := zx_q (zx_push n (.inl (Int32.ofNat v)))
def zx_cj (n v : Nat) : zx_Q := zx_q (zx_push n (.inr (.inl (Int64.ofNat v))))
def zx_nu : zx_Q := zx_q (zx_push 1 (.inr (.inr (.inr 0))))
def zx_li (n k : Nat) : zx_Q := zx_q (zx_ldI n k)
def zx_lj (n k : Nat) : zx_Q := zx_q (zx_ldJ n k)
def zx_la (n k : Nat) : zx_Q := zx_q (zx_ldA n k)
def zx_si (n k : Nat) : zx_Q := zx_q (zx_stI n k)
def zx_sjj (n k : Nat) : zx_Q := zx_q (zx_stJ n k)
def zx_sa (n k : Nat) : zx_Q := zx_q (zx_stA n k)
def zx_o_iadd : zx_Q := zx_q (zx_bi (fun x y => x + y))
def zx_o_isub : zx_Q := zx_q (zx_bi (fun x y => x - y))
def zx_o_imul : zx_Q := zx_q (zx_bi (fun x y => x * y))
def zx_o_iand : zx_Q := zx_q (zx_bi (fun x y => x &&& y))
def zx_o_ior : zx_Q := zx_q (zx_bi (fun x y => x ||| y))
def zx_o_ixor : zx_Q := zx_q (zx_bi (fun x y => x ^^^ y))
def zx_o_ishl : zx_Q := zx_q (zx_bi (fun x y => x <<< (y &&& 31)))
def zx_o_ishr : zx_Q := zx_q (zx_bi (fun x y => x >>> (y &&& 31)))
def zx_o_iushr : zx_Q := zx_q (zx_bi (fun x y => (x.toUInt32 >>> (y.toUInt32 &&& Int32.toUInt32 31)).toInt32))
def zx_o_idiv : zx_Q := zx_q (zx_bd (fun x y => x / y))
def zx_o_irem : zx_Q := zx_q (zx_bd (fun x y => x - x / y * y))
def zx_o_ladd : zx_Q := zx_q (zx_bj (fun x y => x + y))
def zx_o_lsub : zx_Q := zx_q (zx_bj (fun x y => x - y))
def zx_o_lmul : zx_Q := zx_q (zx_bj (fun x y => x * y))
def zx_o_land : zx_Q := zx_q (zx_bj (fun x y => x &&& y))
def zx_o_lor : zx_Q := zx_q (zx_bj (fun x y => x ||| y))
def zx_o_ldiv : zx_Q := zx_q zx_dj
def zx_o_lshl : zx_Q := zx_q (zx_sj (fun x y => x <<< (y.toInt64 &&& 63)))
def zx_o_lshr : zx_Q := zx_q (zx_sj (fun x y => x >>> (y.toInt64 &&& 63)))
def zx_o_lushr : zx_Q := zx_q (zx_sj (fun x y => (x.toUInt64 >>> (y.toInt64.toUInt64 &&& Int64.toUInt64 63)).toInt64))
def zx_o_ineg : zx_Q := zx_q (zx_un (fun x => -x))
def zx_o_i2c : zx_Q := zx_q (zx_un (fun x => (x.toUInt32 % 65536).toInt32))
def zx_o_i2b : zx_Q := zx_q (zx_un (fun x => x.toInt8.toInt32))
def zx_o_i2l : zx_Q := zx_q zx_i2l
def zx_o_l2i : zx_Q := zx_q zx_l2i
def zx_o_lcmp : zx_Q := zx_q zx_lcmp
def zx_o_dup : zx_Q := zx_q zx_dup
def zx_o_dup2 : zx_Q := zx_q zx_dup2
def zx_o_pop : zx_Q := zx_q zx_pop
def zx_ik (k n : Nat) : zx_Q := zx_q (zx_inc k (Int32.ofNat n))
def zx_gg (t : Nat) : zx_Q := zx_q (zx_gt t)
def zx_jj (o : ClassFile.Cond) (t : Nat) : zx_Q := zx_q (zx_jt o t)
def zx_jz (o : ClassFile.Cond) (t : Nat) : zx_Q := zx_q (zx_j0 o t)
def zx_jn (t : Nat) : zx_Q := zx_q (zx_nn t)
def zx_sw (d : Nat) (ts : List (Nat × Nat)) : zx_Q := zx_q (zx_sg d ts)
def zx_gk (ci k : Nat) : zx_Q := zx_q (zx_gf ci k)
def zx_pk (ci k fit : Nat) : zx_Q := zx_q (zx_pf ci k fit)
def zx_nw (ci : Nat) (fs : List zx_V) : zx_Q := (0, 0, 0, fun _ cap σ => zx_new ci fs cap σ)
def zx_na (len kd : Nat) : zx_Q := (0, 0, 0, fun _ cap σ => zx_newa len kd cap σ)
def zx_al : zx_Q := (0, 0, 0, fun X _ σ => zx_alen X σ)
def zx_ld (kd : Nat) : zx_Q := (0, 0, 0, fun X _ σ => zx_ald kd X σ)
def zx_ldj : zx_Q := zx_q zx_lald
def zx_ldq : zx_Q := zx_q zx_aald
def zx_ai : zx_Q := zx_q (zx_ast 0 (fun x => x))
def zx_az : zx_Q := zx_q (zx_ast 2 (vp_nar .boolean))
def zx_ab : zx_Q := zx_q (zx_ast 3 (vp_nar .byte))
def zx_aj : zx_Q := zx_q zx_last
def zx_aq : zx_Q := zx_q zx_aast
def zx_ob : zx_Q := zx_q zx_obj
def zx_cy : zx_Q := zx_q zx_copy
def zx_mx : zx_Q := (0, 0, 0, fun _ cap σ => zx_mm (fun x y => if x < y then y else x) cap σ)
def zx_mn : zx_Q := (0, 0, 0, fun _ cap σ => zx_mm (fun x y => if y < x then y else x) cap σ)
def zx_mxl : zx_Q := (0, 0, 0, fun _ cap σ => zx_ml (fun x y => if y < x then x else y) cap σ)
def zx_mnl : zx_Q := (0, 0, 0, fun _ cap σ => zx_ml (fun x y => if y < x then y else x) cap σ)
def zx_r1 : zx_Q := (1, 0, 0, zx_no)
def zx_r2 : zx_Q := (2, 0, 0, zx_no)
def zx_r4 : zx_Q := (4, 0, 0, zx_no)
def zx_r5 : zx_Q := (5, 0, 0, zx_no)
def zx_cl (y n : Nat) : zx_Q := (3, y, n, zx_no)
def zx_hd (ex : List Nat) : Nat := match ex with
  | a :: _ => a
  | [] => 0
def zx_h1 (ex : List Nat) : Nat := match ex with
  | _ :: a :: _ => a
  | _ => 0
/-- the reader's words; 'ldc WORDS; length' (5 bytes), 'ldc WORDS; iload a; iload b; iadd; charAt' (8 bytes) as steps -/
def zx_wds : List Nat := [104, 97, 108, 102, 32, 32, 115, 107, 105, 108, 108, 32, 99, 97, 114, 101, 115, 32, 108, 105, 107, 101, 32, 32, 116, 111, 32, 32, 32, 32, 112, 101, 114, 115, 111, 110, 111, 102, 32, 32, 32, 32, 116, 117, 114, 110, 32, 32, 100, 101, 101, 100, 32, 32, 106, 111, 121, 32, 32, 32, 108, 111, 97, 100, 32, 32, 102, 97, 118, 111, 117, 114, 100, 114, 97, 119, 32, 32, 111, 114, 32, 32, 32, 32, 97, 110, 100, 32, 32, 32, 110, 111, 116, 32, 32, 32, 100, 97, 121, 32, 32, 32, 97, 103, 97, 105, 110, 32]
def zx_chr (j : Nat) : Int32 := Int32.ofNat (zx_wds.getD j 0)
def zx_strL (cap : Nat × Nat) (σ : zx_S) : Option zx_S := match σ with
  | (pc, ls, st, w, mc, ms) => match Nat.ble st.length 4 && (Nat.ble mc cap.1 && Nat.ble ms cap.2) with
    | true => some (pc + 5, ls, (.inl 108) :: st, w, mc, ms)
    | false => none
def zx_strC (a b : Nat) (cap : Nat × Nat) (σ : zx_S) : Option zx_S := match zx_look a σ.2.1, zx_look b σ.2.1, σ with
  | some (.inl x), some (.inl y), (pc, ls, st, w, mc, ms) => match zx_in (x + y) 108 && (Nat.ble st.length 4 && (Nat.ble mc cap.1 && Nat.ble ms cap.2)) with
    | true => some (pc + 8, ls, (.inl (zx_chr (x + y).toNatClampNeg)) :: st, w, mc, ms)
    | false => none
  | _, _, _ => none
def zx_sL : zx_Q := (0, 0, 0, fun _ cap σ => zx_strL cap σ)
def zx_sC (a b : Nat) : zx_Q := (0, 0, 0, fun _ cap σ => zx_strC a b cap σ)
def zx_nop (ex : List Nat) : zx_Q := match ex with
  | 0 :: _ => zx_sL
  | 1 :: a :: b :: _ => zx_sC a b
  | _ => zx_xz
def zx_cls : Nat → List zx_V
  | 0 => [.inr (.inr (.inr 0)), .inr (.inr (.inr 0)), .inr (.inr (.inr 0)), .inr (.inr (.inr 0)), .inl 0, .inl 0, .inl 0, .inl 0]
  | 1 => [.inr (.inr (.inr 0)), .inr (.inr (.inr 0)), .inr (.inr (.inr 0)), .inr (.inr (.inr 0)), .inr (.inr (.inr 0)), .inr (.inr (.inr 0)), .inr (.inr (.inr 0)), .inr (.inr (.inr 0)), .inl 0, .inl 0]
  | 2 => [.inr (.inr (.inr 0)), .inr (.inr (.inr 0)), .inr (.inr (.inr 0)), .inl 0, .inl 0, .inl 0]
  | 3 => [.inr (.inr (.inr 0)), .inr (.inr (.inr 0)), .inr (.inr (.inr 0)), .inr (.inr (.inr 0)), .inr (.inr (.inr 0)), .inl 0, .inl 0, .inl 0, .inl 0]
  | 4 => [.inr (.inr (.inr 0)), .inr (.inr (.inr 0)), .inr (.inr (.inr 0)), .inr (.inr (.inr 0)), .inr (.inr (.inr 0)), .inr (.inr (.inr 0)), .inl 0, .inl 0, .inl 0, .inl 0, .inl 0, .inr (.inl 0), .inl 0, .inl 0, .inl 0, .inl 0, .inl 0]
  | 5 => [.inr (.inr (.inr 0)), .inl 0]
  | 6 => [.inr (.inr (.inr 0)), .inr (.inr (.inr 0)), .inr (.inr (.inr 0)), .inr (.inr (.inr 0)), .inl 0, .inl 0, .inl 0, .inr (.inr (.inr 0)), .inr (.inr (.inr 0)), .inr (.inr (.inr 0)), .inr (.inr (.inr 0)), .inl 0, .inr (.inr (.inr 0)), .inr (.inl 0), .inl 0, .inl 0, .inl 0, .inl 0, .inl 0]
  | 7 => [.inr (.inr (.inr 0)), .inr (.inr (.inr 0)), .inr (.inr (.inr 0)), .inr (.inr (.inr 0)), .inr (.inr (.inr 0)), .inr (.inr (.inr 0)), .inl 0, .inl 0, .inr (.inr (.inr 0)), .inr (.inr (.inr 0)), .inl 0, .inl 0, .inl 0, .inl 0, .inl 0]
  | 8 => [.inl 0, .inl 0, .inr (.inr (.inr 0)), .inr (.inr (.inr 0)), .inr (.inr (.inr 0)), .inr (.inr (.inr 0)), .inr (.inr (.inr 0))]
  | 9 => [.inr (.inr (.inr 0)), .inr (.inr (.inr 0)), .inr (.inr (.inr 0)), .inr (.inr (.inr 0)), .inr (.inr (.inr 0)), .inr (.inr (.inr 0)), .inr (.inr (.inr 0)), .inl 0, .inr (.inr (.inr 0)), .inr (.inr (.inr 0)), .inl 0, .inl 0, .inl 0, .inr (.inr (.inr 0)), .inl 0, .inl 0, .inr (.inr (.inr 0))]
  | 10 => [.inl 0, .inl 0, .inl 0, .inl 0, .inl 0, .inl 0, .inr (.inr (.inr 0)), .inr (.inr (.inr 0)), .inr (.inr (.inr 0)), .inr (.inr (.inr 0)), .inr (.inr (.inr 0)), .inr (.inr (.inr 0)), .inr (.inr (.inr 0)), .inr (.inr (.inr 0)), .inr (.inr (.inr 0)), .inr (.inr (.inr 0)), .inr (.inr (.inr 0)), .inr (.inr (.inr 0)), .inr (.inr (.inr 0))]
  | 11 => [.inr (.inr (.inr 0)), .inl 0, .inr (.inr (.inr 0)), .inr (.inr (.inr 0)), .inr (.inr (.inr 0)), .inr (.inr (.inr 0)), .inr (.inr (.inr 0)), .inr (.inr (.inr 0)), .inr (.inr (.inr 0)), .inr (.inr (.inr 0)), .inr (.inr (.inr 0)), .inr (.inr (.inr 0)), .inr (.inr (.inr 0))]
  | 12 => [.inr (.inr (.inr 0)), .inr (.inr (.inr 0)), .inl 0, .inl 0, .inl 0, .inl 0, .inl 0, .inl 0, .inl 0, .inl 0, .inr (.inl 0), .inr (.inr (.inr 0)), .inr (.inr (.inr 0)), .inr (.inr (.inr 0)), .inr (.inr (.inr 0)), .inr (.inr (.inr 0)), .inr (.inr (.inr 0)), .inr (.inr (.inr 0)), .inr (.inr (.inr 0)), .inr (.inr (.inr 0)), .inr (.inr (.inr 0)), .inr (.inr (.inr 0)), .inr (.inr (.inr 0)), .inr (.inr (.inr 0)), .inr (.inr (.inr 0)), .inr (.inr (.inr 0)), .inr (.inr (.inr 0)), .inr (.inr (.inr 0)), .inr (.inr (.inr 0)), .inr (.inr (.inr 0)), .inr (.inr (.inr 0)), .inr (.inr (.inr 0)), .inr (.inr (.inr 0)), .inr (.inr (.inr 0)), .inr (.inr (.inr 0)), .inr (.inr (.inr 0)), .inr (.inr (.inr 0)), .inr (.inr (.inr 0)), .inr (.inr (.inr 0)), .inl 0, .inl 0, .inl 0, .inl 0, .inl 0, .inl 0, .inl 0, .inl 0, .inl 0, .inl 0, .inr (.inr (.inr 0)), .inr (.inr (.inr 0)), .inl 0, .inl 0, .inr (.inr (.inr 0)), .inr (.inr (.inr 0)), .inr (.inr (.inr 0)), .inl 0, .inr (.inr (.inr 0)), .inl 0, .inr (.inr (.inr 0)), .inr (.inr (.inr 0)), .inl 0, .inr (.inr (.inr 0)), .inl 0, .inr (.inr (.inr 0)), .inr (.inr (.inr 0)), .inr (.inr (.inr 0)), .inr (.inr (.inr 0)), .inr (.inr (.inr 0)), .inr (.inr (.inr 0)), .inr (.inr (.inr 0)), .inl 0, .inl 0, .inl 0, .inl 0, .inl 0, .inl 0, .inl 0, .inr (.inr (.inr 0)), .inr (.inr (.inr 0))]
  | _ => []
def zx_den (I : Instr) (ex : List Nat) : zx_Q := match I with
  | .nop => zx_nop ex
  | .iconst _ => zx_ci 1 (zx_hd ex)
  | .bipush _ => zx_ci 2 (zx_hd ex)
  | .sipush _ => zx_ci 3 (zx_hd ex)
  | .lconst _ => zx_cj 1 (zx_hd ex)
  | .ldc _ => zx_ci 2 (zx_hd ex)
  | .ldc_w _ => zx_ci 3 (zx_hd ex)
  | .ldc2_w _ => zx_cj 3 (zx_hd ex)
  | .aconst_null => zx_nu
  | .iload_n k => zx_li 1 k.val
  | .iload k => zx_li 2 k
  | .lload_n k => zx_lj 1 k.val
  | .lload k => zx_lj 2 k
  | .aload_n k => zx_la 1 k.val
  | .aload k => zx_la 2 k
  | .istore_n k => zx_si 1 k.val
  | .istore k => zx_si 2 k
  | .lstore_n k => zx_sjj 1 k.val
  | .lstore k => zx_sjj 2 k
  | .astore_n k => zx_sa 1 k.val
  | .dup => zx_o_dup
  | .dup2 => zx_o_dup2
  | .i2b => zx_o_i2b
  | .i2c => zx_o_i2c
  | .i2l => zx_o_i2l
  | .iadd => zx_o_iadd
  | .iand => zx_o_iand
  | .idiv => zx_o_idiv
  | .imul => zx_o_imul
  | .ineg => zx_o_ineg
  | .ior => zx_o_ior
  | .irem => zx_o_irem
  | .ishl => zx_o_ishl
  | .ishr => zx_o_ishr
  | .isub => zx_o_isub
  | .iushr => zx_o_iushr
  | .ixor => zx_o_ixor
  | .l2i => zx_o_l2i
  | .ladd => zx_o_ladd
  | .land => zx_o_land
  | .lcmp => zx_o_lcmp
  | .ldiv => zx_o_ldiv
  | .lmul => zx_o_lmul
  | .lor => zx_o_lor
  | .lshl => zx_o_lshl
  | .lshr => zx_o_lshr
  | .lsub => zx_o_lsub
  | .lushr => zx_o_lushr
  | .pop => zx_o_pop
  | .iinc k _ => zx_ik k (zx_hd ex)
  | .goto _ => zx_gg (zx_hd ex)
  | .if_icmp o _ => zx_jj o (zx_hd ex)
  | .ifCond o _ => zx_jz o (zx_hd ex)
  | .ifnonnull _ => zx_jn (zx_hd ex)
  | .tableswitch .. => match ex with
    | d :: lo :: ts => zx_sw d (zx_zip lo ts)
    | _ => zx_xz
  | .lookupswitch .. => match ex with
    | d :: ts => zx_sw d (zx_two ts)
    | _ => zx_xz
  | .getfield _ => match ex with
    | ci :: k :: _ => zx_gk ci k
    | _ => zx_xz
  | .putfield _ => match ex with
    | ci :: k :: fit :: _ => zx_pk ci k fit
    | _ => zx_xz
  | .new _ => zx_nw (zx_hd ex) (zx_cls (zx_hd ex))
  | .newarray _ => zx_na 2 (zx_hd ex)
  | .anewarray _ => zx_na 3 4
  | .arraylength => zx_al
  | .iaload => zx_ld 0
  | .baload => zx_ld (zx_hd ex)
  | .laload => zx_ldj
  | .aaload => zx_ldq
  | .iastore => zx_ai
  | .bastore => match zx_hd ex with
    | 2 => zx_az
    | _ => zx_ab
  | .lastore => zx_aj
  | .aastore => zx_aq
  | .ireturn => match zx_hd ex with
    | 1 => zx_r5
    | _ => zx_r1
  | .lreturn => zx_r4
  | .return_ => zx_r2
  | .invokevirtual _ => match ex with
    | 2 :: y :: n :: _ => zx_cl y n
    | _ => zx_xz
  | .invokespecial _ => match ex with
    | 0 :: _ => zx_ob
    | 2 :: y :: n :: _ => zx_cl y n
    | _ => zx_xz
  | .invokestatic _ => match ex with
    | 1 :: _ => zx_cy
    | 3 :: _ => zx_mx
    | 4 :: _ => zx_mn
    | 5 :: _ => zx_mxl
    | 6 :: _ => zx_mnl
    | 2 :: y :: n :: _ => zx_cl y n
    | _ => zx_xz
  | _ => zx_xz
def zx_row {α : Type} (k : Nat) : List (Nat × α) → Option α
  | [] => none
  | (j, x) :: l => match Nat.beq j k with
    | true => some x
    | false => zx_row k l
def zx_find {α : Type} (t : List (List (Nat × α))) (k : Nat) : Option α := match t[k / 16]? with
  | some l => zx_row (k % 16) l
  | none => none
/-- the first n of a list, turned round, ahead of acc; and the rest -/
def zx_take : Nat → List zx_V → List zx_V → Option (List zx_V × List zx_V)
  | 0, acc, st => some (acc, st)
  | n + 1, acc, v :: st => zx_take n (v :: acc) st
  | _ + 1, _, [] => none
def zx_words : List zx_V → Nat
  | [] => 0
  | v :: l => (match zx_cat v with
    | true => 2
    | false => 1) + zx_words l
/-- calls: method, values, world, room, end -/
abbrev zx_K : Type := Nat → List zx_V → List zx_E → Nat × Nat → zx_R → Prop
def zx_callS (K : zx_K) (cap : Nat × Nat) (y n : Nat) (σ τ : zx_S) : Prop := match σ with
  | (pc, ls, st, w, mc, ms) => ∃ (av st' : List zx_V) (cy : Nat × Nat) (r : zx_R), zx_take n [] st = some (av, st') ∧ zx_words st' ≤ 8 ∧ zx_limP w.length ls = true ∧ zx_limL w.length st' = true ∧ mc + cy.1 ≤ cap.1 ∧ ms + cy.2 ≤ cap.2 ∧ K y av w cy r ∧ τ = (pc + 3, ls, r.1.toList ++ st', r.2, mc + cy.1, ms + cy.2)
def zx_step (K : zx_K) (X : zx_X) (cap : Nat × Nat) (tab : Nat → Option zx_Q) (σ τ : zx_S) : Prop := match tab σ.1 with
  | some (0, _, _, g) => g X cap σ = some τ
  | some (3, y, n, _) => zx_callS K cap y n σ τ
  | _ => False
def zx_star (S : zx_S → zx_S → Prop) : Nat → zx_S → zx_S → Prop
  | 0, σ, τ => σ = τ
  | n + 1, σ, τ => ∃ μ, S σ μ ∧ zx_star S n μ τ
def zx_args : Nat → List zx_V → List (Nat × zx_V)
  | _, [] => []
  | k, v :: l => (k, v) :: zx_args (match zx_cat v with
    | true => k + 2
    | false => k + 1) l
/-- a return -/
def zx_ret (tab : Nat → Option zx_Q) (cap : Nat × Nat) (σ : zx_S) (r : zx_R) : Prop := match σ with
  | (pc, _, st, w, mc, ms) => mc ≤ cap.1 ∧ ms ≤ cap.2 ∧ r.2 = w ∧ (match tab pc with
    | some (1, _, _, _) => ∃ x, st = [(.inl x)] ∧ r.1 = some (.inl x)
    | some (5, _, _, _) => ∃ x, st = [(.inl x)] ∧ (x = 0 ∨ x = 1) ∧ r.1 = some (.inl x)
    | some (4, _, _, _) => ∃ x, st = [(.inr (.inl x))] ∧ r.1 = some (.inr (.inl x))
    | some (2, _, _, _) => st = [] ∧ r.1 = none
    | _ => False)
/-- the receiver is an object of its kind (0: a static method; else the kind and one) -/
def zx_rok (w : List zx_E) (k : Nat) (av : List zx_V) : Prop := match k with
  | 0 => True
  | ci + 1 => ∃ q t fs, av = (.inr (.inr (.inl q))) :: t ∧ w[q]? = some (.inl (ci, fs))
def zx_Call (mt : Nat → Option (Nat → Option zx_Q)) (rc : Nat → Nat) : Nat → zx_K
  | 0 => fun _ _ _ _ _ => False
  | d + 1 => fun y av w cap r => ∃ tab, mt y = some tab ∧ zx_rok w (rc y) av ∧ ∃ n σ, zx_star (zx_step (zx_Call mt rc d) none cap tab) n (0, zx_args 0 av, [], w, 0, 0) σ ∧ zx_ret tab cap σ r
