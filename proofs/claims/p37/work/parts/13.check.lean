/-! the checker of a table's rows, and that it is sound -/
noncomputable def zx_chkG (own : String) (i : Nat) (ex : List Nat) : Bool := match ex with
  | ci :: k :: nest :: pl :: _ => match zx_clL[ci]? with
    | some (_, T, N) => Nat.blt k N && (match nest with
      | 0 => zx_wd pl (.fieldLink own i (T k).1 (T k).2.1 (T k).2.2.1)
      | _ => zx_wn pl (.fieldLinkNest own i (T k).1 (T k).2.1 (T k).2.2.1 "TwoInOne"))
    | none => false
  | _ => false
def zx_takeB (fit : Nat) (ty : FieldType) : Bool := match fit with
  | 0 => decide (ty = .int)
  | 1 => match ty with
    | .object _ => true
    | .array _ => true
    | _ => false
  | 2 => decide (ty = .boolean)
  | _ => decide (ty = .long)
theorem zx_takeB_ok : ∀ {fit : Nat} {ty : FieldType}, zx_takeB fit ty = true → zx_takes fit ty
  | 0, ty, h => of_decide_eq_true (p := ty = .int) h
  | 1, ty, h => by
    match ty, h with
    | .object n, _ => exact Or.inl ⟨n, rfl⟩
    | .array t, _ => exact Or.inr ⟨t, rfl⟩
  | 2, ty, h => of_decide_eq_true (p := ty = .boolean) h
  | n + 3, ty, h => of_decide_eq_true (p := ty = .long) h
noncomputable def zx_chkP (own : String) (init : Bool) (i : Nat) (ex : List Nat) : Bool := match ex with
  | ci :: k :: fit :: nest :: fin :: pl :: _ => match zx_clL[ci]? with
    | some (_, T, N) => Nat.blt k N && (zx_takeB fit (zx_ty ci k) && (match nest, fin with
      | 0, 0 => zx_wd pl (.fieldLink own i (T k).1 (T k).2.1 (T k).2.2.1) && !(T k).2.2.2
      | 0, _ => zx_wd pl (.fieldLink own i (T k).1 (T k).2.1 (T k).2.2.1) && ((T k).2.2.2 && (init && decide ((T k).1 = own)))
      | _, _ => zx_wn pl (.fieldLinkNest own i (T k).1 (T k).2.1 (T k).2.2.1 "TwoInOne") && !(T k).2.2.2))
    | none => false
  | _ => false
noncomputable def zx_chkN (own : String) (i : Nat) (ex : List Nat) : Bool := match zx_clL[zx_hd ex]? with
  | some (C, _, _) => zx_wd (zx_h1 ex) (.classLink own i C)
  | none => false
noncomputable def zx_inst (y : Nat) : Bool := match zx_rc y with
  | 0 => false
  | _ => true
noncomputable def zx_np (y : Nat) : Option Nat := (parseMethodDescriptor (zx_rec y).1.desc).map (fun d => d.parameters.length)
noncomputable def zx_lnk (own : String) (i y nest pl : Nat) : Bool := match nest with
  | 0 => zx_wd pl (.methodLink own i (zx_rec y).1)
  | _ => zx_wn pl (.methodLinkNest own i (zx_rec y).1 "TwoInOne")
noncomputable def zx_chkV (own : String) (i : Nat) (ex : List Nat) : Bool := match ex with
  | 2 :: y :: n :: nest :: pl :: _ => zx_lnk own i y nest pl && (zx_inst y && (decide ((zx_rec y).1.name ≠ "<init>") && decide (zx_np y = some (n - 1))))
  | _ => false
noncomputable def zx_chkS (own : String) (i : Nat) (ex : List Nat) : Bool := match ex with
  | 0 :: pl :: _ => zx_wd pl (.methodLink own i Lib.objectInit)
  | 2 :: y :: n :: nest :: pl :: _ => zx_lnk own i y nest pl && (zx_inst y && (decide ((zx_rec y).1.name = "<init>") && (decide ((zx_rec y).2.2.2 = none) && decide (zx_np y = some (n - 1)))))
  | _ => false
noncomputable def zx_chkT (own : String) (i : Nat) (ex : List Nat) : Bool := match ex with
  | 1 :: pl :: _ => zx_wd pl (.methodLink own i arraycopyName)
  | 3 :: pl :: _ => zx_wd pl (.methodLink own i Lib.Math.max.name)
  | 4 :: pl :: _ => zx_wd pl (.methodLink own i Lib.Math.min.name)
  | 5 :: pl :: _ => zx_wd pl (.methodLink own i Lib.MathLoose.max_long.x)
  | 6 :: pl :: _ => zx_wd pl (.methodLink own i Lib.MathLoose.min_long.x)
  | 2 :: y :: n :: nest :: pl :: _ => zx_lnk own i y nest pl && (Nat.beq (zx_rc y) 0 && decide (zx_np y = some n))
  | _ => false
def zx_chkA (t : ArrayType) (kd : Nat) : Bool := match t, kd with
  | .int, 0 => true
  | .long, 1 => true
  | .boolean, 2 => true
  | .byte, 3 => true
  | _, _ => false
noncomputable def zx_chkI (own : String) (nL : Nat) (init : Bool) (rt : Option FieldType) (pc : Nat) (I : Instr) (len : Nat) (ex : List Nat) : Bool := match I with
  | .iconst n => Nat.beq len 1 && decide (Int32.ofInt n = Int32.ofNat (zx_hd ex))
  | .bipush n => Nat.beq len 2 && decide ((Int8.ofInt n).toInt32 = Int32.ofNat (zx_hd ex))
  | .sipush n => Nat.beq len 3 && decide ((Int16.ofInt n).toInt32 = Int32.ofNat (zx_hd ex))
  | .lconst n => Nat.beq len 1 && decide (Int64.ofNat (n : Nat) = Int64.ofNat (zx_hd ex))
  | .ldc i => Nat.beq len 2 && zx_wd (zx_h1 ex) (.constant own i (Int32.ofNat (zx_hd ex)))
  | .ldc_w i => Nat.beq len 3 && zx_wd (zx_h1 ex) (.constant own i (Int32.ofNat (zx_hd ex)))
  | .ldc2_w i => Nat.beq len 3 && zx_wd (zx_h1 ex) (.constantLong own i (Int64.ofNat (zx_hd ex)))
  | .aconst_null => Nat.beq len 1
  | .iload_n _ => Nat.beq len 1
  | .iload _ => Nat.beq len 2
  | .lload_n _ => Nat.beq len 1
  | .lload _ => Nat.beq len 2
  | .aload_n _ => Nat.beq len 1
  | .aload _ => Nat.beq len 2
  | .istore_n k => Nat.beq len 1 && Nat.blt k.val nL
  | .istore k => Nat.beq len 2 && Nat.blt k nL
  | .lstore_n k => Nat.beq len 1 && Nat.blt (k.val + 1) nL
  | .lstore k => Nat.beq len 2 && Nat.blt (k + 1) nL
  | .astore_n k => Nat.beq len 1 && Nat.blt k.val nL
  | .iadd => Nat.beq len 1
  | .isub => Nat.beq len 1
  | .imul => Nat.beq len 1
  | .iand => Nat.beq len 1
  | .ior => Nat.beq len 1
  | .ixor => Nat.beq len 1
  | .ishl => Nat.beq len 1
  | .ishr => Nat.beq len 1
  | .iushr => Nat.beq len 1
  | .idiv => Nat.beq len 1
  | .irem => Nat.beq len 1
  | .ladd => Nat.beq len 1
  | .lsub => Nat.beq len 1
  | .lmul => Nat.beq len 1
  | .land => Nat.beq len 1
  | .lor => Nat.beq len 1
  | .ldiv => Nat.beq len 1
  | .lshl => Nat.beq len 1
  | .lshr => Nat.beq len 1
  | .lushr => Nat.beq len 1
  | .ineg => Nat.beq len 1
  | .i2c => Nat.beq len 1
  | .i2b => Nat.beq len 1
  | .i2l => Nat.beq len 1
  | .l2i => Nat.beq len 1
  | .lcmp => Nat.beq len 1
  | .dup => Nat.beq len 1
  | .dup2 => Nat.beq len 1
  | .pop => Nat.beq len 1
  | .goto off => Nat.beq len 3 && decide ((pc : Int) + off = (zx_hd ex : Int))
  | .iinc k i => Nat.beq len 3 && (Nat.blt k nL && decide (Int32.ofInt i = Int32.ofNat (zx_hd ex)))
  | .getfield i => Nat.beq len 3 && zx_chkG own i ex
  | .putfield i => Nat.beq len 3 && zx_chkP own init i ex
  | .new i => Nat.beq len 3 && zx_chkN own i ex
  | .newarray t => Nat.beq len 2 && zx_chkA t (zx_hd ex)
  | .anewarray i => Nat.beq len 3 && zx_wd (zx_hd ex) (.classLink own i "TwoInOne$State")
  | .arraylength => Nat.beq len 1
  | .iaload => Nat.beq len 1
  | .laload => Nat.beq len 1
  | .baload => Nat.beq len 1 && (Nat.beq (zx_hd ex) 2 || Nat.beq (zx_hd ex) 3)
  | .aaload => Nat.beq len 1
  | .iastore => Nat.beq len 1
  | .lastore => Nat.beq len 1
  | .bastore => Nat.beq len 1
  | .aastore => Nat.beq len 1
  | .if_icmp _ off => Nat.beq len 3 && decide ((pc : Int) + off = (zx_hd ex : Int))
  | .ifCond _ off => Nat.beq len 3 && decide ((pc : Int) + off = (zx_hd ex : Int))
  | .ifnonnull off => Nat.beq len 3 && decide ((pc : Int) + off = (zx_hd ex : Int))
  | .tableswitch dflt lo hi offs => match ex with
    | d :: lo' :: ts => decide ((pc : Int) + dflt = (d : Int)) && (decide ((lo' : Int) = lo + 2147483648) && (decide (hi = lo + ts.length - 1) && decide (offs.toList.map (fun o => (pc : Int) + o) = ts.map (fun t : Nat => (t : Int)))))
    | _ => false
  | .lookupswitch dflt ps => match ex with
    | d :: ts => (ps.toList.zip (ps.toList.drop 1)).all (fun (a, next) => a.1 < next.1) && (decide ((pc : Int) + dflt = (d : Int)) && decide (ps.toList.map (fun q => (q.1 + 2147483648, (pc : Int) + q.2)) = (zx_two ts).map (fun q : Nat × Nat => ((q.1 : Int), (q.2 : Int)))))
    | _ => false
  | .ireturn => Nat.beq len 1 && (match zx_hd ex with
    | 1 => decide (rt = some .boolean)
    | _ => decide (rt = some .int))
  | .lreturn => Nat.beq len 1 && decide (rt = some .long)
  | .return_ => Nat.beq len 1 && decide (rt = none)
  | .invokevirtual i => Nat.beq len 3 && zx_chkV own i ex
  | .invokespecial i => Nat.beq len 3 && zx_chkS own i ex
  | .invokestatic i => Nat.beq len 3 && zx_chkT own i ex
  | _ => false
/-- the reader's words: 'ldc; length', 'ldc; iload a; iload b; iadd; charAt' -/
noncomputable def zx_chkM (own : String) (cc : ByteArray) (pc : Nat) (ex : List Nat) : Bool := decide (own = "TwoInOne$Reader") && (decide (decode cc pc = .ok (.ldc 226, 2)) && (match ex with
  | 0 :: _ => decide (decode cc (pc + 2) = .ok (.invokevirtual 228, 3))
  | 1 :: a :: b :: _ => (Nat.beq a 2 && decide (decode cc (pc + 2) = .ok (.iload_n 2, 1))) && ((match b with
    | 1 => decide (decode cc (pc + 3) = .ok (.iload_n 1, 1))
    | 3 => decide (decode cc (pc + 3) = .ok (.iload_n 3, 1))
    | _ => false) && (decide (decode cc (pc + 4) = .ok (.iadd, 1)) && decide (decode cc (pc + 5) = .ok (.invokevirtual 232, 3))))
  | _ => false))
noncomputable def zx_chk (own : String) (cc : ByteArray) (nL : Nat) (init : Bool) (rt : Option FieldType) (pc : Nat) (I : Instr) (len : Nat) (ex : List Nat) : Bool := match I with
  | .nop => zx_chkM own cc pc ex
  | _ => decide (decode cc pc = .ok (I, len)) && zx_chkI own nL init rt pc I len ex
theorem zx_chk_inv {own : String} {cc : ByteArray} {nL : Nat} {init : Bool} {rt : Option FieldType} {pc : Nat} {I : Instr} {len : Nat} {ex : List Nat} (h : zx_chk own cc nL init rt pc I len ex = true) : (I = .nop ∧ zx_chkM own cc pc ex = true) ∨ (decode cc pc = .ok (I, len) ∧ zx_chkI own nL init rt pc I len ex = true) := by
  unfold zx_chk at h
  split at h
  next => exact Or.inl ⟨rfl, h⟩
  next =>
    rw [Bool.and_eq_true] at h
    exact Or.inr ⟨of_decide_eq_true h.1, h.2⟩
