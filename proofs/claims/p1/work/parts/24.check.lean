/-! the checker of a table's rows, and that it is sound -/
noncomputable def sx_h1 (ex : List Nat) : Nat := match ex with
  | _ :: a :: _ => a
  | _ => 0
noncomputable def sx_chkG (own : String) (i : Nat) (ex : List Nat) : Bool := match ex with
  | ci :: k :: nest :: pl :: _ => match sx_clL[ci]? with
    | some (_, T, N) => Nat.blt k N && (match nest with
      | 0 => sx_wd pl (.fieldLink own i (T k).1 (T k).2.1 (T k).2.2.1)
      | _ => sx_wn pl (.fieldLinkNest own i (T k).1 (T k).2.1 (T k).2.2.1 "TwoInOne"))
    | none => false
  | _ => false
noncomputable def sx_takeB (fit : Nat) (ty : FieldType) : Bool := match fit with
  | 0 => decide (ty = .int)
  | 1 => match ty with
    | .object _ => true
    | .array _ => true
    | _ => false
  | _ => decide (ty = .boolean)
theorem sx_takeB_ok {fit : Nat} {ty : FieldType} (h : sx_takeB fit ty = true) : sx_takes fit ty := by
  unfold sx_takeB at h
  unfold sx_takes
  split at h
  · have e := of_decide_eq_true h
    exact e
  · split at h
    · exact Or.inl ⟨_, rfl⟩
    · exact Or.inr ⟨_, rfl⟩
    · cases h
  next n h0 h1 =>
    split
    next => exact absurd rfl h0
    next => exact absurd rfl h1
    next => exact of_decide_eq_true h
noncomputable def sx_chkP (own : String) (init : Bool) (i : Nat) (ex : List Nat) : Bool := match ex with
  | ci :: k :: fit :: nest :: fin :: pl :: _ => match sx_clL[ci]? with
    | some (_, T, N) => Nat.blt k N && (sx_takeB fit (sx_ty ci k) && (match nest, fin with
      | 0, 0 => sx_wd pl (.fieldLink own i (T k).1 (T k).2.1 (T k).2.2.1) && !(T k).2.2.2
      | 0, _ => sx_wd pl (.fieldLink own i (T k).1 (T k).2.1 (T k).2.2.1) && ((T k).2.2.2 && (init && decide ((T k).1 = own)))
      | _, _ => sx_wn pl (.fieldLinkNest own i (T k).1 (T k).2.1 (T k).2.2.1 "TwoInOne") && !(T k).2.2.2))
    | none => false
  | _ => false
noncomputable def sx_chkN (own : String) (i : Nat) (ex : List Nat) : Bool := match sx_clL[sx_hd ex]? with
  | some (C, _, _) => sx_wd (sx_h1 ex) (.classLink own i C)
  | none => false
noncomputable def sx_inst (y : Nat) : Bool := match sx_rc y with
  | 0 => false
  | _ => true
noncomputable def sx_np (y : Nat) : Option Nat := (parseMethodDescriptor (sx_rec y).1.desc).map (fun d => d.parameters.length)
noncomputable def sx_chkV (own : String) (i : Nat) (ex : List Nat) : Bool := match ex with
  | 2 :: y :: n :: _ :: pl :: _ => sx_wd pl (.methodLink own i (sx_rec y).1) && (sx_inst y && (decide ((sx_rec y).1.name ≠ "<init>") && (decide (sx_np y = some (n - 1)) && Nat.ble n (sx_rec y).2.2.1)))
  | _ => false
noncomputable def sx_chkS (own : String) (i : Nat) (ex : List Nat) : Bool := match ex with
  | 0 :: pl :: _ => sx_wd pl (.methodLink own i Lib.objectInit)
  | 2 :: y :: n :: nest :: pl :: _ => (match nest with
    | 0 => sx_wd pl (.methodLink own i (sx_rec y).1)
    | _ => sx_wn pl (.methodLinkNest own i (sx_rec y).1 "TwoInOne")) && (sx_inst y && (decide ((sx_rec y).1.name = "<init>") && (decide ((sx_rec y).2.2.2 = none) && (decide (sx_np y = some (n - 1)) && Nat.ble n (sx_rec y).2.2.1))))
  | _ => false
noncomputable def sx_chkT (own : String) (i : Nat) (ex : List Nat) : Bool := match ex with
  | 1 :: pl :: _ => sx_wd pl (.methodLink own i arraycopyName)
  | 3 :: pl :: _ => sx_wd pl (.methodLink own i Lib.Math.max.name)
  | 4 :: pl :: _ => sx_wd pl (.methodLink own i Lib.Math.min.name)
  | 2 :: y :: n :: _ :: pl :: _ => sx_wd pl (.methodLink own i (sx_rec y).1) && (Nat.beq (sx_rc y) 0 && (decide (sx_np y = some n) && Nat.ble n (sx_rec y).2.2.1))
  | _ => false
noncomputable def sx_chkI (own : String) (nL : Nat) (init : Bool) (rt : Option FieldType) (pc : Nat) (I : Instr) (len : Nat) (ex : List Nat) : Bool := match I with
  | .aload_n _ => Nat.beq len 1
  | .iload_n _ => Nat.beq len 1
  | .iload _ => Nat.beq len 2
  | .istore_n k => Nat.beq len 1 && Nat.blt k.val nL
  | .istore k => Nat.beq len 2 && Nat.blt k nL
  | .astore_n k => Nat.beq len 1 && Nat.blt k.val nL
  | .iconst n => Nat.beq len 1 && decide (Int32.ofInt n = Int32.ofNat (sx_hd ex))
  | .bipush n => Nat.beq len 2 && decide ((Int8.ofInt n).toInt32 = Int32.ofNat (sx_hd ex))
  | .sipush n => Nat.beq len 3 && decide ((Int16.ofInt n).toInt32 = Int32.ofNat (sx_hd ex))
  | .ldc i => Nat.beq len 2 && sx_wd (sx_h1 ex) (.constant own i (Int32.ofNat (sx_hd ex)))
  | .ldc_w i => Nat.beq len 3 && sx_wd (sx_h1 ex) (.constant own i (Int32.ofNat (sx_hd ex)))
  | .dup => Nat.beq len 1
  | .dup2 => Nat.beq len 1
  | .aconst_null => Nat.beq len 1
  | .goto off => Nat.beq len 3 && decide ((pc : Int) + off = (sx_hd ex : Int))
  | .iinc k i => Nat.beq len 3 && (Nat.blt k nL && decide (Int32.ofInt i = Int32.ofNat (sx_hd ex)))
  | .iadd => Nat.beq len 1
  | .isub => Nat.beq len 1
  | .imul => Nat.beq len 1
  | .iand => Nat.beq len 1
  | .ishl => Nat.beq len 1
  | .ishr => Nat.beq len 1
  | .iushr => Nat.beq len 1
  | .irem => Nat.beq len 1
  | .i2b => Nat.beq len 1
  | .getfield i => Nat.beq len 3 && sx_chkG own i ex
  | .putfield i => Nat.beq len 3 && sx_chkP own init i ex
  | .new i => Nat.beq len 3 && sx_chkN own i ex
  | .newarray t => Nat.beq len 2 && sx_chkA t (sx_hd ex)
  | .anewarray i => Nat.beq len 3 && sx_wd (sx_hd ex) (.classLink own i "TwoInOne$State")
  | .arraylength => Nat.beq len 1
  | .iaload => Nat.beq len 1
  | .baload => Nat.beq len 1 && (Nat.beq (sx_hd ex) 2 || Nat.beq (sx_hd ex) 3)
  | .aaload => Nat.beq len 1
  | .iastore => Nat.beq len 1
  | .bastore => Nat.beq len 1
  | .aastore => Nat.beq len 1
  | .if_icmp _ off => Nat.beq len 3 && decide ((pc : Int) + off = (sx_hd ex : Int))
  | .ifCond _ off => Nat.beq len 3 && decide ((pc : Int) + off = (sx_hd ex : Int))
  | .ifnonnull off => Nat.beq len 3 && decide ((pc : Int) + off = (sx_hd ex : Int))
  | .tableswitch dflt lo hi offs => match ex with
    | d :: lo' :: ts => decide ((pc : Int) + dflt = (d : Int)) && (decide ((lo' : Int) = lo + 2147483648) && (decide (hi = lo + ts.length - 1) && decide (offs.toList.map (fun o => (pc : Int) + o) = ts.map (fun t : Nat => (t : Int)))))
    | _ => false
  | .lookupswitch dflt ps => match ex with
    | d :: ts => (ps.toList.zip (ps.toList.drop 1)).all (fun (a, next) => a.1 < next.1) && (decide ((pc : Int) + dflt = (d : Int)) && (decide ((sx_two ts).Pairwise (fun a b => a.1 < b.1)) && decide (ps.toList.map (fun q => (q.1 + 2147483648, (pc : Int) + q.2)) = (sx_two ts).map (fun q : Nat × Nat => ((q.1 : Int), (q.2 : Int))))))
    | _ => false
  | .ireturn => Nat.beq len 1 && (match sx_hd ex with
    | 1 => decide (rt = some .boolean)
    | _ => decide (rt = some .int))
  | .return_ => Nat.beq len 1 && decide (rt = none)
  | .invokevirtual i => Nat.beq len 3 && sx_chkV own i ex
  | .invokespecial i => Nat.beq len 3 && sx_chkS own i ex
  | .invokestatic i => Nat.beq len 3 && sx_chkT own i ex
  | _ => false
noncomputable def sx_chk (own : String) (cc : ByteArray) (nL : Nat) (init : Bool) (rt : Option FieldType) (pc : Nat) (I : Instr) (len : Nat) (ex : List Nat) : Bool := decide (decode cc pc = .ok (I, len)) && sx_chkI own nL init rt pc I len ex
