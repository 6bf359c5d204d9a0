/-! THE EXACT MACHINE: values inl x (an int), inr inl x (a long), inr inr inl k (the cell at place k of the world), inr inr inr 0 (null), 2 (the script). Cells: an object (number of its kind, fields), an array (kind 0 int, 1 long, 2 boolean, 3 byte, 4 of States; length; contents). States: pc, locals, stack, world, cells and slots made. -/
abbrev zx_V : Type := Int32 ⊕ Int64 ⊕ Nat ⊕ Nat
abbrev zx_A : Type := (Nat → Int32) ⊕ (Nat → Int64) ⊕ List (Option Nat)
abbrev zx_E : Type := (Nat × List zx_V) ⊕ (Nat × Nat × zx_A)
abbrev zx_S : Type := Nat × List (Nat × zx_V) × List zx_V × List zx_E × Nat × Nat
/-- the script: its length, its ints -/
abbrev zx_X : Type := Option (Nat × (Nat → Int32))
/-- a call's end: its answer and the world -/
abbrev zx_R : Type := Option zx_V × List zx_E
abbrev zx_F : Type := zx_X → Nat × Nat → zx_S → Option zx_S
/-- what stands in a table: a step (0), a return (1 an int, 2 nothing, 4 a long, 5 a boolean), a call of method y with n values (3) -/
abbrev zx_Q : Type := Nat × Nat × Nat × zx_F
def zx_cat : zx_V → Bool
  | (.inr (.inl _)) => true
  | _ => false
def zx_look (k : Nat) : List (Nat × zx_V) → Option zx_V
  | [] => none
  | (j, v) :: l => match Nat.beq j k with
    | true => some v
    | false => zx_look k l
def zx_put (k : Nat) (v : zx_V) (l : List (Nat × zx_V)) : List (Nat × zx_V) := (k, v) :: l.filter (fun q => !(q.1 == k) && !(q.1 + 1 == k && zx_cat q.2))
def zx_putL (k : Nat) (v : zx_V) (l : List (Nat × zx_V)) : List (Nat × zx_V) := (k, v) :: l.filter (fun q => !(q.1 == k) && (!(q.1 == k + 1) && !(q.1 + 1 == k && zx_cat q.2)))
def zx_push (n : Nat) (v : zx_V) (σ : zx_S) : Option zx_S := match σ with
  | (pc, ls, st, w, mc, ms) => some (pc + n, ls, v :: st, w, mc, ms)
def zx_ldI (n k : Nat) (σ : zx_S) : Option zx_S := match zx_look k σ.2.1 with
  | some (.inl x) => zx_push n (.inl x) σ
  | _ => none
def zx_ldJ (n k : Nat) (σ : zx_S) : Option zx_S := match zx_look k σ.2.1 with
  | some (.inr (.inl x)) => zx_push n (.inr (.inl x)) σ
  | _ => none
def zx_ldA (n k : Nat) (σ : zx_S) : Option zx_S := match zx_look k σ.2.1 with
  | some (.inr (.inr (.inl x))) => zx_push n (.inr (.inr (.inl x))) σ
  | some (.inr (.inr (.inr 2))) => zx_push n (.inr (.inr (.inr 2))) σ
  | some (.inr (.inr (.inr 0))) => zx_push n (.inr (.inr (.inr 0))) σ
  | _ => none
def zx_stI (n k : Nat) (σ : zx_S) : Option zx_S := match σ with
  | (pc, ls, (.inl x) :: st, w, mc, ms) => some (pc + n, zx_put k (.inl x) ls, st, w, mc, ms)
  | _ => none
def zx_stJ (n k : Nat) (σ : zx_S) : Option zx_S := match σ with
  | (pc, ls, (.inr (.inl x)) :: st, w, mc, ms) => some (pc + n, zx_putL k (.inr (.inl x)) ls, st, w, mc, ms)
  | _ => none
def zx_stA (n k : Nat) (σ : zx_S) : Option zx_S := match σ with
  | (pc, ls, (.inr (.inr (.inl x))) :: st, w, mc, ms) => some (pc + n, zx_put k (.inr (.inr (.inl x))) ls, st, w, mc, ms)
  | (pc, ls, (.inr (.inr (.inr 0))) :: st, w, mc, ms) => some (pc + n, zx_put k (.inr (.inr (.inr 0))) ls, st, w, mc, ms)
  | _ => none
/-- ints, longs: operations of one and two -/
def zx_un (f : Int32 → Int32) (σ : zx_S) : Option zx_S := match σ with
  | (pc, ls, (.inl x) :: st, w, mc, ms) => some (pc + 1, ls, (.inl (f x)) :: st, w, mc, ms)
  | _ => none
def zx_bi (f : Int32 → Int32 → Int32) (σ : zx_S) : Option zx_S := match σ with
  | (pc, ls, (.inl y) :: (.inl x) :: st, w, mc, ms) => some (pc + 1, ls, (.inl (f x y)) :: st, w, mc, ms)
  | _ => none
def zx_bd (f : Int32 → Int32 → Int32) (σ : zx_S) : Option zx_S := match σ with
  | (pc, ls, (.inl y) :: (.inl x) :: st, w, mc, ms) => match decide (y = 0) with
    | true => none
    | false => some (pc + 1, ls, (.inl (f x y)) :: st, w, mc, ms)
  | _ => none
def zx_bj (f : Int64 → Int64 → Int64) (σ : zx_S) : Option zx_S := match σ with
  | (pc, ls, (.inr (.inl y)) :: (.inr (.inl x)) :: st, w, mc, ms) => some (pc + 1, ls, (.inr (.inl (f x y))) :: st, w, mc, ms)
  | _ => none
def zx_dj (σ : zx_S) : Option zx_S := match σ with
  | (pc, ls, (.inr (.inl y)) :: (.inr (.inl x)) :: st, w, mc, ms) => match decide (y = 0) with
    | true => none
    | false => some (pc + 1, ls, (.inr (.inl (x / y))) :: st, w, mc, ms)
  | _ => none
def zx_sj (f : Int64 → Int32 → Int64) (σ : zx_S) : Option zx_S := match σ with
  | (pc, ls, (.inl y) :: (.inr (.inl x)) :: st, w, mc, ms) => some (pc + 1, ls, (.inr (.inl (f x y))) :: st, w, mc, ms)
  | _ => none
def zx_i2l (σ : zx_S) : Option zx_S := match σ with
  | (pc, ls, (.inl x) :: st, w, mc, ms) => some (pc + 1, ls, (.inr (.inl x.toInt64)) :: st, w, mc, ms)
  | _ => none
def zx_l2i (σ : zx_S) : Option zx_S := match σ with
  | (pc, ls, (.inr (.inl x)) :: st, w, mc, ms) => some (pc + 1, ls, (.inl x.toInt32) :: st, w, mc, ms)
  | _ => none
def zx_lcmp (σ : zx_S) : Option zx_S := match σ with
  | (pc, ls, (.inr (.inl y)) :: (.inr (.inl x)) :: st, w, mc, ms) => some (pc + 1, ls, (.inl (lg_cmp x y)) :: st, w, mc, ms)
  | _ => none
def zx_inc (k : Nat) (n : Int32) (σ : zx_S) : Option zx_S := match zx_look k σ.2.1, σ with
  | some (.inl x), (pc, ls, st, w, mc, ms) => some (pc + 3, zx_put k (.inl (x + n)) ls, st, w, mc, ms)
  | _, _ => none
def zx_dup (σ : zx_S) : Option zx_S := match σ with
  | (pc, ls, v :: st, w, mc, ms) => match zx_cat v with
    | false => some (pc + 1, ls, v :: v :: st, w, mc, ms)
    | true => none
  | _ => none
def zx_dup2 (σ : zx_S) : Option zx_S := match σ with
  | (pc, ls, y :: x :: st, w, mc, ms) => match zx_cat x || zx_cat y with
    | false => some (pc + 1, ls, y :: x :: y :: x :: st, w, mc, ms)
    | true => none
  | _ => none
def zx_pop (σ : zx_S) : Option zx_S := match σ with
  | (pc, ls, v :: st, w, mc, ms) => match zx_cat v with
    | false => some (pc + 1, ls, st, w, mc, ms)
    | true => none
  | _ => none
/-- jumps -/
def zx_pick (t : Bool) (a b : Nat) : Nat := match t with
  | true => a
  | false => b
def zx_gt (t : Nat) (σ : zx_S) : Option zx_S := match σ with
  | (_, ls, st, w, mc, ms) => some (t, ls, st, w, mc, ms)
def zx_cmp (o : ClassFile.Cond) (x y : Int32) : Bool := match o with
  | .eq => decide (x = y)
  | .ne => !decide (x = y)
  | .lt => decide (x < y)
  | .ge => !decide (x < y)
  | .gt => decide (y < x)
  | .le => !decide (y < x)
def zx_jt (o : ClassFile.Cond) (t : Nat) (σ : zx_S) : Option zx_S := match σ with
  | (pc, ls, (.inl y) :: (.inl x) :: st, w, mc, ms) => some (zx_pick (zx_cmp o x y) t (pc + 3), ls, st, w, mc, ms)
  | _ => none
def zx_j0 (o : ClassFile.Cond) (t : Nat) (σ : zx_S) : Option zx_S := match σ with
  | (pc, ls, (.inl x) :: st, w, mc, ms) => some (zx_pick (zx_cmp o x 0) t (pc + 3), ls, st, w, mc, ms)
  | _ => none
def zx_nn (t : Nat) (σ : zx_S) : Option zx_S := match σ with
  | (_, ls, (.inr (.inr (.inl _))) :: st, w, mc, ms) => some (t, ls, st, w, mc, ms)
  | (pc, ls, (.inr (.inr (.inr 0))) :: st, w, mc, ms) => some (pc + 3, ls, st, w, mc, ms)
  | _ => none
def zx_swc (x d : Nat) : List (Nat × Nat) → Nat
  | [] => d
  | (n, t) :: l => match Nat.beq n x with
    | true => t
    | false => zx_swc x d l
/-- a switch: numbers by x + 2^31 -/
def zx_sg (d : Nat) (ts : List (Nat × Nat)) (σ : zx_S) : Option zx_S := match σ with
  | (_, ls, (.inl x) :: st, w, mc, ms) => some (zx_swc (x.toInt + 2147483648).toNat d ts, ls, st, w, mc, ms)
  | _ => none
/-- fields -/
def zx_gf (ci k : Nat) (σ : zx_S) : Option zx_S := match σ with
  | (pc, ls, (.inr (.inr (.inl q))) :: st, w, mc, ms) => match w[q]? with
    | some (.inl (c, fs)) => match Nat.beq ci c, fs[k]? with
      | true, some v => some (pc + 3, ls, v :: st, w, mc, ms)
      | _, _ => none
    | _ => none
  | _ => none
def zx_isInt : zx_V → Bool
  | (.inl _) => true
  | _ => false
def zx_isRef : zx_V → Bool
  | (.inr (.inr (.inl _))) => true
  | _ => false
def zx_isNull : zx_V → Bool
  | (.inr (.inr (.inr 0))) => true
  | _ => false
def zx_bit : zx_V → Bool
  | (.inl x) => decide (x = 0) || decide (x = 1)
  | _ => false
/-- what may lie in a field: 0 an int, 1 a reference or null, 2 a boolean, 3 a long -/
def zx_fit (fit : Nat) (v : zx_V) : Bool := match fit with
  | 0 => zx_isInt v
  | 1 => zx_isRef v || zx_isNull v
  | 2 => zx_bit v
  | _ => zx_cat v
def zx_pf (ci k fit : Nat) (σ : zx_S) : Option zx_S := match σ with
  | (pc, ls, v :: (.inr (.inr (.inl q))) :: st, w, mc, ms) => match w[q]? with
    | some (.inl (c, fs)) => match Nat.beq ci c && (Nat.blt k fs.length && zx_fit fit v) with
      | true => some (pc + 3, ls, st, w.set q (.inl (ci, (fs.set k v))), mc, ms)
      | false => none
    | _ => none
  | _ => none
/-- values speak of places that are there -/
def zx_lim (nr : Nat) : zx_V → Bool
  | (.inr (.inr (.inl k))) => Nat.blt k nr
  | _ => true
def zx_limO (nr : Nat) : Option Nat → Bool
  | some k => Nat.blt k nr
  | none => true
def zx_limE (nr : Nat) : zx_E → Bool
  | .inl (_, fs) => fs.all (zx_lim nr)
  | .inr (_, _, .inr (.inr l)) => l.all (zx_limO nr)
  | _ => true
def zx_limP (nr : Nat) (l : List (Nat × zx_V)) : Bool := l.all (fun q => zx_lim nr q.2)
def zx_limL (nr : Nat) (l : List zx_V) : Bool := l.all (zx_lim nr)
def zx_limS (nr : Nat) (ls : List (Nat × zx_V)) (st : List zx_V) (w : List zx_E) : Bool := zx_limP nr ls && (zx_limL nr st && w.all (zx_limE nr))
def zx_new (ci : Nat) (fs : List zx_V) (cap : Nat × Nat) (σ : zx_S) : Option zx_S := match σ with
  | (pc, ls, st, w, mc, ms) => match Nat.ble (mc + 1) cap.1 && (Nat.ble (ms + fs.length) cap.2 && zx_limS w.length ls st w) with
    | true => some (pc + 3, ls, (.inr (.inr (.inl w.length))) :: st, w ++ [(.inl (ci, fs))], mc + 1, ms + fs.length)
    | false => none
def zx_a0 (kd n : Nat) : zx_A := match kd with
  | 1 => .inr (.inl (fun _ => 0))
  | 4 => .inr (.inr (List.replicate n none))
  | _ => .inl (fun _ => 0)
def zx_newa (len kd : Nat) (cap : Nat × Nat) (σ : zx_S) : Option zx_S := match σ with
  | (pc, ls, (.inl x) :: st, w, mc, ms) => match decide (¬ x < 0) && (Nat.ble x.toNatClampNeg 16777216 && (Nat.ble (mc + 1) cap.1 && (Nat.ble (ms + x.toNatClampNeg) cap.2 && zx_limS w.length ls st w))) with
    | true => some (pc + len, ls, (.inr (.inr (.inl w.length))) :: st, w ++ [(.inr (kd, x.toNatClampNeg, (zx_a0 kd x.toNatClampNeg)))], mc + 1, ms + x.toNatClampNeg)
    | false => none
  | _ => none
def zx_alen (X : zx_X) (σ : zx_S) : Option zx_S := match σ with
  | (pc, ls, (.inr (.inr (.inl q))) :: st, w, mc, ms) => match w[q]? with
    | some (.inr (kd, n, _)) => match Nat.blt kd 5 with
      | true => some (pc + 1, ls, (.inl (Int32.ofNat n)) :: st, w, mc, ms)
      | false => none
    | _ => none
  | (pc, ls, (.inr (.inr (.inr 2))) :: st, w, mc, ms) => match X with
    | some (n, _) => some (pc + 1, ls, (.inl (Int32.ofNat n)) :: st, w, mc, ms)
    | none => none
  | _ => none
def zx_in (i : Int32) (n : Nat) : Bool := !(decide (i < 0) || Nat.ble n i.toNatClampNeg)
/-- loads and stores: an int, byte or boolean array; a long array; an array of States -/
def zx_ald (kd : Nat) (X : zx_X) (σ : zx_S) : Option zx_S := match σ with
  | (pc, ls, (.inl i) :: (.inr (.inr (.inl q))) :: st, w, mc, ms) => match w[q]? with
    | some (.inr (kd', n, .inl f)) => match Nat.beq kd kd' && zx_in i n with
      | true => some (pc + 1, ls, (.inl (f i.toNatClampNeg)) :: st, w, mc, ms)
      | false => none
    | _ => none
  | (pc, ls, (.inl i) :: (.inr (.inr (.inr 2))) :: st, w, mc, ms) => match X with
    | some (n, f) => match Nat.beq kd 0 && zx_in i n with
      | true => some (pc + 1, ls, (.inl (f i.toNatClampNeg)) :: st, w, mc, ms)
      | false => none
    | none => none
  | _ => none
def zx_lald (σ : zx_S) : Option zx_S := match σ with
  | (pc, ls, (.inl i) :: (.inr (.inr (.inl q))) :: st, w, mc, ms) => match w[q]? with
    | some (.inr (kd', n, .inr (.inl f))) => match Nat.beq 1 kd' && zx_in i n with
      | true => some (pc + 1, ls, (.inr (.inl (f i.toNatClampNeg))) :: st, w, mc, ms)
      | false => none
    | _ => none
  | _ => none
def zx_ref : Option Nat → zx_V
  | some k => (.inr (.inr (.inl k)))
  | none => (.inr (.inr (.inr 0)))
def zx_aald (σ : zx_S) : Option zx_S := match σ with
  | (pc, ls, (.inl i) :: (.inr (.inr (.inl q))) :: st, w, mc, ms) => match w[q]? with
    | some (.inr (kd', n, .inr (.inr l))) => match Nat.beq 4 kd' && zx_in i n, l[i.toNatClampNeg]? with
      | true, some o => some (pc + 1, ls, zx_ref o :: st, w, mc, ms)
      | _, _ => none
    | _ => none
  | _ => none
def zx_ast (kd : Nat) (nar : Int32 → Int32) (σ : zx_S) : Option zx_S := match σ with
  | (pc, ls, (.inl x) :: (.inl i) :: (.inr (.inr (.inl q))) :: st, w, mc, ms) => match w[q]? with
    | some (.inr (kd', n, .inl f)) => match Nat.beq kd kd' && zx_in i n with
      | true => some (pc + 1, ls, st, w.set q (.inr (kd, n, .inl (upd f i.toNatClampNeg (nar x)))), mc, ms)
      | false => none
    | _ => none
  | _ => none
def zx_last (σ : zx_S) : Option zx_S := match σ with
  | (pc, ls, (.inr (.inl x)) :: (.inl i) :: (.inr (.inr (.inl q))) :: st, w, mc, ms) => match w[q]? with
    | some (.inr (kd', n, .inr (.inl f))) => match Nat.beq 1 kd' && zx_in i n with
      | true => some (pc + 1, ls, st, w.set q (.inr (1, n, .inr (.inl (vp_updL f i.toNatClampNeg x)))), mc, ms)
      | false => none
    | _ => none
  | _ => none
def zx_aast (σ : zx_S) : Option zx_S := match σ with
  | (pc, ls, (.inr (.inr (.inl v))) :: (.inl i) :: (.inr (.inr (.inl q))) :: st, w, mc, ms) => match w[q]?, w[v]? with
    | some (.inr (kd', n, .inr (.inr l))), some (.inl (c, _)) => match Nat.beq 4 kd' && (Nat.beq c 8 && (zx_in i n && Nat.beq l.length n)) with
      | true => some (pc + 1, ls, st, w.set q (.inr (4, n, .inr (.inr (l.set i.toNatClampNeg (some v))))), mc, ms)
      | false => none
    | _, _ => none
  | _ => none
/-- Object.<init>, System.arraycopy of ints, Math.max and min of ints -/
def zx_obj (σ : zx_S) : Option zx_S := match σ with
  | (pc, ls, (.inr (.inr (.inl _))) :: st, w, mc, ms) => match Nat.ble st.length 4 with
    | true => some (pc + 3, ls, st, w, mc, ms)
    | false => none
  | _ => none
def zx_mm (f : Int32 → Int32 → Int32) (cap : Nat × Nat) (σ : zx_S) : Option zx_S := match σ with
  | (pc, ls, (.inl y) :: (.inl x) :: st, w, mc, ms) => match Nat.ble st.length 4 && (Nat.ble mc cap.1 && Nat.ble ms cap.2) with
    | true => some (pc + 3, ls, (.inl (f x y)) :: st, w, mc, ms)
    | false => none
  | _ => none
