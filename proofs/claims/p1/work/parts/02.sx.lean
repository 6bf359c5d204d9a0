/-! THE SYMBOLIC EXECUTOR. Values: inl n (an int, n < 2^32), inr inl k (the int variable k, in its interval), inr inr inl k (the cell at place k of the world), inr inr inr 0 (null), 1 (the long 0), 2 (the script). -/
abbrev sx_V : Type := Nat ⊕ Nat ⊕ Nat ⊕ Nat
/-- a cell: an object (number of its kind, fields), an array (kind 0 int, 1 long, 2 boolean, 3 byte, 4 of objects; length; what isn't 0 or null) -/
abbrev sx_E : Type := (Nat × List sx_V) ⊕ (Nat × Nat × List (Nat × sx_V))
/-- an instruction, its length, and numbers: constants, links resolved, targets absolute, places of words -/
abbrev sx_I : Type := Instr × Nat × List Nat
/-- a tree by numbers: places, and what stands there -/
abbrev sx_Iv : Type := List (Nat × Nat)
/-- a state: pc, locals, stack, world, intervals (of x + 2^31, so that Nat's order is the ints'), cells, slots -/
abbrev sx_S : Type := Nat × List (Nat × sx_V) × List sx_V × List sx_E × sx_Iv × Nat × Nat
/-- a leaf: answer, world, intervals -/
abbrev sx_L : Type := Option sx_V × List sx_E × sx_Iv
abbrev sx_N : Type := Option (List sx_S)
/-- the k-th of a list; a list set, pushed, laid out whole ahead of what comes (so that no work stays undone in it) -/
noncomputable def sx_nth {α : Type} (l : List α) : Nat → Option α := List.rec (motive := fun _ => Nat → Option α) (fun _ => none) (fun a _ ih k => Nat.casesOn (motive := fun _ => Option α) k (some a) ih) l
noncomputable def sx_setk {α β : Type} (l : List α) (x : α) : Nat → (List α → β) → β := List.rec (motive := fun _ => Nat → (List α → β) → β) (fun _ f => f []) (fun a t ih k f => Nat.casesOn (motive := fun _ => β) k (f (x :: t)) (fun k => ih k (fun t => f (a :: t)))) l
noncomputable def sx_appk {α β : Type} (l : List α) (x : α) : (List α → β) → β := List.rec (motive := fun _ => (List α → β) → β) (fun f => f [x]) (fun a _ ih f => ih (fun t => f (a :: t))) l
noncomputable def sx_lay {α β : Type} (l : List α) : (List α → β) → β := List.rec (motive := fun _ => (List α → β) → β) (fun f => f []) (fun a _ ih f => ih (fun t => f (a :: t))) l
theorem sx_nth_eq {α : Type} (l : List α) : ∀ k : Nat, sx_nth l k = l[k]? := by
  induction l with
  | nil => intro k; rfl
  | cons a l ih =>
    intro k
    cases k with
    | zero => rfl
    | succ k => exact (ih k).trans (by simp)
theorem sx_setk_eq {α β : Type} (l : List α) (x : α) : ∀ (k : Nat) (f : List α → β), sx_setk l x k f = f (l.set k x) := by
  induction l with
  | nil => intro k f; rfl
  | cons a l ih =>
    intro k f
    cases k with
    | zero => rfl
    | succ k => exact ih k (fun t => f (a :: t))
theorem sx_appk_eq {α β : Type} (l : List α) (x : α) : ∀ (f : List α → β), sx_appk l x f = f (l ++ [x]) := by
  induction l with
  | nil => intro f; rfl
  | cons a l ih => intro f; exact ih (fun t => f (a :: t))
theorem sx_lay_eq {α β : Type} (l : List α) : ∀ (f : List α → β), sx_lay l f = f l := by
  induction l with
  | nil => intro f; rfl
  | cons a l ih => intro f; exact ih (fun t => f (a :: t))
noncomputable def sx_bias (n : Nat) : Nat := (n + 2147483648) % 4294967296
/-- a variable whose interval is one number is that number -/
noncomputable def sx_nm (iv : sx_Iv) : sx_V → sx_V
  | (.inr (.inl k)) => match sx_nth iv k with
    | some (lo, hi) => match Nat.beq lo hi with
      | true => (.inl (sx_bias lo))
      | false => (.inr (.inl k))
    | none => (.inr (.inl k))
  | a => a
noncomputable def sx_look (k : Nat) : List (Nat × sx_V) → Option sx_V
  | [] => none
  | (j, v) :: l => match Nat.beq j k with
    | true => some v
    | false => sx_look k l
noncomputable def sx_cat : sx_V → Bool
  | (.inr (.inr (.inr 1))) => true
  | _ => false
/-- locals with place k set -/
noncomputable def sx_put (k : Nat) (v : sx_V) (l : List (Nat × sx_V)) : List (Nat × sx_V) := (k, v) :: l.filter (fun q => !(Nat.beq q.1 k) && !(Nat.beq (q.1 + 1) k && sx_cat q.2))
/-- contents with place k set; what is 0 or null isn't kept -/
noncomputable def sx_del (k : Nat) : List (Nat × sx_V) → List (Nat × sx_V)
  | [] => []
  | (j, v) :: l => match Nat.beq j k with
    | true => sx_del k l
    | false => (j, v) :: sx_del k l
noncomputable def sx_zero : sx_V → Bool
  | (.inl n) => Nat.beq n 0
  | (.inr (.inr (.inr 0))) => true
  | _ => false
noncomputable def sx_upd (k : Nat) (v : sx_V) (l : List (Nat × sx_V)) : List (Nat × sx_V) := match sx_zero v with
  | true => sx_del k l
  | false => (k, v) :: sx_del k l
noncomputable def sx_def : Nat → sx_V
  | 4 => (.inr (.inr (.inr 0)))
  | 1 => (.inr (.inr (.inr 1)))
  | _ => (.inl 0)
noncomputable def sx_ald (kd : Nat) (up : List (Nat × sx_V)) (k : Nat) : sx_V := (sx_look k up).getD (sx_def kd)
/-- two's complement numbers: an int operation on constants; none: not done here -/
noncomputable def sx_bin (o x y : Nat) : Option Nat := match o with
  | 0 => some ((x + y) % 4294967296)
  | 1 => some ((x + (4294967296 - y % 4294967296)) % 4294967296)
  | 2 => some ((x * y) % 4294967296)
  | 3 => some (Nat.land x y)
  | 4 => match Nat.beq y 0 with
    | true => some x
    | false => none
  | 6 => match Nat.beq x 0 with
    | true => some 0
    | false => none
  | 7 => match Nat.blt x 2147483648 && Nat.blt y 2147483648 && Nat.blt 0 y with
    | true => some (x % y)
    | false => none
  | _ => none
/-- the parts of an interval by a comparison with n (biased), and its truth there -/
noncomputable def sx_parts : ClassFile.Cond → Nat → Nat → Nat → List (Nat × Nat × Bool)
  | .lt, lo, hi, n => [(lo, Nat.min hi (n - 1), Nat.blt 0 n), (Nat.max lo n, hi, false)]
  | .ge, lo, hi, n => [(lo, Nat.min hi (n - 1), !(Nat.blt 0 n)), (Nat.max lo n, hi, true)]
  | .le, lo, hi, n => [(lo, Nat.min hi n, true), (Nat.max lo (n + 1), hi, false)]
  | .gt, lo, hi, n => [(lo, Nat.min hi n, false), (Nat.max lo (n + 1), hi, true)]
  | .eq, lo, hi, n => [(lo, Nat.min hi (n - 1), !(Nat.blt 0 n)), (Nat.max lo n, Nat.min hi n, true), (Nat.max lo (n + 1), hi, false)]
  | .ne, lo, hi, n => [(lo, Nat.min hi (n - 1), Nat.blt 0 n), (Nat.max lo n, Nat.min hi n, false), (Nat.max lo (n + 1), hi, true)]
noncomputable def sx_flip : ClassFile.Cond → ClassFile.Cond
  | .lt => .gt
  | .gt => .lt
  | .le => .ge
  | .ge => .le
  | .eq => .eq
  | .ne => .ne
noncomputable def sx_tru : ClassFile.Cond → Nat → Nat → Bool
  | .eq, x, y => Nat.beq x y
  | .ne, x, y => !(Nat.beq x y)
  | .lt, x, y => Nat.blt x y
  | .ge, x, y => Nat.ble y x
  | .gt, x, y => Nat.blt y x
  | .le, x, y => Nat.ble x y
/-- the state with the variable k's interval narrowed, at pc -/
noncomputable def sx_nar (σ : sx_S) (k pc lo hi : Nat) : sx_S := match σ with
  | (_, ls, st, w, iv, mc, ms) => sx_setk iv (lo, hi) k (fun iv => (pc, ls, st, w, iv, mc, ms))
noncomputable def sx_at (σ : sx_S) (pc : Nat) : sx_S := match σ with
  | (_, ls, st, w, iv, mc, ms) => (pc, ls, st, w, iv, mc, ms)
noncomputable def sx_pick (b : Bool) (t f : Nat) : Nat := match b with
  | true => t
  | false => f
/-- a branch on a variable and a constant: each part that isn't empty -/
noncomputable def sx_fork (σ : sx_S) (k : Nat) (t f : Nat) : List (Nat × Nat × Bool) → List sx_S
  | [] => []
  | (lo, hi, b) :: l => match Nat.ble lo hi with
    | true => sx_nar σ k (sx_pick b t f) lo hi :: sx_fork σ k t f l
    | false => sx_fork σ k t f l
noncomputable def sx_cmp (σ : sx_S) (iv : sx_Iv) (o : ClassFile.Cond) (a b : sx_V) (t f : Nat) : sx_N := match a, b with
  | (.inl x), (.inl y) => some [sx_at σ (sx_pick (sx_tru o (sx_bias x) (sx_bias y)) t f)]
  | (.inr (.inl k)), (.inl y) => match sx_nth iv k with
    | some (lo, hi) => some (sx_fork σ k t f (sx_parts o lo hi (sx_bias y)))
    | none => none
  | (.inl x), (.inr (.inl k)) => match sx_nth iv k with
    | some (lo, hi) => some (sx_fork σ k t f (sx_parts (sx_flip o) lo hi (sx_bias x)))
    | none => none
  | (.inr (.inl j)), (.inr (.inl k)) => match Nat.beq j k with
    | true => some [sx_at σ (sx_pick (sx_tru o 0 0) t f)]
    | false => some [sx_at σ t, sx_at σ f]
  | _, _ => none
/-- a switch: the constants one by one, and the rest (the parts between them); the list: number (biased), target, and on -/
noncomputable def sx_sw (σ : sx_S) (k d : Nat) : Nat → Nat → List (Nat × Nat) → List sx_S
  | lo, hi, [] => match Nat.ble lo hi with
    | true => [sx_nar σ k d lo hi]
    | false => []
  | lo, hi, (n, t) :: l =>
    match Nat.blt lo n && Nat.ble lo hi with
      | true => sx_nar σ k d lo (Nat.min hi (n - 1)) :: (match Nat.ble lo n && Nat.ble n hi with
        | true => sx_nar σ k t n n :: sx_sw σ k d (Nat.max lo (n + 1)) hi l
        | false => sx_sw σ k d (Nat.max lo (n + 1)) hi l)
      | false => (match Nat.ble lo n && Nat.ble n hi with
        | true => sx_nar σ k t n n :: sx_sw σ k d (Nat.max lo (n + 1)) hi l
        | false => sx_sw σ k d (Nat.max lo (n + 1)) hi l)
noncomputable def sx_swc (x d : Nat) : List (Nat × Nat) → Nat
  | [] => d
  | (n, t) :: l => match Nat.beq n x with
    | true => t
    | false => sx_swc x d l
noncomputable def sx_zip : Nat → List Nat → List (Nat × Nat)
  | _, [] => []
  | n, t :: l => (n, t) :: sx_zip (n + 1) l
noncomputable def sx_two : List Nat → List (Nat × Nat)
  | n :: t :: l => (n, t) :: sx_two l
  | _ => []
noncomputable def sx_switch (σ : sx_S) (iv : sx_Iv) (a : sx_V) (d : Nat) (ts : List (Nat × Nat)) : sx_N := match a with
  | (.inl x) => some [sx_at σ (sx_swc (sx_bias x) d ts)]
  | (.inr (.inl k)) => match sx_nth iv k with
    | some (lo, hi) => some (sx_sw σ k d lo hi ts)
    | none => none
  | _ => none
/-- a variable made a constant, each of its numbers (n more from lo on): intervals, number -/
noncomputable def sx_each (iv : sx_Iv) (k lo : Nat) : Nat → List (sx_Iv × Nat)
  | 0 => []
  | n + 1 => (iv.set k (lo, lo), sx_bias lo) :: sx_each iv k (lo + 1) n
noncomputable def sx_conc (iv : sx_Iv) (a : sx_V) : Option (List (sx_Iv × Nat)) := match a with
  | (.inl x) => some [(iv, x)]
  | (.inr (.inl k)) => match sx_nth iv k with
    | some (lo, hi) => match Nat.blt (hi - lo) 16 with
      | true => some (sx_each iv k lo (hi + 1 - lo))
      | false => none
    | none => none
  | _ => none
noncomputable def sx_mapO {α β : Type} (f : α → Option β) : List α → Option (List β)
  | [] => some []
  | a :: l => match f a with
    | none => none
    | some b => match sx_mapO f l with
      | none => none
      | some m => some (b :: m)
noncomputable def sx_copyW (src : List (Nat × sx_V)) (sp dp : Nat) : Nat → List (Nat × sx_V) → List (Nat × sx_V)
  | 0, up => up
  | n + 1, up => sx_copyW src (sp + 1) (dp + 1) n (match sx_look sp src with
    | some v => sx_upd dp v up
    | none => sx_del dp up)
noncomputable def sx_isInt : sx_V → Bool
  | (.inl _) => true
  | (.inr (.inl _)) => true
  | _ => false
noncomputable def sx_isRef : sx_V → Bool
  | (.inr (.inr (.inl _))) => true
  | _ => false
/-- a cell, or the script -/
noncomputable def sx_isAdr : sx_V → Bool
  | (.inr (.inr (.inl _))) => true
  | (.inr (.inr (.inr 2))) => true
  | _ => false
noncomputable def sx_isNull : sx_V → Bool
  | (.inr (.inr (.inr 0))) => true
  | _ => false
noncomputable def sx_bit : sx_V → Bool
  | (.inl n) => Nat.blt n 2
  | _ => false
/-- values speak of variables and places that are there -/
noncomputable def sx_lim (nv nr : Nat) : sx_V → Bool
  | (.inr (.inl k)) => Nat.blt k nv
  | (.inr (.inr (.inl k))) => Nat.blt k nr
  | _ => true
noncomputable def sx_limL (nv nr : Nat) (l : List sx_V) : Bool := l.all (sx_lim nv nr)
noncomputable def sx_limP (nv nr : Nat) (l : List (Nat × sx_V)) : Bool := l.all (fun q => sx_lim nv nr q.2)
noncomputable def sx_limE (nv nr : Nat) : sx_E → Bool
  | .inl (_, fs) => sx_limL nv nr fs
  | .inr (_, _, up) => sx_limP nv nr up
noncomputable def sx_limS (nv nr : Nat) (ls : List (Nat × sx_V)) (st : List sx_V) (w : List sx_E) : Bool := sx_limP nv nr ls && (sx_limL nv nr st && w.all (sx_limE nv nr))
noncomputable def sx_fresh (ls : List (Nat × sx_V)) (st : List sx_V) (w : List sx_E) (iv : sx_Iv) (q : Nat × Nat) (f : sx_Iv → sx_N) : sx_N := match sx_limS iv.length w.length ls st w with
  | true => sx_appk iv q f
  | false => none
noncomputable def sx_grow (ls : List (Nat × sx_V)) (st : List sx_V) (w : List sx_E) (iv : sx_Iv) (e : sx_E) (f : List sx_E → sx_N) : sx_N := match sx_limS iv.length w.length ls st w with
  | true => sx_appk w e f
  | false => none
noncomputable def sx_lok (kd : Nat) (v : sx_V) : Bool := match kd with
  | 4 => sx_isRef v || sx_isNull v
  | _ => sx_isInt v
noncomputable def sx_load (sc : Bool) (σ : sx_S) (kd : Nat) : sx_N := match σ with
  | (pc, ls, i :: (.inr (.inr (.inl k))) :: st, w, iv, mc, ms) => match sx_nth w k with
    | some (.inr (kd', n, up)) => match Nat.beq kd kd', sx_conc iv (sx_nm iv i) with
      | true, some qs => sx_mapO (fun q : sx_Iv × Nat => match Nat.blt q.2 n && Nat.blt q.2 65536 && sx_lok kd' (sx_ald kd' up q.2) with
        | true => some (pc + 1, ls, sx_ald kd' up q.2 :: st, w, q.1, mc, ms)
        | false => none) qs
      | _, _ => none
    | _ => none
  | (pc, ls, i :: (.inr (.inr (.inr 2))) :: st, w, iv, mc, ms) => match Nat.beq kd 0, sx_nm iv i with
    | true, (.inl j) => match sx_nth iv 6 with
      | some (lo, _) => match sc && Nat.blt j 6 && Nat.blt (j + 2147483648) lo with
        | true => some [(pc + 1, ls, (.inr (.inl j)) :: st, w, iv, mc, ms)]
        | false => none
      | none => none
    | _, _ => none
  | _ => none
noncomputable def sx_store (σ : sx_S) (kd : Nat) (ok : sx_V → Bool) : sx_N := match σ with
  | (pc, ls, x :: i :: (.inr (.inr (.inl k))) :: st, w, iv, mc, ms) => match sx_nth w k with
    | some (.inr (kd', n, up)) => match Nat.beq kd kd' && ok x, sx_conc iv (sx_nm iv i) with
      | true, some qs => sx_mapO (fun q : sx_Iv × Nat => match Nat.blt q.2 n && Nat.blt q.2 65536 with
        | true => sx_lay (sx_upd q.2 x up) (fun up => sx_setk w (.inr (kd', n, up)) k (fun w => some (pc + 1, ls, st, w, q.1, mc, ms)))
        | false => none) qs
      | _, _ => none
    | _ => none
  | _ => none
/-- a store into an array of States -/
noncomputable def sx_storeQ (σ : sx_S) : sx_N := match σ with
  | (_, _, (.inr (.inr (.inl q))) :: _, w, _, _, _) => match sx_nth w q with
    | some (.inl (ci, _)) => match Nat.beq ci 8 with
      | true => sx_store σ 4 sx_isRef
      | false => none
    | _ => none
  | _ => none
noncomputable def sx_full : Nat × Nat := (0, 4294967295)
/-- a byte store of what may not fit: a new variable lies there then -/
noncomputable def sx_storeB (σ : sx_S) : sx_N := match σ with
  | (pc, ls, x :: st, w, iv, mc, ms) => match sx_isInt x with
    | true => sx_fresh ls st w iv sx_full (fun iv1 => sx_store (pc, ls, (.inr (.inl iv.length)) :: st, w, iv1, mc, ms) 3 sx_isInt)
    | false => none
  | _ => none
/-- an int operation -/
noncomputable def sx_binop (σ : sx_S) (o : Nat) : sx_N := match σ with
  | (pc, ls, y :: x :: st, w, iv, mc, ms) => match sx_nm iv x, sx_nm iv y with
    | (.inl a), (.inl b) => match sx_bin o a b with
      | some n => some [(pc + 1, ls, (.inl n) :: st, w, iv, mc, ms)]
      | none => none
    | (.inl a), (.inr (.inl k)) => match o, Nat.beq a 0 with
      | 0, true => some [(pc + 1, ls, (.inr (.inl k)) :: st, w, iv, mc, ms)]
      | _, _ => none
    | (.inr (.inl k)), (.inl b) => match o with
      | 0 => match Nat.beq b 0 with
        | true => some [(pc + 1, ls, (.inr (.inl k)) :: st, w, iv, mc, ms)]
        | false => sx_fresh ls st w iv sx_full (fun iv1 => some [(pc + 1, ls, (.inr (.inl iv.length)) :: st, w, iv1, mc, ms)])
      | 1 => match sx_nth iv k with
        | some (lo, hi) => match Nat.blt b 2147483648 && Nat.ble b lo with
          | true => sx_fresh ls st w iv (lo - b, hi - b) (fun iv1 => some [(pc + 1, ls, (.inr (.inl iv.length)) :: st, w, iv1, mc, ms)])
          | false => none
        | none => none
      | 3 => match Nat.blt b 2147483648 with
        | true => sx_fresh ls st w iv (2147483648, 2147483648 + b) (fun iv1 => some [(pc + 1, ls, (.inr (.inl iv.length)) :: st, w, iv1, mc, ms)])
        | false => none
      | 5 => sx_fresh ls st w iv sx_full (fun iv1 => some [(pc + 1, ls, (.inr (.inl iv.length)) :: st, w, iv1, mc, ms)])
      | 6 => sx_fresh ls st w iv sx_full (fun iv1 => some [(pc + 1, ls, (.inr (.inl iv.length)) :: st, w, iv1, mc, ms)])
      | _ => none
    | _, _ => none
  | _ => none
noncomputable def sx_push (σ : sx_S) (n : Nat) (v : sx_V) : sx_N := match σ with
  | (pc, ls, st, w, iv, mc, ms) => some [(pc + n, ls, v :: st, w, iv, mc, ms)]
noncomputable def sx_ldk (ok : sx_V → Bool) (σ : sx_S) (n k : Nat) : sx_N := match sx_look k σ.2.1 with
  | some v => match ok v with
    | true => sx_push σ n v
    | false => none
  | none => none
noncomputable def sx_stk (ok : sx_V → Bool) (σ : sx_S) (n k : Nat) : sx_N := match σ with
  | (pc, ls, v :: st, w, iv, mc, ms) => match ok v with
    | true => sx_lay (sx_put k v ls) (fun ls => some [(pc + n, ls, st, w, iv, mc, ms)])
    | false => none
  | _ => none
noncomputable def sx_hd (ex : List Nat) : Nat := match ex with
  | a :: _ => a
  | [] => 0
noncomputable def sx_gf (σ : sx_S) (ci k : Nat) : sx_N := match σ with
  | (pc, ls, (.inr (.inr (.inl q))) :: st, w, iv, mc, ms) => match sx_nth w q with
    | some (.inl (ci', fs)) => match Nat.beq ci ci', sx_nth fs k with
      | true, some v => some [(pc + 3, ls, v :: st, w, iv, mc, ms)]
      | _, _ => none
    | _ => none
  | _ => none
/-- what may lie in a field: by its kind 0 an int, 1 a reference to an object or array, null (2: a boolean) -/
noncomputable def sx_pf (σ : sx_S) (ci k : Nat) (fit : Nat) : sx_N := match σ with
  | (pc, ls, v :: (.inr (.inr (.inl q))) :: st, w, iv, mc, ms) => match sx_nth w q with
    | some (.inl (ci', fs)) => match Nat.beq ci ci' && Nat.blt k fs.length && (match fit with
        | 0 => sx_isInt v
        | 1 => sx_isRef v || sx_isNull v
        | _ => sx_bit v) with
      | true => sx_setk fs v k (fun fs => sx_setk w (.inl (ci, fs)) q (fun w => some [(pc + 3, ls, st, w, iv, mc, ms)]))
      | false => none
    | _ => none
  | _ => none
noncomputable def sx_newa (cap : Nat × Nat) (σ : sx_S) (len kd : Nat) : sx_N := match σ with
  | (pc, ls, x :: st, w, iv, mc, ms) => match sx_nm iv x with
    | (.inl n) => match Nat.blt n 65536 && Nat.ble (mc + 1) cap.1 && Nat.ble (ms + n) cap.2 with
      | true => sx_grow ls st w iv (.inr (kd, n, [])) (fun w1 => some [(pc + len, ls, (.inr (.inr (.inl w.length))) :: st, w1, iv, mc + 1, ms + n)])
      | false => none
    | _ => none
  | _ => none
noncomputable def sx_alen (sc : Bool) (σ : sx_S) : sx_N := match σ with
  | (pc, ls, (.inr (.inr (.inl q))) :: st, w, iv, mc, ms) => match sx_nth w q with
    | some (.inr (kd, n, _)) => match Nat.blt kd 5 with
      | true => some [(pc + 1, ls, (.inl n) :: st, w, iv, mc, ms)]
      | false => none
    | _ => none
  | (pc, ls, (.inr (.inr (.inr 2))) :: st, w, iv, mc, ms) => match sc with
    | true => some [(pc + 1, ls, (.inr (.inl 6)) :: st, w, iv, mc, ms)]
    | false => none
  | _ => none
noncomputable def sx_copy (σ : sx_S) : sx_N := match σ with
  | (pc, ls, n :: dp :: (.inr (.inr (.inl q))) :: sp :: (.inr (.inr (.inl p))) :: st, w, iv, mc, ms) => match sx_nth w p, sx_nth w q with
    | some (.inr (kp, np, up)), some (.inr (kq, nq, uq)) => match sx_nm iv n, sx_nm iv dp, sx_nm iv sp with
      | (.inl n), (.inl dp), (.inl sp) => match Nat.beq kp 0 && Nat.beq kq 0 && Nat.ble (sp + n) np && Nat.ble (dp + n) nq && !(Nat.beq p q) && Nat.blt np 65536 && Nat.blt nq 65536 && Nat.ble st.length 4 with
        | true => sx_lay (sx_copyW up sp dp n uq) (fun u => sx_setk w (.inr (0, nq, u)) q (fun w => some [(pc + 3, ls, st, w, iv, mc, ms)]))
        | false => none
      | _, _, _ => none
    | _, _ => none
  | _ => none
/-- Math.max, Math.min of constants -/
noncomputable def sx_mm (mx : Bool) (cap : Nat × Nat) (σ : sx_S) : sx_N := match σ with
  | (pc, ls, y :: x :: st, w, iv, mc, ms) => match sx_nm iv x, sx_nm iv y with
    | (.inl a), (.inl b) => match Nat.ble st.length 4 && Nat.ble mc cap.1 && Nat.ble ms cap.2 with
      | true => some [(pc + 3, ls, (.inl (match mx with
        | true => sx_pick (Nat.blt (sx_bias a) (sx_bias b)) b a
        | false => sx_pick (Nat.blt (sx_bias b) (sx_bias a)) b a)) :: st, w, iv, mc, ms)]
      | false => none
    | _, _ => none
  | _ => none
noncomputable def sx_jmp (σ : sx_S) (o : ClassFile.Cond) (t : Nat) : sx_N := match σ with
  | (pc, ls, b :: a :: st, w, iv, mc, ms) => sx_cmp (pc, ls, st, w, iv, mc, ms) iv o (sx_nm iv a) (sx_nm iv b) t (pc + 3)
  | _ => none
noncomputable def sx_jmp0 (σ : sx_S) (o : ClassFile.Cond) (t : Nat) : sx_N := match σ with
  | (pc, ls, a :: st, w, iv, mc, ms) => sx_cmp (pc, ls, st, w, iv, mc, ms) iv o (sx_nm iv a) (.inl 0) t (pc + 3)
  | _ => none
noncomputable def sx_nonnull (σ : sx_S) (t : Nat) : sx_N := match σ with
  | (_, ls, (.inr (.inr (.inl _))) :: st, w, iv, mc, ms) => some [(t, ls, st, w, iv, mc, ms)]
  | (pc, ls, (.inr (.inr (.inr 0))) :: st, w, iv, mc, ms) => some [(pc + 3, ls, st, w, iv, mc, ms)]
  | _ => none
noncomputable def sx_swi (σ : sx_S) (d : Nat) (ts : List (Nat × Nat)) : sx_N := match σ with
  | (pc, ls, a :: st, w, iv, mc, ms) => sx_switch (pc, ls, st, w, iv, mc, ms) iv (sx_nm iv a) d ts
  | _ => none
noncomputable def sx_dup (σ : sx_S) : sx_N := match σ with
  | (pc, ls, v :: st, w, iv, mc, ms) => match sx_cat v with
    | false => some [(pc + 1, ls, v :: v :: st, w, iv, mc, ms)]
    | true => none
  | _ => none
noncomputable def sx_dup2 (σ : sx_S) : sx_N := match σ with
  | (pc, ls, y :: x :: st, w, iv, mc, ms) => match sx_cat x || sx_cat y with
    | false => some [(pc + 1, ls, y :: x :: y :: x :: st, w, iv, mc, ms)]
    | true => none
  | _ => none
noncomputable def sx_inc (σ : sx_S) (k n : Nat) : sx_N := match σ with
  | (pc, ls, st, w, iv, mc, ms) => match sx_look k ls with
    | some x => match sx_nm iv x with
      | (.inl a) => sx_lay (sx_put k (.inl ((a + n) % 4294967296)) ls) (fun ls => some [(pc + 3, ls, st, w, iv, mc, ms)])
      | _ => none
    | none => none
noncomputable def sx_i2b (σ : sx_S) : sx_N := match σ with
  | (pc, ls, x :: st, w, iv, mc, ms) => match sx_isInt x with
    | true => sx_fresh ls st w iv sx_full (fun iv1 => some [(pc + 1, ls, (.inr (.inl iv.length)) :: st, w, iv1, mc, ms)])
    | false => none
  | _ => none
noncomputable def sx_obj (σ : sx_S) : sx_N := match σ with
  | (pc, ls, (.inr (.inr (.inl _))) :: st, w, iv, mc, ms) => match Nat.ble st.length 4 with
    | true => some [(pc + 3, ls, st, w, iv, mc, ms)]
    | false => none
  | _ => none
noncomputable def sx_new (cap : Nat × Nat) (σ : sx_S) (ci : Nat) (fs : List sx_V) : sx_N := match σ with
  | (pc, ls, st, w, iv, mc, ms) => match Nat.ble (mc + 1) cap.1 && Nat.ble (ms + fs.length) cap.2 with
    | true => sx_grow ls st w iv (.inl (ci, fs)) (fun w1 => some [(pc + 3, ls, (.inr (.inr (.inl w.length))) :: st, w1, iv, mc + 1, ms + fs.length)])
    | false => none
/-- what stands in a table: a step (0), a return with an int (1), a return (2), a call of method y with n values (3) -/
abbrev sx_F : Type := Bool → Nat × Nat → sx_S → sx_N
abbrev sx_Q : Type := Nat × Nat × Nat × sx_F
noncomputable def sx_q (g : sx_S → sx_N) : sx_Q := (0, 0, 0, fun _ _ σ => g σ)
noncomputable def sx_no : sx_F := fun _ _ _ => none
noncomputable def sx_ci (n v : Nat) : sx_Q := (0, 0, 0, fun _ _ σ => sx_push σ n (.inl v))
noncomputable def sx_lk (n k : Nat) : sx_Q := (0, 0, 0, fun _ _ σ => sx_ldk sx_isInt σ n k)
noncomputable def sx_la (k : Nat) : sx_Q := (0, 0, 0, fun _ _ σ => sx_ldk sx_isAdr σ 1 k)
noncomputable def sx_sk (n k : Nat) : sx_Q := (0, 0, 0, fun _ _ σ => sx_stk sx_isInt σ n k)
noncomputable def sx_sa (k : Nat) : sx_Q := (0, 0, 0, fun _ _ σ => sx_stk sx_isRef σ 1 k)
noncomputable def sx_bo (o : Nat) : sx_Q := (0, 0, 0, fun _ _ σ => sx_binop σ o)
noncomputable def sx_ld (kd : Nat) : sx_Q := (0, 0, 0, fun sc _ σ => sx_load sc σ kd)
noncomputable def sx_jt (o : ClassFile.Cond) (t : Nat) : sx_Q := (0, 0, 0, fun _ _ σ => sx_jmp σ o t)
noncomputable def sx_j0 (o : ClassFile.Cond) (t : Nat) : sx_Q := (0, 0, 0, fun _ _ σ => sx_jmp0 σ o t)
noncomputable def sx_nw (ci : Nat) (fs : List sx_V) : sx_Q := (0, 0, 0, fun _ cap σ => sx_new cap σ ci fs)
noncomputable def sx_na (len kd : Nat) : sx_Q := (0, 0, 0, fun _ cap σ => sx_newa cap σ len kd)
noncomputable def sx_al : sx_Q := (0, 0, 0, fun sc _ σ => sx_alen sc σ)
noncomputable def sx_gt (t : Nat) : sx_Q := (0, 0, 0, fun _ _ σ => some [sx_at σ t])
noncomputable def sx_gk (ci k : Nat) : sx_Q := (0, 0, 0, fun _ _ σ => sx_gf σ ci k)
noncomputable def sx_pk (ci k fit : Nat) : sx_Q := (0, 0, 0, fun _ _ σ => sx_pf σ ci k fit)
noncomputable def sx_ik (k n : Nat) : sx_Q := (0, 0, 0, fun _ _ σ => sx_inc σ k n)
noncomputable def sx_xz : sx_Q := (0, 0, 0, fun _ _ σ => none)
noncomputable def sx_is (kd : Nat) (ok : sx_V → Bool) : sx_Q := (0, 0, 0, fun _ _ σ => sx_store σ kd ok)
noncomputable def sx_nn (t : Nat) : sx_Q := (0, 0, 0, fun _ _ σ => sx_nonnull σ t)
noncomputable def sx_sg (d : Nat) (ts : List (Nat × Nat)) : sx_Q := (0, 0, 0, fun _ _ σ => sx_swi σ d ts)
noncomputable def sx_mi (mx : Bool) : sx_Q := (0, 0, 0, fun _ cap σ => sx_mm mx cap σ)
noncomputable def sx_cl (y n : Nat) : sx_Q := (3, y, n, sx_no)
noncomputable def sx_r1 : sx_Q := (1, 0, 0, sx_no)
noncomputable def sx_rz : sx_Q := (1, 1, 0, sx_no)
noncomputable def sx_r2 : sx_Q := (2, 0, 0, sx_no)
noncomputable def sx_den (cls : Nat → List sx_V) (I : Instr) (ex : List Nat) : sx_Q := match I with
  | .aload_n k => sx_la k.val
  | .iload_n k => sx_lk 1 k.val
  | .iload k => sx_lk 2 k
  | .istore_n k => sx_sk 1 k.val
  | .istore k => sx_sk 2 k
  | .astore_n k => sx_sa k.val
  | .iconst _ => sx_ci 1 (sx_hd ex)
  | .bipush _ => sx_ci 2 (sx_hd ex)
  | .sipush _ => sx_ci 3 (sx_hd ex)
  | .ldc _ => sx_ci 2 (sx_hd ex)
  | .ldc_w _ => sx_ci 3 (sx_hd ex)
  | .dup => sx_q sx_dup
  | .dup2 => sx_q sx_dup2
  | .aconst_null => sx_q (fun σ => sx_push σ 1 (.inr (.inr (.inr 0))))
  | .goto _ => sx_gt (sx_hd ex)
  | .iinc k _ => sx_ik k (sx_hd ex)
  | .iadd => sx_bo 0
  | .isub => sx_bo 1
  | .imul => sx_bo 2
  | .iand => sx_bo 3
  | .ishl => sx_bo 4
  | .ishr => sx_bo 5
  | .iushr => sx_bo 6
  | .irem => sx_bo 7
  | .i2b => sx_q sx_i2b
  | .getfield _ => match ex with
    | ci :: k :: _ => sx_gk ci k
    | _ => sx_xz
  | .putfield _ => match ex with
    | ci :: k :: fit :: _ => sx_pk ci k fit
    | _ => sx_xz
  | .new _ => sx_nw (sx_hd ex) (cls (sx_hd ex))
  | .newarray _ => sx_na 2 (sx_hd ex)
  | .anewarray _ => sx_na 3 4
  | .arraylength => sx_al
  | .iaload => sx_ld 0
  | .baload => sx_ld (sx_hd ex)
  | .aaload => sx_ld 4
  | .iastore => sx_is 0 sx_isInt
  | .bastore => match sx_hd ex with
    | 2 => sx_is 2 sx_bit
    | _ => sx_q sx_storeB
  | .aastore => sx_q sx_storeQ
  | .if_icmp o _ => sx_jt o (sx_hd ex)
  | .ifCond o _ => sx_j0 o (sx_hd ex)
  | .ifnonnull _ => sx_nn (sx_hd ex)
  | .tableswitch .. => match ex with
    | d :: lo :: ts => sx_sg d (sx_zip lo ts)
    | _ => sx_xz
  | .lookupswitch .. => match ex with
    | d :: ts => sx_sg d (sx_two ts)
    | _ => sx_xz
  | .ireturn => match sx_hd ex with
    | 1 => sx_rz
    | _ => sx_r1
  | .return_ => sx_r2
  | .invokevirtual _ => match ex with
    | 2 :: y :: n :: _ => sx_cl y n
    | _ => sx_xz
  | .invokespecial _ => match ex with
    | 0 :: _ => sx_q sx_obj
    | 2 :: y :: n :: _ => sx_cl y n
    | _ => sx_xz
  | .invokestatic _ => match ex with
    | 1 :: _ => sx_q sx_copy
    | 3 :: _ => sx_mi true
    | 4 :: _ => sx_mi false
    | 2 :: y :: n :: _ => sx_cl y n
    | _ => sx_xz
  | _ => sx_xz
noncomputable def sx_bind {α β : Type} (f : α → Option (List β)) : List α → Option (List β)
  | [] => some []
  | a :: l => match l with
    | [] => f a
    | _ :: _ => match f a with
      | none => none
      | some b => match sx_bind f l with
        | none => none
        | some m => some (b ++ m)
/-- the first n of a list, turned round, ahead of acc; and the rest -/
noncomputable def sx_take : Nat → List sx_V → List sx_V → Option (List sx_V × List sx_V)
  | 0, acc, st => some (acc, st)
  | n + 1, acc, v :: st => sx_take n (v :: acc) st
  | _ + 1, _, [] => none
/-- what a call gives: the leaves (answer, world, intervals) -/
abbrev sx_K : Type := Nat → List sx_V → List sx_E → sx_Iv → Option (List sx_L)
noncomputable def sx_back (f : sx_S → sx_N) (pc : Nat) (ls : List (Nat × sx_V)) (st : List sx_V) (mc ms : Nat) (L : sx_L) : sx_N := match L with
  | (some v, w, iv) => f (pc + 3, ls, v :: st, w, iv, mc, ms)
  | (none, w, iv) => f (pc + 3, ls, st, w, iv, mc, ms)
noncomputable def sx_call (K : sx_K) (caps : Nat → Nat × Nat) (cap : Nat × Nat) (f : sx_S → sx_N) (σ : sx_S) (y n : Nat) : sx_N := match σ with
  | (pc, ls, st, w, iv, mc, ms) => match sx_take n [] st with
    | some (av, st) => match Nat.ble st.length 4 && sx_limP iv.length w.length ls && sx_limL iv.length w.length st && Nat.ble (mc + (caps y).1) cap.1 && Nat.ble (ms + (caps y).2) cap.2 with
      | true => match K y av w iv with
        | some Ls => sx_bind (sx_back f pc ls st (mc + (caps y).1) (ms + (caps y).2)) Ls
        | none => none
      | false => none
    | none => none
noncomputable def sx_next (f : sx_S → sx_N) (r : sx_N) : sx_N := match r with
  | none => none
  | some ss => sx_bind f ss
/-- one instruction, and on with f; a return, and the place 'stop', end it -/
noncomputable def sx_body (K : sx_K) (caps : Nat → Nat × Nat) (sc : Bool) (cap : Nat × Nat) (tab : Nat → Option sx_Q) (stop : Nat) (f : sx_S → sx_N) (σ : sx_S) : sx_N := match Nat.beq σ.1 stop with
  | true => some [σ]
  | false => match tab σ.1 with
    | none => none
    | some (0, _, _, g) => sx_next f (g sc cap σ)
    | some (3, y, n, _) => sx_call K caps cap f σ y n
    | some _ => some [σ]
noncomputable def sx_run (K : sx_K) (caps : Nat → Nat × Nat) (sc : Bool) (cap : Nat × Nat) (tab : Nat → Option sx_Q) (stop n : Nat) : sx_S → sx_N := Nat.rec (motive := fun _ => sx_S → sx_N) (fun _ => none) (fun _ f => sx_body K caps sc cap tab stop f) n
noncomputable def sx_args : Nat → List sx_V → List (Nat × sx_V)
  | _, [] => []
  | k, v :: l => (k, v) :: sx_args (k + 1) l
/-- what an int method, a boolean method answers -/
noncomputable def sx_zok (z : Nat) (v : sx_V) : Bool := match z with
  | 0 => sx_isInt v
  | _ => sx_bit v
/-- the leaf of a state at a return -/
noncomputable def sx_leaf (tab : Nat → Option sx_Q) (cap : Nat × Nat) (σ : sx_S) : Option sx_L := match σ with
  | (pc, _, st, w, iv, mc, ms) => match Nat.ble mc cap.1 && Nat.ble ms cap.2 with
    | true => match tab pc with
      | some (1, z, _, _) => match st with
        | [v] => match sx_zok z (sx_nm iv v) with
          | true => some (some (sx_nm iv v), w, iv)
          | false => none
        | _ => none
      | some (2, _, _, _) => match st with
        | [] => some (none, w, iv)
        | _ => none
      | _ => none
    | false => none
noncomputable def sx_far : Nat := 1000000
/-- the receiver is an object of its kind (0: a static method; else the kind and one) -/
noncomputable def sx_rok (w : List sx_E) (k : Nat) (av : List sx_V) : Bool := match k with
  | 0 => true
  | ci + 1 => match av with
    | (.inr (.inr (.inl q))) :: _ => match sx_nth w q with
      | some (.inl (c, _)) => Nat.beq c ci
      | _ => false
    | _ => false
noncomputable def sx_exec (mt : Nat → Option (Nat → Option sx_Q)) (caps : Nat → Nat × Nat) (rc : Nat → Nat) (fuel d : Nat) : sx_K := Nat.rec (motive := fun _ => sx_K) (fun _ _ _ _ => none)
  (fun _ K y av w iv => match mt y with
    | none => none
    | some tab => match sx_rok w (rc y) av && av.all (fun v => !(sx_cat v)) with
      | true => match sx_run K caps false (caps y) tab sx_far fuel (0, sx_args 0 av, [], w, iv, 0, 0) with
        | none => none
        | some ss => sx_mapO (sx_leaf tab (caps y)) ss
      | false => none) d
/-- a sorted list's rows by number: a list of lists of 16 -/
noncomputable def sx_row {α : Type} (k : Nat) : List (Nat × α) → Option α
  | [] => none
  | (j, x) :: l => match Nat.beq j k with
    | true => some x
    | false => sx_row k l
noncomputable def sx_find {α : Type} (t : List (List (Nat × α))) (k : Nat) : Option α := match t[k / 16]? with
  | some l => sx_row (k % 16) l
  | none => none
