/-! the int operations one by one -/
section sxOps
variable {p : Program} {l : Launch} {e : Env} {R : Room} {s : State} {m : MethodId} {args : Array Value} {below : List Frame} {meth : Method} {c : Code} {Q : State → Prop} {D : va_G} {cA : Nat → ClassId} {A : Nat → Prop} {b nL : Nat} {ρ0 : Nat → Int32} {ad0 : Nat → Nat} {n0 m0 : Nat} {cc : ByteArray}
theorem sx_s_iadd (hx : p.tables.exec = Jvm.exec) (hb : c.code = cc) {σ : sx_S} {ss : List sx_S} (hdg : decode cc σ.1 = .ok (.iadd, 1)) (h : sx_binop σ 0 = some ss) (K : ∀ τ ∈ ss, sx_Ok p l e R s m args below meth c Q D cA A b nL ρ0 ad0 n0 m0 τ) : sx_Ok p l e R s m args below meth c Q D cA A b nL ρ0 ad0 n0 m0 σ :=
  sx_s_bin (op := fun x y => x + y) (ok := fun _ _ => True) (fun H locs mc ms ls rest x y _ k => lv_iadd hx hb hdg k) (fun x y n h => by cases h; exact ⟨trivial, sx_add x y⟩) (fun _ _ _ => rfl) (fun h => by cases h) (fun h => by cases h) (fun _ _ _ => trivial) h K
theorem sx_s_isub (hx : p.tables.exec = Jvm.exec) (hb : c.code = cc) {σ : sx_S} {ss : List sx_S} (hdg : decode cc σ.1 = .ok (.isub, 1)) (h : sx_binop σ 1 = some ss) (K : ∀ τ ∈ ss, sx_Ok p l e R s m args below meth c Q D cA A b nL ρ0 ad0 n0 m0 τ) : sx_Ok p l e R s m args below meth c Q D cA A b nL ρ0 ad0 n0 m0 σ :=
  sx_s_bin (op := fun x y => x - y) (ok := fun _ _ => True) (fun H locs mc ms ls rest x y _ k => lv_isub hx hb hdg k) (fun x y n h => by cases h; exact ⟨trivial, sx_sub x y⟩) (fun h => by cases h) (fun _ _ _ => rfl) (fun h => by cases h) (fun _ _ _ => trivial) h K
theorem sx_s_imul (hx : p.tables.exec = Jvm.exec) (hb : c.code = cc) {σ : sx_S} {ss : List sx_S} (hdg : decode cc σ.1 = .ok (.imul, 1)) (h : sx_binop σ 2 = some ss) (K : ∀ τ ∈ ss, sx_Ok p l e R s m args below meth c Q D cA A b nL ρ0 ad0 n0 m0 τ) : sx_Ok p l e R s m args below meth c Q D cA A b nL ρ0 ad0 n0 m0 σ :=
  sx_s_bin (op := fun x y => x * y) (ok := fun _ _ => True) (fun H locs mc ms ls rest x y _ k => lv_imul hx hb hdg k) (fun x y n h => by cases h; exact ⟨trivial, sx_mul x y⟩) (fun h => by cases h) (fun h => by cases h) (fun h => by cases h) (fun _ _ _ => trivial) h K
theorem sx_s_iand (hx : p.tables.exec = Jvm.exec) (hb : c.code = cc) {σ : sx_S} {ss : List sx_S} (hdg : decode cc σ.1 = .ok (.iand, 1)) (h : sx_binop σ 3 = some ss) (K : ∀ τ ∈ ss, sx_Ok p l e R s m args below meth c Q D cA A b nL ρ0 ad0 n0 m0 τ) : sx_Ok p l e R s m args below meth c Q D cA A b nL ρ0 ad0 n0 m0 σ :=
  sx_s_bin (op := fun x y => x &&& y) (ok := fun _ _ => True) (fun H locs mc ms ls rest x y _ k => lv_iand hx hb hdg k) (fun x y n h => by cases h; exact ⟨trivial, sx_and x y⟩) (fun h => by cases h) (fun h => by cases h) (fun _ _ _ => rfl) (fun _ _ _ => trivial) h K
theorem sx_s_ishl (hx : p.tables.exec = Jvm.exec) (hb : c.code = cc) {σ : sx_S} {ss : List sx_S} (hdg : decode cc σ.1 = .ok (.ishl, 1)) (h : sx_binop σ 4 = some ss) (K : ∀ τ ∈ ss, sx_Ok p l e R s m args below meth c Q D cA A b nL ρ0 ad0 n0 m0 τ) : sx_Ok p l e R s m args below meth c Q D cA A b nL ρ0 ad0 n0 m0 σ :=
  sx_s_bin (op := fun x y => x <<< (y &&& 31)) (ok := fun _ _ => True) (fun H locs mc ms ls rest x y _ k => lv_ishl hx hb hdg k) (fun x y n h => by
    simp only [sx_bin] at h
    split at h
    next hy =>
      cases h
      rw [Nat.eq_of_beq_eq_true hy]
      refine ⟨trivial, ?_⟩
      have e : (Int32.ofNat 0 &&& 31) = 0 := by decide
      simp only [e]
      exact Int32.shiftLeft_zero
    next => cases h) (fun h => by cases h) (fun h => by cases h) (fun h => by cases h) (fun _ _ _ => trivial) h K
theorem sx_s_ishr (hx : p.tables.exec = Jvm.exec) (hb : c.code = cc) {σ : sx_S} {ss : List sx_S} (hdg : decode cc σ.1 = .ok (.ishr, 1)) (h : sx_binop σ 5 = some ss) (K : ∀ τ ∈ ss, sx_Ok p l e R s m args below meth c Q D cA A b nL ρ0 ad0 n0 m0 τ) : sx_Ok p l e R s m args below meth c Q D cA A b nL ρ0 ad0 n0 m0 σ :=
  sx_s_bin (op := fun x y => x >>> (y &&& 31)) (ok := fun _ _ => True) (fun H locs mc ms ls rest x y _ k => lv_ishr hx hb hdg k) (fun x y n h => by cases h) (fun h => by cases h) (fun h => by cases h) (fun h => by cases h) (fun _ _ _ => trivial) h K
theorem sx_s_iushr (hx : p.tables.exec = Jvm.exec) (hb : c.code = cc) {σ : sx_S} {ss : List sx_S} (hdg : decode cc σ.1 = .ok (.iushr, 1)) (h : sx_binop σ 6 = some ss) (K : ∀ τ ∈ ss, sx_Ok p l e R s m args below meth c Q D cA A b nL ρ0 ad0 n0 m0 τ) : sx_Ok p l e R s m args below meth c Q D cA A b nL ρ0 ad0 n0 m0 σ :=
  sx_s_bin (op := fun x y => (x.toUInt32 >>> (y.toUInt32 &&& Int32.toUInt32 31)).toInt32) (ok := fun _ _ => True) (fun H locs mc ms ls rest x y _ k => lv_iushr hx hb hdg rfl k) (fun x y n h => by
    simp only [sx_bin] at h
    split at h
    next hy =>
      cases h
      rw [Nat.eq_of_beq_eq_true hy]
      refine ⟨trivial, ?_⟩
      have e : (Int32.ofNat 0).toUInt32 = 0 := by decide
      simp only [e, UInt32.zero_shiftRight]
      decide
    next => cases h) (fun h => by cases h) (fun h => by cases h) (fun h => by cases h) (fun _ _ _ => trivial) h K
theorem sx_s_irem (hx : p.tables.exec = Jvm.exec) (hb : c.code = cc) {σ : sx_S} {ss : List sx_S} (hdg : decode cc σ.1 = .ok (.irem, 1)) (h : sx_binop σ 7 = some ss) (K : ∀ τ ∈ ss, sx_Ok p l e R s m args below meth c Q D cA A b nL ρ0 ad0 n0 m0 τ) : sx_Ok p l e R s m args below meth c Q D cA A b nL ρ0 ad0 n0 m0 σ :=
  sx_s_bin (op := fun x y => x - x / y * y) (ok := fun _ y => ¬ y = 0) (fun H locs mc ms ls rest x y hne k => lv_irem hx hb hdg hne k) (fun x y n h => by
    simp only [sx_bin] at h
    split at h
    next hy =>
      cases h
      simp only [Bool.and_eq_true] at hy
      have z1 : x < 2147483648 := Nat.le_of_ble_eq_true hy.1.1
      have z2 : y < 2147483648 := Nat.le_of_ble_eq_true hy.1.2
      have z3 : 0 < y := Nat.le_of_ble_eq_true hy.2
      exact ⟨nI_ne0 z3 z2, pk_rem z1 z3 z2⟩
    next => cases h) (fun h => by cases h) (fun h => by cases h) (fun h => by cases h) (fun h => absurd rfl h) h K
end sxOps
