/-! a row that the checker takes is sound -/
section zxSound
variable {p : Program} {l : Launch} {e : Env} {R : Room} {s : State} {m : MethodId} {args : Array Value} {below : List Frame} {meth : Method} {c : Code} {Q : State → Prop} {D : va_G} {cA : Nat → ClassId} {A : Nat → Prop} {b nL : Nat} {ad0 : Nat → Nat} {m0 : Nat} {cc : ByteArray}
/-- what a row of a table is good for -/
def zx_Ent (p : Program) (l : Launch) (e : Env) (R : Room) (s : State) (m : MethodId) (args : Array Value) (below : List Frame) (meth : Method) (c : Code) (Q : State → Prop) (D : va_G) (cA : Nat → ClassId) (A : Nat → Prop) (b nL : Nat) (ad0 : Nat → Nat) (m0 : Nat) (own : String) (cc : ByteArray) (rt : Option FieldType) (X : zx_X) (cap : Nat × Nat) (pc : Nat) (q : zx_Q) : Prop :=
  (q.1 = 0 ∧ ∀ (σ τ : zx_S), σ.1 = pc → q.2.2.2 X cap σ = some τ → zx_Ok p l e R s m args below meth c Q D cA A b nL ad0 m0 τ → zx_Ok p l e R s m args below meth c Q D cA A b nL ad0 m0 σ) ∨
  (∃ I, q.1 = 3 ∧ zx_Lk s args own q.2.1 q.2.2.1 I ∧ decode cc pc = .ok (I, 3)) ∨
  (q.1 = 1 ∧ decode cc pc = .ok (.ireturn, 1) ∧ rt = some .int) ∨
  (q.1 = 5 ∧ decode cc pc = .ok (.ireturn, 1) ∧ rt = some .boolean) ∨
  (q.1 = 4 ∧ decode cc pc = .ok (.lreturn, 1) ∧ rt = some .long) ∨
  (q.1 = 2 ∧ decode cc pc = .ok (.return_, 1) ∧ rt = none)
theorem zx_inst_ok {y : Nat} (h : zx_inst y = true) : ∃ ci, zx_rc y = ci + 1 := by
  unfold zx_inst at h
  cases e : zx_rc y with
  | zero => rw [e] at h; cases h
  | succ n => exact ⟨n, rfl⟩
theorem zx_lnk_ok {own : String} {i y nest pl : Nat} (hts : ∀ w ∈ zx_TS, w.before args s = true) (hN : zx_Nest s) (h : zx_lnk own i y nest pl = true) : (Cond.methodLink own i (zx_rec y).1).before args s = true ∨ ∃ host, va_Nw (.methodLinkNest own i (zx_rec y).1 host) s := by
  unfold zx_lnk at h
  split at h
  · exact Or.inl (hts _ (zx_wd_ok h))
  · exact Or.inr ⟨_, zx_wn_ok hN h⟩
theorem zx_s_newaK {own : String} (C : zx_Cx p s m args c D cA own cc nL A) (hA : ∀ q, s.heap.size ≤ q → A q) {cap : Nat × Nat} (hR : cap.1 ≤ R.cells ∧ cap.2 ≤ R.slots) {t : ArrayType} {kd : Nat} (ht : zx_chkA t kd = true) {σ τ : zx_S} (hdg : decode cc σ.1 = .ok (.newarray t, 2)) (h : zx_newa 2 kd cap σ = some τ) (K : zx_Ok p l e R s m args below meth c Q D cA A b nL ad0 m0 τ) : zx_Ok p l e R s m args below meth c Q D cA A b nL ad0 m0 σ := by
  obtain ⟨hx, hb, hml, hown, hts, hN, hO, hK, -⟩ := C
  unfold zx_chkA at ht
  split at ht
  · exact zx_s_newa (atype := .int) (ty := .int) (a0 := fun n => (n, .inl (fun _ => 0))) hx hb rfl (hts _ zx_w_a0) (by decide) rfl (fun c1 c2 g1 g2 => Option.some.inj (Eq.trans (Eq.symm g1) g2)) (fun _ _ => rfl) (fun _ _ => rfl) hK hA hR hdg h K
  · exact zx_s_newa (atype := .long) (ty := .long) (a0 := fun n => (n, .inr (.inl (fun _ => 0)))) hx hb rfl (hts _ zx_w_a1) (by decide) rfl (fun c1 c2 g1 g2 => Option.some.inj (Eq.trans (Eq.symm g1) g2)) (fun _ _ => rfl) (fun _ _ => rfl) hK hA hR hdg h K
  · exact zx_s_newa (atype := .boolean) (ty := .boolean) (a0 := fun n => (n, .inl (fun _ => 0))) hx hb rfl (hts _ zx_w_a2) (by decide) rfl (fun c1 c2 g1 g2 => Option.some.inj (Eq.trans (Eq.symm g1) g2)) (fun _ _ => rfl) (fun _ _ => rfl) hK hA hR hdg h K
  · exact zx_s_newa (atype := .byte) (ty := .byte) (a0 := fun n => (n, .inl (fun _ => 0))) hx hb rfl (hts _ zx_w_a3) (by decide) rfl (fun c1 c2 g1 g2 => Option.some.inj (Eq.trans (Eq.symm g1) g2)) (fun _ _ => rfl) (fun _ _ => rfl) hK hA hR hdg h K
  · cases ht
theorem zx_ent {own : String} {init : Bool} {rt : Option FieldType} (C : zx_Cx p s m args c D cA own cc nL A) (hA : ∀ q, s.heap.size ≤ q → A q) {cap : Nat × Nat} (hR : cap.1 ≤ R.cells ∧ cap.2 ≤ R.slots) (hfr4 : 4 ≤ R.frames) (hlo4 : 256 ≤ R.locals) (hinit : init = true → meth.name = "<init>") {X : zx_X} (hX : zx_Scr X s A b)
    {pc : Nat} {I : Instr} {len : Nat} {ex : List Nat} (hc : zx_chk own cc nL init rt pc I len ex = true) : zx_Ent p l e R s m args below meth c Q D cA A b nL ad0 m0 own cc rt X cap pc (zx_den I ex) := by
  have C0 := C
  obtain ⟨hx, hb, hml, hown, hts, hN, hO, hK, hSt⟩ := C
  have hfr : 1 ≤ R.frames := by omega
  have hlo : 64 ≤ R.locals := by omega
  rcases zx_chk_inv hc with ⟨rfl, hM⟩ | ⟨hd, hi⟩
  · unfold zx_chkM at hM
    simp only [Bool.and_eq_true] at hM
    obtain ⟨g1, g2, g3⟩ := hM
    have g1 := of_decide_eq_true g1
    have g2 := of_decide_eq_true g2
    subst g1
    split at g3
    next t =>
      have g3 := of_decide_eq_true g3
      exact Or.inl ⟨rfl, fun σ τ hp h K => by subst hp; exact zx_s_strL hx hb hml hown hts hSt hR hfr4 hlo4 g2 g3 h K⟩
    next a b' t =>
      simp only [Bool.and_eq_true] at g3
      obtain ⟨⟨k1, k2⟩, k3, k4, k5⟩ := g3
      cases Nat.eq_of_beq_eq_true k1
      have k2 := of_decide_eq_true k2
      have k4 := of_decide_eq_true k4
      have k5 := of_decide_eq_true k5
      split at k3
      next =>
        have k3 := of_decide_eq_true k3
        exact Or.inl ⟨rfl, fun σ τ hp h K => by subst hp; exact zx_s_strC hx hb hml hown hts hSt hR hfr4 hlo4 (i := 2) (j := 1) rfl rfl g2 k2 k3 k4 k5 h K⟩
      next =>
        have k3 := of_decide_eq_true k3
        exact Or.inl ⟨rfl, fun σ τ hp h K => by subst hp; exact zx_s_strC hx hb hml hown hts hSt hR hfr4 hlo4 (i := 2) (j := 3) rfl rfl g2 k2 k3 k4 k5 h K⟩
      next => cases k3
    next => cases g3
  clear hc
  cases I
  case iload_n k =>
    cases Nat.eq_of_beq_eq_true hi
    exact Or.inl ⟨rfl, fun σ τ hp h K => by subst hp; exact zx_s_iload_n hx hb hd h K⟩
  case iload k =>
    cases Nat.eq_of_beq_eq_true hi
    exact Or.inl ⟨rfl, fun σ τ hp h K => by subst hp; exact zx_s_iload hx hb hd h K⟩
  case lload_n k =>
    cases Nat.eq_of_beq_eq_true hi
    exact Or.inl ⟨rfl, fun σ τ hp h K => by subst hp; exact zx_s_lload_n hx hb hd h K⟩
  case lload k =>
    cases Nat.eq_of_beq_eq_true hi
    exact Or.inl ⟨rfl, fun σ τ hp h K => by subst hp; exact zx_s_lload hx hb hd h K⟩
  case aload_n k =>
    cases Nat.eq_of_beq_eq_true hi
    exact Or.inl ⟨rfl, fun σ τ hp h K => by subst hp; exact zx_s_aload_n hx hb hd h K⟩
  case aload k =>
    cases Nat.eq_of_beq_eq_true hi
    exact Or.inl ⟨rfl, fun σ τ hp h K => by subst hp; exact zx_s_aload hx hb hd h K⟩
  case aconst_null =>
    cases Nat.eq_of_beq_eq_true hi
    exact Or.inl ⟨rfl, fun σ τ hp h K => by subst hp; exact zx_s_null hx hb hd h K⟩
  case iconst n =>
    simp only [zx_chkI, Bool.and_eq_true] at hi
    cases Nat.eq_of_beq_eq_true hi.1
    exact Or.inl ⟨rfl, fun σ τ hp h K => by subst hp; exact zx_s_iconst hx hb (of_decide_eq_true hi.2) hd h K⟩
  case bipush n =>
    simp only [zx_chkI, Bool.and_eq_true] at hi
    cases Nat.eq_of_beq_eq_true hi.1
    exact Or.inl ⟨rfl, fun σ τ hp h K => by subst hp; exact zx_s_bipush hx hb (of_decide_eq_true hi.2) hd h K⟩
  case sipush n =>
    simp only [zx_chkI, Bool.and_eq_true] at hi
    cases Nat.eq_of_beq_eq_true hi.1
    exact Or.inl ⟨rfl, fun σ τ hp h K => by subst hp; exact zx_s_sipush hx hb (of_decide_eq_true hi.2) hd h K⟩
  case lconst n =>
    simp only [zx_chkI, Bool.and_eq_true] at hi
    cases Nat.eq_of_beq_eq_true hi.1
    exact Or.inl ⟨rfl, fun σ τ hp h K => by subst hp; exact zx_s_lconst hx hb (of_decide_eq_true hi.2) hd h K⟩
  case ldc i =>
    simp only [zx_chkI, Bool.and_eq_true] at hi
    cases Nat.eq_of_beq_eq_true hi.1
    exact Or.inl ⟨rfl, fun σ τ hp h K => by subst hp; exact zx_s_ldc hx hb hown (hts _ (zx_wd_ok hi.2)) hd h K⟩
  case ldc_w i =>
    simp only [zx_chkI, Bool.and_eq_true] at hi
    cases Nat.eq_of_beq_eq_true hi.1
    exact Or.inl ⟨rfl, fun σ τ hp h K => by subst hp; exact zx_s_ldcw hx hb hown (hts _ (zx_wd_ok hi.2)) hd h K⟩
  case ldc2_w i =>
    simp only [zx_chkI, Bool.and_eq_true] at hi
    cases Nat.eq_of_beq_eq_true hi.1
    exact Or.inl ⟨rfl, fun σ τ hp h K => by subst hp; exact zx_s_ldc2 hx hb hown (hts _ (zx_wd_ok hi.2)) hd h K⟩
  case istore_n k =>
    simp only [zx_chkI, Bool.and_eq_true] at hi
    cases Nat.eq_of_beq_eq_true hi.1
    exact Or.inl ⟨rfl, fun σ τ hp h K => by subst hp; exact zx_s_istore_n hx hb (Nat.le_of_ble_eq_true hi.2) hd h K⟩
  case istore k =>
    simp only [zx_chkI, Bool.and_eq_true] at hi
    cases Nat.eq_of_beq_eq_true hi.1
    exact Or.inl ⟨rfl, fun σ τ hp h K => by subst hp; exact zx_s_istore hx hb (Nat.le_of_ble_eq_true hi.2) hd h K⟩
  case lstore_n k =>
    simp only [zx_chkI, Bool.and_eq_true] at hi
    cases Nat.eq_of_beq_eq_true hi.1
    exact Or.inl ⟨rfl, fun σ τ hp h K => by subst hp; exact zx_s_lstore_n hx hb (Nat.le_of_ble_eq_true hi.2) hd h K⟩
  case lstore k =>
    simp only [zx_chkI, Bool.and_eq_true] at hi
    cases Nat.eq_of_beq_eq_true hi.1
    exact Or.inl ⟨rfl, fun σ τ hp h K => by subst hp; exact zx_s_lstore hx hb (Nat.le_of_ble_eq_true hi.2) hd h K⟩
  case astore_n k =>
    simp only [zx_chkI, Bool.and_eq_true] at hi
    cases Nat.eq_of_beq_eq_true hi.1
    exact Or.inl ⟨rfl, fun σ τ hp h K => by subst hp; exact zx_s_astore_n hx hb (Nat.le_of_ble_eq_true hi.2) hd h K⟩
  case iadd =>
    cases Nat.eq_of_beq_eq_true hi
    exact Or.inl ⟨rfl, fun σ τ hp h K => by subst hp; exact zx_s_iadd hx hb hd h K⟩
  case isub =>
    cases Nat.eq_of_beq_eq_true hi
    exact Or.inl ⟨rfl, fun σ τ hp h K => by subst hp; exact zx_s_isub hx hb hd h K⟩
  case imul =>
    cases Nat.eq_of_beq_eq_true hi
    exact Or.inl ⟨rfl, fun σ τ hp h K => by subst hp; exact zx_s_imul hx hb hd h K⟩
  case iand =>
    cases Nat.eq_of_beq_eq_true hi
    exact Or.inl ⟨rfl, fun σ τ hp h K => by subst hp; exact zx_s_iand hx hb hd h K⟩
  case ior =>
    cases Nat.eq_of_beq_eq_true hi
    exact Or.inl ⟨rfl, fun σ τ hp h K => by subst hp; exact zx_s_ior hx hb hd h K⟩
  case ixor =>
    cases Nat.eq_of_beq_eq_true hi
    exact Or.inl ⟨rfl, fun σ τ hp h K => by subst hp; exact zx_s_ixor hx hb hd h K⟩
  case ishl =>
    cases Nat.eq_of_beq_eq_true hi
    exact Or.inl ⟨rfl, fun σ τ hp h K => by subst hp; exact zx_s_ishl hx hb hd h K⟩
  case ishr =>
    cases Nat.eq_of_beq_eq_true hi
    exact Or.inl ⟨rfl, fun σ τ hp h K => by subst hp; exact zx_s_ishr hx hb hd h K⟩
  case iushr =>
    cases Nat.eq_of_beq_eq_true hi
    exact Or.inl ⟨rfl, fun σ τ hp h K => by subst hp; exact zx_s_iushr hx hb hd h K⟩
  case idiv =>
    cases Nat.eq_of_beq_eq_true hi
    exact Or.inl ⟨rfl, fun σ τ hp h K => by subst hp; exact zx_s_idiv hx hb hd h K⟩
  case irem =>
    cases Nat.eq_of_beq_eq_true hi
    exact Or.inl ⟨rfl, fun σ τ hp h K => by subst hp; exact zx_s_irem hx hb hd h K⟩
  case ladd =>
    cases Nat.eq_of_beq_eq_true hi
    exact Or.inl ⟨rfl, fun σ τ hp h K => by subst hp; exact zx_s_ladd hx hb hd h K⟩
  case lsub =>
    cases Nat.eq_of_beq_eq_true hi
    exact Or.inl ⟨rfl, fun σ τ hp h K => by subst hp; exact zx_s_lsub hx hb hd h K⟩
  case lmul =>
    cases Nat.eq_of_beq_eq_true hi
    exact Or.inl ⟨rfl, fun σ τ hp h K => by subst hp; exact zx_s_lmul hx hb hd h K⟩
  case land =>
    cases Nat.eq_of_beq_eq_true hi
    exact Or.inl ⟨rfl, fun σ τ hp h K => by subst hp; exact zx_s_land hx hb hd h K⟩
  case lor =>
    cases Nat.eq_of_beq_eq_true hi
    exact Or.inl ⟨rfl, fun σ τ hp h K => by subst hp; exact zx_s_lor hx hb hd h K⟩
  case ldiv =>
    cases Nat.eq_of_beq_eq_true hi
    exact Or.inl ⟨rfl, fun σ τ hp h K => by subst hp; exact zx_s_ldiv hx hb hd h K⟩
  case lshl =>
    cases Nat.eq_of_beq_eq_true hi
    exact Or.inl ⟨rfl, fun σ τ hp h K => by subst hp; exact zx_s_lshl hx hb hd h K⟩
  case lshr =>
    cases Nat.eq_of_beq_eq_true hi
    exact Or.inl ⟨rfl, fun σ τ hp h K => by subst hp; exact zx_s_lshr hx hb hd h K⟩
  case lushr =>
    cases Nat.eq_of_beq_eq_true hi
    exact Or.inl ⟨rfl, fun σ τ hp h K => by subst hp; exact zx_s_lushr hx hb hd h K⟩
  case ineg =>
    cases Nat.eq_of_beq_eq_true hi
    exact Or.inl ⟨rfl, fun σ τ hp h K => by subst hp; exact zx_s_ineg hx hb hd h K⟩
  case i2c =>
    cases Nat.eq_of_beq_eq_true hi
    exact Or.inl ⟨rfl, fun σ τ hp h K => by subst hp; exact zx_s_i2c hx hb hd h K⟩
  case i2b =>
    cases Nat.eq_of_beq_eq_true hi
    exact Or.inl ⟨rfl, fun σ τ hp h K => by subst hp; exact zx_s_i2b hx hb hd h K⟩
  case i2l =>
    cases Nat.eq_of_beq_eq_true hi
    exact Or.inl ⟨rfl, fun σ τ hp h K => by subst hp; exact zx_s_i2l hx hb hd h K⟩
  case l2i =>
    cases Nat.eq_of_beq_eq_true hi
    exact Or.inl ⟨rfl, fun σ τ hp h K => by subst hp; exact zx_s_l2i hx hb hd h K⟩
  case lcmp =>
    cases Nat.eq_of_beq_eq_true hi
    exact Or.inl ⟨rfl, fun σ τ hp h K => by subst hp; exact zx_s_lcmp hx hb hd h K⟩
  case dup =>
    cases Nat.eq_of_beq_eq_true hi
    exact Or.inl ⟨rfl, fun σ τ hp h K => by subst hp; exact zx_s_dup hx hb hd h K⟩
  case dup2 =>
    cases Nat.eq_of_beq_eq_true hi
    exact Or.inl ⟨rfl, fun σ τ hp h K => by subst hp; exact zx_s_dup2 hx hb hd h K⟩
  case pop =>
    cases Nat.eq_of_beq_eq_true hi
    exact Or.inl ⟨rfl, fun σ τ hp h K => by subst hp; exact zx_s_pop hx hb hd h K⟩
  case goto off =>
    simp only [zx_chkI, Bool.and_eq_true] at hi
    cases Nat.eq_of_beq_eq_true hi.1
    exact Or.inl ⟨rfl, fun σ τ hp h K => by subst hp; exact zx_s_goto hx hb hd (of_decide_eq_true hi.2) h K⟩
  case iinc k i =>
    simp only [zx_chkI, Bool.and_eq_true] at hi
    cases Nat.eq_of_beq_eq_true hi.1
    exact Or.inl ⟨rfl, fun σ τ hp h K => by subst hp; exact zx_s_inc hx hb (Nat.le_of_ble_eq_true hi.2.1) (of_decide_eq_true hi.2.2) hd h K⟩
  case getfield i =>
    simp only [zx_chkI, Bool.and_eq_true] at hi
    cases Nat.eq_of_beq_eq_true hi.1
    have hg := hi.2
    unfold zx_chkG at hg
    split at hg
    next ci k nest pl t =>
      split at hg
      next Cn T N hcl =>
        rw [Bool.and_eq_true] at hg
        obtain ⟨f1, f2, f3, f4, f5, f6, f7, f8⟩ := zx_clOk hcl
        have hk := Nat.le_of_ble_eq_true hg.1
        have hg2 := hg.2
        split at hg2
        next => exact Or.inl ⟨rfl, fun σ τ hp h K => by subst hp; exact zx_s_gf hx hb hts f1 hown hK hcl k hk (hts _ (zx_wd_ok hg2)) hd h K⟩
        next => exact Or.inl ⟨rfl, fun σ τ hp h K => by subst hp; exact zx_s_gfN hx hb hts f1 hown hK hcl k hk (va_Nw.use rfl (zx_wn_ok hN hg2)) hd h K⟩
      next => cases hg
    next => cases hg
  case putfield i =>
    simp only [zx_chkI, Bool.and_eq_true] at hi
    cases Nat.eq_of_beq_eq_true hi.1
    have hg := hi.2
    unfold zx_chkP at hg
    split at hg
    next ci k fit nest fin pl t =>
      split at hg
      next Cn T N hcl =>
        simp only [Bool.and_eq_true] at hg
        obtain ⟨f1, f2, f3, f4, f5, f6, f7, f8⟩ := zx_clOk hcl
        have hk := Nat.le_of_ble_eq_true hg.1
        have ht := zx_takeB_ok hg.2.1
        have hg2 := hg.2.2
        split at hg2
        next =>
          simp only [Bool.and_eq_true, Bool.not_eq_true'] at hg2
          exact Or.inl ⟨rfl, fun σ τ hp h K => by subst hp; exact zx_s_pf hx hb hts f1 (zx_ty ci) f2 f3 hown hK hcl k hk (hts _ (zx_wd_ok hg2.1)) hg2.2 ht hd h K⟩
        next =>
          simp only [Bool.and_eq_true] at hg2
          exact Or.inl ⟨rfl, fun σ τ hp h K => by subst hp; exact zx_s_pfF hx hb hts f1 (zx_ty ci) f2 f3 hown hK hcl k hk (hts _ (zx_wd_ok hg2.1)) hg2.2.1 (hinit hg2.2.2.1) (of_decide_eq_true hg2.2.2.2) ht hd h K⟩
        next =>
          simp only [Bool.and_eq_true, Bool.not_eq_true'] at hg2
          exact Or.inl ⟨rfl, fun σ τ hp h K => by subst hp; exact zx_s_pfN hx hb hts f1 (zx_ty ci) f2 f3 hown hK hcl k hk (va_Nw.use rfl (zx_wn_ok hN hg2.1)) hg2.2 ht hd h K⟩
      next => cases hg
    next => cases hg
  case new i =>
    simp only [zx_chkI, Bool.and_eq_true] at hi
    cases Nat.eq_of_beq_eq_true hi.1
    have hg := hi.2
    unfold zx_chkN at hg
    split at hg
    next Cn T N hcl =>
      obtain ⟨f1, f2, f3, f4, f5, f6, f7, f8⟩ := zx_clOk hcl
      exact Or.inl ⟨rfl, fun σ τ hp h K => by subst hp; exact zx_s_new hx hb hts f1 (zx_ty (zx_hd ex)) f2 hown (hts _ (zx_wd_ok hg)) (hts _ f4) (hts _ f5) hK hA hcl f6 f7 f8 hR hd h K⟩
    next => cases hg
  case newarray t =>
    simp only [zx_chkI, Bool.and_eq_true] at hi
    cases Nat.eq_of_beq_eq_true hi.1
    exact Or.inl ⟨rfl, fun σ τ hp h K => by subst hp; exact zx_s_newaK C0 hA hR hi.2 hd h K⟩
  case anewarray i =>
    simp only [zx_chkI, Bool.and_eq_true] at hi
    cases Nat.eq_of_beq_eq_true hi.1
    exact Or.inl ⟨rfl, fun σ τ hp h K => by subst hp; exact zx_s_anewa hx hb hown (hts _ (zx_wd_ok hi.2)) hO hK hA hR hd h K⟩
  case arraylength =>
    cases Nat.eq_of_beq_eq_true hi
    exact Or.inl ⟨rfl, fun σ τ hp h K => by subst hp; exact zx_s_alen hx hb hK hX hd h K⟩
  case iaload =>
    cases Nat.eq_of_beq_eq_true hi
    exact Or.inl ⟨rfl, fun σ τ hp h K => by subst hp; exact zx_s_iald hx hb hK hX hd h K⟩
  case laload =>
    cases Nat.eq_of_beq_eq_true hi
    exact Or.inl ⟨rfl, fun σ τ hp h K => by subst hp; exact zx_s_lald hx hb hK hd h K⟩
  case aaload =>
    cases Nat.eq_of_beq_eq_true hi
    exact Or.inl ⟨rfl, fun σ τ hp h K => by subst hp; exact zx_s_aald hx hb hK hd h K⟩
  case iastore =>
    cases Nat.eq_of_beq_eq_true hi
    exact Or.inl ⟨rfl, fun σ τ hp h K => by subst hp; exact zx_s_iast hx hb hK hd h K⟩
  case lastore =>
    cases Nat.eq_of_beq_eq_true hi
    exact Or.inl ⟨rfl, fun σ τ hp h K => by subst hp; exact zx_s_last hx hb hK hd h K⟩
  case aastore =>
    cases Nat.eq_of_beq_eq_true hi
    exact Or.inl ⟨rfl, fun σ τ hp h K => by subst hp; exact zx_s_aast hx hb hK hd h K⟩
  case baload =>
    simp only [zx_chkI, Bool.and_eq_true, Bool.or_eq_true] at hi
    cases Nat.eq_of_beq_eq_true hi.1
    refine Or.inl ⟨rfl, fun σ τ hp h K => ?_⟩
    subst hp
    have h' : zx_ald (zx_hd ex) X σ = some τ := h
    rcases hi.2 with g | g
    · rw [Nat.eq_of_beq_eq_true g] at h'
      exact zx_s_zald hx hb hK hX hd h' K
    · rw [Nat.eq_of_beq_eq_true g] at h'
      exact zx_s_bald hx hb hK hX hd h' K
  case bastore =>
    cases Nat.eq_of_beq_eq_true hi
    unfold zx_den
    simp only
    split
    · exact Or.inl ⟨rfl, fun σ τ hp h K => by subst hp; exact zx_s_zast hx hb hK hd h K⟩
    · exact Or.inl ⟨rfl, fun σ τ hp h K => by subst hp; exact zx_s_bast hx hb hK hd h K⟩
  case if_icmp o off =>
    simp only [zx_chkI, Bool.and_eq_true] at hi
    cases Nat.eq_of_beq_eq_true hi.1
    exact Or.inl ⟨rfl, fun σ τ hp h K => by subst hp; exact zx_s_jt hx hb hd (of_decide_eq_true hi.2) h K⟩
  case ifCond o off =>
    simp only [zx_chkI, Bool.and_eq_true] at hi
    cases Nat.eq_of_beq_eq_true hi.1
    exact Or.inl ⟨rfl, fun σ τ hp h K => by subst hp; exact zx_s_j0 hx hb hd (of_decide_eq_true hi.2) h K⟩
  case ifnonnull off =>
    simp only [zx_chkI, Bool.and_eq_true] at hi
    cases Nat.eq_of_beq_eq_true hi.1
    exact Or.inl ⟨rfl, fun σ τ hp h K => by subst hp; exact zx_s_nonnull hx hb hd (of_decide_eq_true hi.2) h K⟩
  case tableswitch dflt lo hi' offs =>
    simp only [zx_chkI] at hi
    split at hi
    next d lo' ts =>
      simp only [Bool.and_eq_true] at hi
      exact Or.inl ⟨rfl, fun σ τ hp h K => by subst hp; exact zx_s_tsw hx hb hd (of_decide_eq_true hi.1) (of_decide_eq_true hi.2.1) (of_decide_eq_true hi.2.2.1) (of_decide_eq_true hi.2.2.2) h K⟩
    next => cases hi
  case lookupswitch dflt ps =>
    simp only [zx_chkI] at hi
    split at hi
    next d ts =>
      rw [Bool.and_eq_true, Bool.and_eq_true] at hi
      exact Or.inl ⟨rfl, fun σ τ hp h K => by subst hp; exact zx_s_lsw hx hb hd hi.1 (of_decide_eq_true hi.2.1) (of_decide_eq_true hi.2.2) h K⟩
    next => cases hi
  case ireturn =>
    simp only [zx_chkI, Bool.and_eq_true] at hi
    cases Nat.eq_of_beq_eq_true hi.1
    have hg := hi.2
    unfold zx_den
    simp only
    split
    next he =>
      rw [he] at hg
      exact Or.inr (Or.inr (Or.inr (Or.inl ⟨rfl, hd, of_decide_eq_true hg⟩)))
    next hne =>
      split at hg
      next he => exact absurd he hne
      next => exact Or.inr (Or.inr (Or.inl ⟨rfl, hd, of_decide_eq_true hg⟩))
  case lreturn =>
    simp only [zx_chkI, Bool.and_eq_true] at hi
    cases Nat.eq_of_beq_eq_true hi.1
    exact Or.inr (Or.inr (Or.inr (Or.inr (Or.inl ⟨rfl, hd, of_decide_eq_true hi.2⟩))))
  case return_ =>
    simp only [zx_chkI, Bool.and_eq_true] at hi
    cases Nat.eq_of_beq_eq_true hi.1
    exact Or.inr (Or.inr (Or.inr (Or.inr (Or.inr ⟨rfl, hd, of_decide_eq_true hi.2⟩))))
  case invokevirtual i =>
    simp only [zx_chkI, Bool.and_eq_true] at hi
    cases Nat.eq_of_beq_eq_true hi.1
    have hg := hi.2
    unfold zx_chkV at hg
    split at hg
    next y n nest pl t =>
      simp only [Bool.and_eq_true] at hg
      exact Or.inr (Or.inl ⟨.invokevirtual i, rfl, Or.inl ⟨i, rfl, zx_lnk_ok hts hN hg.1, zx_inst_ok hg.2.1, of_decide_eq_true hg.2.2.1, of_decide_eq_true hg.2.2.2⟩, hd⟩)
    next => cases hg
  case invokespecial i =>
    simp only [zx_chkI, Bool.and_eq_true] at hi
    cases Nat.eq_of_beq_eq_true hi.1
    have hg := hi.2
    unfold zx_chkS at hg
    split at hg
    next pl t => exact Or.inl ⟨rfl, fun σ τ hp h K => by subst hp; exact zx_s_obj hx hb hown hml (hts _ (zx_wd_ok hg)) (hts _ zx_w_obj1) (hts _ zx_w_obj2) hfr (by omega) hd h K⟩
    next y n nest pl t =>
      simp only [Bool.and_eq_true] at hg
      obtain ⟨g1, g2, g3, g4, g5⟩ := hg
      exact Or.inr (Or.inl ⟨.invokespecial i, rfl, Or.inr (Or.inl ⟨i, rfl, zx_lnk_ok hts hN g1, zx_inst_ok g2, of_decide_eq_true g3, of_decide_eq_true g4, of_decide_eq_true g5⟩), hd⟩)
    next => cases hg
  case invokestatic i =>
    simp only [zx_chkI, Bool.and_eq_true] at hi
    cases Nat.eq_of_beq_eq_true hi.1
    have hg := hi.2
    unfold zx_chkT at hg
    split at hg
    next pl t => exact Or.inl ⟨rfl, fun σ τ hp h K => by subst hp; exact zx_s_copy hx hb hK hml hown (hts _ (zx_wd_ok hg)) (hts _ zx_w_cp1) (hts _ zx_w_cp2) (hts _ zx_w_cp3) hfr (Nat.le_trans (Nat.le_of_ble_eq_true (n := 8 + (nativeFrameWords "java/lang/System" "arraycopy" 5 + 11)) (m := 64) (by decide +kernel)) hlo) hd h K⟩
    next pl t => exact Or.inl ⟨rfl, fun σ τ hp h K => by subst hp; exact zx_s_mx hx hb hml hown (hts _ (zx_wd_ok hg)) (hts _ zx_w_mx1) (hts _ zx_w_mi) (hts _ zx_w_mx2) hR hfr (by omega) hd h K⟩
    next pl t => exact Or.inl ⟨rfl, fun σ τ hp h K => by subst hp; exact zx_s_mn hx hb hml hown (hts _ (zx_wd_ok hg)) (hts _ zx_w_mn1) (hts _ zx_w_mi) (hts _ zx_w_mn2) hR hfr (by omega) hd h K⟩
    next pl t => exact Or.inl ⟨rfl, fun σ τ hp h K => by subst hp; exact zx_s_mxl hx hb hml hown (hts _ (zx_wd_ok hg)) (hts _ zx_w_mxl1) (hts _ zx_w_mi) (hts _ zx_w_mxl2) hR hfr (by omega) hd h K⟩
    next pl t => exact Or.inl ⟨rfl, fun σ τ hp h K => by subst hp; exact zx_s_mnl hx hb hml hown (hts _ (zx_wd_ok hg)) (hts _ zx_w_mnl1) (hts _ zx_w_mi) (hts _ zx_w_mnl2) hR hfr (by omega) hd h K⟩
    next y n nest pl t =>
      simp only [Bool.and_eq_true] at hg
      exact Or.inr (Or.inl ⟨.invokestatic i, rfl, Or.inr (Or.inr ⟨i, rfl, zx_lnk_ok hts hN hg.1, Nat.eq_of_beq_eq_true hg.2.1, of_decide_eq_true hg.2.2⟩), hd⟩)
    next => cases hg
  all_goals cases hi
end zxSound
