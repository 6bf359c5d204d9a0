/-! a row that the checker takes is sound -/
section sxSound
variable {p : Program} {l : Launch} {e : Env} {R : Room} {s : State} {m : MethodId} {args : Array Value} {below : List Frame} {meth : Method} {c : Code} {Q : State → Prop} {D : va_G} {cA : Nat → ClassId} {A : Nat → Prop} {b nL : Nat} {ρ0 : Nat → Int32} {ad0 : Nat → Nat} {n0 m0 : Nat} {cc : ByteArray}
/-- what a row of a table is good for -/
def sx_Ent (p : Program) (l : Launch) (e : Env) (R : Room) (s : State) (m : MethodId) (args : Array Value) (below : List Frame) (meth : Method) (c : Code) (Q : State → Prop) (D : va_G) (cA : Nat → ClassId) (A : Nat → Prop) (b nL : Nat) (ρ0 : Nat → Int32) (ad0 : Nat → Nat) (n0 m0 : Nat) (own : String) (cc : ByteArray) (rt : Option FieldType) (sc : Bool) (cap : Nat × Nat) (pc : Nat) (q : sx_Q) : Prop :=
  (q.1 = 0 ∧ ∀ (σ : sx_S) (ss : List sx_S), σ.1 = pc → q.2.2.2 sc cap σ = some ss → (∀ τ ∈ ss, sx_Ok p l e R s m args below meth c Q D cA A b nL ρ0 ad0 n0 m0 τ) → sx_Ok p l e R s m args below meth c Q D cA A b nL ρ0 ad0 n0 m0 σ) ∨
  (∃ I, q.1 = 3 ∧ sx_Lk s args own q.2.1 q.2.2.1 I ∧ decode cc pc = .ok (I, 3) ∧ q.2.2.1 ≤ (sx_rec q.2.1).2.2.1) ∨
  (q.1 = 1 ∧ decode cc pc = .ok (.ireturn, 1) ∧ ((q.2.1 = 0 ∧ rt = some .int) ∨ (q.2.1 = 1 ∧ rt = some .boolean))) ∨
  (q.1 = 2 ∧ decode cc pc = .ok (.return_, 1) ∧ rt = none)
theorem sx_inst_ok {y : Nat} (h : sx_inst y = true) : ∃ ci, sx_rc y = ci + 1 := by
  unfold sx_inst at h
  cases e : sx_rc y with
  | zero => rw [e] at h; cases h
  | succ n => exact ⟨n, rfl⟩
theorem sx_ent {own : String} {init : Bool} {rt : Option FieldType} (C : sx_Cx p s m args c D cA own cc nL) (hA : ∀ q, s.heap.size ≤ q → A q) {cap : Nat × Nat} (hR : cap.1 ≤ R.cells ∧ cap.2 ≤ R.slots) (hfr : 1 ≤ R.frames) (hlo : 64 ≤ R.locals) (hinit : init = true → meth.name = "<init>") {sc : Bool} {LL : Nat} {xs : Nat → Int32} (hsc : sc = true → sx_Scr s A b ρ0 n0 LL xs)
    {pc : Nat} {I : Instr} {len : Nat} {ex : List Nat} (hc : sx_chk own cc nL init rt pc I len ex = true) : sx_Ent p l e R s m args below meth c Q D cA A b nL ρ0 ad0 n0 m0 own cc rt sc cap pc (sx_den sx_cls I ex) := by
  have C0 := C
  obtain ⟨hx, hb, hml, hown, hts, hN, hO, hK⟩ := C
  unfold sx_chk at hc
  rw [Bool.and_eq_true] at hc
  have hd : decode cc pc = .ok (I, len) := of_decide_eq_true hc.1
  have hi := hc.2
  clear hc
  cases I
  case aload_n k =>
    cases Nat.eq_of_beq_eq_true hi
    exact Or.inl ⟨rfl, fun σ ss hp h K => by subst hp; exact sx_s_aload_n hx hb hd h K⟩
  case iload_n k =>
    cases Nat.eq_of_beq_eq_true hi
    exact Or.inl ⟨rfl, fun σ ss hp h K => by subst hp; exact sx_s_iload_n hx hb hd h K⟩
  case iload k =>
    cases Nat.eq_of_beq_eq_true hi
    exact Or.inl ⟨rfl, fun σ ss hp h K => by subst hp; exact sx_s_iload hx hb hd h K⟩
  case istore_n k =>
    simp only [sx_chkI, Bool.and_eq_true] at hi
    cases Nat.eq_of_beq_eq_true hi.1
    exact Or.inl ⟨rfl, fun σ ss hp h K => by subst hp; exact sx_s_istore_n hx hb (Nat.le_of_ble_eq_true hi.2) hd h K⟩
  case istore k =>
    simp only [sx_chkI, Bool.and_eq_true] at hi
    cases Nat.eq_of_beq_eq_true hi.1
    exact Or.inl ⟨rfl, fun σ ss hp h K => by subst hp; exact sx_s_istore hx hb (Nat.le_of_ble_eq_true hi.2) hd h K⟩
  case astore_n k =>
    simp only [sx_chkI, Bool.and_eq_true] at hi
    cases Nat.eq_of_beq_eq_true hi.1
    exact Or.inl ⟨rfl, fun σ ss hp h K => by subst hp; exact sx_s_astore_n hx hb (Nat.le_of_ble_eq_true hi.2) hd h K⟩
  case iconst n =>
    simp only [sx_chkI, Bool.and_eq_true] at hi
    cases Nat.eq_of_beq_eq_true hi.1
    exact Or.inl ⟨rfl, fun σ ss hp h K => by subst hp; exact sx_s_iconst hx hb hd (of_decide_eq_true hi.2) h K⟩
  case bipush n =>
    simp only [sx_chkI, Bool.and_eq_true] at hi
    cases Nat.eq_of_beq_eq_true hi.1
    exact Or.inl ⟨rfl, fun σ ss hp h K => by subst hp; exact sx_s_bipush hx hb hd (of_decide_eq_true hi.2) h K⟩
  case sipush n =>
    simp only [sx_chkI, Bool.and_eq_true] at hi
    cases Nat.eq_of_beq_eq_true hi.1
    exact Or.inl ⟨rfl, fun σ ss hp h K => by subst hp; exact sx_s_sipush hx hb hd (of_decide_eq_true hi.2) h K⟩
  case ldc i =>
    simp only [sx_chkI, Bool.and_eq_true] at hi
    cases Nat.eq_of_beq_eq_true hi.1
    exact Or.inl ⟨rfl, fun σ ss hp h K => by subst hp; exact sx_s_ldc hx hb hown hd (hts _ (sx_wd_ok hi.2)) h K⟩
  case ldc_w i =>
    simp only [sx_chkI, Bool.and_eq_true] at hi
    cases Nat.eq_of_beq_eq_true hi.1
    exact Or.inl ⟨rfl, fun σ ss hp h K => by subst hp; exact sx_s_ldcw hx hb hown hd (hts _ (sx_wd_ok hi.2)) h K⟩
  case dup =>
    cases Nat.eq_of_beq_eq_true hi
    exact Or.inl ⟨rfl, fun σ ss hp h K => by subst hp; exact sx_s_dup hx hb hd h K⟩
  case dup2 =>
    cases Nat.eq_of_beq_eq_true hi
    exact Or.inl ⟨rfl, fun σ ss hp h K => by subst hp; exact sx_s_dup2 hx hb hd h K⟩
  case aconst_null =>
    cases Nat.eq_of_beq_eq_true hi
    exact Or.inl ⟨rfl, fun σ ss hp h K => by subst hp; exact sx_s_null hx hb hd h K⟩
  case goto off =>
    simp only [sx_chkI, Bool.and_eq_true] at hi
    cases Nat.eq_of_beq_eq_true hi.1
    exact Or.inl ⟨rfl, fun σ ss hp h K => by subst hp; exact sx_s_goto hx hb hd (of_decide_eq_true hi.2) h K⟩
  case iinc k i =>
    simp only [sx_chkI, Bool.and_eq_true] at hi
    cases Nat.eq_of_beq_eq_true hi.1
    exact Or.inl ⟨rfl, fun σ ss hp h K => by subst hp; exact sx_s_inc hx hb (Nat.le_of_ble_eq_true hi.2.1) (of_decide_eq_true hi.2.2) hd h K⟩
  case iadd =>
    cases Nat.eq_of_beq_eq_true hi
    exact Or.inl ⟨rfl, fun σ ss hp h K => by subst hp; exact sx_s_iadd hx hb hd h K⟩
  case isub =>
    cases Nat.eq_of_beq_eq_true hi
    exact Or.inl ⟨rfl, fun σ ss hp h K => by subst hp; exact sx_s_isub hx hb hd h K⟩
  case imul =>
    cases Nat.eq_of_beq_eq_true hi
    exact Or.inl ⟨rfl, fun σ ss hp h K => by subst hp; exact sx_s_imul hx hb hd h K⟩
  case iand =>
    cases Nat.eq_of_beq_eq_true hi
    exact Or.inl ⟨rfl, fun σ ss hp h K => by subst hp; exact sx_s_iand hx hb hd h K⟩
  case ishl =>
    cases Nat.eq_of_beq_eq_true hi
    exact Or.inl ⟨rfl, fun σ ss hp h K => by subst hp; exact sx_s_ishl hx hb hd h K⟩
  case ishr =>
    cases Nat.eq_of_beq_eq_true hi
    exact Or.inl ⟨rfl, fun σ ss hp h K => by subst hp; exact sx_s_ishr hx hb hd h K⟩
  case iushr =>
    cases Nat.eq_of_beq_eq_true hi
    exact Or.inl ⟨rfl, fun σ ss hp h K => by subst hp; exact sx_s_iushr hx hb hd h K⟩
  case irem =>
    cases Nat.eq_of_beq_eq_true hi
    exact Or.inl ⟨rfl, fun σ ss hp h K => by subst hp; exact sx_s_irem hx hb hd h K⟩
  case i2b =>
    cases Nat.eq_of_beq_eq_true hi
    exact Or.inl ⟨rfl, fun σ ss hp h K => by subst hp; exact sx_s_i2b hx hb hd h K⟩
  case getfield i =>
    simp only [sx_chkI, Bool.and_eq_true] at hi
    cases Nat.eq_of_beq_eq_true hi.1
    have hg := hi.2
    unfold sx_chkG at hg
    split at hg
    next ci k nest pl t =>
      split at hg
      next Cn T N hcl =>
        rw [Bool.and_eq_true] at hg
        obtain ⟨f1, f2, f3, f4, f5, f6, f7, f8⟩ := sx_clOk hcl
        have hk := Nat.le_of_ble_eq_true hg.1
        have hg2 := hg.2
        split at hg2
        next => exact Or.inl ⟨rfl, fun σ ss hp h K => by subst hp; exact sx_s_gf hx hb hts f1 hown hK hcl k hk (hts _ (sx_wd_ok hg2)) hd h K⟩
        next => exact Or.inl ⟨rfl, fun σ ss hp h K => by subst hp; exact sx_s_gfN hx hb hts f1 hown hK hcl k hk (va_Nw.use rfl (sx_wn_ok hN hg2)) hd h K⟩
      next => cases hg
    next => cases hg
  case putfield i =>
    simp only [sx_chkI, Bool.and_eq_true] at hi
    cases Nat.eq_of_beq_eq_true hi.1
    have hg := hi.2
    unfold sx_chkP at hg
    split at hg
    next ci k fit nest fin pl t =>
      split at hg
      next Cn T N hcl =>
        simp only [Bool.and_eq_true] at hg
        obtain ⟨f1, f2, f3, f4, f5, f6, f7, f8⟩ := sx_clOk hcl
        have hk := Nat.le_of_ble_eq_true hg.1
        have ht := sx_takeB_ok hg.2.1
        have hg2 := hg.2.2
        split at hg2
        next =>
          simp only [Bool.and_eq_true, Bool.not_eq_true'] at hg2
          exact Or.inl ⟨rfl, fun σ ss hp h K => by subst hp; exact sx_s_pf hx hb hts f1 (sx_ty ci) f2 f3 hown hK hcl k hk (hts _ (sx_wd_ok hg2.1)) hg2.2 ht hd h K⟩
        next =>
          simp only [Bool.and_eq_true] at hg2
          exact Or.inl ⟨rfl, fun σ ss hp h K => by subst hp; exact sx_s_pfF hx hb hts f1 (sx_ty ci) f2 f3 hown hK hcl k hk (hts _ (sx_wd_ok hg2.1)) hg2.2.1 (hinit hg2.2.2.1) (of_decide_eq_true hg2.2.2.2) ht hd h K⟩
        next =>
          simp only [Bool.and_eq_true, Bool.not_eq_true'] at hg2
          exact Or.inl ⟨rfl, fun σ ss hp h K => by subst hp; exact sx_s_pfN hx hb hts f1 (sx_ty ci) f2 f3 hown hK hcl k hk (va_Nw.use rfl (sx_wn_ok hN hg2.1)) hg2.2 ht hd h K⟩
      next => cases hg
    next => cases hg
  case new i =>
    simp only [sx_chkI, Bool.and_eq_true] at hi
    cases Nat.eq_of_beq_eq_true hi.1
    have hg := hi.2
    unfold sx_chkN at hg
    split at hg
    next Cn T N hcl =>
      obtain ⟨f1, f2, f3, f4, f5, f6, f7, f8⟩ := sx_clOk hcl
      exact Or.inl ⟨rfl, fun σ ss hp h K => by subst hp; exact sx_s_new hx hb hts f1 (sx_ty (sx_hd ex)) f2 hown (hts _ (sx_wd_ok hg)) (hts _ f4) (hts _ f5) hK hA hcl f6 f7 f8 hR hd h K⟩
    next => cases hg
  case newarray t =>
    simp only [sx_chkI, Bool.and_eq_true] at hi
    cases Nat.eq_of_beq_eq_true hi.1
    exact Or.inl ⟨rfl, fun σ ss hp h K => by subst hp; exact sx_s_newaK C0 hA hR hi.2 hd h K⟩
  case anewarray i =>
    simp only [sx_chkI, Bool.and_eq_true] at hi
    cases Nat.eq_of_beq_eq_true hi.1
    exact Or.inl ⟨rfl, fun σ ss hp h K => by subst hp; exact sx_s_anewa hx hb hown (hts _ (sx_wd_ok hi.2)) hO hK hA hR hd h K⟩
  case arraylength =>
    cases Nat.eq_of_beq_eq_true hi
    refine Or.inl ⟨rfl, fun σ ss hp h K => ?_⟩
    subst hp
    have h' : sx_alen sc σ = some ss := h
    rcases sx_alen_cases h' with ⟨pc, L, k, st, w, iv, mc, ms, rfl⟩ | ⟨pc, L, st, w, iv, mc, ms, rfl⟩
    · exact sx_s_alen hx hb hK hd h' K
    · exact sx_s_slen hx hb hsc hd h' K
  case iaload =>
    cases Nat.eq_of_beq_eq_true hi
    refine Or.inl ⟨rfl, fun σ ss hp h K => ?_⟩
    subst hp
    have h' : sx_load sc σ 0 = some ss := h
    rcases sx_load_cases h' with ⟨pc, L, i, k, st, w, iv, mc, ms, rfl⟩ | ⟨_, pc, L, i, st, w, iv, mc, ms, rfl⟩
    · exact sx_s_iald hx hb hK hd h' K
    · exact sx_s_sld hx hb hsc hd h' K
  case baload =>
    simp only [sx_chkI, Bool.and_eq_true, Bool.or_eq_true] at hi
    cases Nat.eq_of_beq_eq_true hi.1
    refine Or.inl ⟨rfl, fun σ ss hp h K => ?_⟩
    subst hp
    have h' : sx_load sc σ (sx_hd ex) = some ss := h
    rcases hi.2 with g | g
    · rw [Nat.eq_of_beq_eq_true g] at h'
      rcases sx_load_cases h' with ⟨pc, L, i, k, st, w, iv, mc, ms, rfl⟩ | ⟨h0, _⟩
      · exact sx_s_zald hx hb hK hd h' K
      · cases h0
    · rw [Nat.eq_of_beq_eq_true g] at h'
      rcases sx_load_cases h' with ⟨pc, L, i, k, st, w, iv, mc, ms, rfl⟩ | ⟨h0, _⟩
      · exact sx_s_bald hx hb hK hd h' K
      · cases h0
  case aaload =>
    cases Nat.eq_of_beq_eq_true hi
    refine Or.inl ⟨rfl, fun σ ss hp h K => ?_⟩
    subst hp
    have h' : sx_load sc σ 4 = some ss := h
    rcases sx_load_cases h' with ⟨pc, L, i, k, st, w, iv, mc, ms, rfl⟩ | ⟨h0, _⟩
    · exact sx_s_aald hx hb hK hd h' K
    · cases h0
  case iastore =>
    cases Nat.eq_of_beq_eq_true hi
    exact Or.inl ⟨rfl, fun σ ss hp h K => by subst hp; exact sx_s_iast hx hb hK hd h K⟩
  case bastore =>
    cases Nat.eq_of_beq_eq_true hi
    unfold sx_den
    simp only
    split
    · exact Or.inl ⟨rfl, fun σ ss hp h K => by subst hp; exact sx_s_zast hx hb hK hd h K⟩
    · exact Or.inl ⟨rfl, fun σ ss hp h K => by subst hp; exact sx_s_bast hx hb hK hd h K⟩
  case aastore =>
    cases Nat.eq_of_beq_eq_true hi
    exact Or.inl ⟨rfl, fun σ ss hp h K => by subst hp; exact sx_s_aast hx hb hK hd h K⟩
  case if_icmp o off =>
    simp only [sx_chkI, Bool.and_eq_true] at hi
    cases Nat.eq_of_beq_eq_true hi.1
    exact Or.inl ⟨rfl, fun σ ss hp h K => by subst hp; exact sx_s_jmp hx hb hd (of_decide_eq_true hi.2) h K⟩
  case ifCond o off =>
    simp only [sx_chkI, Bool.and_eq_true] at hi
    cases Nat.eq_of_beq_eq_true hi.1
    exact Or.inl ⟨rfl, fun σ ss hp h K => by subst hp; exact sx_s_jmp0 hx hb hd (of_decide_eq_true hi.2) h K⟩
  case ifnonnull off =>
    simp only [sx_chkI, Bool.and_eq_true] at hi
    cases Nat.eq_of_beq_eq_true hi.1
    exact Or.inl ⟨rfl, fun σ ss hp h K => by subst hp; exact sx_s_nonnull hx hb hd (of_decide_eq_true hi.2) h K⟩
  case tableswitch dflt lo hi' offs =>
    simp only [sx_chkI] at hi
    split at hi
    next d lo' ts =>
      simp only [Bool.and_eq_true] at hi
      exact Or.inl ⟨rfl, fun σ ss hp h K => by subst hp; exact sx_s_tsw hx hb hd (of_decide_eq_true hi.1) (of_decide_eq_true hi.2.1) (of_decide_eq_true hi.2.2.1) (of_decide_eq_true hi.2.2.2) h K⟩
    next => cases hi
  case lookupswitch dflt ps =>
    simp only [sx_chkI] at hi
    split at hi
    next d ts =>
      rw [Bool.and_eq_true, Bool.and_eq_true, Bool.and_eq_true] at hi
      exact Or.inl ⟨rfl, fun σ ss hp h K => by subst hp; exact sx_s_lsw hx hb hd hi.1 (of_decide_eq_true hi.2.1) (of_decide_eq_true hi.2.2.1) (of_decide_eq_true hi.2.2.2) h K⟩
    next => cases hi
  case ireturn =>
    simp only [sx_chkI, Bool.and_eq_true] at hi
    cases Nat.eq_of_beq_eq_true hi.1
    have hg := hi.2
    unfold sx_den
    simp only
    split
    next he =>
      rw [he] at hg
      exact Or.inr (Or.inr (Or.inl ⟨rfl, hd, Or.inr ⟨rfl, of_decide_eq_true hg⟩⟩))
    next hne =>
      split at hg
      next he => exact absurd he hne
      next => exact Or.inr (Or.inr (Or.inl ⟨rfl, hd, Or.inl ⟨rfl, of_decide_eq_true hg⟩⟩))
  case return_ =>
    simp only [sx_chkI, Bool.and_eq_true] at hi
    cases Nat.eq_of_beq_eq_true hi.1
    exact Or.inr (Or.inr (Or.inr ⟨rfl, hd, of_decide_eq_true hi.2⟩))
  case invokevirtual i =>
    simp only [sx_chkI, Bool.and_eq_true] at hi
    cases Nat.eq_of_beq_eq_true hi.1
    have hg := hi.2
    unfold sx_chkV at hg
    split at hg
    next y n _ pl t =>
      simp only [Bool.and_eq_true] at hg
      exact Or.inr (Or.inl ⟨.invokevirtual i, rfl, Or.inl ⟨i, rfl, hts _ (sx_wd_ok hg.1), sx_inst_ok hg.2.1, of_decide_eq_true hg.2.2.1, of_decide_eq_true hg.2.2.2.1⟩, hd, Nat.le_of_ble_eq_true hg.2.2.2.2⟩)
    next => cases hg
  case invokespecial i =>
    simp only [sx_chkI, Bool.and_eq_true] at hi
    cases Nat.eq_of_beq_eq_true hi.1
    have hg := hi.2
    unfold sx_chkS at hg
    split at hg
    next pl t => exact Or.inl ⟨rfl, fun σ ss hp h K => by subst hp; exact sx_s_obj hx hb hown hml (hts _ (sx_wd_ok hg)) (hts _ sx_w_obj1) (hts _ sx_w_obj2) hfr (by omega) hd h K⟩
    next y n nest pl t =>
      simp only [Bool.and_eq_true] at hg
      obtain ⟨g1, g2, g3, g4, g5, g6⟩ := hg
      split at g1
      next => exact Or.inr (Or.inl ⟨.invokespecial i, rfl, Or.inr (Or.inl ⟨i, rfl, hts _ (sx_wd_ok g1), sx_inst_ok g2, of_decide_eq_true g3, of_decide_eq_true g4, of_decide_eq_true g5⟩), hd, Nat.le_of_ble_eq_true g6⟩)
      next => exact Or.inr (Or.inl ⟨.invokespecial i, rfl, Or.inr (Or.inr (Or.inl ⟨i, "TwoInOne", rfl, sx_wn_ok hN g1, sx_inst_ok g2, of_decide_eq_true g3, of_decide_eq_true g4, of_decide_eq_true g5⟩)), hd, Nat.le_of_ble_eq_true g6⟩)
    next => cases hg
  case invokestatic i =>
    simp only [sx_chkI, Bool.and_eq_true] at hi
    cases Nat.eq_of_beq_eq_true hi.1
    have hg := hi.2
    unfold sx_chkT at hg
    split at hg
    next pl t => exact Or.inl ⟨rfl, fun σ ss hp h K => by subst hp; exact sx_s_copy hx hb hK hml hown (hts _ (sx_wd_ok hg)) (hts _ sx_w_cp1) (hts _ sx_w_cp2) (hts _ sx_w_cp3) hfr (Nat.le_trans (Nat.le_of_ble_eq_true (n := 8 + (nativeFrameWords "java/lang/System" "arraycopy" 5 + 11)) (m := 64) (by decide +kernel)) hlo) hd h K⟩
    next pl t => exact Or.inl ⟨rfl, fun σ ss hp h K => by subst hp; exact sx_s_mx C0 hR hfr hlo (hts _ (sx_wd_ok hg)) hd h K⟩
    next pl t => exact Or.inl ⟨rfl, fun σ ss hp h K => by subst hp; exact sx_s_mn C0 hR hfr hlo (hts _ (sx_wd_ok hg)) hd h K⟩
    next y n _ pl t =>
      simp only [Bool.and_eq_true] at hg
      exact Or.inr (Or.inl ⟨.invokestatic i, rfl, Or.inr (Or.inr (Or.inr ⟨i, rfl, hts _ (sx_wd_ok hg.1), Nat.eq_of_beq_eq_true hg.2.1, of_decide_eq_true hg.2.2.1⟩)), hd, Nat.le_of_ble_eq_true hg.2.2.2⟩)
    next => cases hg
  all_goals cases hi
end sxSound
