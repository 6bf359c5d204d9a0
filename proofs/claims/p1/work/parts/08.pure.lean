/-! one instruction: what changes no cell -/
section sxPure
variable {p : Program} {l : Launch} {e : Env} {R : Room} {s : State} {m : MethodId} {args : Array Value} {below : List Frame} {meth : Method} {c : Code} {Q : State → Prop} {D : va_G} {cA : Nat → ClassId} {A : Nat → Prop} {b nL : Nat} {ρ0 : Nat → Int32} {ad0 : Nat → Nat} {n0 m0 : Nat} {cc : ByteArray}
theorem sx_pure {pc pc' mc ms : Nat} {L : List (Nat × sx_V)} {st st' : List sx_V} {w : List sx_E} {iv : sx_Iv} (K : sx_Ok p l e R s m args below meth c Q D cA A b nL ρ0 ad0 n0 m0 (pc', L, st', w, iv, mc, ms))
    (h : ∀ (ρ : Nat → Int32) (ad : Nat → Nat) (H : Heap) (locs : List Loc) (ls : Array Slot), sx_ivOk ρ iv → lv_has ls nL (sx_cL ρ ad b L) → W p l e R s m args below meth c H locs mc ms Q (F0 m pc' ls (st'.map (sx_cv ρ ad b))) → W p l e R s m args below meth c H locs mc ms Q (F0 m pc ls (st.map (sx_cv ρ ad b)))) : sx_Ok p l e R s m args below meth c Q D cA A b nL ρ0 ad0 n0 m0 (pc, L, st, w, iv, mc, ms) :=
  fun ρ ad H locs ls h1 h2 h3 h4 h5 hP hD hS hl => h ρ ad H locs ls h1 hl (K ρ ad H locs ls h1 h2 h3 h4 h5 hP hD hS hl)
theorem sx_s_push {σ : sx_S} {n : Nat} {v : sx_V} {ss : List sx_S} (h : sx_push σ n v = some ss) (K : ∀ τ ∈ ss, sx_Ok p l e R s m args below meth c Q D cA A b nL ρ0 ad0 n0 m0 τ)
    (hw : ∀ (ρ : Nat → Int32) (ad : Nat → Nat) (H : Heap) (locs : List Loc) (mc ms : Nat) (ls : Array Slot) (rest : List Value), lv_has ls nL (sx_cL ρ ad b σ.2.1) → W p l e R s m args below meth c H locs mc ms Q (F0 m (σ.1 + n) ls (sx_cv ρ ad b v :: rest)) → W p l e R s m args below meth c H locs mc ms Q (F0 m σ.1 ls rest)) : sx_Ok p l e R s m args below meth c Q D cA A b nL ρ0 ad0 n0 m0 σ := by
  obtain ⟨pc, L, st, w, iv, mc, ms⟩ := σ
  cases h
  exact sx_pure (K _ List.mem_cons_self) (fun ρ ad H locs ls h1 hl k => hw ρ ad H locs mc ms ls _ hl k)
theorem sx_s_iconst (hx : p.tables.exec = Jvm.exec) (hb : c.code = cc) {σ : sx_S} {n : Int} {k : Nat} {ss : List sx_S} (hdg : decode cc σ.1 = .ok (.iconst n, 1)) (hk : Int32.ofInt n = Int32.ofNat k) (h : sx_push σ 1 (.inl k) = some ss) (K : ∀ τ ∈ ss, sx_Ok p l e R s m args below meth c Q D cA A b nL ρ0 ad0 n0 m0 τ) : sx_Ok p l e R s m args below meth c Q D cA A b nL ρ0 ad0 n0 m0 σ :=
  sx_s_push h K (fun ρ ad H locs mc ms ls rest hl k => lv_iconst hx hb hdg hk k)
theorem sx_s_bipush (hx : p.tables.exec = Jvm.exec) (hb : c.code = cc) {σ : sx_S} {n : Int} {k : Nat} {ss : List sx_S} (hdg : decode cc σ.1 = .ok (.bipush n, 2)) (hk : (Int8.ofInt n).toInt32 = Int32.ofNat k) (h : sx_push σ 2 (.inl k) = some ss) (K : ∀ τ ∈ ss, sx_Ok p l e R s m args below meth c Q D cA A b nL ρ0 ad0 n0 m0 τ) : sx_Ok p l e R s m args below meth c Q D cA A b nL ρ0 ad0 n0 m0 σ :=
  sx_s_push h K (fun ρ ad H locs mc ms ls rest hl k => lv_bipush hx hb hdg hk k)
theorem sx_s_sipush (hx : p.tables.exec = Jvm.exec) (hb : c.code = cc) {σ : sx_S} {n : Int} {k : Nat} {ss : List sx_S} (hdg : decode cc σ.1 = .ok (.sipush n, 3)) (hk : (Int16.ofInt n).toInt32 = Int32.ofNat k) (h : sx_push σ 3 (.inl k) = some ss) (K : ∀ τ ∈ ss, sx_Ok p l e R s m args below meth c Q D cA A b nL ρ0 ad0 n0 m0 τ) : sx_Ok p l e R s m args below meth c Q D cA A b nL ρ0 ad0 n0 m0 σ :=
  sx_s_push h K (fun ρ ad H locs mc ms ls rest hl k => lv_sipush hx hb hdg hk k)
theorem sx_s_ldc (hx : p.tables.exec = Jvm.exec) (hb : c.code = cc) {own : String} (hown : s.vm.findClass own = some m.cls) {σ : sx_S} {i k : Nat} {ss : List sx_S} (hdg : decode cc σ.1 = .ok (.ldc i, 2)) (hk : (Jvm.Cond.constant own i (Int32.ofNat k)).before args s = true) (h : sx_push σ 2 (.inl k) = some ss) (K : ∀ τ ∈ ss, sx_Ok p l e R s m args below meth c Q D cA A b nL ρ0 ad0 n0 m0 τ) : sx_Ok p l e R s m args below meth c Q D cA A b nL ρ0 ad0 n0 m0 σ :=
  sx_s_push h K (fun ρ ad H locs mc ms ls rest hl k => lv_ldc hx hb hown hk hdg k)
theorem sx_s_ldcw (hx : p.tables.exec = Jvm.exec) (hb : c.code = cc) {own : String} (hown : s.vm.findClass own = some m.cls) {σ : sx_S} {i k : Nat} {ss : List sx_S} (hdg : decode cc σ.1 = .ok (.ldc_w i, 3)) (hk : (Jvm.Cond.constant own i (Int32.ofNat k)).before args s = true) (h : sx_push σ 3 (.inl k) = some ss) (K : ∀ τ ∈ ss, sx_Ok p l e R s m args below meth c Q D cA A b nL ρ0 ad0 n0 m0 τ) : sx_Ok p l e R s m args below meth c Q D cA A b nL ρ0 ad0 n0 m0 σ :=
  sx_s_push h K (fun ρ ad H locs mc ms ls rest hl k => lv_ldcw hx hb hown hk hdg k)
theorem sx_s_null (hx : p.tables.exec = Jvm.exec) (hb : c.code = cc) {σ : sx_S} {ss : List sx_S} (hdg : decode cc σ.1 = .ok (.aconst_null, 1)) (h : sx_push σ 1 (.inr (.inr (.inr 0))) = some ss) (K : ∀ τ ∈ ss, sx_Ok p l e R s m args below meth c Q D cA A b nL ρ0 ad0 n0 m0 τ) : sx_Ok p l e R s m args below meth c Q D cA A b nL ρ0 ad0 n0 m0 σ :=
  sx_s_push h K (fun ρ ad H locs mc ms ls rest hl k => lv_null hx hb hdg k)
theorem sx_ldk_inv {ok : sx_V → Bool} {σ : sx_S} {n k : Nat} {ss : List sx_S} (h : sx_ldk ok σ n k = some ss) : ∃ v, sx_look k σ.2.1 = some v ∧ ok v = true ∧ sx_push σ n v = some ss := by
  unfold sx_ldk at h
  split at h
  next v hv =>
    split at h
    next ho => exact ⟨v, hv, ho, h⟩
    next => cases h
  next => cases h
theorem sx_s_iload_n (hx : p.tables.exec = Jvm.exec) (hb : c.code = cc) {σ : sx_S} {k : Fin 4} {ss : List sx_S} (hdg : decode cc σ.1 = .ok (.iload_n k, 1)) (h : sx_ldk sx_isInt σ 1 k.val = some ss) (K : ∀ τ ∈ ss, sx_Ok p l e R s m args below meth c Q D cA A b nL ρ0 ad0 n0 m0 τ) : sx_Ok p l e R s m args below meth c Q D cA A b nL ρ0 ad0 n0 m0 σ := by
  obtain ⟨v, hv, ho, h⟩ := sx_ldk_inv h
  exact sx_s_push h K (fun ρ ad H locs mc ms ls rest hl k => by
    have h1 := sx_cL_at hl hv
    rw [sx_cv_int ho] at h1 k
    exact lv_iload_n hx hb hdg rfl h1 k)
theorem sx_s_iload (hx : p.tables.exec = Jvm.exec) (hb : c.code = cc) {σ : sx_S} {k : Nat} {ss : List sx_S} (hdg : decode cc σ.1 = .ok (.iload k, 2)) (h : sx_ldk sx_isInt σ 2 k = some ss) (K : ∀ τ ∈ ss, sx_Ok p l e R s m args below meth c Q D cA A b nL ρ0 ad0 n0 m0 τ) : sx_Ok p l e R s m args below meth c Q D cA A b nL ρ0 ad0 n0 m0 σ := by
  obtain ⟨v, hv, ho, h⟩ := sx_ldk_inv h
  exact sx_s_push h K (fun ρ ad H locs mc ms ls rest hl k => by
    have h1 := sx_cL_at hl hv
    rw [sx_cv_int ho] at h1 k
    exact lv_iload hx hb hdg h1 k)
theorem sx_s_aload_n (hx : p.tables.exec = Jvm.exec) (hb : c.code = cc) {σ : sx_S} {k : Fin 4} {ss : List sx_S} (hdg : decode cc σ.1 = .ok (.aload_n k, 1)) (h : sx_ldk sx_isAdr σ 1 k.val = some ss) (K : ∀ τ ∈ ss, sx_Ok p l e R s m args below meth c Q D cA A b nL ρ0 ad0 n0 m0 τ) : sx_Ok p l e R s m args below meth c Q D cA A b nL ρ0 ad0 n0 m0 σ := by
  obtain ⟨v, hv, ho, h⟩ := sx_ldk_inv h
  exact sx_s_push h K (fun ρ ad H locs mc ms ls rest hl k => by
    have h1 := sx_cL_at hl hv
    obtain ⟨a, ha⟩ := sx_cv_adr (ρ := ρ) (ad := ad) (b := b) ho
    rw [ha] at h1 k
    exact lv_aload_n hx hb hdg rfl h1 k)
/-- a store into a place of the locals -/
theorem sx_s_st {ok : sx_V → Bool} {σ : sx_S} {n k : Nat} {ss : List sx_S} (h : sx_stk ok σ n k = some ss) (K : ∀ τ ∈ ss, sx_Ok p l e R s m args below meth c Q D cA A b nL ρ0 ad0 n0 m0 τ)
    (hw : ∀ (ρ : Nat → Int32) (ad : Nat → Nat) (H : Heap) (locs : List Loc) (mc ms : Nat) (ls : Array Slot) (v : sx_V) (L : List (Nat × sx_V)) (rest : List Value), ok v = true → lv_has ls nL (sx_cL ρ ad b L) → (∀ ls' : Array Slot, lv_has ls' nL (sx_cL ρ ad b (sx_put k v L)) → W p l e R s m args below meth c H locs mc ms Q (F0 m (σ.1 + n) ls' rest)) → W p l e R s m args below meth c H locs mc ms Q (F0 m σ.1 ls (sx_cv ρ ad b v :: rest))) : sx_Ok p l e R s m args below meth c Q D cA A b nL ρ0 ad0 n0 m0 σ := by
  obtain ⟨pc, L, st, w, iv, mc, ms⟩ := σ
  unfold sx_stk at h
  split at h
  next pc' L' v st' w' iv' mc' ms' heq =>
    cases heq
    split at h
    next ho =>
      rw [sx_lay_eq] at h
      cases h
      intro ρ ad H locs ls h1 h2 h3 h4 h5 hP hD hS hl
      exact hw ρ ad H locs mc ms ls v L _ ho hl (fun ls' hl' => K _ List.mem_cons_self ρ ad H locs ls' h1 h2 h3 h4 h5 hP hD hS hl')
    next => cases h
  next => cases h
theorem sx_s_istore_n (hx : p.tables.exec = Jvm.exec) (hb : c.code = cc) {σ : sx_S} {k : Fin 4} {ss : List sx_S} (hk : k.val < nL) (hdg : decode cc σ.1 = .ok (.istore_n k, 1)) (h : sx_stk sx_isInt σ 1 k.val = some ss) (K : ∀ τ ∈ ss, sx_Ok p l e R s m args below meth c Q D cA A b nL ρ0 ad0 n0 m0 τ) : sx_Ok p l e R s m args below meth c Q D cA A b nL ρ0 ad0 n0 m0 σ :=
  sx_s_st h K (fun ρ ad H locs mc ms ls v L rest ho hl kk => by
    have e := sx_cL_put (ρ := ρ) (ad := ad) (b := b) (k := k.val) (v := v) (L := L)
    rw [sx_cv_int ho] at e ⊢
    exact lv_istore_n hx hb hdg rfl hl hk e kk)
theorem sx_s_istore (hx : p.tables.exec = Jvm.exec) (hb : c.code = cc) {σ : sx_S} {k : Nat} {ss : List sx_S} (hk : k < nL) (hdg : decode cc σ.1 = .ok (.istore k, 2)) (h : sx_stk sx_isInt σ 2 k = some ss) (K : ∀ τ ∈ ss, sx_Ok p l e R s m args below meth c Q D cA A b nL ρ0 ad0 n0 m0 τ) : sx_Ok p l e R s m args below meth c Q D cA A b nL ρ0 ad0 n0 m0 σ :=
  sx_s_st h K (fun ρ ad H locs mc ms ls v L rest ho hl kk => by
    have e := sx_cL_put (ρ := ρ) (ad := ad) (b := b) (k := k) (v := v) (L := L)
    rw [sx_cv_int ho] at e ⊢
    exact lv_istore hx hb hdg hl hk e kk)
theorem sx_s_astore_n (hx : p.tables.exec = Jvm.exec) (hb : c.code = cc) {σ : sx_S} {k : Fin 4} {ss : List sx_S} (hk : k.val < nL) (hdg : decode cc σ.1 = .ok (.astore_n k, 1)) (h : sx_stk sx_isRef σ 1 k.val = some ss) (K : ∀ τ ∈ ss, sx_Ok p l e R s m args below meth c Q D cA A b nL ρ0 ad0 n0 m0 τ) : sx_Ok p l e R s m args below meth c Q D cA A b nL ρ0 ad0 n0 m0 σ :=
  sx_s_st h K (fun ρ ad H locs mc ms ls v L rest ho hl kk => by
    have e := sx_cL_put (ρ := ρ) (ad := ad) (b := b) (k := k.val) (v := v) (L := L)
    obtain ⟨q, rfl, ha⟩ := sx_cv_ref (ρ := ρ) (ad := ad) (b := b) ho
    rw [ha] at e ⊢
    exact lv_astore_n hx hb hdg rfl hl hk e kk)
theorem sx_s_dup (hx : p.tables.exec = Jvm.exec) (hb : c.code = cc) {σ : sx_S} {ss : List sx_S} (hdg : decode cc σ.1 = .ok (.dup, 1)) (h : sx_dup σ = some ss) (K : ∀ τ ∈ ss, sx_Ok p l e R s m args below meth c Q D cA A b nL ρ0 ad0 n0 m0 τ) : sx_Ok p l e R s m args below meth c Q D cA A b nL ρ0 ad0 n0 m0 σ := by
  obtain ⟨pc, L, st, w, iv, mc, ms⟩ := σ
  unfold sx_dup at h
  split at h
  next pc' L' v st' w' iv' mc' ms' heq =>
    cases heq
    split at h
    next ho =>
      cases h
      exact sx_pure (K _ List.mem_cons_self) (fun ρ ad H locs ls h1 hl k => lv_dup hx hb hdg (sx_cat1 ho) k)
    next => cases h
  next => cases h
theorem sx_s_dup2 (hx : p.tables.exec = Jvm.exec) (hb : c.code = cc) {σ : sx_S} {ss : List sx_S} (hdg : decode cc σ.1 = .ok (.dup2, 1)) (h : sx_dup2 σ = some ss) (K : ∀ τ ∈ ss, sx_Ok p l e R s m args below meth c Q D cA A b nL ρ0 ad0 n0 m0 τ) : sx_Ok p l e R s m args below meth c Q D cA A b nL ρ0 ad0 n0 m0 σ := by
  obtain ⟨pc, L, st, w, iv, mc, ms⟩ := σ
  unfold sx_dup2 at h
  split at h
  next pc' L' y x st' w' iv' mc' ms' heq =>
    cases heq
    split at h
    next ho =>
      cases h
      rw [Bool.or_eq_false_iff] at ho
      exact sx_pure (K _ List.mem_cons_self) (fun ρ ad H locs ls h1 hl k => lv_dup2_11 hx hb hdg (sx_cat1 ho.2) (sx_cat1 ho.1) k)
    next => cases h
  next => cases h
theorem sx_s_goto (hx : p.tables.exec = Jvm.exec) (hb : c.code = cc) {σ : sx_S} {off : Int} {t : Nat} {ss : List sx_S} (hdg : decode cc σ.1 = .ok (.goto off, 3)) (ht : (σ.1 : Int) + off = (t : Int)) (h : some [sx_at σ t] = some ss) (K : ∀ τ ∈ ss, sx_Ok p l e R s m args below meth c Q D cA A b nL ρ0 ad0 n0 m0 τ) : sx_Ok p l e R s m args below meth c Q D cA A b nL ρ0 ad0 n0 m0 σ := by
  obtain ⟨pc, L, st, w, iv, mc, ms⟩ := σ
  cases h
  exact sx_pure (K _ List.mem_cons_self) (fun ρ ad H locs ls h1 hl k => lv_goto hx hb hdg ht k)
theorem sx_s_nonnull (hx : p.tables.exec = Jvm.exec) (hb : c.code = cc) {σ : sx_S} {off : Int} {t : Nat} {ss : List sx_S} (hdg : decode cc σ.1 = .ok (.ifnonnull off, 3)) (ht : (σ.1 : Int) + off = (t : Int)) (h : sx_nonnull σ t = some ss) (K : ∀ τ ∈ ss, sx_Ok p l e R s m args below meth c Q D cA A b nL ρ0 ad0 n0 m0 τ) : sx_Ok p l e R s m args below meth c Q D cA A b nL ρ0 ad0 n0 m0 σ := by
  obtain ⟨pc, L, st, w, iv, mc, ms⟩ := σ
  unfold sx_nonnull at h
  split at h
  next pc' L' q st' w' iv' mc' ms' heq =>
    cases heq
    cases h
    exact sx_pure (K _ List.mem_cons_self) (fun ρ ad H locs ls h1 hl k => lv_ifnonnull hx hb hdg ht k)
  next pc' L' st' w' iv' mc' ms' heq =>
    cases heq
    cases h
    exact sx_pure (K _ List.mem_cons_self) (fun ρ ad H locs ls h1 hl k => lv_ifnonnullN hx hb hdg k)
  next => cases h
theorem sx_s_inc (hx : p.tables.exec = Jvm.exec) (hb : c.code = cc) {σ : sx_S} {k n : Nat} {i : Int} {ss : List sx_S} (hk : k < nL) (hi : Int32.ofInt i = Int32.ofNat n) (hdg : decode cc σ.1 = .ok (.iinc k i, 3)) (h : sx_inc σ k n = some ss) (K : ∀ τ ∈ ss, sx_Ok p l e R s m args below meth c Q D cA A b nL ρ0 ad0 n0 m0 τ) : sx_Ok p l e R s m args below meth c Q D cA A b nL ρ0 ad0 n0 m0 σ := by
  obtain ⟨pc, L, st, w, iv, mc, ms⟩ := σ
  simp only [sx_inc] at h
  split at h
  next x hxk =>
    split at h
    next a ha =>
      rw [sx_lay_eq] at h
      cases h
      intro ρ ad H locs ls h1 h2 h3 h4 h5 hP hD hS hl
      have hv := sx_nm_eq (ad := ad) (b := b) h1 x
      rw [ha] at hv
      have hm : (k, sx_cv ρ ad b x) ∈ sx_cL ρ ad b L := List.mem_map.mpr ⟨(k, x), sx_look_mem hxk, rfl⟩
      rw [← hv] at hm
      obtain ⟨j, hj⟩ := List.getElem?_of_mem hm
      refine lv_iinc (k := j) (x := Int32.ofNat a) (v := Int32.ofNat ((a + n) % 4294967296)) hx hb hdg hl hj (by rw [hi, sx_add]) hk (sx_cL_put (ρ := ρ) (ad := ad) (b := b) (k := k) (v := (.inl ((a + n) % 4294967296))) (L := L)) (fun ls' hl' => ?_)
      exact K _ List.mem_cons_self ρ ad H locs ls' h1 h2 h3 h4 h5 hP hD hS hl'
    next => cases h
  next => cases h
end sxPure
