/-! one instruction: what changes no cell -/
section zxPure
variable {p : Program} {l : Launch} {e : Env} {R : Room} {s : State} {m : MethodId} {args : Array Value} {below : List Frame} {meth : Method} {c : Code} {Q : State → Prop} {D : va_G} {cA : Nat → ClassId} {A : Nat → Prop} {b nL : Nat} {ad0 : Nat → Nat} {m0 : Nat} {cc : ByteArray}
theorem zx_pure {pc pc' mc ms : Nat} {L : List (Nat × zx_V)} {st st' : List zx_V} {w : List zx_E} (K : zx_Ok p l e R s m args below meth c Q D cA A b nL ad0 m0 (pc', L, st', w, mc, ms))
    (h : ∀ (ad : Nat → Nat) (H : Heap) (locs : List Loc) (ls : Array Slot), lv_has ls nL (zx_cL ad b L) → W p l e R s m args below meth c H locs mc ms Q (F0 m pc' ls (st'.map (zx_cv ad b))) → W p l e R s m args below meth c H locs mc ms Q (F0 m pc ls (st.map (zx_cv ad b)))) : zx_Ok p l e R s m args below meth c Q D cA A b nL ad0 m0 (pc, L, st, w, mc, ms) :=
  fun ad H locs ls h3 h5 hP hD hS hl => h ad H locs ls hl (K ad H locs ls h3 h5 hP hD hS hl)
theorem zx_s_push {σ τ : zx_S} {n : Nat} {v : zx_V} (h : zx_push n v σ = some τ) (K : zx_Ok p l e R s m args below meth c Q D cA A b nL ad0 m0 τ)
    (hw : ∀ (ad : Nat → Nat) (H : Heap) (locs : List Loc) (mc ms : Nat) (ls : Array Slot) (rest : List Value), lv_has ls nL (zx_cL ad b σ.2.1) → W p l e R s m args below meth c H locs mc ms Q (F0 m (σ.1 + n) ls (zx_cv ad b v :: rest)) → W p l e R s m args below meth c H locs mc ms Q (F0 m σ.1 ls rest)) : zx_Ok p l e R s m args below meth c Q D cA A b nL ad0 m0 σ := by
  obtain ⟨pc, L, st, w, mc, ms⟩ := σ
  cases h
  exact zx_pure K (fun ad H locs ls hl k => hw ad H locs mc ms ls _ hl k)
theorem zx_s_iconst (hx : p.tables.exec = Jvm.exec) (hb : c.code = cc) {n : Int} {x : Int32} (hk : Int32.ofInt n = x) {σ τ : zx_S} (hdg : decode cc σ.1 = .ok (.iconst n, 1)) (h : zx_push 1 (.inl x) σ = some τ) (K : zx_Ok p l e R s m args below meth c Q D cA A b nL ad0 m0 τ) : zx_Ok p l e R s m args below meth c Q D cA A b nL ad0 m0 σ :=
  zx_s_push h K (fun ad H locs mc ms ls rest hl k => lv_iconst hx hb hdg hk k)
theorem zx_s_bipush (hx : p.tables.exec = Jvm.exec) (hb : c.code = cc) {n : Int} {x : Int32} (hk : (Int8.ofInt n).toInt32 = x) {σ τ : zx_S} (hdg : decode cc σ.1 = .ok (.bipush n, 2)) (h : zx_push 2 (.inl x) σ = some τ) (K : zx_Ok p l e R s m args below meth c Q D cA A b nL ad0 m0 τ) : zx_Ok p l e R s m args below meth c Q D cA A b nL ad0 m0 σ :=
  zx_s_push h K (fun ad H locs mc ms ls rest hl k => lv_bipush hx hb hdg hk k)
theorem zx_s_sipush (hx : p.tables.exec = Jvm.exec) (hb : c.code = cc) {n : Int} {x : Int32} (hk : (Int16.ofInt n).toInt32 = x) {σ τ : zx_S} (hdg : decode cc σ.1 = .ok (.sipush n, 3)) (h : zx_push 3 (.inl x) σ = some τ) (K : zx_Ok p l e R s m args below meth c Q D cA A b nL ad0 m0 τ) : zx_Ok p l e R s m args below meth c Q D cA A b nL ad0 m0 σ :=
  zx_s_push h K (fun ad H locs mc ms ls rest hl k => lv_sipush hx hb hdg hk k)
theorem zx_s_lconst (hx : p.tables.exec = Jvm.exec) (hb : c.code = cc) {n : Fin 2} {x : Int64} (hk : Int64.ofNat (n : Nat) = x) {σ τ : zx_S} (hdg : decode cc σ.1 = .ok (.lconst n, 1)) (h : zx_push 1 (.inr (.inl x)) σ = some τ) (K : zx_Ok p l e R s m args below meth c Q D cA A b nL ad0 m0 τ) : zx_Ok p l e R s m args below meth c Q D cA A b nL ad0 m0 σ :=
  zx_s_push h K (fun ad H locs mc ms ls rest hl k => lv_lconst hx hb hdg hk k)
theorem zx_s_ldc (hx : p.tables.exec = Jvm.exec) (hb : c.code = cc) {own : String} (hown : s.vm.findClass own = some m.cls) {i : Nat} {x : Int32} (hk : (Jvm.Cond.constant own i x).before args s = true) {σ τ : zx_S} (hdg : decode cc σ.1 = .ok (.ldc i, 2)) (h : zx_push 2 (.inl x) σ = some τ) (K : zx_Ok p l e R s m args below meth c Q D cA A b nL ad0 m0 τ) : zx_Ok p l e R s m args below meth c Q D cA A b nL ad0 m0 σ :=
  zx_s_push h K (fun ad H locs mc ms ls rest hl k => lv_ldc hx hb hown hk hdg k)
theorem zx_s_ldcw (hx : p.tables.exec = Jvm.exec) (hb : c.code = cc) {own : String} (hown : s.vm.findClass own = some m.cls) {i : Nat} {x : Int32} (hk : (Jvm.Cond.constant own i x).before args s = true) {σ τ : zx_S} (hdg : decode cc σ.1 = .ok (.ldc_w i, 3)) (h : zx_push 3 (.inl x) σ = some τ) (K : zx_Ok p l e R s m args below meth c Q D cA A b nL ad0 m0 τ) : zx_Ok p l e R s m args below meth c Q D cA A b nL ad0 m0 σ :=
  zx_s_push h K (fun ad H locs mc ms ls rest hl k => lv_ldcw hx hb hown hk hdg k)
theorem zx_s_ldc2 (hx : p.tables.exec = Jvm.exec) (hb : c.code = cc) {own : String} (hown : s.vm.findClass own = some m.cls) {i : Nat} {x : Int64} (hk : (Jvm.Cond.constantLong own i x).before args s = true) {σ τ : zx_S} (hdg : decode cc σ.1 = .ok (.ldc2_w i, 3)) (h : zx_push 3 (.inr (.inl x)) σ = some τ) (K : zx_Ok p l e R s m args below meth c Q D cA A b nL ad0 m0 τ) : zx_Ok p l e R s m args below meth c Q D cA A b nL ad0 m0 σ :=
  zx_s_push h K (fun ad H locs mc ms ls rest hl k => lv_ldc2 hx hb hown hk hdg k)
theorem zx_s_null (hx : p.tables.exec = Jvm.exec) (hb : c.code = cc) {σ τ : zx_S} (hdg : decode cc σ.1 = .ok (.aconst_null, 1)) (h : zx_push 1 (.inr (.inr (.inr 0))) σ = some τ) (K : zx_Ok p l e R s m args below meth c Q D cA A b nL ad0 m0 τ) : zx_Ok p l e R s m args below meth c Q D cA A b nL ad0 m0 σ :=
  zx_s_push h K (fun ad H locs mc ms ls rest hl k => lv_null hx hb hdg k)
theorem zx_s_iload_n (hx : p.tables.exec = Jvm.exec) (hb : c.code = cc) {σ τ : zx_S} {k : Fin 4} (hdg : decode cc σ.1 = .ok (.iload_n k, 1)) (h : zx_ldI 1 k.val σ = some τ) (K : zx_Ok p l e R s m args below meth c Q D cA A b nL ad0 m0 τ) : zx_Ok p l e R s m args below meth c Q D cA A b nL ad0 m0 σ := by
  unfold zx_ldI at h
  split at h
  next x hv =>
    exact zx_s_push h K (fun ad H locs mc ms ls rest hl kk => lv_iload_n hx hb hdg rfl (zx_cL_at hl hv) kk)
  next => cases h
theorem zx_s_iload (hx : p.tables.exec = Jvm.exec) (hb : c.code = cc) {σ τ : zx_S} {k : Nat} (hdg : decode cc σ.1 = .ok (.iload k, 2)) (h : zx_ldI 2 k σ = some τ) (K : zx_Ok p l e R s m args below meth c Q D cA A b nL ad0 m0 τ) : zx_Ok p l e R s m args below meth c Q D cA A b nL ad0 m0 σ := by
  unfold zx_ldI at h
  split at h
  next x hv =>
    exact zx_s_push h K (fun ad H locs mc ms ls rest hl kk => lv_iload hx hb hdg (zx_cL_at hl hv) kk)
  next => cases h
theorem zx_s_lload_n (hx : p.tables.exec = Jvm.exec) (hb : c.code = cc) {σ τ : zx_S} {k : Fin 4} (hdg : decode cc σ.1 = .ok (.lload_n k, 1)) (h : zx_ldJ 1 k.val σ = some τ) (K : zx_Ok p l e R s m args below meth c Q D cA A b nL ad0 m0 τ) : zx_Ok p l e R s m args below meth c Q D cA A b nL ad0 m0 σ := by
  unfold zx_ldJ at h
  split at h
  next x hv =>
    exact zx_s_push h K (fun ad H locs mc ms ls rest hl kk => lv_lload_n hx hb hdg rfl (zx_cL_at hl hv) kk)
  next => cases h
theorem zx_s_lload (hx : p.tables.exec = Jvm.exec) (hb : c.code = cc) {σ τ : zx_S} {k : Nat} (hdg : decode cc σ.1 = .ok (.lload k, 2)) (h : zx_ldJ 2 k σ = some τ) (K : zx_Ok p l e R s m args below meth c Q D cA A b nL ad0 m0 τ) : zx_Ok p l e R s m args below meth c Q D cA A b nL ad0 m0 σ := by
  unfold zx_ldJ at h
  split at h
  next x hv =>
    exact zx_s_push h K (fun ad H locs mc ms ls rest hl kk => lv_lload hx hb hdg (zx_cL_at hl hv) kk)
  next => cases h
theorem zx_s_aload_n (hx : p.tables.exec = Jvm.exec) (hb : c.code = cc) {σ τ : zx_S} {k : Fin 4} (hdg : decode cc σ.1 = .ok (.aload_n k, 1)) (h : zx_ldA 1 k.val σ = some τ) (K : zx_Ok p l e R s m args below meth c Q D cA A b nL ad0 m0 τ) : zx_Ok p l e R s m args below meth c Q D cA A b nL ad0 m0 σ := by
  unfold zx_ldA at h
  split at h
  next x hv =>
    exact zx_s_push h K (fun ad H locs mc ms ls rest hl kk => lv_aload_n hx hb hdg rfl (zx_cL_at hl hv) kk)
  next hv =>
    exact zx_s_push h K (fun ad H locs mc ms ls rest hl kk => lv_aload_n hx hb hdg rfl (zx_cL_at hl hv) kk)
  next hv =>
    exact zx_s_push h K (fun ad H locs mc ms ls rest hl kk => lv_aload_nN hx hb hdg rfl (zx_cL_at hl hv) kk)
  next => cases h
theorem zx_s_aload (hx : p.tables.exec = Jvm.exec) (hb : c.code = cc) {σ τ : zx_S} {k : Nat} (hdg : decode cc σ.1 = .ok (.aload k, 2)) (h : zx_ldA 2 k σ = some τ) (K : zx_Ok p l e R s m args below meth c Q D cA A b nL ad0 m0 τ) : zx_Ok p l e R s m args below meth c Q D cA A b nL ad0 m0 σ := by
  unfold zx_ldA at h
  split at h
  next x hv =>
    exact zx_s_push h K (fun ad H locs mc ms ls rest hl kk => lv_aload hx hb hdg (zx_cL_at hl hv) kk)
  next hv =>
    exact zx_s_push h K (fun ad H locs mc ms ls rest hl kk => lv_aload hx hb hdg (zx_cL_at hl hv) kk)
  next hv =>
    exact zx_s_push h K (fun ad H locs mc ms ls rest hl kk => lv_aloadN hx hb hdg (zx_cL_at hl hv) kk)
  next => cases h
theorem zx_s_istore_n (hx : p.tables.exec = Jvm.exec) (hb : c.code = cc) {σ τ : zx_S} {k : Fin 4} (hk : k.val < nL) (hdg : decode cc σ.1 = .ok (.istore_n k, 1)) (h : zx_stI 1 k.val σ = some τ) (K : zx_Ok p l e R s m args below meth c Q D cA A b nL ad0 m0 τ) : zx_Ok p l e R s m args below meth c Q D cA A b nL ad0 m0 σ := by
  obtain ⟨pc, L, st, w, mc, ms⟩ := σ
  unfold zx_stI at h
  split at h
  next pc' L' x st' w' mc' ms' heq =>
    cases heq
    cases h
    intro ad H locs ls h3 h5 hP hD hS hl
    exact lv_istore_n hx hb hdg rfl hl hk (zx_cL_put (ad := ad) (b := b) (k := k.val) (v := (.inl x)) (L := L)) (fun ls' hl' => K ad H locs ls' h3 h5 hP hD hS hl')
  next => cases h
theorem zx_s_istore (hx : p.tables.exec = Jvm.exec) (hb : c.code = cc) {σ τ : zx_S} {k : Nat} (hk : k < nL) (hdg : decode cc σ.1 = .ok (.istore k, 2)) (h : zx_stI 2 k σ = some τ) (K : zx_Ok p l e R s m args below meth c Q D cA A b nL ad0 m0 τ) : zx_Ok p l e R s m args below meth c Q D cA A b nL ad0 m0 σ := by
  obtain ⟨pc, L, st, w, mc, ms⟩ := σ
  unfold zx_stI at h
  split at h
  next pc' L' x st' w' mc' ms' heq =>
    cases heq
    cases h
    intro ad H locs ls h3 h5 hP hD hS hl
    exact lv_istore hx hb hdg hl hk (zx_cL_put (ad := ad) (b := b) (k := k) (v := (.inl x)) (L := L)) (fun ls' hl' => K ad H locs ls' h3 h5 hP hD hS hl')
  next => cases h
theorem zx_s_astore_n (hx : p.tables.exec = Jvm.exec) (hb : c.code = cc) {σ τ : zx_S} {k : Fin 4} (hk : k.val < nL) (hdg : decode cc σ.1 = .ok (.astore_n k, 1)) (h : zx_stA 1 k.val σ = some τ) (K : zx_Ok p l e R s m args below meth c Q D cA A b nL ad0 m0 τ) : zx_Ok p l e R s m args below meth c Q D cA A b nL ad0 m0 σ := by
  obtain ⟨pc, L, st, w, mc, ms⟩ := σ
  unfold zx_stA at h
  split at h
  next pc' L' x st' w' mc' ms' heq =>
    cases heq
    cases h
    intro ad H locs ls h3 h5 hP hD hS hl
    exact lv_astore_n hx hb hdg rfl hl hk (zx_cL_put (ad := ad) (b := b) (k := k.val) (v := (.inr (.inr (.inl x)))) (L := L)) (fun ls' hl' => K ad H locs ls' h3 h5 hP hD hS hl')
  next pc' L' st' w' mc' ms' heq =>
    cases heq
    cases h
    intro ad H locs ls h3 h5 hP hD hS hl
    exact lv_astore_nN hx hb hdg rfl hl hk (zx_cL_put (ad := ad) (b := b) (k := k.val) (v := (.inr (.inr (.inr 0)))) (L := L)) (fun ls' hl' => K ad H locs ls' h3 h5 hP hD hS hl')
  next => cases h
theorem zx_s_lstore_n (hx : p.tables.exec = Jvm.exec) (hb : c.code = cc) {σ τ : zx_S} {k : Fin 4} (hk : k.val + 1 < nL) (hdg : decode cc σ.1 = .ok (.lstore_n k, 1)) (h : zx_stJ 1 k.val σ = some τ) (K : zx_Ok p l e R s m args below meth c Q D cA A b nL ad0 m0 τ) : zx_Ok p l e R s m args below meth c Q D cA A b nL ad0 m0 σ := by
  obtain ⟨pc, L, st, w, mc, ms⟩ := σ
  unfold zx_stJ at h
  split at h
  next pc' L' x st' w' mc' ms' heq =>
    cases heq
    cases h
    intro ad H locs ls h3 h5 hP hD hS hl
    exact lv_lstore_n hx hb hdg rfl hl hk (zx_cL_putL (ad := ad) (b := b) (k := k.val) (v := (.inr (.inl x))) (L := L)) (fun ls' hl' => K ad H locs ls' h3 h5 hP hD hS hl')
  next => cases h
theorem zx_s_lstore (hx : p.tables.exec = Jvm.exec) (hb : c.code = cc) {σ τ : zx_S} {k : Nat} (hk : k + 1 < nL) (hdg : decode cc σ.1 = .ok (.lstore k, 2)) (h : zx_stJ 2 k σ = some τ) (K : zx_Ok p l e R s m args below meth c Q D cA A b nL ad0 m0 τ) : zx_Ok p l e R s m args below meth c Q D cA A b nL ad0 m0 σ := by
  obtain ⟨pc, L, st, w, mc, ms⟩ := σ
  unfold zx_stJ at h
  split at h
  next pc' L' x st' w' mc' ms' heq =>
    cases heq
    cases h
    intro ad H locs ls h3 h5 hP hD hS hl
    exact lv_lstore hx hb hdg hl hk (zx_cL_putL (ad := ad) (b := b) (k := k) (v := (.inr (.inl x))) (L := L)) (fun ls' hl' => K ad H locs ls' h3 h5 hP hD hS hl')
  next => cases h
theorem zx_s_iadd (hx : p.tables.exec = Jvm.exec) (hb : c.code = cc) {σ τ : zx_S} (hdg : decode cc σ.1 = .ok (.iadd, 1)) (h : zx_bi (fun x y => x + y) σ = some τ) (K : zx_Ok p l e R s m args below meth c Q D cA A b nL ad0 m0 τ) : zx_Ok p l e R s m args below meth c Q D cA A b nL ad0 m0 σ := by
  obtain ⟨pc, L, st, w, mc, ms⟩ := σ
  unfold zx_bi at h
  split at h
  next pc' L' y x st' w' mc' ms' heq =>
    cases heq
    cases h
    exact zx_pure K (fun ad H locs ls hl k => lv_iadd hx hb hdg k)
  next => cases h
theorem zx_s_isub (hx : p.tables.exec = Jvm.exec) (hb : c.code = cc) {σ τ : zx_S} (hdg : decode cc σ.1 = .ok (.isub, 1)) (h : zx_bi (fun x y => x - y) σ = some τ) (K : zx_Ok p l e R s m args below meth c Q D cA A b nL ad0 m0 τ) : zx_Ok p l e R s m args below meth c Q D cA A b nL ad0 m0 σ := by
  obtain ⟨pc, L, st, w, mc, ms⟩ := σ
  unfold zx_bi at h
  split at h
  next pc' L' y x st' w' mc' ms' heq =>
    cases heq
    cases h
    exact zx_pure K (fun ad H locs ls hl k => lv_isub hx hb hdg k)
  next => cases h
theorem zx_s_imul (hx : p.tables.exec = Jvm.exec) (hb : c.code = cc) {σ τ : zx_S} (hdg : decode cc σ.1 = .ok (.imul, 1)) (h : zx_bi (fun x y => x * y) σ = some τ) (K : zx_Ok p l e R s m args below meth c Q D cA A b nL ad0 m0 τ) : zx_Ok p l e R s m args below meth c Q D cA A b nL ad0 m0 σ := by
  obtain ⟨pc, L, st, w, mc, ms⟩ := σ
  unfold zx_bi at h
  split at h
  next pc' L' y x st' w' mc' ms' heq =>
    cases heq
    cases h
    exact zx_pure K (fun ad H locs ls hl k => lv_imul hx hb hdg k)
  next => cases h
theorem zx_s_iand (hx : p.tables.exec = Jvm.exec) (hb : c.code = cc) {σ τ : zx_S} (hdg : decode cc σ.1 = .ok (.iand, 1)) (h : zx_bi (fun x y => x &&& y) σ = some τ) (K : zx_Ok p l e R s m args below meth c Q D cA A b nL ad0 m0 τ) : zx_Ok p l e R s m args below meth c Q D cA A b nL ad0 m0 σ := by
  obtain ⟨pc, L, st, w, mc, ms⟩ := σ
  unfold zx_bi at h
  split at h
  next pc' L' y x st' w' mc' ms' heq =>
    cases heq
    cases h
    exact zx_pure K (fun ad H locs ls hl k => lv_iand hx hb hdg k)
  next => cases h
theorem zx_s_ior (hx : p.tables.exec = Jvm.exec) (hb : c.code = cc) {σ τ : zx_S} (hdg : decode cc σ.1 = .ok (.ior, 1)) (h : zx_bi (fun x y => x ||| y) σ = some τ) (K : zx_Ok p l e R s m args below meth c Q D cA A b nL ad0 m0 τ) : zx_Ok p l e R s m args below meth c Q D cA A b nL ad0 m0 σ := by
  obtain ⟨pc, L, st, w, mc, ms⟩ := σ
  unfold zx_bi at h
  split at h
  next pc' L' y x st' w' mc' ms' heq =>
    cases heq
    cases h
    exact zx_pure K (fun ad H locs ls hl k => lv_ior hx hb hdg k)
  next => cases h
theorem zx_s_ixor (hx : p.tables.exec = Jvm.exec) (hb : c.code = cc) {σ τ : zx_S} (hdg : decode cc σ.1 = .ok (.ixor, 1)) (h : zx_bi (fun x y => x ^^^ y) σ = some τ) (K : zx_Ok p l e R s m args below meth c Q D cA A b nL ad0 m0 τ) : zx_Ok p l e R s m args below meth c Q D cA A b nL ad0 m0 σ := by
  obtain ⟨pc, L, st, w, mc, ms⟩ := σ
  unfold zx_bi at h
  split at h
  next pc' L' y x st' w' mc' ms' heq =>
    cases heq
    cases h
    exact zx_pure K (fun ad H locs ls hl k => lv_ixor hx hb hdg k)
  next => cases h
theorem zx_s_ishl (hx : p.tables.exec = Jvm.exec) (hb : c.code = cc) {σ τ : zx_S} (hdg : decode cc σ.1 = .ok (.ishl, 1)) (h : zx_bi (fun x y => x <<< (y &&& 31)) σ = some τ) (K : zx_Ok p l e R s m args below meth c Q D cA A b nL ad0 m0 τ) : zx_Ok p l e R s m args below meth c Q D cA A b nL ad0 m0 σ := by
  obtain ⟨pc, L, st, w, mc, ms⟩ := σ
  unfold zx_bi at h
  split at h
  next pc' L' y x st' w' mc' ms' heq =>
    cases heq
    cases h
    exact zx_pure K (fun ad H locs ls hl k => lv_ishl hx hb hdg k)
  next => cases h
theorem zx_s_ishr (hx : p.tables.exec = Jvm.exec) (hb : c.code = cc) {σ τ : zx_S} (hdg : decode cc σ.1 = .ok (.ishr, 1)) (h : zx_bi (fun x y => x >>> (y &&& 31)) σ = some τ) (K : zx_Ok p l e R s m args below meth c Q D cA A b nL ad0 m0 τ) : zx_Ok p l e R s m args below meth c Q D cA A b nL ad0 m0 σ := by
  obtain ⟨pc, L, st, w, mc, ms⟩ := σ
  unfold zx_bi at h
  split at h
  next pc' L' y x st' w' mc' ms' heq =>
    cases heq
    cases h
    exact zx_pure K (fun ad H locs ls hl k => lv_ishr hx hb hdg k)
  next => cases h
theorem zx_s_iushr (hx : p.tables.exec = Jvm.exec) (hb : c.code = cc) {σ τ : zx_S} (hdg : decode cc σ.1 = .ok (.iushr, 1)) (h : zx_bi (fun x y => (x.toUInt32 >>> (y.toUInt32 &&& Int32.toUInt32 31)).toInt32) σ = some τ) (K : zx_Ok p l e R s m args below meth c Q D cA A b nL ad0 m0 τ) : zx_Ok p l e R s m args below meth c Q D cA A b nL ad0 m0 σ := by
  obtain ⟨pc, L, st, w, mc, ms⟩ := σ
  unfold zx_bi at h
  split at h
  next pc' L' y x st' w' mc' ms' heq =>
    cases heq
    cases h
    exact zx_pure K (fun ad H locs ls hl k => lv_iushr hx hb hdg rfl k)
  next => cases h
theorem zx_s_ladd (hx : p.tables.exec = Jvm.exec) (hb : c.code = cc) {σ τ : zx_S} (hdg : decode cc σ.1 = .ok (.ladd, 1)) (h : zx_bj (fun x y => x + y) σ = some τ) (K : zx_Ok p l e R s m args below meth c Q D cA A b nL ad0 m0 τ) : zx_Ok p l e R s m args below meth c Q D cA A b nL ad0 m0 σ := by
  obtain ⟨pc, L, st, w, mc, ms⟩ := σ
  unfold zx_bj at h
  split at h
  next pc' L' y x st' w' mc' ms' heq =>
    cases heq
    cases h
    exact zx_pure K (fun ad H locs ls hl k => lv_ladd hx hb hdg k)
  next => cases h
theorem zx_s_lsub (hx : p.tables.exec = Jvm.exec) (hb : c.code = cc) {σ τ : zx_S} (hdg : decode cc σ.1 = .ok (.lsub, 1)) (h : zx_bj (fun x y => x - y) σ = some τ) (K : zx_Ok p l e R s m args below meth c Q D cA A b nL ad0 m0 τ) : zx_Ok p l e R s m args below meth c Q D cA A b nL ad0 m0 σ := by
  obtain ⟨pc, L, st, w, mc, ms⟩ := σ
  unfold zx_bj at h
  split at h
  next pc' L' y x st' w' mc' ms' heq =>
    cases heq
    cases h
    exact zx_pure K (fun ad H locs ls hl k => lv_lsub hx hb hdg k)
  next => cases h
theorem zx_s_lmul (hx : p.tables.exec = Jvm.exec) (hb : c.code = cc) {σ τ : zx_S} (hdg : decode cc σ.1 = .ok (.lmul, 1)) (h : zx_bj (fun x y => x * y) σ = some τ) (K : zx_Ok p l e R s m args below meth c Q D cA A b nL ad0 m0 τ) : zx_Ok p l e R s m args below meth c Q D cA A b nL ad0 m0 σ := by
  obtain ⟨pc, L, st, w, mc, ms⟩ := σ
  unfold zx_bj at h
  split at h
  next pc' L' y x st' w' mc' ms' heq =>
    cases heq
    cases h
    exact zx_pure K (fun ad H locs ls hl k => lv_lmul hx hb hdg k)
  next => cases h
theorem zx_s_land (hx : p.tables.exec = Jvm.exec) (hb : c.code = cc) {σ τ : zx_S} (hdg : decode cc σ.1 = .ok (.land, 1)) (h : zx_bj (fun x y => x &&& y) σ = some τ) (K : zx_Ok p l e R s m args below meth c Q D cA A b nL ad0 m0 τ) : zx_Ok p l e R s m args below meth c Q D cA A b nL ad0 m0 σ := by
  obtain ⟨pc, L, st, w, mc, ms⟩ := σ
  unfold zx_bj at h
  split at h
  next pc' L' y x st' w' mc' ms' heq =>
    cases heq
    cases h
    exact zx_pure K (fun ad H locs ls hl k => lv_land hx hb hdg k)
  next => cases h
theorem zx_s_lor (hx : p.tables.exec = Jvm.exec) (hb : c.code = cc) {σ τ : zx_S} (hdg : decode cc σ.1 = .ok (.lor, 1)) (h : zx_bj (fun x y => x ||| y) σ = some τ) (K : zx_Ok p l e R s m args below meth c Q D cA A b nL ad0 m0 τ) : zx_Ok p l e R s m args below meth c Q D cA A b nL ad0 m0 σ := by
  obtain ⟨pc, L, st, w, mc, ms⟩ := σ
  unfold zx_bj at h
  split at h
  next pc' L' y x st' w' mc' ms' heq =>
    cases heq
    cases h
    exact zx_pure K (fun ad H locs ls hl k => lv_lor hx hb hdg k)
  next => cases h
theorem zx_s_idiv (hx : p.tables.exec = Jvm.exec) (hb : c.code = cc) {σ τ : zx_S} (hdg : decode cc σ.1 = .ok (.idiv, 1)) (h : zx_bd (fun x y => x / y) σ = some τ) (K : zx_Ok p l e R s m args below meth c Q D cA A b nL ad0 m0 τ) : zx_Ok p l e R s m args below meth c Q D cA A b nL ad0 m0 σ := by
  obtain ⟨pc, L, st, w, mc, ms⟩ := σ
  unfold zx_bd at h
  split at h
  next pc' L' y x st' w' mc' ms' heq =>
    cases heq
    split at h
    next => cases h
    next hy =>
    have hy := of_decide_eq_false hy
    cases h
    exact zx_pure K (fun ad H locs ls hl k => lv_idiv hx hb hdg hy k)
  next => cases h
theorem zx_s_irem (hx : p.tables.exec = Jvm.exec) (hb : c.code = cc) {σ τ : zx_S} (hdg : decode cc σ.1 = .ok (.irem, 1)) (h : zx_bd (fun x y => x - x / y * y) σ = some τ) (K : zx_Ok p l e R s m args below meth c Q D cA A b nL ad0 m0 τ) : zx_Ok p l e R s m args below meth c Q D cA A b nL ad0 m0 σ := by
  obtain ⟨pc, L, st, w, mc, ms⟩ := σ
  unfold zx_bd at h
  split at h
  next pc' L' y x st' w' mc' ms' heq =>
    cases heq
    split at h
    next => cases h
    next hy =>
    have hy := of_decide_eq_false hy
    cases h
    exact zx_pure K (fun ad H locs ls hl k => lv_irem hx hb hdg hy k)
  next => cases h
theorem zx_s_ldiv (hx : p.tables.exec = Jvm.exec) (hb : c.code = cc) {σ τ : zx_S} (hdg : decode cc σ.1 = .ok (.ldiv, 1)) (h : zx_dj σ = some τ) (K : zx_Ok p l e R s m args below meth c Q D cA A b nL ad0 m0 τ) : zx_Ok p l e R s m args below meth c Q D cA A b nL ad0 m0 σ := by
  obtain ⟨pc, L, st, w, mc, ms⟩ := σ
  unfold zx_dj at h
  split at h
  next pc' L' y x st' w' mc' ms' heq =>
    cases heq
    split at h
    next => cases h
    next hy =>
    have hy := of_decide_eq_false hy
    cases h
    exact zx_pure K (fun ad H locs ls hl k => lv_ldiv hx hb hdg hy k)
  next => cases h
theorem zx_s_lshl (hx : p.tables.exec = Jvm.exec) (hb : c.code = cc) {σ τ : zx_S} (hdg : decode cc σ.1 = .ok (.lshl, 1)) (h : zx_sj (fun x y => x <<< (y.toInt64 &&& 63)) σ = some τ) (K : zx_Ok p l e R s m args below meth c Q D cA A b nL ad0 m0 τ) : zx_Ok p l e R s m args below meth c Q D cA A b nL ad0 m0 σ := by
  obtain ⟨pc, L, st, w, mc, ms⟩ := σ
  unfold zx_sj at h
  split at h
  next pc' L' y x st' w' mc' ms' heq =>
    cases heq
    cases h
    exact zx_pure K (fun ad H locs ls hl k => lv_lshl hx hb hdg rfl k)
  next => cases h
theorem zx_s_lshr (hx : p.tables.exec = Jvm.exec) (hb : c.code = cc) {σ τ : zx_S} (hdg : decode cc σ.1 = .ok (.lshr, 1)) (h : zx_sj (fun x y => x >>> (y.toInt64 &&& 63)) σ = some τ) (K : zx_Ok p l e R s m args below meth c Q D cA A b nL ad0 m0 τ) : zx_Ok p l e R s m args below meth c Q D cA A b nL ad0 m0 σ := by
  obtain ⟨pc, L, st, w, mc, ms⟩ := σ
  unfold zx_sj at h
  split at h
  next pc' L' y x st' w' mc' ms' heq =>
    cases heq
    cases h
    exact zx_pure K (fun ad H locs ls hl k => lv_lshr hx hb hdg rfl k)
  next => cases h
theorem zx_s_lushr (hx : p.tables.exec = Jvm.exec) (hb : c.code = cc) {σ τ : zx_S} (hdg : decode cc σ.1 = .ok (.lushr, 1)) (h : zx_sj (fun x y => (x.toUInt64 >>> (y.toInt64.toUInt64 &&& Int64.toUInt64 63)).toInt64) σ = some τ) (K : zx_Ok p l e R s m args below meth c Q D cA A b nL ad0 m0 τ) : zx_Ok p l e R s m args below meth c Q D cA A b nL ad0 m0 σ := by
  obtain ⟨pc, L, st, w, mc, ms⟩ := σ
  unfold zx_sj at h
  split at h
  next pc' L' y x st' w' mc' ms' heq =>
    cases heq
    cases h
    exact zx_pure K (fun ad H locs ls hl k => lv_lushr hx hb hdg rfl k)
  next => cases h
theorem zx_s_i2b (hx : p.tables.exec = Jvm.exec) (hb : c.code = cc) {σ τ : zx_S} (hdg : decode cc σ.1 = .ok (.i2b, 1)) (h : zx_un (fun x => x.toInt8.toInt32) σ = some τ) (K : zx_Ok p l e R s m args below meth c Q D cA A b nL ad0 m0 τ) : zx_Ok p l e R s m args below meth c Q D cA A b nL ad0 m0 σ := by
  obtain ⟨pc, L, st, w, mc, ms⟩ := σ
  unfold zx_un at h
  split at h
  next pc' L' x st' w' mc' ms' heq =>
    cases heq
    cases h
    exact zx_pure K (fun ad H locs ls hl k => lv_i2b hx hb hdg rfl k)
  next => cases h
theorem zx_s_ineg (hx : p.tables.exec = Jvm.exec) (hb : c.code = cc) {σ τ : zx_S} (hdg : decode cc σ.1 = .ok (.ineg, 1)) (h : zx_un (fun x => -x) σ = some τ) (K : zx_Ok p l e R s m args below meth c Q D cA A b nL ad0 m0 τ) : zx_Ok p l e R s m args below meth c Q D cA A b nL ad0 m0 σ := by
  obtain ⟨pc, L, st, w, mc, ms⟩ := σ
  unfold zx_un at h
  split at h
  next pc' L' x st' w' mc' ms' heq =>
    cases heq
    cases h
    exact zx_pure K (fun ad H locs ls hl k => lv_ineg hx hb hdg k)
  next => cases h
theorem zx_s_i2c (hx : p.tables.exec = Jvm.exec) (hb : c.code = cc) {σ τ : zx_S} (hdg : decode cc σ.1 = .ok (.i2c, 1)) (h : zx_un (fun x => (x.toUInt32 % 65536).toInt32) σ = some τ) (K : zx_Ok p l e R s m args below meth c Q D cA A b nL ad0 m0 τ) : zx_Ok p l e R s m args below meth c Q D cA A b nL ad0 m0 σ := by
  obtain ⟨pc, L, st, w, mc, ms⟩ := σ
  unfold zx_un at h
  split at h
  next pc' L' x st' w' mc' ms' heq =>
    cases heq
    cases h
    exact zx_pure K (fun ad H locs ls hl k => lv_i2c hx hb hdg rfl k)
  next => cases h
theorem zx_s_i2l (hx : p.tables.exec = Jvm.exec) (hb : c.code = cc) {σ τ : zx_S} (hdg : decode cc σ.1 = .ok (.i2l, 1)) (h : zx_i2l σ = some τ) (K : zx_Ok p l e R s m args below meth c Q D cA A b nL ad0 m0 τ) : zx_Ok p l e R s m args below meth c Q D cA A b nL ad0 m0 σ := by
  obtain ⟨pc, L, st, w, mc, ms⟩ := σ
  unfold zx_i2l at h
  split at h
  next pc' L' x st' w' mc' ms' heq =>
    cases heq
    cases h
    exact zx_pure K (fun ad H locs ls hl k => lv_i2l hx hb hdg rfl k)
  next => cases h
theorem zx_s_l2i (hx : p.tables.exec = Jvm.exec) (hb : c.code = cc) {σ τ : zx_S} (hdg : decode cc σ.1 = .ok (.l2i, 1)) (h : zx_l2i σ = some τ) (K : zx_Ok p l e R s m args below meth c Q D cA A b nL ad0 m0 τ) : zx_Ok p l e R s m args below meth c Q D cA A b nL ad0 m0 σ := by
  obtain ⟨pc, L, st, w, mc, ms⟩ := σ
  unfold zx_l2i at h
  split at h
  next pc' L' x st' w' mc' ms' heq =>
    cases heq
    cases h
    exact zx_pure K (fun ad H locs ls hl k => lv_l2i hx hb hdg rfl k)
  next => cases h
theorem zx_s_lcmp (hx : p.tables.exec = Jvm.exec) (hb : c.code = cc) {σ τ : zx_S} (hdg : decode cc σ.1 = .ok (.lcmp, 1)) (h : zx_lcmp σ = some τ) (K : zx_Ok p l e R s m args below meth c Q D cA A b nL ad0 m0 τ) : zx_Ok p l e R s m args below meth c Q D cA A b nL ad0 m0 σ := by
  obtain ⟨pc, L, st, w, mc, ms⟩ := σ
  unfold zx_lcmp at h
  split at h
  next pc' L' y x st' w' mc' ms' heq =>
    cases heq
    cases h
    exact zx_pure K (fun ad H locs ls hl k => W.lcmp hx hb hdg k)
  next => cases h
theorem zx_s_dup (hx : p.tables.exec = Jvm.exec) (hb : c.code = cc) {σ τ : zx_S} (hdg : decode cc σ.1 = .ok (.dup, 1)) (h : zx_dup σ = some τ) (K : zx_Ok p l e R s m args below meth c Q D cA A b nL ad0 m0 τ) : zx_Ok p l e R s m args below meth c Q D cA A b nL ad0 m0 σ := by
  obtain ⟨pc, L, st, w, mc, ms⟩ := σ
  unfold zx_dup at h
  split at h
  next pc' L' v st' w' mc' ms' heq =>
    cases heq
    split at h
    next ho =>
      cases h
      exact zx_pure K (fun ad H locs ls hl k => lv_dup hx hb hdg (zx_cat1 ho) k)
    next => cases h
  next => cases h
theorem zx_s_pop (hx : p.tables.exec = Jvm.exec) (hb : c.code = cc) {σ τ : zx_S} (hdg : decode cc σ.1 = .ok (.pop, 1)) (h : zx_pop σ = some τ) (K : zx_Ok p l e R s m args below meth c Q D cA A b nL ad0 m0 τ) : zx_Ok p l e R s m args below meth c Q D cA A b nL ad0 m0 σ := by
  obtain ⟨pc, L, st, w, mc, ms⟩ := σ
  unfold zx_pop at h
  split at h
  next pc' L' v st' w' mc' ms' heq =>
    cases heq
    split at h
    next ho =>
      cases h
      exact zx_pure K (fun ad H locs ls hl k => lv_pop hx hb hdg (zx_cat1 ho) k)
    next => cases h
  next => cases h
theorem zx_s_dup2 (hx : p.tables.exec = Jvm.exec) (hb : c.code = cc) {σ τ : zx_S} (hdg : decode cc σ.1 = .ok (.dup2, 1)) (h : zx_dup2 σ = some τ) (K : zx_Ok p l e R s m args below meth c Q D cA A b nL ad0 m0 τ) : zx_Ok p l e R s m args below meth c Q D cA A b nL ad0 m0 σ := by
  obtain ⟨pc, L, st, w, mc, ms⟩ := σ
  unfold zx_dup2 at h
  split at h
  next pc' L' y x st' w' mc' ms' heq =>
    cases heq
    split at h
    next ho =>
      cases h
      rw [Bool.or_eq_false_iff] at ho
      exact zx_pure K (fun ad H locs ls hl k => lv_dup2_11 hx hb hdg (zx_cat1 ho.2) (zx_cat1 ho.1) k)
    next => cases h
  next => cases h
theorem zx_s_goto (hx : p.tables.exec = Jvm.exec) (hb : c.code = cc) {σ τ : zx_S} {off : Int} {t : Nat} (hdg : decode cc σ.1 = .ok (.goto off, 3)) (ht : (σ.1 : Int) + off = (t : Int)) (h : zx_gt t σ = some τ) (K : zx_Ok p l e R s m args below meth c Q D cA A b nL ad0 m0 τ) : zx_Ok p l e R s m args below meth c Q D cA A b nL ad0 m0 σ := by
  obtain ⟨pc, L, st, w, mc, ms⟩ := σ
  cases h
  exact zx_pure K (fun ad H locs ls hl k => lv_goto hx hb hdg ht k)
theorem zx_s_nonnull (hx : p.tables.exec = Jvm.exec) (hb : c.code = cc) {σ τ : zx_S} {off : Int} {t : Nat} (hdg : decode cc σ.1 = .ok (.ifnonnull off, 3)) (ht : (σ.1 : Int) + off = (t : Int)) (h : zx_nn t σ = some τ) (K : zx_Ok p l e R s m args below meth c Q D cA A b nL ad0 m0 τ) : zx_Ok p l e R s m args below meth c Q D cA A b nL ad0 m0 σ := by
  obtain ⟨pc, L, st, w, mc, ms⟩ := σ
  unfold zx_nn at h
  split at h
  next pc' L' q st' w' mc' ms' heq =>
    cases heq
    cases h
    exact zx_pure K (fun ad H locs ls hl k => lv_ifnonnull hx hb hdg ht k)
  next pc' L' st' w' mc' ms' heq =>
    cases heq
    cases h
    exact zx_pure K (fun ad H locs ls hl k => lv_ifnonnullN hx hb hdg k)
  next => cases h
theorem zx_s_inc (hx : p.tables.exec = Jvm.exec) (hb : c.code = cc) {σ τ : zx_S} {k : Nat} {i : Int} {n : Int32} (hk : k < nL) (hi : Int32.ofInt i = n) (hdg : decode cc σ.1 = .ok (.iinc k i, 3)) (h : zx_inc k n σ = some τ) (K : zx_Ok p l e R s m args below meth c Q D cA A b nL ad0 m0 τ) : zx_Ok p l e R s m args below meth c Q D cA A b nL ad0 m0 σ := by
  obtain ⟨pc, L, st, w, mc, ms⟩ := σ
  unfold zx_inc at h
  split at h
  next x pc' L' st' w' mc' ms' hv heq =>
    cases heq
    cases h
    intro ad H locs ls h3 h5 hP hD hS hl
    have hm : (k, Value.int x) ∈ zx_cL ad b L := List.mem_map.mpr ⟨(k, (.inl x)), zx_look_mem hv, rfl⟩
    obtain ⟨j, hj⟩ := List.getElem?_of_mem hm
    refine lv_iinc (k := j) (x := x) (v := x + n) hx hb hdg hl hj (by rw [hi]) hk (zx_cL_put (ad := ad) (b := b) (k := k) (v := (.inl (x + n))) (L := L)) (fun ls' hl' => ?_)
    exact K ad H locs ls' h3 h5 hP hD hS hl'
  next => cases h
end zxPure
