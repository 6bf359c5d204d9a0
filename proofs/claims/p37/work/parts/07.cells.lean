/-! new cells, arrays, the JDK's small methods, the script -/
def zx_dfl : zx_V → Bool
  | .inl x => decide (x = 0)
  | .inr (.inl x) => decide (x = 0)
  | .inr (.inr (.inr 0)) => true
  | _ => false
def zx_cv0 (v : zx_V) : Value := zx_cv (fun _ => 0) 0 v
theorem zx_dfl_cv {ad : Nat → Nat} {b : Nat} : ∀ {v : zx_V}, zx_dfl v = true → zx_cv ad b v = zx_cv0 v
  | .inl _, _ => rfl
  | .inr (.inl _), _ => rfl
  | .inr (.inr (.inl _)), h => by cases h
  | .inr (.inr (.inr 0)), _ => rfl
  | .inr (.inr (.inr (n + 1))), h => by cases h
theorem zx_dfl_map {ad : Nat → Nat} {b : Nat} {fs : List zx_V} (h : fs.all zx_dfl = true) : fs.map (zx_cv ad b) = fs.map zx_cv0 :=
  List.map_congr_left (fun v hv => zx_dfl_cv (List.all_eq_true.mp h v hv))
theorem zx_sum8 {ad : Nat → Nat} {b : Nat} {st : List zx_V} (z : st.length ≤ 4) : ((st.map (zx_cv ad b)).map fun v => v.category).sum ≤ 8 := by
  have hsum : ∀ l : List Value, (l.map fun v => v.category).sum ≤ 2 * l.length := by
    intro l
    induction l with
    | nil => exact Nat.le_refl _
    | cons v l ih =>
      rw [List.map_cons, List.sum_cons, List.length_cons]
      rcases lv_cat v with e | e <;> rw [e] <;> omega
  have h8 := hsum (st.map (zx_cv ad b))
  rw [List.length_map] at h8
  omega
section zxCells
variable {p : Program} {l : Launch} {e : Env} {R : Room} {s : State} {m : MethodId} {args : Array Value} {below : List Frame} {meth : Method} {c : Code} {Q : State → Prop} {D : va_G} {cA : Nat → ClassId} {A : Nat → Prop} {b nL : Nat} {ad0 : Nat → Nat} {m0 : Nat} {cc : ByteArray}
theorem zx_s_new (hx : p.tables.exec = Jvm.exec) (hb : c.code = cc) {own C : String} {T : u_T} {N ci index : Nat} {Ts : List Cond} (hts : ∀ w ∈ Ts, w.before args s = true) (hin : ∀ w ∈ u_ws C T N, w ∈ Ts) (ty : Nat → FieldType) (hty : ∀ k, k < N → parseFieldDescriptor (T k).2.2.1 = some (ty k)) (hown : s.vm.findClass own = some m.cls) (hcl : (Cond.classLink own index C).before args s = true) (hinst : (Cond.instantiable C N).before args s = true) (hini : (Cond.initialized C).before args s = true) (hK : va_K D zx_clL (zx_tys cA) s) (hA : ∀ q, s.heap.size ≤ q → A q) (hc : zx_clL[ci]? = some (C, T, N))
    {fs : List zx_V} (hfl : fs.length = N) (hdf : fs.all zx_dfl = true) (hfs : ∀ j, j < N → defaultValue (ty j) = vp_V (fs.map zx_cv0) j) {cap : Nat × Nat} (hR : cap.1 ≤ R.cells ∧ cap.2 ≤ R.slots) {σ τ : zx_S} (hdg : decode cc σ.1 = .ok (.new index, 3)) (h : zx_new ci fs cap σ = some τ) (K : zx_Ok p l e R s m args below meth c Q D cA A b nL ad0 m0 τ) : zx_Ok p l e R s m args below meth c Q D cA A b nL ad0 m0 σ := by
  obtain ⟨pc, L, st, w, mc, ms⟩ := σ
  simp only [zx_new] at h
  split at h
  next hz =>
    cases h
    simp only [Bool.and_eq_true] at hz
    have z1 : mc + 1 ≤ cap.1 := Nat.le_of_ble_eq_true hz.1
    have z2 : ms + fs.length ≤ cap.2 := Nat.le_of_ble_eq_true hz.2.1
    intro ad H locs ls h3 h5 hP hD hS hl
    refine va_new (ci := ci) (fs := fs.map zx_cv0) hx hb hts hin ty hty hown hcl hinst hini hK hP hD hS hA hc hfs (by show mc + 1 ≤ R.cells; omega) (by show ms + N ≤ R.slots; omega) hdg (fun q H1 hP1 hD1 hS1 => ?_)
    rw [← hfl]
    exact zx_newcell hz.2.2 K q (fun ad' => by show Sum.inr (ci, fs.map (zx_cv ad' b)) = _; rw [zx_dfl_map hdf]) h3 h5 hP1 hD1 hS1 hl
  next => cases h
theorem zx_newa_inv {len kd : Nat} {cap : Nat × Nat} {σ τ : zx_S} (h : zx_newa len kd cap σ = some τ) : ∃ pc L x st w mc ms, σ = (pc, L, (.inl x) :: st, w, mc, ms) ∧ (¬ x < 0) ∧ x.toNatClampNeg ≤ 16777216 ∧ mc + 1 ≤ cap.1 ∧ ms + x.toNatClampNeg ≤ cap.2 ∧ zx_limS w.length L st w = true ∧ τ = (pc + len, L, (.inr (.inr (.inl w.length))) :: st, w ++ [(.inr (kd, x.toNatClampNeg, (zx_a0 kd x.toNatClampNeg)))], mc + 1, ms + x.toNatClampNeg) := by
  unfold zx_newa at h
  split at h
  next pc L x st w mc ms =>
    split at h
    next hz =>
      cases h
      simp only [Bool.and_eq_true] at hz
      exact ⟨pc, L, x, st, w, mc, ms, rfl, of_decide_eq_true hz.1, Nat.le_of_ble_eq_true hz.2.1, Nat.le_of_ble_eq_true hz.2.2.1, Nat.le_of_ble_eq_true hz.2.2.2.1, hz.2.2.2.2, rfl⟩
    next => cases h
  next => cases h
theorem zx_tys_at {kd : Nat} {ty : FieldType} (h : (zx_tys cA)[kd]? = some (cA kd, ty)) (hK : va_K D zx_clL (zx_tys cA) s) {cA' : ClassId} (hK' : va_K D zx_clL (zx_tys cA ++ [(cA', ty)]) s) (hf : ∀ c1 c2 : ClassId, va_RA s c1 ty → va_RA s c2 ty → c1 = c2) : cA' = cA kd :=
  hf _ _ (hK'.2 (zx_tys cA).length (cA', ty) (by rw [List.getElem?_append_right (Nat.le_refl _), Nat.sub_self]; rfl)).2 (hK.2 kd _ h).2
theorem zx_s_newa (hx : p.tables.exec = Jvm.exec) (hb : c.code = cc) {atype : ArrayType} {ty : FieldType} {kd : Nat} (hty : newarray.typeOf atype = ty) (harr : (Cond.arrayClass (newarray.typeOf atype)).before args s = true) (hbt : componentBytes ty ≤ 8) (hkd : (zx_tys cA)[kd]? = some (cA kd, ty)) (hf : ∀ c1 c2 : ClassId, va_RA s c1 ty → va_RA s c2 ty → c1 = c2) {a0 : Nat → vp_A} (ha0 : ∀ (n : Nat) (c1 : ClassId), vp_cell c1 (a0 n) = arrV c1 n (fun _ => defaultValue ty)) (hcE : ∀ (ad : Nat → Nat) (n : Nat), zx_cE ad b cA (.inr (kd, n, (zx_a0 kd n))) = .inl (cA kd, a0 n))
    (hK : va_K D zx_clL (zx_tys cA) s) (hA : ∀ q, s.heap.size ≤ q → A q) {cap : Nat × Nat} (hR : cap.1 ≤ R.cells ∧ cap.2 ≤ R.slots) {σ τ : zx_S} (hdg : decode cc σ.1 = .ok (.newarray atype, 2)) (h : zx_newa 2 kd cap σ = some τ) (K : zx_Ok p l e R s m args below meth c Q D cA A b nL ad0 m0 τ) : zx_Ok p l e R s m args below meth c Q D cA A b nL ad0 m0 σ := by
  obtain ⟨pc, L, x, st, w, mc, ms, rfl, hx0, z0, z1, z2, hlim, rfl⟩ := zx_newa_inv h
  intro ad H locs ls h3 h5 hP hD hS hl
  have hb8 : x.toNatClampNeg * componentBytes ty ≤ 16777216 * 8 := Nat.mul_le_mul z0 hbt
  refine va_newa (atype := atype) (a0 := a0 x.toNatClampNeg) hx hb harr hty hK hP hD hS hA (ha0 _) hx0 rfl (by omega) (by show mc + 1 ≤ R.cells; omega) (by show ms + _ ≤ R.slots; omega) hdg (fun q c1 H1 hK1 hP1 hD1 hS1 => ?_)
  have e := zx_tys_at hkd hK hK1 hf
  subst e
  exact zx_newcell hlim K q (fun ad' => hcE ad' _) h3 h5 hP1 hD1 hS1 hl
theorem zx_s_anewa (hx : p.tables.exec = Jvm.exec) (hb : c.code = cc) {own : String} {index : Nat} (hown : s.vm.findClass own = some m.cls) (hcl : (Cond.classLink own index "TwoInOne$State").before args s = true) (hover : va_AO "TwoInOne$State" s)
    (hK : va_K D zx_clL (zx_tys cA) s) (hA : ∀ q, s.heap.size ≤ q → A q) {cap : Nat × Nat} (hR : cap.1 ≤ R.cells ∧ cap.2 ≤ R.slots) {σ τ : zx_S} (hdg : decode cc σ.1 = .ok (.anewarray index, 3)) (h : zx_newa 3 4 cap σ = some τ) (K : zx_Ok p l e R s m args below meth c Q D cA A b nL ad0 m0 τ) : zx_Ok p l e R s m args below meth c Q D cA A b nL ad0 m0 σ := by
  obtain ⟨pc, L, x, st, w, mc, ms, rfl, hx0, z0, z1, z2, hlim, rfl⟩ := zx_newa_inv h
  intro ad H locs ls h3 h5 hP hD hS hl
  refine va_newq hx hb hown hcl hover hK hP hD hS hA hx0 rfl (by omega) (by show mc + 1 ≤ R.cells; omega) (by show ms + _ ≤ R.slots; omega) hdg (fun q c1 H1 hK1 hP1 hD1 hS1 => ?_)
  have e := zx_tys_at (kd := 4) rfl hK hK1 (fun c1 c2 g1 g2 => by
    obtain ⟨_, _, _, _, _, f1⟩ := g1
    obtain ⟨_, _, _, _, _, f2⟩ := g2
    exact Option.some.inj (f1.symm.trans f2))
  subst e
  refine zx_newcell hlim K q (fun ad' => ?_) h3 h5 hP1 hD1 hS1 hl
  have ef : (fun j : Nat => (((List.replicate x.toNatClampNeg (none : Option Nat))[j]?).getD none).map ad') = (fun _ => none) := by
    funext j
    rw [List.getElem?_replicate]
    split <;> rfl
  show Sum.inl (cA 4, x.toNatClampNeg, Sum.inr (Sum.inr (Sum.inr (Sum.inr (fun j : Nat => (((List.replicate x.toNatClampNeg (none : Option Nat))[j]?).getD none).map ad'))))) = _
  rw [ef]
theorem zx_s_obj (hx : p.tables.exec = Jvm.exec) (hb : c.code = cc) {own : String} {index : Nat} (hown : s.vm.findClass own = some m.cls) (hml : c.maxLocals = nL) (hlink : (Cond.methodLink own index Lib.objectInit).before args s = true) (hinst : (Cond.instanceMethod Lib.objectInit).before args s = true) (hcode : (Cond.code Lib.objectInit ⟨#[0xb1]⟩ 1 none).before args s = true) (hfr : 1 ≤ R.frames) (hlo : 24 ≤ R.locals) {σ τ : zx_S} (hdg : decode cc σ.1 = .ok (.invokespecial index, 3)) (h : zx_obj σ = some τ) (K : zx_Ok p l e R s m args below meth c Q D cA A b nL ad0 m0 τ) : zx_Ok p l e R s m args below meth c Q D cA A b nL ad0 m0 σ := by
  obtain ⟨pc, L, st, w, mc, ms⟩ := σ
  unfold zx_obj at h
  split at h
  next pc' L' q st' w' mc' ms' heq =>
    cases heq
    split at h
    next hz =>
      cases h
      have z : st'.length ≤ 4 := Nat.le_of_ble_eq_true hz
      refine zx_pure K (fun ad H locs ls hl k => ?_)
      refine W.objInit hx hb hown hlink hinst hcode rfl (hl.1.trans hml.symm) rfl hdg hfr ?_ k
      have h9 := lv_room (m := m) (pc := pc) (ls := ls) (rest := (zx_cv ad b (.inr (.inr (.inl q))) :: st'.map (zx_cv ad b))) (st := st'.map (zx_cv ad b)) (zx_sum8 z)
      have : 2 * (F0 m pc ls (zx_cv ad b (.inr (.inr (.inl q))) :: st'.map (zx_cv ad b))).monitorRoom + ((st'.map (zx_cv ad b)).map fun v => v.category).sum ≤ 8 := h9
      exact Nat.le_trans (Nat.add_le_add_right this 12) (by omega)
    next => cases h
  next => cases h
theorem zx_mm_inv {f : Int32 → Int32 → Int32} {cap : Nat × Nat} {σ τ : zx_S} (h : zx_mm f cap σ = some τ) : ∃ pc L y x st w mc ms, σ = (pc, L, (.inl y) :: (.inl x) :: st, w, mc, ms) ∧ st.length ≤ 4 ∧ mc ≤ cap.1 ∧ ms ≤ cap.2 ∧ τ = (pc + 3, L, (.inl (f x y)) :: st, w, mc, ms) := by
  unfold zx_mm at h
  split at h
  next pc L y x st w mc ms =>
    split at h
    next hz =>
      cases h
      simp only [Bool.and_eq_true] at hz
      exact ⟨pc, L, y, x, st, w, mc, ms, rfl, Nat.le_of_ble_eq_true hz.1, Nat.le_of_ble_eq_true hz.2.1, Nat.le_of_ble_eq_true hz.2.2, rfl⟩
    next => cases h
  next => cases h
theorem zx_s_mx (hx : p.tables.exec = Jvm.exec) (hb : c.code = cc) (hml : c.maxLocals = nL) {own : String} {index : Nat} (hown : s.vm.findClass own = some m.cls) (hlink : (Cond.methodLink own index Lib.Math.max.name).before args s = true) (hstat : (Cond.static Lib.Math.max.name).before args s = true) (hini : (Cond.initialized "java/lang/Math").before args s = true) (hcode : (Cond.code Lib.Math.max.name Lib.Math.max.code 2 (some .int)).before args s = true) {cap : Nat × Nat} (hR : cap.1 ≤ R.cells ∧ cap.2 ≤ R.slots) (hfr : 1 ≤ R.frames) (hlo : 24 ≤ R.locals) {σ τ : zx_S} (hdg : decode cc σ.1 = .ok (.invokestatic index, 3)) (h : zx_mm (fun x y => if x < y then y else x) cap σ = some τ) (K : zx_Ok p l e R s m args below meth c Q D cA A b nL ad0 m0 τ) : zx_Ok p l e R s m args below meth c Q D cA A b nL ad0 m0 σ := by
  obtain ⟨pc, L, y, x, st, w, mc, ms, rfl, z1, z2, z3, rfl⟩ := zx_mm_inv h
  refine zx_pure K (fun ad H locs ls hl k => ?_)
  have h8 := zx_sum8 (ad := ad) (b := b) z1
  exact va_mmax hx hb (hml.trans hl.1.symm) hown hlink hstat hini hcode hfr (by omega) (by omega) (by omega) hdg k
theorem zx_s_mn (hx : p.tables.exec = Jvm.exec) (hb : c.code = cc) (hml : c.maxLocals = nL) {own : String} {index : Nat} (hown : s.vm.findClass own = some m.cls) (hlink : (Cond.methodLink own index Lib.Math.min.name).before args s = true) (hstat : (Cond.static Lib.Math.min.name).before args s = true) (hini : (Cond.initialized "java/lang/Math").before args s = true) (hcode : (Cond.code Lib.Math.min.name Lib.Math.min.code 2 (some .int)).before args s = true) {cap : Nat × Nat} (hR : cap.1 ≤ R.cells ∧ cap.2 ≤ R.slots) (hfr : 1 ≤ R.frames) (hlo : 24 ≤ R.locals) {σ τ : zx_S} (hdg : decode cc σ.1 = .ok (.invokestatic index, 3)) (h : zx_mm (fun x y => if y < x then y else x) cap σ = some τ) (K : zx_Ok p l e R s m args below meth c Q D cA A b nL ad0 m0 τ) : zx_Ok p l e R s m args below meth c Q D cA A b nL ad0 m0 σ := by
  obtain ⟨pc, L, y, x, st, w, mc, ms, rfl, z1, z2, z3, rfl⟩ := zx_mm_inv h
  refine zx_pure K (fun ad H locs ls hl k => ?_)
  have h8 := zx_sum8 (ad := ad) (b := b) z1
  exact va_mmin hx hb (hml.trans hl.1.symm) hown hlink hstat hini hcode hfr (by omega) (by omega) (by omega) hdg k
/-- arrays: what a store leaves -/
theorem zx_ast_ok {pc mc ms q : Nat} {L : List (Nat × zx_V)} {st : List zx_V} {w : List zx_E} {x : zx_E} (K : zx_Ok p l e R s m args below meth c Q D cA A b nL ad0 m0 (pc, L, st, w.set q x, mc, ms)) {ad : Nat → Nat} {H1 : Heap} {locs1 : List Loc} {ls : Array Slot} {xe : va_E} (hxe : zx_cE ad b cA x = xe) (h3 : ∀ k, k < m0 → ad k = ad0 k) (h5 : m0 ≤ w.length) (hP1 : va_P D zx_clL ((zx_cW ad b cA w).set q (ad q, xe)) H1) (hD1 : va_D A ((zx_cW ad b cA w).set q (ad q, xe))) (hS1 : va_S A s.heap H1 locs1) (hl : lv_has ls nL (zx_cL ad b L)) : W p l e R s m args below meth c H1 locs1 mc ms Q (F0 m pc ls (st.map (zx_cv ad b))) := by
  rw [← hxe, ← zx_cW_set] at hP1 hD1
  exact K ad H1 locs1 ls h3 (by show m0 ≤ (w.set q _).length; rw [List.length_set]; exact h5) hP1 hD1 hS1 hl
theorem zx_ast_inv {kd : Nat} {nar : Int32 → Int32} {σ τ : zx_S} (h : zx_ast kd nar σ = some τ) : ∃ pc L x i q st w mc ms n f, σ = (pc, L, (.inl x) :: (.inl i) :: (.inr (.inr (.inl q))) :: st, w, mc, ms) ∧ w[q]? = some (.inr (kd, n, .inl f)) ∧ zx_in i n = true ∧ τ = (pc + 1, L, st, w.set q (.inr (kd, n, .inl (upd f i.toNatClampNeg (nar x)))), mc, ms) := by
  unfold zx_ast at h
  split at h
  next pc L x i q st w mc ms =>
    split at h
    next kd' n f hq =>
      split at h
      next hz =>
        cases h
        rw [Bool.and_eq_true] at hz
        have e := Nat.eq_of_beq_eq_true hz.1
        subst e
        exact ⟨pc, L, x, i, q, st, w, mc, ms, n, f, rfl, hq, hz.2, rfl⟩
      next => cases h
    next => cases h
  next => cases h
theorem zx_s_iast (hx : p.tables.exec = Jvm.exec) (hb : c.code = cc) (hK : va_K D zx_clL (zx_tys cA) s) {σ τ : zx_S} (hdg : decode cc σ.1 = .ok (.iastore, 1)) (h : zx_ast 0 (fun x => x) σ = some τ) (K : zx_Ok p l e R s m args below meth c Q D cA A b nL ad0 m0 τ) : zx_Ok p l e R s m args below meth c Q D cA A b nL ad0 m0 σ := by
  obtain ⟨pc, L, x, i, q, st, w, mc, ms, n, f, rfl, hq, hi, rfl⟩ := zx_ast_inv h
  intro ad H locs ls h3 h5 hP hD hS hl
  have he : (zx_cW ad b cA w)[q]? = some (ad q, .inl (cA 0, n, .inl f)) := by rw [zx_cW_at, hq]; rfl
  exact va_iast hx hb hK hP hD hS q 0 he rfl (zx_in_ok hi) hdg (fun H1 locs1 hP1 hD1 hS1 => zx_ast_ok K rfl h3 h5 hP1 hD1 hS1 hl)
theorem zx_s_zast (hx : p.tables.exec = Jvm.exec) (hb : c.code = cc) (hK : va_K D zx_clL (zx_tys cA) s) {σ τ : zx_S} (hdg : decode cc σ.1 = .ok (.bastore, 1)) (h : zx_ast 2 (vp_nar .boolean) σ = some τ) (K : zx_Ok p l e R s m args below meth c Q D cA A b nL ad0 m0 τ) : zx_Ok p l e R s m args below meth c Q D cA A b nL ad0 m0 σ := by
  obtain ⟨pc, L, x, i, q, st, w, mc, ms, n, f, rfl, hq, hi, rfl⟩ := zx_ast_inv h
  intro ad H locs ls h3 h5 hP hD hS hl
  have he : (zx_cW ad b cA w)[q]? = some (ad q, .inl (cA 2, n, .inl f)) := by rw [zx_cW_at, hq]; rfl
  exact va_zast hx hb hK hP hD hS q 2 he rfl (zx_in_ok hi) hdg (fun H1 locs1 hP1 hD1 hS1 => zx_ast_ok K rfl h3 h5 hP1 hD1 hS1 hl)
theorem zx_s_bast (hx : p.tables.exec = Jvm.exec) (hb : c.code = cc) (hK : va_K D zx_clL (zx_tys cA) s) {σ τ : zx_S} (hdg : decode cc σ.1 = .ok (.bastore, 1)) (h : zx_ast 3 (vp_nar .byte) σ = some τ) (K : zx_Ok p l e R s m args below meth c Q D cA A b nL ad0 m0 τ) : zx_Ok p l e R s m args below meth c Q D cA A b nL ad0 m0 σ := by
  obtain ⟨pc, L, x, i, q, st, w, mc, ms, n, f, rfl, hq, hi, rfl⟩ := zx_ast_inv h
  intro ad H locs ls h3 h5 hP hD hS hl
  have he : (zx_cW ad b cA w)[q]? = some (ad q, .inl (cA 3, n, .inl f)) := by rw [zx_cW_at, hq]; rfl
  exact va_bast hx hb hK hP hD hS q 3 he rfl (zx_in_ok hi) hdg (fun H1 locs1 hP1 hD1 hS1 => zx_ast_ok K rfl h3 h5 hP1 hD1 hS1 hl)
theorem zx_s_last (hx : p.tables.exec = Jvm.exec) (hb : c.code = cc) (hK : va_K D zx_clL (zx_tys cA) s) {σ τ : zx_S} (hdg : decode cc σ.1 = .ok (.lastore, 1)) (h : zx_last σ = some τ) (K : zx_Ok p l e R s m args below meth c Q D cA A b nL ad0 m0 τ) : zx_Ok p l e R s m args below meth c Q D cA A b nL ad0 m0 σ := by
  obtain ⟨pc, L, st, w, mc, ms⟩ := σ
  unfold zx_last at h
  split at h
  next pc' L' x i q st' w' mc' ms' heq =>
    cases heq
    split at h
    next kd' n f hq =>
      split at h
      next hz =>
        cases h
        rw [Bool.and_eq_true] at hz
        have ek := Nat.eq_of_beq_eq_true hz.1
        subst ek
        intro ad H locs ls h3 h5 hP hD hS hl
        have he : (zx_cW ad b cA w)[q]? = some (ad q, .inl (cA 1, n, .inr (.inl f))) := by rw [zx_cW_at, hq]; rfl
        exact va_last hx hb hK hP hD hS q 1 he rfl (zx_in_ok hz.2) hdg (fun H1 locs1 hP1 hD1 hS1 => zx_ast_ok K rfl h3 h5 hP1 hD1 hS1 hl)
      next => cases h
    next => cases h
  next => cases h
theorem zx_s_lald (hx : p.tables.exec = Jvm.exec) (hb : c.code = cc) (hK : va_K D zx_clL (zx_tys cA) s) {σ τ : zx_S} (hdg : decode cc σ.1 = .ok (.laload, 1)) (h : zx_lald σ = some τ) (K : zx_Ok p l e R s m args below meth c Q D cA A b nL ad0 m0 τ) : zx_Ok p l e R s m args below meth c Q D cA A b nL ad0 m0 σ := by
  obtain ⟨pc, L, st, w, mc, ms⟩ := σ
  unfold zx_lald at h
  split at h
  next pc' L' i q st' w' mc' ms' heq =>
    cases heq
    split at h
    next kd' n f hq =>
      split at h
      next hz =>
        cases h
        rw [Bool.and_eq_true] at hz
        have ek := Nat.eq_of_beq_eq_true hz.1
        subst ek
        intro ad H locs ls h3 h5 hP hD hS hl
        have he : (zx_cW ad b cA w)[q]? = some (ad q, .inl (cA 1, n, .inr (.inl f))) := by rw [zx_cW_at, hq]; rfl
        exact va_lald hx hb hK hP q 1 he rfl (zx_in_ok hz.2) hdg (K ad H locs ls h3 h5 hP hD hS hl)
      next => cases h
    next => cases h
  next => cases h
/-- what the machine knows of the script -/
def zx_Scr (X : zx_X) (s : State) (A : Nat → Prop) (b : Nat) : Prop := ∀ n f, X = some (n, f) → va_X b n f s s.heap ∧ b < s.heap.size ∧ ¬ A b
theorem zx_s_ald (hx : p.tables.exec = Jvm.exec) (hb : c.code = cc) (hK : va_K D zx_clL (zx_tys cA) s) {X : zx_X} (hX : zx_Scr X s A b) {kd : Nat} {I : Instr} (hrow : ∀ (ad : Nat → Nat) (H : Heap) (locs : List Loc) (mc ms pc q n : Nat) (ls : Array Slot) (rest : List Value) (w : List zx_E) (f : Nat → Int32) (i : Int32), va_P D zx_clL (zx_cW ad b cA w) H → w[q]? = some (.inr (kd, n, .inl f)) → vp_in i n → decode cc pc = .ok (I, 1) → W p l e R s m args below meth c H locs mc ms Q (F0 m (pc + 1) ls (.int (f i.toNatClampNeg) :: rest)) → W p l e R s m args below meth c H locs mc ms Q (F0 m pc ls (.int i :: .ref (ad q) :: rest))) (hI : kd = 0 → I = .iaload)
    {σ τ : zx_S} (hdg : decode cc σ.1 = .ok (I, 1)) (h : zx_ald kd X σ = some τ) (K : zx_Ok p l e R s m args below meth c Q D cA A b nL ad0 m0 τ) : zx_Ok p l e R s m args below meth c Q D cA A b nL ad0 m0 σ := by
  obtain ⟨pc, L, st, w, mc, ms⟩ := σ
  unfold zx_ald at h
  split at h
  next pc' L' i q st' w' mc' ms' heq =>
    cases heq
    split at h
    next kd' n f hq =>
      split at h
      next hz =>
        cases h
        rw [Bool.and_eq_true] at hz
        have ek := Nat.eq_of_beq_eq_true hz.1
        subst ek
        intro ad H locs ls h3 h5 hP hD hS hl
        exact hrow ad H locs mc ms pc q n ls _ w f i hP hq (zx_in_ok hz.2) hdg (K ad H locs ls h3 h5 hP hD hS hl)
      next => cases h
    next => cases h
  next pc' L' i st' w' mc' ms' heq =>
    cases heq
    split at h
    next n f =>
      split at h
      next hz =>
        cases h
        rw [Bool.and_eq_true] at hz
        have ek := Nat.eq_of_beq_eq_true hz.1
        have eI := hI ek
        subst eI
        obtain ⟨hx1, hx2, hx3⟩ := hX n f rfl
        intro ad H locs ls h3 h5 hP hD hS hl
        exact va_sld hx hb hx1 hx2 hx3 hS (zx_in_ok hz.2) hdg (K ad H locs ls h3 h5 hP hD hS hl)
      next => cases h
    next => cases h
  next => cases h
theorem zx_s_iald (hx : p.tables.exec = Jvm.exec) (hb : c.code = cc) (hK : va_K D zx_clL (zx_tys cA) s) {X : zx_X} (hX : zx_Scr X s A b) {σ τ : zx_S} (hdg : decode cc σ.1 = .ok (.iaload, 1)) (h : zx_ald 0 X σ = some τ) (K : zx_Ok p l e R s m args below meth c Q D cA A b nL ad0 m0 τ) : zx_Ok p l e R s m args below meth c Q D cA A b nL ad0 m0 σ :=
  zx_s_ald hx hb hK hX (fun ad H locs mc ms pc q n ls rest w f i hP hq hi hd k => va_iald hx hb hK hP q 0 (by rw [zx_cW_at, hq]; rfl) rfl hi hd k) (fun _ => rfl) hdg h K
theorem zx_s_zald (hx : p.tables.exec = Jvm.exec) (hb : c.code = cc) (hK : va_K D zx_clL (zx_tys cA) s) {X : zx_X} (hX : zx_Scr X s A b) {σ τ : zx_S} (hdg : decode cc σ.1 = .ok (.baload, 1)) (h : zx_ald 2 X σ = some τ) (K : zx_Ok p l e R s m args below meth c Q D cA A b nL ad0 m0 τ) : zx_Ok p l e R s m args below meth c Q D cA A b nL ad0 m0 σ :=
  zx_s_ald hx hb hK hX (fun ad H locs mc ms pc q n ls rest w f i hP hq hi hd k => va_zald hx hb hK hP q 2 (by rw [zx_cW_at, hq]; rfl) rfl hi hd k) (fun h => by cases h) hdg h K
theorem zx_s_bald (hx : p.tables.exec = Jvm.exec) (hb : c.code = cc) (hK : va_K D zx_clL (zx_tys cA) s) {X : zx_X} (hX : zx_Scr X s A b) {σ τ : zx_S} (hdg : decode cc σ.1 = .ok (.baload, 1)) (h : zx_ald 3 X σ = some τ) (K : zx_Ok p l e R s m args below meth c Q D cA A b nL ad0 m0 τ) : zx_Ok p l e R s m args below meth c Q D cA A b nL ad0 m0 σ :=
  zx_s_ald hx hb hK hX (fun ad H locs mc ms pc q n ls rest w f i hP hq hi hd k => va_bald hx hb hK hP q 3 (by rw [zx_cW_at, hq]; rfl) rfl hi hd k) (fun h => by cases h) hdg h K
end zxCells
