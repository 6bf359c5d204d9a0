/-! new cells -/
noncomputable def sx_dfl : sx_V → Bool
  | .inl n => Nat.beq n 0
  | .inr (.inr (.inr n)) => Nat.blt n 2
  | _ => false
noncomputable def sx_cv0 (v : sx_V) : Value := sx_cv (fun _ => 0) (fun _ => 0) 0 v
theorem sx_dfl_cv {ρ : Nat → Int32} {ad : Nat → Nat} {b : Nat} : ∀ {v : sx_V}, sx_dfl v = true → sx_cv ρ ad b v = sx_cv0 v
  | .inl _, _ => rfl
  | .inr (.inl _), h => by cases h
  | .inr (.inr (.inl _)), h => by cases h
  | .inr (.inr (.inr 0)), _ => rfl
  | .inr (.inr (.inr 1)), _ => rfl
  | .inr (.inr (.inr (n + 2))), h => by
    have h' : Nat.blt (n + 2) 2 = true := h
    exact absurd (Nat.le_of_ble_eq_true h') (by omega)
theorem sx_dfl_map {ρ : Nat → Int32} {ad : Nat → Nat} {b : Nat} {fs : List sx_V} (h : fs.all sx_dfl = true) : fs.map (sx_cv ρ ad b) = fs.map sx_cv0 :=
  List.map_congr_left (fun v hv => sx_dfl_cv (List.all_eq_true.mp h v hv))
theorem sx_grow_inv {L : List (Nat × sx_V)} {st : List sx_V} {w : List sx_E} {iv : sx_Iv} {x : sx_E} {f : List sx_E → sx_N} {ss : List sx_S} (h : sx_grow L st w iv x f = some ss) : sx_limS iv.length w.length L st w = true ∧ f (w ++ [x]) = some ss := by
  unfold sx_grow at h
  split at h
  next ho => rw [sx_appk_eq] at h; exact ⟨ho, h⟩
  next => cases h
section sxCells
variable {p : Program} {l : Launch} {e : Env} {R : Room} {s : State} {m : MethodId} {args : Array Value} {below : List Frame} {meth : Method} {c : Code} {Q : State → Prop} {D : va_G} {cA : Nat → ClassId} {A : Nat → Prop} {b nL : Nat} {ρ0 : Nat → Int32} {ad0 : Nat → Nat} {n0 m0 : Nat} {cc : ByteArray}
/-- a new cell: its address is q -/
theorem sx_newcell {pc mc ms : Nat} {L : List (Nat × sx_V)} {st : List sx_V} {w : List sx_E} {iv : sx_Iv} {x : sx_E} {xe : va_E} (hlim : sx_limS iv.length w.length L st w = true) (K : sx_Ok p l e R s m args below meth c Q D cA A b nL ρ0 ad0 n0 m0 (pc, L, (.inr (.inr (.inl w.length))) :: st, w ++ [x], iv, mc, ms))
    {ρ : Nat → Int32} {ad : Nat → Nat} {H : Heap} {locs : List Loc} {ls : Array Slot} (q : Nat) (hxe : ∀ ad' : Nat → Nat, sx_cE ρ ad' b cA x = xe) (h1 : sx_ivOk ρ iv) (h2 : ∀ k, k < n0 → ρ k = ρ0 k) (h3 : ∀ k, k < m0 → ad k = ad0 k) (h4 : n0 ≤ iv.length) (h5 : m0 ≤ w.length)
    (hP : va_P D sx_clL (sx_cW ρ ad b cA w ++ [(q, xe)]) H) (hD : va_D A (sx_cW ρ ad b cA w ++ [(q, xe)])) (hS : va_S A s.heap H locs) (hl : lv_has ls nL (sx_cL ρ ad b L)) : W p l e R s m args below meth c H locs mc ms Q (F0 m pc ls (.ref q :: st.map (sx_cv ρ ad b))) := by
  simp only [sx_limS, Bool.and_eq_true] at hlim
  obtain ⟨g1, g2, g3⟩ := hlim
  let ad' : Nat → Nat := fun j => if j = w.length then q else ad j
  have ha : ∀ k, k < w.length → ad k = ad' k := fun k hk => (if_neg (Nat.ne_of_lt hk)).symm
  have hρ : ∀ k, k < iv.length → ρ k = ρ k := fun _ _ => rfl
  have hq : ad' w.length = q := if_pos rfl
  rw [sx_cW_lim hρ ha (Nat.le_refl _) g3, ← hxe ad', ← hq, ← sx_cW_app] at hP hD
  rw [sx_cL_lim hρ ha g1] at hl
  rw [sx_cS_lim hρ ha g2]
  have k := K ρ ad' H locs ls h1 h2 (fun k hk => by rw [← ha k (by omega)]; exact h3 k hk) h4 (by show m0 ≤ (w ++ [x]).length; rw [List.length_append]; omega) hP hD hS hl
  have e : ((.inr (.inr (.inl w.length))) :: st).map (sx_cv ρ ad' b) = .ref q :: st.map (sx_cv ρ ad' b) := by
    show Value.ref (ad' w.length) :: _ = _
    rw [hq]
  rw [← e]
  exact k
theorem sx_s_new (hx : p.tables.exec = Jvm.exec) (hb : c.code = cc) {own C : String} {T : u_T} {N ci index : Nat} {Ts : List Cond} (hts : ∀ w ∈ Ts, w.before args s = true) (hin : ∀ w ∈ u_ws C T N, w ∈ Ts) (ty : Nat → FieldType) (hty : ∀ k, k < N → parseFieldDescriptor (T k).2.2.1 = some (ty k)) (hown : s.vm.findClass own = some m.cls) (hcl : (Cond.classLink own index C).before args s = true) (hinst : (Cond.instantiable C N).before args s = true) (hini : (Cond.initialized C).before args s = true) (hK : va_K D sx_clL (sx_tys cA) s) (hA : ∀ q, s.heap.size ≤ q → A q) (hc : sx_clL[ci]? = some (C, T, N))
    {fs : List sx_V} (hfl : fs.length = N) (hdf : fs.all sx_dfl = true) (hfs : ∀ j, j < N → defaultValue (ty j) = vp_V (fs.map sx_cv0) j) {cap : Nat × Nat} (hR : cap.1 ≤ R.cells ∧ cap.2 ≤ R.slots) {σ : sx_S} {ss : List sx_S} (hdg : decode cc σ.1 = .ok (.new index, 3)) (h : sx_new cap σ ci fs = some ss) (K : ∀ τ ∈ ss, sx_Ok p l e R s m args below meth c Q D cA A b nL ρ0 ad0 n0 m0 τ) : sx_Ok p l e R s m args below meth c Q D cA A b nL ρ0 ad0 n0 m0 σ := by
  obtain ⟨pc, L, st, w, iv, mc, ms⟩ := σ
  simp only [sx_new] at h
  split at h
  next hz =>
    obtain ⟨hlim, h⟩ := sx_grow_inv h
    cases h
    simp only [Bool.and_eq_true] at hz
    have z1 : mc + 1 ≤ cap.1 := Nat.le_of_ble_eq_true hz.1
    have z2 : ms + fs.length ≤ cap.2 := Nat.le_of_ble_eq_true hz.2
    intro ρ ad H locs ls h1 h2 h3 h4 h5 hP hD hS hl
    have k0 := K _ List.mem_cons_self
    refine va_new (ci := ci) (fs := fs.map sx_cv0) hx hb hts hin ty hty hown hcl hinst hini hK hP hD hS hA hc hfs (by show mc + 1 ≤ R.cells; omega) (by show ms + N ≤ R.slots; omega) hdg (fun q H1 hP1 hD1 hS1 => ?_)
    rw [← hfl]
    exact sx_newcell hlim k0 q (fun ad' => by show Sum.inr (ci, fs.map (sx_cv ρ ad' b)) = _; rw [sx_dfl_map hdf]) h1 h2 h3 h4 h5 hP1 hD1 hS1 hl
  next => cases h
theorem sx_newa_inv {cap : Nat × Nat} {σ : sx_S} {len kd : Nat} {ss : List sx_S} (h : sx_newa cap σ len kd = some ss) : ∃ pc L x st w iv mc ms n, σ = (pc, L, x :: st, w, iv, mc, ms) ∧ sx_nm iv x = (.inl n) ∧ n < 65536 ∧ mc + 1 ≤ cap.1 ∧ ms + n ≤ cap.2 ∧ sx_limS iv.length w.length L st w = true ∧ ss = [(pc + len, L, (.inr (.inr (.inl w.length))) :: st, w ++ [(.inr (kd, n, []))], iv, mc + 1, ms + n)] := by
  unfold sx_newa at h
  split at h
  next pc L x st w iv mc ms =>
    split at h
    next n hn =>
      split at h
      next hz =>
        obtain ⟨hlim, h⟩ := sx_grow_inv h
        cases h
        simp only [Bool.and_eq_true] at hz
        exact ⟨pc, L, x, st, w, iv, mc, ms, n, rfl, hn, Nat.le_of_ble_eq_true hz.1.1, Nat.le_of_ble_eq_true hz.1.2, Nat.le_of_ble_eq_true hz.2, hlim, rfl⟩
      next => cases h
    next => cases h
  next => cases h
theorem sx_tys_at {kd : Nat} {ty : FieldType} (h : (sx_tys cA)[kd]? = some (cA kd, ty)) (hK : va_K D sx_clL (sx_tys cA) s) {cA' : ClassId} (hK' : va_K D sx_clL (sx_tys cA ++ [(cA', ty)]) s) (hf : ∀ c1 c2 : ClassId, va_RA s c1 ty → va_RA s c2 ty → c1 = c2) : cA' = cA kd :=
  hf _ _ (hK'.2 (sx_tys cA).length (cA', ty) (by rw [List.getElem?_append_right (Nat.le_refl _), Nat.sub_self]; rfl)).2 (hK.2 kd _ h).2
theorem sx_s_newa (hx : p.tables.exec = Jvm.exec) (hb : c.code = cc) {atype : ArrayType} {ty : FieldType} {kd : Nat} (hty : newarray.typeOf atype = ty) (harr : (Cond.arrayClass (newarray.typeOf atype)).before args s = true) (hbt : componentBytes ty ≤ 8) (hkd : (sx_tys cA)[kd]? = some (cA kd, ty)) (hf : ∀ c1 c2 : ClassId, va_RA s c1 ty → va_RA s c2 ty → c1 = c2) {a0 : Nat → vp_A} (ha0 : ∀ (n : Nat) (c1 : ClassId), vp_cell c1 (a0 n) = arrV c1 n (fun _ => defaultValue ty)) (hcE : ∀ (ρ : Nat → Int32) (ad : Nat → Nat) (n : Nat), sx_cE ρ ad b cA (.inr (kd, n, [])) = .inl (cA kd, a0 n))
    (hK : va_K D sx_clL (sx_tys cA) s) (hA : ∀ q, s.heap.size ≤ q → A q) {cap : Nat × Nat} (hR : cap.1 ≤ R.cells ∧ cap.2 ≤ R.slots) {σ : sx_S} {ss : List sx_S} (hdg : decode cc σ.1 = .ok (.newarray atype, 2)) (h : sx_newa cap σ 2 kd = some ss) (K : ∀ τ ∈ ss, sx_Ok p l e R s m args below meth c Q D cA A b nL ρ0 ad0 n0 m0 τ) : sx_Ok p l e R s m args below meth c Q D cA A b nL ρ0 ad0 n0 m0 σ := by
  obtain ⟨pc, L, x, st, w, iv, mc, ms, n, rfl, hn, z0, z1, z2, hlim, rfl⟩ := sx_newa_inv h
  intro ρ ad H locs ls h1 h2 h3 h4 h5 hP hD hS hl
  show W p l e R s m args below meth c H locs mc ms Q (F0 m pc ls (sx_cv ρ ad b x :: st.map (sx_cv ρ ad b)))
  rw [sx_nm_c h1 ad b hn]
  have hb8 : n * componentBytes ty ≤ 65536 * 8 := Nat.mul_le_mul (by omega) hbt
  refine va_newa (atype := atype) (a0 := a0 n) hx hb harr hty hK hP hD hS hA (ha0 n) (nI_pos (n := n) (by omega)) (sx_clamp (by omega)) (by omega) (by omega) (by omega) hdg (fun q c1 H1 hK1 hP1 hD1 hS1 => ?_)
  have e := sx_tys_at hkd hK hK1 hf
  subst e
  exact sx_newcell hlim (K _ List.mem_cons_self) q (fun ad' => hcE ρ ad' n) h1 h2 h3 h4 h5 hP1 hD1 hS1 hl
theorem sx_s_anewa (hx : p.tables.exec = Jvm.exec) (hb : c.code = cc) {own : String} {index : Nat} (hown : s.vm.findClass own = some m.cls) (hcl : (Cond.classLink own index "TwoInOne$State").before args s = true) (hover : va_AO "TwoInOne$State" s)
    (hK : va_K D sx_clL (sx_tys cA) s) (hA : ∀ q, s.heap.size ≤ q → A q) {cap : Nat × Nat} (hR : cap.1 ≤ R.cells ∧ cap.2 ≤ R.slots) {σ : sx_S} {ss : List sx_S} (hdg : decode cc σ.1 = .ok (.anewarray index, 3)) (h : sx_newa cap σ 3 4 = some ss) (K : ∀ τ ∈ ss, sx_Ok p l e R s m args below meth c Q D cA A b nL ρ0 ad0 n0 m0 τ) : sx_Ok p l e R s m args below meth c Q D cA A b nL ρ0 ad0 n0 m0 σ := by
  obtain ⟨pc, L, x, st, w, iv, mc, ms, n, rfl, hn, z0, z1, z2, hlim, rfl⟩ := sx_newa_inv h
  intro ρ ad H locs ls h1 h2 h3 h4 h5 hP hD hS hl
  show W p l e R s m args below meth c H locs mc ms Q (F0 m pc ls (sx_cv ρ ad b x :: st.map (sx_cv ρ ad b)))
  rw [sx_nm_c h1 ad b hn]
  refine va_newq hx hb hown hcl hover hK hP hD hS hA (nI_pos (n := n) (by omega)) (sx_clamp (by omega)) (by omega) (by omega) (by omega) hdg (fun q c1 H1 hK1 hP1 hD1 hS1 => ?_)
  have e := sx_tys_at (kd := 4) rfl hK hK1 (fun c1 c2 g1 g2 => by
    obtain ⟨_, _, _, _, _, f1⟩ := g1
    obtain ⟨_, _, _, _, _, f2⟩ := g2
    exact Option.some.inj (f1.symm.trans f2))
  subst e
  exact sx_newcell hlim (K _ List.mem_cons_self) q (fun ad' => rfl) h1 h2 h3 h4 h5 hP1 hD1 hS1 hl
theorem sx_s_obj (hx : p.tables.exec = Jvm.exec) (hb : c.code = cc) {own : String} {index : Nat} (hown : s.vm.findClass own = some m.cls) (hml : c.maxLocals = nL) (hlink : (Cond.methodLink own index Lib.objectInit).before args s = true) (hinst : (Cond.instanceMethod Lib.objectInit).before args s = true) (hcode : (Cond.code Lib.objectInit ⟨#[0xb1]⟩ 1 none).before args s = true) (hfr : 1 ≤ R.frames) (hlo : 24 ≤ R.locals) {σ : sx_S} {ss : List sx_S} (hdg : decode cc σ.1 = .ok (.invokespecial index, 3)) (h : sx_obj σ = some ss) (K : ∀ τ ∈ ss, sx_Ok p l e R s m args below meth c Q D cA A b nL ρ0 ad0 n0 m0 τ) : sx_Ok p l e R s m args below meth c Q D cA A b nL ρ0 ad0 n0 m0 σ := by
  obtain ⟨pc, L, st, w, iv, mc, ms⟩ := σ
  unfold sx_obj at h
  split at h
  next pc' L' q st' w' iv' mc' ms' heq =>
    cases heq
    split at h
    next hz =>
      cases h
      have z : st'.length ≤ 4 := Nat.le_of_ble_eq_true hz
      refine sx_pure (K _ List.mem_cons_self) (fun ρ ad H locs ls h1 hl k => ?_)
      have hsum : ∀ l : List Value, (l.map fun v => v.category).sum ≤ 2 * l.length := by
        intro l
        induction l with
        | nil => exact Nat.le_refl _
        | cons v l ih =>
          rw [List.map_cons, List.sum_cons, List.length_cons]
          rcases lv_cat v with e | e <;> rw [e] <;> omega
      have h8 := hsum (st'.map (sx_cv ρ ad b))
      rw [List.length_map] at h8
      refine W.objInit hx hb hown hlink hinst hcode rfl (hl.1.trans hml.symm) rfl hdg hfr ?_ k
      have h9 := lv_room (m := m) (pc := pc) (ls := ls) (rest := (sx_cv ρ ad b (.inr (.inr (.inl q))) :: st'.map (sx_cv ρ ad b))) (st := st'.map (sx_cv ρ ad b)) (by omega)
      have : 2 * (F0 m pc ls (sx_cv ρ ad b (.inr (.inr (.inl q))) :: st'.map (sx_cv ρ ad b))).monitorRoom + ((st'.map (sx_cv ρ ad b)).map fun v => v.category).sum ≤ 8 := h9
      exact Nat.le_trans (Nat.add_le_add_right this 12) (by omega)
    next => cases h
  next => cases h
end sxCells
