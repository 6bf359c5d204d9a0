/-! arrays of States, lengths, arraycopy, Math of longs -/
def zx_ml (f : Int64 → Int64 → Int64) (cap : Nat × Nat) (σ : zx_S) : Option zx_S := match σ with
  | (pc, ls, (.inr (.inl y)) :: (.inr (.inl x)) :: st, w, mc, ms) => match Nat.ble st.length 4 && (Nat.ble mc cap.1 && Nat.ble ms cap.2) with
    | true => some (pc + 3, ls, (.inr (.inl (f x y))) :: st, w, mc, ms)
    | false => none
  | _ => none
section zxMore
variable {p : Program} {l : Launch} {e : Env} {R : Room} {s : State} {m : MethodId} {args : Array Value} {below : List Frame} {meth : Method} {c : Code} {Q : State → Prop} {D : va_G} {cA : Nat → ClassId} {A : Nat → Prop} {b nL : Nat} {ad0 : Nat → Nat} {m0 : Nat} {cc : ByteArray}
theorem zx_ml_inv {f : Int64 → Int64 → Int64} {cap : Nat × Nat} {σ τ : zx_S} (h : zx_ml f cap σ = some τ) : ∃ pc L y x st w mc ms, σ = (pc, L, (.inr (.inl y)) :: (.inr (.inl x)) :: st, w, mc, ms) ∧ st.length ≤ 4 ∧ mc ≤ cap.1 ∧ ms ≤ cap.2 ∧ τ = (pc + 3, L, (.inr (.inl (f x y))) :: st, w, mc, ms) := by
  unfold zx_ml at h
  split at h
  next pc L y x st w mc ms =>
    split at h
    next hz =>
      cases h
      simp only [Bool.and_eq_true] at hz
      exact ⟨pc, L, y, x, st, w, mc, ms, rfl, Nat.le_of_ble_eq_true hz.1, Nat.le_of_ble_eq_true hz.2.1, Nat.le_of_ble_eq_true hz.2.2, rfl⟩
    next => cases h
  next => cases h
theorem zx_s_mxl (hx : p.tables.exec = Jvm.exec) (hb : c.code = cc) (hml : c.maxLocals = nL) {own : String} {index : Nat} (hown : s.vm.findClass own = some m.cls) (hlink : (Cond.methodLink own index Lib.MathLoose.max_long.x).before args s = true) (hstat : (Cond.static Lib.MathLoose.max_long.x).before args s = true) (hini : (Cond.initialized "java/lang/Math").before args s = true) (hcode : (Cond.code Lib.MathLoose.max_long.x Lib.MathLoose.max_long.code 4 (some .long)).before args s = true) {cap : Nat × Nat} (hR : cap.1 ≤ R.cells ∧ cap.2 ≤ R.slots) (hfr : 1 ≤ R.frames) (hlo : 24 ≤ R.locals) {σ τ : zx_S} (hdg : decode cc σ.1 = .ok (.invokestatic index, 3)) (h : zx_ml (fun x y => if y < x then x else y) cap σ = some τ) (K : zx_Ok p l e R s m args below meth c Q D cA A b nL ad0 m0 τ) : zx_Ok p l e R s m args below meth c Q D cA A b nL ad0 m0 σ := by
  obtain ⟨pc, L, y, x, st, w, mc, ms, rfl, z1, z2, z3, rfl⟩ := zx_ml_inv h
  refine zx_pure K (fun ad H locs ls hl k => ?_)
  have h8 := zx_sum8 (ad := ad) (b := b) z1
  exact va_mmax_long hx hb (hml.trans hl.1.symm) hown hlink hstat hini hcode hfr (by omega) (by omega) (by omega) hdg k
theorem zx_s_mnl (hx : p.tables.exec = Jvm.exec) (hb : c.code = cc) (hml : c.maxLocals = nL) {own : String} {index : Nat} (hown : s.vm.findClass own = some m.cls) (hlink : (Cond.methodLink own index Lib.MathLoose.min_long.x).before args s = true) (hstat : (Cond.static Lib.MathLoose.min_long.x).before args s = true) (hini : (Cond.initialized "java/lang/Math").before args s = true) (hcode : (Cond.code Lib.MathLoose.min_long.x Lib.MathLoose.min_long.code 4 (some .long)).before args s = true) {cap : Nat × Nat} (hR : cap.1 ≤ R.cells ∧ cap.2 ≤ R.slots) (hfr : 1 ≤ R.frames) (hlo : 24 ≤ R.locals) {σ τ : zx_S} (hdg : decode cc σ.1 = .ok (.invokestatic index, 3)) (h : zx_ml (fun x y => if y < x then y else x) cap σ = some τ) (K : zx_Ok p l e R s m args below meth c Q D cA A b nL ad0 m0 τ) : zx_Ok p l e R s m args below meth c Q D cA A b nL ad0 m0 σ := by
  obtain ⟨pc, L, y, x, st, w, mc, ms, rfl, z1, z2, z3, rfl⟩ := zx_ml_inv h
  refine zx_pure K (fun ad H locs ls hl k => ?_)
  have h8 := zx_sum8 (ad := ad) (b := b) z1
  exact va_mmin_long hx hb (hml.trans hl.1.symm) hown hlink hstat hini hcode hfr (by omega) (by omega) (by omega) hdg k
theorem zx_rf_cv {ad : Nat → Nat} {b : Nat} (o : Option Nat) : va_rf (o.map ad) = zx_cv ad b (zx_ref o) := by
  cases o <;> rfl
theorem zx_s_aald (hx : p.tables.exec = Jvm.exec) (hb : c.code = cc) (hK : va_K D zx_clL (zx_tys cA) s) {σ τ : zx_S} (hdg : decode cc σ.1 = .ok (.aaload, 1)) (h : zx_aald σ = some τ) (K : zx_Ok p l e R s m args below meth c Q D cA A b nL ad0 m0 τ) : zx_Ok p l e R s m args below meth c Q D cA A b nL ad0 m0 σ := by
  obtain ⟨pc, L, st, w, mc, ms⟩ := σ
  unfold zx_aald at h
  split at h
  next pc' L' i q st' w' mc' ms' heq =>
    cases heq
    split at h
    next kd' n lr hq =>
      split at h
      next o hz ho =>
        cases h
        rw [Bool.and_eq_true] at hz
        have ek := Nat.eq_of_beq_eq_true hz.1
        subst ek
        intro ad H locs ls h3 h5 hP hD hS hl
        have he : (zx_cW ad b cA w)[q]? = some (ad q, .inl (cA 4, n, .inr (.inr (.inr (.inr (fun j : Nat => ((lr[j]?).getD none).map ad)))))) := by rw [zx_cW_at, hq]; rfl
        refine va_aldq hx hb hK hP q 4 he rfl (zx_in_ok hz.2) hdg ?_
        show W p l e R s m args below meth c H locs mc ms Q (F0 m (pc + 1) ls (va_rf (((lr[i.toNatClampNeg]?).getD none).map ad) :: st'.map (zx_cv ad b)))
        rw [ho]
        show W p l e R s m args below meth c H locs mc ms Q (F0 m (pc + 1) ls (va_rf (o.map ad) :: st'.map (zx_cv ad b)))
        rw [zx_rf_cv (b := b)]
        exact K ad H locs ls h3 h5 hP hD hS hl
      next => cases h
    next => cases h
  next => cases h
theorem zx_s_aast (hx : p.tables.exec = Jvm.exec) (hb : c.code = cc) (hK : va_K D zx_clL (zx_tys cA) s) {σ τ : zx_S} (hdg : decode cc σ.1 = .ok (.aastore, 1)) (h : zx_aast σ = some τ) (K : zx_Ok p l e R s m args below meth c Q D cA A b nL ad0 m0 τ) : zx_Ok p l e R s m args below meth c Q D cA A b nL ad0 m0 σ := by
  obtain ⟨pc, L, st, w, mc, ms⟩ := σ
  unfold zx_aast at h
  split at h
  next pc' L' v i q st' w' mc' ms' heq =>
    cases heq
    split at h
    next kd' n lr c' vs hq hv =>
      split at h
      next hz =>
        cases h
        simp only [Bool.and_eq_true] at hz
        obtain ⟨z1, z2, z3, z4⟩ := hz
        have ek := Nat.eq_of_beq_eq_true z1
        have ec := Nat.eq_of_beq_eq_true z2
        have en := Nat.eq_of_beq_eq_true z4
        subst ek
        subst ec
        intro ad H locs ls h3 h5 hP hD hS hl
        have he : (zx_cW ad b cA w)[q]? = some (ad q, .inl (cA 4, n, .inr (.inr (.inr (.inr (fun j : Nat => ((lr[j]?).getD none).map ad)))))) := by rw [zx_cW_at, hq]; rfl
        have hv' : (zx_cW ad b cA w)[v]? = some (ad v, .inr (8, vs.map (zx_cv ad b))) := by rw [zx_cW_at, hv]; rfl
        have hin := zx_in_ok z3
        have hlt : i.toNatClampNeg < lr.length := by rw [en]; exact Nat.not_le.mp (fun q => hin (Or.inr q))
        refine va_astq (r := (RX8, TX8, 7)) hx hb hK hP hD hS q 4 v 8 he rfl hv' rfl hin hdg (fun H1 locs1 hP1 hD1 hS1 => zx_ast_ok K ?_ h3 h5 hP1 hD1 hS1 hl)
        have ef : (fun j : Nat => (((lr.set i.toNatClampNeg (some v))[j]?).getD none).map ad) = va_up (fun j : Nat => ((lr[j]?).getD none).map ad) i.toNatClampNeg (some (ad v)) := by
          funext j
          unfold va_up
          by_cases hj : j = i.toNatClampNeg
          · rw [if_pos hj, hj, List.getElem?_set_self hlt]
            rfl
          · rw [if_neg hj, List.getElem?_set_ne (fun q => hj q.symm)]
        show Sum.inl (cA 4, n, Sum.inr (Sum.inr (Sum.inr (Sum.inr (fun j : Nat => (((lr.set i.toNatClampNeg (some v))[j]?).getD none).map ad))))) = _
        rw [ef]
      next => cases h
    next => cases h
  next => cases h
theorem zx_s_alen (hx : p.tables.exec = Jvm.exec) (hb : c.code = cc) (hK : va_K D zx_clL (zx_tys cA) s) {X : zx_X} (hX : zx_Scr X s A b) {σ τ : zx_S} (hdg : decode cc σ.1 = .ok (.arraylength, 1)) (h : zx_alen X σ = some τ) (K : zx_Ok p l e R s m args below meth c Q D cA A b nL ad0 m0 τ) : zx_Ok p l e R s m args below meth c Q D cA A b nL ad0 m0 σ := by
  obtain ⟨pc, L, st, w, mc, ms⟩ := σ
  unfold zx_alen at h
  split at h
  next pc' L' q st' w' mc' ms' heq =>
    cases heq
    split at h
    next kd n f hq =>
      split at h
      next hz =>
        cases h
        have hlt : kd < 5 := Nat.le_of_ble_eq_true hz
        intro ad H locs ls h3 h5 hP hD hS hl
        obtain ⟨ty, hty⟩ : ∃ ty, (zx_tys cA)[kd]? = some (cA kd, ty) := by
          match kd, hlt with
          | 0, _ => exact ⟨_, rfl⟩
          | 1, _ => exact ⟨_, rfl⟩
          | 2, _ => exact ⟨_, rfl⟩
          | 3, _ => exact ⟨_, rfl⟩
          | 4, _ => exact ⟨_, rfl⟩
        have he : (zx_cW ad b cA w)[q]? = some (ad q, .inl (cA kd, n, zx_cA ad f)) := by rw [zx_cW_at, hq]; rfl
        exact va_alen hx hb hK hP q kd he hty (v := Int32.ofNat n) rfl hdg (K ad H locs ls h3 h5 hP hD hS hl)
      next => cases h
    next => cases h
  next pc' L' st' w' mc' ms' heq =>
    cases heq
    split at h
    next n f =>
      cases h
      obtain ⟨hx1, hx2, hx3⟩ := hX n f rfl
      intro ad H locs ls h3 h5 hP hD hS hl
      exact va_slen hx hb hx1 hx2 hx3 hS hdg (K ad H locs ls h3 h5 hP hD hS hl)
    next => cases h
  next => cases h
theorem zx_s_copy (hx : p.tables.exec = Jvm.exec) (hb : c.code = cc) (hK : va_K D zx_clL (zx_tys cA) s) (hml : c.maxLocals = nL) {own : String} {index : Nat} (hown : s.vm.findClass own = some m.cls) (hlink : (Cond.methodLink own index arraycopyName).before args s = true) (hnat : (Cond.native arraycopyName).before args s = true) (hstat : (Cond.static arraycopyName).before args s = true) (hini : (Cond.initialized "java/lang/System").before args s = true) (hfr : 1 ≤ R.frames) (hlo : 8 + (nativeFrameWords "java/lang/System" "arraycopy" 5 + 11) ≤ R.locals) {σ τ : zx_S} (hdg : decode cc σ.1 = .ok (.invokestatic index, 3)) (h : zx_copy σ = some τ) (K : zx_Ok p l e R s m args below meth c Q D cA A b nL ad0 m0 τ) : zx_Ok p l e R s m args below meth c Q D cA A b nL ad0 m0 σ := by
  obtain ⟨pc, L, st, w, mc, ms⟩ := σ
  unfold zx_copy at h
  split at h
  next pc' L' n dp q sp pp st' w' mc' ms' heq =>
    cases heq
    split at h
    next np f nq g hp hq =>
      split at h
      next hz =>
        cases h
        simp only [Bool.and_eq_true] at hz
        obtain ⟨z1, z2, z3, z4, z5, z6, z7⟩ := hz
        have z7 : st'.length ≤ 4 := Nat.le_of_ble_eq_true z7
        intro ad H locs ls h3 h5 hP hD hS hl
        have h8 := zx_sum8 (ad := ad) (b := b) z7
        have he0 : (zx_cW ad b cA w)[pp]? = some (ad pp, .inl (cA 0, np, .inl f)) := by rw [zx_cW_at, hp]; rfl
        have he1 : (zx_cW ad b cA w)[q]? = some (ad q, .inl (cA 0, nq, .inl g)) := by rw [zx_cW_at, hq]; rfl
        exact va_copyi (ty := .int) hx hb (hml.trans hl.1.symm) hown hlink hnat hstat hini hK hP hD hS pp q 0 0 he0 he1 rfl rfl rfl (of_decide_eq_true z3) (of_decide_eq_true z2) (of_decide_eq_true z1) (Nat.le_of_ble_eq_true z4) (Nat.le_of_ble_eq_true z5) (fun _ _ => rfl) hfr (by omega) hdg (fun H1 locs1 hP1 hD1 hS1 => zx_ast_ok K rfl h3 h5 hP1 hD1 hS1 hl)
      next => cases h
    next => cases h
  next => cases h
end zxMore
