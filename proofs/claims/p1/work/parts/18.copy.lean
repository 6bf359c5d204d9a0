/-! arraycopy; the script -/
section sxCopy
variable {p : Program} {l : Launch} {e : Env} {R : Room} {s : State} {m : MethodId} {args : Array Value} {below : List Frame} {meth : Method} {c : Code} {Q : State → Prop} {D : va_G} {cA : Nat → ClassId} {A : Nat → Prop} {b nL : Nat} {ρ0 : Nat → Int32} {ad0 : Nat → Nat} {n0 m0 : Nat} {cc : ByteArray}
theorem sx_copy_cpy {ρ : Nat → Int32} (src up : List (Nat × sx_V)) (sp dp n : Nat) : (fun j => sx_xi ρ (sx_ald 0 (sx_copyW src sp dp n up) j)) = va_cpy (fun j => sx_xi ρ (sx_ald 0 src j)) (fun j => sx_xi ρ (sx_ald 0 up j)) sp dp n := by
  funext j
  rw [sx_copy_at]
  rfl
theorem sx_s_copy (hx : p.tables.exec = Jvm.exec) (hb : c.code = cc) (hK : va_K D sx_clL (sx_tys cA) s) (hml : c.maxLocals = nL) {own : String} {index : Nat} (hown : s.vm.findClass own = some m.cls) (hlink : (Cond.methodLink own index arraycopyName).before args s = true) (hnat : (Cond.native arraycopyName).before args s = true) (hstat : (Cond.static arraycopyName).before args s = true) (hini : (Cond.initialized "java/lang/System").before args s = true) (hfr : 1 ≤ R.frames) (hlo : 8 + (nativeFrameWords "java/lang/System" "arraycopy" 5 + 11) ≤ R.locals) {σ : sx_S} {ss : List sx_S} (hdg : decode cc σ.1 = .ok (.invokestatic index, 3)) (h : sx_copy σ = some ss) (K : ∀ τ ∈ ss, sx_Ok p l e R s m args below meth c Q D cA A b nL ρ0 ad0 n0 m0 τ) : sx_Ok p l e R s m args below meth c Q D cA A b nL ρ0 ad0 n0 m0 σ := by
  obtain ⟨pc, L, st0, w, iv, mc, ms⟩ := σ
  unfold sx_copy at h
  split at h
  next pc' L' nv dv q sv pp st w' iv' mc' ms' heq =>
    cases heq
    split at h
    next kp np up kq nq uq hp hq =>
      split at h
      next n dp sp hn hdp hsp =>
        split at h
        next hz =>
          rw [sx_lay_eq, sx_setk_eq] at h
          cases h
          rw [sx_nth_eq] at hp hq
          simp only [Bool.and_eq_true] at hz
          obtain ⟨⟨⟨⟨⟨⟨⟨z1, z2⟩, z3⟩, z4⟩, z5⟩, z6⟩, z7⟩, z8⟩ := hz
          have e1 := Nat.eq_of_beq_eq_true z1
          have e2 := Nat.eq_of_beq_eq_true z2
          subst e1
          subst e2
          have y3 : sp + n ≤ np := Nat.le_of_ble_eq_true z3
          have y4 : dp + n ≤ nq := Nat.le_of_ble_eq_true z4
          have y6 : np < 65536 := Nat.le_of_ble_eq_true z6
          have y7 : nq < 65536 := Nat.le_of_ble_eq_true z7
          have y8 : st.length ≤ 4 := Nat.le_of_ble_eq_true z8
          intro ρ ad H locs ls h1 h2 h3 h4 h5 hP hD hS hl
          show W p l e R s m args below meth c H locs mc ms Q (F0 m pc ls (sx_cv ρ ad b nv :: sx_cv ρ ad b dv :: .ref (ad q) :: sx_cv ρ ad b sv :: .ref (ad pp) :: st.map (sx_cv ρ ad b)))
          rw [sx_nm_c h1 ad b hn, sx_nm_c h1 ad b hdp, sx_nm_c h1 ad b hsp]
          have hsum : ∀ l : List Value, (l.map fun v => v.category).sum ≤ 2 * l.length := by
            intro l
            induction l with
            | nil => exact Nat.le_refl _
            | cons v l ih =>
              rw [List.map_cons, List.sum_cons, List.length_cons]
              rcases lv_cat v with e | e <;> rw [e] <;> omega
          have h8 := hsum (st.map (sx_cv ρ ad b))
          rw [List.length_map] at h8
          have he0 : (sx_cW ρ ad b cA w)[pp]? = some (ad pp, .inl (cA 0, np, .inl (fun j => sx_xi ρ (sx_ald 0 up j)))) := by rw [sx_cW_at, hp]; rfl
          have he1 : (sx_cW ρ ad b cA w)[q]? = some (ad q, .inl (cA 0, nq, .inl (fun j => sx_xi ρ (sx_ald 0 uq j)))) := by rw [sx_cW_at, hq]; rfl
          have c1 : (Int32.ofNat sp).toNatClampNeg = sp := sx_clamp (by omega)
          have c2 : (Int32.ofNat dp).toNatClampNeg = dp := sx_clamp (by omega)
          have c3 : (Int32.ofNat n).toNatClampNeg = n := sx_clamp (by omega)
          refine va_copyi (ty := .int) hx hb (hml.trans hl.1.symm) hown hlink hnat hstat hini hK hP hD hS pp q 0 0 he0 he1 rfl rfl rfl (nI_pos (n := sp) (by omega)) (nI_pos (n := dp) (by omega)) (nI_pos (n := n) (by omega)) (by rw [c1, c3]; exact y3) (by rw [c2, c3]; exact y4) (fun _ _ => rfl) hfr (by omega) hdg (fun H1 locs1 hP1 hD1 hS1 => ?_)
          rw [c1, c2, c3, ← sx_copy_cpy] at hP1 hD1
          have e := sx_cW_set (ρ := ρ) (ad := ad) (b := b) (cA := cA) w q (.inr (0, nq, (sx_copyW up sp dp n uq)))
          exact K _ List.mem_cons_self ρ ad H1 locs1 ls h1 h2 h3 h4 (by show m0 ≤ (w.set q _).length; rw [List.length_set]; exact h5) (by show va_P D sx_clL (sx_cW ρ ad b cA (w.set q _)) H1; rw [e]; exact hP1) (by show va_D A (sx_cW ρ ad b cA (w.set q _)); rw [e]; exact hD1) hS1 hl
        next => cases h
      next => cases h
    next => cases h
  next => cases h
end sxCopy
