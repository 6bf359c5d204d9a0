/-! tables of data, and their closures -/
abbrev zx_I : Type := Instr × Nat × List Nat
noncomputable def zx_cT (dt : List (List (Nat × zx_I))) : List (List (Nat × zx_Q)) := dt.map (fun r => r.map (fun q => (q.1, zx_den q.2.1 q.2.2.2)))
noncomputable def zx_chkR (own : String) (cc : ByteArray) (nL : Nat) (init : Bool) (rt : Option FieldType) (r : Nat) (row : List (Nat × zx_I)) : Bool := row.all (fun q => zx_chk own cc nL init rt (16 * r + q.1) q.2.1 q.2.2.1 q.2.2.2)
noncomputable def zx_chkTab (own : String) (cc : ByteArray) (nL : Nat) (init : Bool) (rt : Option FieldType) : Nat → List (List (Nat × zx_I)) → Bool
  | _, [] => true
  | r, row :: t => zx_chkR own cc nL init rt r row && zx_chkTab own cc nL init rt (r + 1) t
theorem zx_chkTab_at {own : String} {cc : ByteArray} {nL : Nat} {init : Bool} {rt : Option FieldType} : ∀ {dt : List (List (Nat × zx_I))} {r k : Nat} {row : List (Nat × zx_I)}, zx_chkTab own cc nL init rt r dt = true → dt[k]? = some row → zx_chkR own cc nL init rt (r + k) row = true
  | [], _, _, _, _, h => by simp at h
  | x :: t, r, 0, row, h, hk => by
    simp only [zx_chkTab, Bool.and_eq_true] at h
    cases hk
    exact h.1
  | x :: t, r, k + 1, row, h, hk => by
    simp only [zx_chkTab, Bool.and_eq_true] at h
    have h2 := zx_chkTab_at (r := r + 1) (k := k) h.2 hk
    rwa [show r + 1 + k = r + (k + 1) by omega] at h2
theorem zx_tab_ok {own : String} {cc : ByteArray} {nL : Nat} {init : Bool} {rt : Option FieldType} {t : List (List (Nat × zx_Q))} {dt : List (List (Nat × zx_I))} (hq : t = zx_cT dt) (h : zx_chkTab own cc nL init rt 0 dt = true) : zx_tabOk own cc nL init rt (zx_find t) := by
  intro pc q hf
  subst hq
  unfold zx_find at hf
  split at hf
  next l hl =>
    unfold zx_cT at hl
    rw [List.getElem?_map] at hl
    cases hr : dt[pc / 16]? with
    | none => rw [hr] at hl; cases hl
    | some row =>
      rw [hr] at hl
      cases hl
      have hm := zx_row_mem hf
      obtain ⟨e, he, h2⟩ := List.mem_map.mp hm
      have h3 := zx_chkTab_at h hr
      have h4 := List.all_eq_true.mp h3 e he
      have e1 : e.1 = pc % 16 := congrArg Prod.fst h2
      have e2 : zx_den e.2.1 e.2.2.2 = q := congrArg Prod.snd h2
      have e3 : 16 * (0 + pc / 16) + e.1 = pc := by omega
      rw [e3] at h4
      exact ⟨e.2.1, e.2.2.1, e.2.2.2, e2.symm, h4⟩
  next => cases hf
noncomputable def zx_chkY (y : Nat) (init : Bool) (dt : List (List (Nat × zx_I))) : Bool := zx_chkTab (zx_rec y).1.cls (zx_rec y).2.1 (zx_rec y).2.2.1 init (zx_rec y).2.2.2 0 dt
def zx_yOk (y : Nat) (t : List (List (Nat × zx_Q))) : Prop := y < 354 ∧ ∃ init : Bool, (init = true → (zx_rec y).1.name = "<init>") ∧ zx_tabOk (zx_rec y).1.cls (zx_rec y).2.1 (zx_rec y).2.2.1 init (zx_rec y).2.2.2 (zx_find t)
theorem zx_yok0 {y : Nat} {t : List (List (Nat × zx_Q))} {dt : List (List (Nat × zx_I))} (hy : Nat.blt y 354 = true) (hq : t = zx_cT dt) (h : zx_chkY y false dt = true) : zx_yOk y t := ⟨Nat.le_of_ble_eq_true hy, false, fun h => (by cases h), zx_tab_ok hq h⟩
theorem zx_yok1 {y : Nat} {t : List (List (Nat × zx_Q))} {dt : List (List (Nat × zx_I))} (hy : Nat.blt y 354 = true) (hn : decide ((zx_rec y).1.name = "<init>") = true) (hq : t = zx_cT dt) (h : zx_chkY y true dt = true) : zx_yOk y t := ⟨Nat.le_of_ble_eq_true hy, true, fun _ => of_decide_eq_true hn, zx_tab_ok hq h⟩
theorem zx_chk_app {own : String} {cc : ByteArray} {nL : Nat} {init : Bool} {rt : Option FieldType} : ∀ {a t : List (List (Nat × zx_I))} {r : Nat}, zx_chkTab own cc nL init rt r a = true → zx_chkTab own cc nL init rt (r + a.length) t = true → zx_chkTab own cc nL init rt r (a ++ t) = true
  | [], t, r, _, h => h
  | x :: a, t, r, h, h2 => by
    simp only [zx_chkTab, Bool.and_eq_true, List.cons_append] at h ⊢
    refine ⟨h.1, zx_chk_app h.2 ?_⟩
    rwa [show r + 1 + a.length = r + (x :: a).length by rw [List.length_cons]; omega]
