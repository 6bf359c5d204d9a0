/-! tables of data, and their closures -/
noncomputable def sx_cT (dt : List (List (Nat × sx_I))) : List (List (Nat × sx_Q)) := dt.map (fun r => r.map (fun q => (q.1, sx_den sx_cls q.2.1 q.2.2.2)))
noncomputable def sx_chkR (own : String) (cc : ByteArray) (nL : Nat) (init : Bool) (rt : Option FieldType) (r : Nat) (row : List (Nat × sx_I)) : Bool := row.all (fun q => sx_chk own cc nL init rt (16 * r + q.1) q.2.1 q.2.2.1 q.2.2.2)
noncomputable def sx_chkTab (own : String) (cc : ByteArray) (nL : Nat) (init : Bool) (rt : Option FieldType) : Nat → List (List (Nat × sx_I)) → Bool
  | _, [] => true
  | r, row :: t => sx_chkR own cc nL init rt r row && sx_chkTab own cc nL init rt (r + 1) t
theorem sx_chkTab_at {own : String} {cc : ByteArray} {nL : Nat} {init : Bool} {rt : Option FieldType} : ∀ {dt : List (List (Nat × sx_I))} {r k : Nat} {row : List (Nat × sx_I)}, sx_chkTab own cc nL init rt r dt = true → dt[k]? = some row → sx_chkR own cc nL init rt (r + k) row = true
  | [], _, _, _, _, h => by simp at h
  | x :: t, r, 0, row, h, hk => by
    simp only [sx_chkTab, Bool.and_eq_true] at h
    cases hk
    exact h.1
  | x :: t, r, k + 1, row, h, hk => by
    simp only [sx_chkTab, Bool.and_eq_true] at h
    have h2 := sx_chkTab_at (r := r + 1) (k := k) h.2 hk
    rwa [show r + 1 + k = r + (k + 1) by omega] at h2
theorem sx_tab_ok {own : String} {cc : ByteArray} {nL : Nat} {init : Bool} {rt : Option FieldType} {t : List (List (Nat × sx_Q))} {dt : List (List (Nat × sx_I))} (hq : t = sx_cT dt) (h : sx_chkTab own cc nL init rt 0 dt = true) : sx_tabOk own cc nL init rt (sx_find t) := by
  intro pc q hf
  subst hq
  unfold sx_find at hf
  split at hf
  next l hl =>
    unfold sx_cT at hl
    rw [List.getElem?_map] at hl
    cases hr : dt[pc / 16]? with
    | none => rw [hr] at hl; cases hl
    | some row =>
      rw [hr] at hl
      cases hl
      have hm := sx_row_mem hf
      obtain ⟨e, he, h2⟩ := List.mem_map.mp hm
      have h3 := sx_chkTab_at h hr
      have h4 := List.all_eq_true.mp h3 e he
      have e1 : e.1 = pc % 16 := congrArg Prod.fst h2
      have e2 : sx_den sx_cls e.2.1 e.2.2.2 = q := congrArg Prod.snd h2
      have e3 : 16 * (0 + pc / 16) + e.1 = pc := by omega
      rw [e3] at h4
      exact ⟨e.2.1, e.2.2.1, e.2.2.2, e2.symm, h4⟩
  next => cases hf
noncomputable def sx_chkY (y : Nat) (init : Bool) (dt : List (List (Nat × sx_I))) : Bool := sx_chkTab (sx_rec y).1.cls (sx_rec y).2.1 (sx_rec y).2.2.1 init (sx_rec y).2.2.2 0 dt
def sx_yOk (y : Nat) (t : List (List (Nat × sx_Q))) : Prop := y < 158 ∧ ∃ init : Bool, (init = true → (sx_rec y).1.name = "<init>") ∧ sx_tabOk (sx_rec y).1.cls (sx_rec y).2.1 (sx_rec y).2.2.1 init (sx_rec y).2.2.2 (sx_find t)
theorem sx_yok0 {y : Nat} {t : List (List (Nat × sx_Q))} {dt : List (List (Nat × sx_I))} (hy : Nat.blt y 158 = true) (hq : t = sx_cT dt) (h : sx_chkY y false dt = true) : sx_yOk y t := ⟨Nat.le_of_ble_eq_true hy, false, fun h => (by cases h), sx_tab_ok hq h⟩
theorem sx_yok1 {y : Nat} {t : List (List (Nat × sx_Q))} {dt : List (List (Nat × sx_I))} (hy : Nat.blt y 158 = true) (hn : decide ((sx_rec y).1.name = "<init>") = true) (hq : t = sx_cT dt) (h : sx_chkY y true dt = true) : sx_yOk y t := ⟨Nat.le_of_ble_eq_true hy, true, fun _ => of_decide_eq_true hn, sx_tab_ok hq h⟩
