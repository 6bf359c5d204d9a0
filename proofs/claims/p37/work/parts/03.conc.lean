/-! what a state of the exact machine says of the JVM -/
def zx_cv (ad : Nat → Nat) (b : Nat) : zx_V → Value
  | (.inl x) => .int x
  | (.inr (.inl x)) => .long x
  | (.inr (.inr (.inl k))) => .ref (ad k)
  | (.inr (.inr (.inr 0))) => .null
  | _ => .ref b
def zx_cA (ad : Nat → Nat) : zx_A → (Nat → Int32) ⊕ (Nat → Int64) ⊕ (Nat → UInt32) ⊕ (Nat → UInt64) ⊕ (Nat → Option Nat)
  | .inl f => .inl f
  | .inr (.inl f) => .inr (.inl f)
  | .inr (.inr l) => .inr (.inr (.inr (.inr (fun j => ((l[j]?).getD none).map ad))))
def zx_cE (ad : Nat → Nat) (b : Nat) (cA : Nat → ClassId) : zx_E → va_E
  | .inl (ci, fs) => .inr (ci, fs.map (zx_cv ad b))
  | .inr (kd, n, f) => .inl (cA kd, n, zx_cA ad f)
def zx_cW (ad : Nat → Nat) (b : Nat) (cA : Nat → ClassId) (w : List zx_E) : va_W := w.mapIdx (fun k e => (ad k, zx_cE ad b cA e))
def zx_cL (ad : Nat → Nat) (b : Nat) (l : List (Nat × zx_V)) : List (Nat × Value) := l.map (fun q => (q.1, zx_cv ad b q.2))
def zx_tys (cA : Nat → ClassId) : List (ClassId × FieldType) := [(cA 0, .int), (cA 1, .long), (cA 2, .boolean), (cA 3, .byte), (cA 4, .object "TwoInOne$State")]
/-- the JVM goes on from there, whatever the addresses are -/
def zx_Ok (p : Program) (l : Launch) (e : Env) (R : Room) (s : State) (m : MethodId) (args : Array Value) (below : List Frame) (meth : Method) (c : Code) (Q : State → Prop) (D : va_G) (cA : Nat → ClassId) (A : Nat → Prop) (b nL : Nat) (ad0 : Nat → Nat) (m0 : Nat) (σ : zx_S) : Prop :=
  ∀ (ad : Nat → Nat) (H : Heap) (locs : List Loc) (ls : Array Slot), (∀ k, k < m0 → ad k = ad0 k) → m0 ≤ σ.2.2.2.1.length →
    va_P D zx_clL (zx_cW ad b cA σ.2.2.2.1) H → va_D A (zx_cW ad b cA σ.2.2.2.1) → va_S A s.heap H locs → lv_has ls nL (zx_cL ad b σ.2.1) →
    W p l e R s m args below meth c H locs σ.2.2.2.2.1 σ.2.2.2.2.2 Q (F0 m σ.1 ls (σ.2.2.1.map (zx_cv ad b)))
theorem zx_cat_eq {ad : Nat → Nat} {b : Nat} : ∀ (v : zx_V), ((zx_cv ad b v).category == 2) = zx_cat v
  | .inl _ => rfl
  | .inr (.inl _) => rfl
  | .inr (.inr (.inl _)) => rfl
  | .inr (.inr (.inr 0)) => rfl
  | .inr (.inr (.inr (_ + 1))) => rfl
theorem zx_cat1 {ad : Nat → Nat} {b : Nat} {v : zx_V} (h : zx_cat v = false) : (zx_cv ad b v).category = 1 := by
  have h1 := zx_cat_eq (ad := ad) (b := b) v
  rw [h] at h1
  rcases lv_cat (zx_cv ad b v) with h2 | h2
  · exact h2
  · rw [h2] at h1; cases h1
theorem zx_look_mem {k : Nat} {v : zx_V} : ∀ {l : List (Nat × zx_V)}, zx_look k l = some v → (k, v) ∈ l
  | [], h => by simp [zx_look] at h
  | (j, u) :: l, h => by
    unfold zx_look at h
    split at h
    next hj =>
      cases h
      rw [Nat.eq_of_beq_eq_true hj]
      exact List.mem_cons_self
    next => exact List.mem_cons_of_mem _ (zx_look_mem h)
theorem zx_cL_at {ad : Nat → Nat} {b nL k : Nat} {v : zx_V} {L : List (Nat × zx_V)} {ls : Array Slot} (hl : lv_has ls nL (zx_cL ad b L)) (h : zx_look k L = some v) : ls[k]? = some (.val (zx_cv ad b v)) :=
  hl.2.2 (k, zx_cv ad b v) (List.mem_map.mpr ⟨(k, v), zx_look_mem h, rfl⟩)
theorem zx_cL_put {ad : Nat → Nat} {b k : Nat} {v : zx_V} {L : List (Nat × zx_V)} : (k, zx_cv ad b v) :: (zx_cL ad b L).filter (fun q => !(q.1 == k) && !(q.1 + 1 == k && q.2.category == 2)) = zx_cL ad b (zx_put k v L) := by
  have e : (fun q : Nat × zx_V => !(q.1 == k) && !(q.1 + 1 == k && zx_cat q.2)) = (fun q : Nat × zx_V => !(q.1 == k) && !(q.1 + 1 == k && (zx_cv ad b q.2).category == 2)) := by
    funext q
    rw [zx_cat_eq]
  unfold zx_put zx_cL
  rw [e, List.map_cons, List.filter_map]
  rfl
theorem zx_cL_putL {ad : Nat → Nat} {b k : Nat} {v : zx_V} {L : List (Nat × zx_V)} : (k, zx_cv ad b v) :: (zx_cL ad b L).filter (fun q => !(q.1 == k) && (!(q.1 == k + 1) && !(q.1 + 1 == k && q.2.category == 2))) = zx_cL ad b (zx_putL k v L) := by
  have e : (fun q : Nat × zx_V => !(q.1 == k) && (!(q.1 == k + 1) && !(q.1 + 1 == k && zx_cat q.2))) = (fun q : Nat × zx_V => !(q.1 == k) && (!(q.1 == k + 1) && !(q.1 + 1 == k && (zx_cv ad b q.2).category == 2))) := by
    funext q
    rw [zx_cat_eq]
  unfold zx_putL zx_cL
  rw [e, List.map_cons, List.filter_map]
  rfl
theorem zx_cW_at {ad : Nat → Nat} {b : Nat} {cA : Nat → ClassId} (w : List zx_E) (k : Nat) : (zx_cW ad b cA w)[k]? = (w[k]?).map (fun e => (ad k, zx_cE ad b cA e)) := by
  unfold zx_cW
  rw [List.getElem?_mapIdx]
theorem zx_cW_len {ad : Nat → Nat} {b : Nat} {cA : Nat → ClassId} (w : List zx_E) : (zx_cW ad b cA w).length = w.length := by
  unfold zx_cW
  rw [List.length_mapIdx]
theorem zx_cW_set {ad : Nat → Nat} {b : Nat} {cA : Nat → ClassId} (w : List zx_E) (k : Nat) (x : zx_E) : zx_cW ad b cA (w.set k x) = (zx_cW ad b cA w).set k (ad k, zx_cE ad b cA x) := by
  apply List.ext_getElem?
  intro j
  rw [zx_cW_at]
  by_cases hj : k = j
  · subst hj
    rw [List.getElem?_set_self', List.getElem?_set_self', zx_cW_at]
    cases w[k]? <;> rfl
  · rw [List.getElem?_set_ne hj, List.getElem?_set_ne hj, zx_cW_at]
theorem zx_cW_app {ad : Nat → Nat} {b : Nat} {cA : Nat → ClassId} (w : List zx_E) (x : zx_E) : zx_cW ad b cA (w ++ [x]) = zx_cW ad b cA w ++ [(ad w.length, zx_cE ad b cA x)] := by
  apply List.ext_getElem?
  intro j
  rw [zx_cW_at]
  by_cases hj : j < w.length
  · rw [List.getElem?_append_left hj, List.getElem?_append_left (by rw [zx_cW_len]; exact hj), zx_cW_at]
  · rw [List.getElem?_append_right (by omega), List.getElem?_append_right (by rw [zx_cW_len]; omega), zx_cW_len]
    by_cases h0 : j = w.length
    · subst h0
      rw [Nat.sub_self]
      rfl
    · obtain ⟨k, hk⟩ : ∃ k, j - w.length = k + 1 := ⟨j - w.length - 1, by omega⟩
      rw [hk]
      rfl
/-- other addresses, where no value speaks of them -/
theorem zx_lim_cv {ad ad' : Nat → Nat} {b nr : Nat} (ha : ∀ k, k < nr → ad k = ad' k) : ∀ {v : zx_V}, zx_lim nr v = true → zx_cv ad b v = zx_cv ad' b v
  | .inl _, _ => rfl
  | .inr (.inl _), _ => rfl
  | .inr (.inr (.inl k)), h => by
    show Value.ref (ad k) = Value.ref (ad' k)
    rw [ha k (Nat.le_of_ble_eq_true h)]
  | .inr (.inr (.inr 0)), _ => rfl
  | .inr (.inr (.inr (_ + 1))), _ => rfl
theorem zx_cS_lim {ad ad' : Nat → Nat} {b nr : Nat} {st : List zx_V} (ha : ∀ k, k < nr → ad k = ad' k) (h : zx_limL nr st = true) : st.map (zx_cv ad b) = st.map (zx_cv ad' b) :=
  List.map_congr_left (fun v hv => zx_lim_cv ha (List.all_eq_true.mp h v hv))
theorem zx_cL_lim {ad ad' : Nat → Nat} {b nr : Nat} {L : List (Nat × zx_V)} (ha : ∀ k, k < nr → ad k = ad' k) (h : zx_limP nr L = true) : zx_cL ad b L = zx_cL ad' b L :=
  List.map_congr_left (fun q hq => by rw [zx_lim_cv ha (List.all_eq_true.mp h q hq)])
theorem zx_cE_lim {ad ad' : Nat → Nat} {b nr : Nat} {cA : Nat → ClassId} (ha : ∀ k, k < nr → ad k = ad' k) : ∀ {e : zx_E}, zx_limE nr e = true → zx_cE ad b cA e = zx_cE ad' b cA e
  | .inl (ci, fs), h => by
    show Sum.inr (ci, fs.map (zx_cv ad b)) = Sum.inr (ci, fs.map (zx_cv ad' b))
    rw [zx_cS_lim ha h]
  | .inr (kd, n, .inl f), _ => rfl
  | .inr (kd, n, .inr (.inl f)), _ => rfl
  | .inr (kd, n, .inr (.inr l)), h => by
    have e : (fun j : Nat => ((l[j]?).getD none).map ad) = (fun j : Nat => ((l[j]?).getD none).map ad') := by
      funext j
      cases hj : l[j]? with
      | none => rfl
      | some o =>
        cases o with
        | none => rfl
        | some k =>
          have h1 : Nat.blt k nr = true := List.all_eq_true.mp h (some k) (List.mem_of_getElem? hj)
          show some (ad k) = some (ad' k)
          rw [ha k (Nat.le_of_ble_eq_true h1)]
    show Sum.inl (cA kd, n, Sum.inr (Sum.inr (Sum.inr (Sum.inr (fun j : Nat => ((l[j]?).getD none).map ad))))) = _
    rw [e]
    rfl
theorem zx_cW_lim {ad ad' : Nat → Nat} {b nr : Nat} {cA : Nat → ClassId} {w : List zx_E} (ha : ∀ k, k < nr → ad k = ad' k) (hr : w.length ≤ nr) (h : w.all (zx_limE nr) = true) : zx_cW ad b cA w = zx_cW ad' b cA w := by
  apply List.ext_getElem?
  intro j
  rw [zx_cW_at, zx_cW_at]
  cases hj : w[j]? with
  | none => rfl
  | some e =>
    have h1 := (List.getElem?_eq_some_iff.mp hj).1
    show some (ad j, zx_cE ad b cA e) = some (ad' j, zx_cE ad' b cA e)
    rw [ha j (by omega), zx_cE_lim ha (List.all_eq_true.mp h e (List.mem_of_getElem? hj))]
