/-! fields, new cells, arrays -/
def zx_copy (σ : zx_S) : Option zx_S := match σ with
  | (pc, ls, (.inl n) :: (.inl dp) :: (.inr (.inr (.inl q))) :: (.inl sp) :: (.inr (.inr (.inl p))) :: st, w, mc, ms) => match w[p]?, w[q]? with
    | some (.inr (0, np, .inl f)), some (.inr (0, nq, .inl g)) => match decide (¬ n < 0) && (decide (¬ dp < 0) && (decide (¬ sp < 0) && (Nat.ble (sp.toNatClampNeg + n.toNatClampNeg) np && (Nat.ble (dp.toNatClampNeg + n.toNatClampNeg) nq && (!(Nat.beq p q) && Nat.ble st.length 4))))) with
      | true => some (pc + 3, ls, st, w.set q (.inr (0, nq, .inl (va_cpy f g sp.toNatClampNeg dp.toNatClampNeg n.toNatClampNeg))), mc, ms)
      | false => none
    | _, _ => none
  | _ => none
/-- the types that take such values -/
def zx_takes (fit : Nat) (ty : FieldType) : Prop := match fit with
  | 0 => ty = .int
  | 1 => (∃ n, ty = .object n) ∨ ∃ t, ty = .array t
  | 2 => ty = .boolean
  | _ => ty = .long
theorem zx_fit_ok {ad : Nat → Nat} {b : Nat} : ∀ {fit : Nat} {ty : FieldType} {v : zx_V}, zx_takes fit ty → zx_fit fit v = true → narrow ty (zx_cv ad b v) = zx_cv ad b v ∧ fits ty (zx_cv ad b v) = true
  | 0, ty, v, ht, h => by
    have ht : ty = .int := ht
    subst ht
    match v, h with
    | .inl x, _ => exact ⟨rfl, rfl⟩
    | .inr _, h => cases h
  | 1, ty, v, ht, h => by
    have hv : (∃ a, zx_cv ad b v = .ref a) ∨ zx_cv ad b v = .null := by
      match v, h with
      | .inr (.inr (.inl k)), _ => exact Or.inl ⟨ad k, rfl⟩
      | .inr (.inr (.inr 0)), _ => exact Or.inr rfl
      | .inr (.inr (.inr (n + 1))), h => cases h
      | .inl _, h => cases h
      | .inr (.inl _), h => cases h
    rcases ht with ⟨n, rfl⟩ | ⟨t, rfl⟩ <;> rcases hv with ⟨a, e⟩ | e <;> rw [e] <;> exact ⟨rfl, rfl⟩
  | 2, ty, v, ht, h => by
    have ht : ty = .boolean := ht
    subst ht
    match v, h with
    | .inl x, h =>
      have h : (decide (x = 0) || decide (x = 1)) = true := h
      rw [Bool.or_eq_true] at h
      rcases h with h | h
      · rw [of_decide_eq_true h]
        show narrow .boolean (.int 0) = .int 0 ∧ fits .boolean (.int 0) = true
        exact ⟨by decide +kernel, by decide +kernel⟩
      · rw [of_decide_eq_true h]
        show narrow .boolean (.int 1) = .int 1 ∧ fits .boolean (.int 1) = true
        exact ⟨by decide +kernel, by decide +kernel⟩
    | .inr _, h => cases h
  | n + 3, ty, v, ht, h => by
    have ht : ty = .long := ht
    subst ht
    match v, h with
    | .inr (.inl x), _ => exact ⟨rfl, rfl⟩
    | .inl _, h => cases h
    | .inr (.inr _), h => cases h
theorem zx_gf_inv {ci k : Nat} {σ τ : zx_S} (h : zx_gf ci k σ = some τ) : ∃ pc L q st w mc ms fs v, σ = (pc, L, (.inr (.inr (.inl q))) :: st, w, mc, ms) ∧ w[q]? = some (.inl (ci, fs)) ∧ fs[k]? = some v ∧ τ = (pc + 3, L, v :: st, w, mc, ms) := by
  unfold zx_gf at h
  split at h
  next pc L q st w mc ms =>
    split at h
    next c' fs hq =>
      split at h
      next v hb hv =>
        cases h
        rw [Nat.eq_of_beq_eq_true hb]
        exact ⟨pc, L, q, st, w, mc, ms, fs, v, rfl, hq, hv, rfl⟩
      next => cases h
    next => cases h
  next => cases h
theorem zx_pf_inv {ci k fit : Nat} {σ τ : zx_S} (h : zx_pf ci k fit σ = some τ) : ∃ pc L v q st w mc ms fs, σ = (pc, L, v :: (.inr (.inr (.inl q))) :: st, w, mc, ms) ∧ w[q]? = some (.inl (ci, fs)) ∧ k < fs.length ∧ zx_fit fit v = true ∧ τ = (pc + 3, L, st, w.set q (.inl (ci, (fs.set k v))), mc, ms) := by
  unfold zx_pf at h
  split at h
  next pc L v q st w mc ms =>
    split at h
    next c' fs hq =>
      split at h
      next hz =>
        cases h
        simp only [Bool.and_eq_true] at hz
        rw [Nat.eq_of_beq_eq_true hz.1]
        exact ⟨pc, L, v, q, st, w, mc, ms, fs, rfl, hq, Nat.le_of_ble_eq_true hz.2.1, hz.2.2, rfl⟩
      next => cases h
    next => cases h
  next => cases h
theorem zx_in_ok {i : Int32} {n : Nat} (h : zx_in i n = true) : vp_in i n := by
  unfold zx_in at h
  rw [Bool.not_eq_true', Bool.or_eq_false_iff] at h
  intro q
  rcases q with q | q
  · exact absurd q (of_decide_eq_false h.1)
  · rw [Nat.ble_eq_true_of_le q] at h
    exact absurd h.2 (by decide)
section zxHeap
variable {p : Program} {l : Launch} {e : Env} {R : Room} {s : State} {m : MethodId} {args : Array Value} {below : List Frame} {meth : Method} {c : Code} {Q : State → Prop} {D : va_G} {cA : Nat → ClassId} {A : Nat → Prop} {b nL : Nat} {ad0 : Nat → Nat} {m0 : Nat} {cc : ByteArray}
theorem zx_s_gf (hx : p.tables.exec = Jvm.exec) (hb : c.code = cc) {own C : String} {T : u_T} {N ci index : Nat} {Ts : List Cond} (hts : ∀ w ∈ Ts, w.before args s = true) (hin : ∀ w ∈ u_ws C T N, w ∈ Ts) (hown : s.vm.findClass own = some m.cls) (hK : va_K D zx_clL (zx_tys cA) s) (hc : zx_clL[ci]? = some (C, T, N)) (k : Nat) (hk : k < N) (hlink : (Cond.fieldLink own index (T k).1 (T k).2.1 (T k).2.2.1).before args s = true) {σ τ : zx_S} (hdg : decode cc σ.1 = .ok (.getfield index, 3)) (h : zx_gf ci k σ = some τ) (K : zx_Ok p l e R s m args below meth c Q D cA A b nL ad0 m0 τ) : zx_Ok p l e R s m args below meth c Q D cA A b nL ad0 m0 σ := by
  obtain ⟨pc, L, q, st, w, mc, ms, fs, v, rfl, hq, hv, rfl⟩ := zx_gf_inv h
  intro ad H locs ls h3 h5 hP hD hS hl
  have he : (zx_cW ad b cA w)[q]? = some (ad q, .inr (ci, fs.map (zx_cv ad b))) := by rw [zx_cW_at, hq]; rfl
  exact va_get hx hb hts hin hown hK hP q he hc k hk hlink (fun _ h => h) (v := zx_cv ad b v) (by rw [List.getElem?_map, hv]; rfl) hdg (K ad H locs ls h3 h5 hP hD hS hl)
theorem zx_s_gfN (hx : p.tables.exec = Jvm.exec) (hb : c.code = cc) {own C host : String} {T : u_T} {N ci index : Nat} {Ts : List Cond} (hts : ∀ w ∈ Ts, w.before args s = true) (hin : ∀ w ∈ u_ws C T N, w ∈ Ts) (hown : s.vm.findClass own = some m.cls) (hK : va_K D zx_clL (zx_tys cA) s) (hc : zx_clL[ci]? = some (C, T, N)) (k : Nat) (hk : k < N) (hlink : (Cond.fieldLinkNest own index (T k).1 (T k).2.1 (T k).2.2.1 host).before args s = true) {σ τ : zx_S} (hdg : decode cc σ.1 = .ok (.getfield index, 3)) (h : zx_gf ci k σ = some τ) (K : zx_Ok p l e R s m args below meth c Q D cA A b nL ad0 m0 τ) : zx_Ok p l e R s m args below meth c Q D cA A b nL ad0 m0 σ := by
  obtain ⟨pc, L, q, st, w, mc, ms, fs, v, rfl, hq, hv, rfl⟩ := zx_gf_inv h
  intro ad H locs ls h3 h5 hP hD hS hl
  have he : (zx_cW ad b cA w)[q]? = some (ad q, .inr (ci, fs.map (zx_cv ad b))) := by rw [zx_cW_at, hq]; rfl
  exact va_getN hx hb hts hin hown hK hP q he hc k hk hlink (fun _ h => h) (v := zx_cv ad b v) (by rw [List.getElem?_map, hv]; rfl) hdg (K ad H locs ls h3 h5 hP hD hS hl)
theorem zx_put_ok {pc mc ms q ci k : Nat} {L : List (Nat × zx_V)} {st : List zx_V} {w : List zx_E} {fs : List zx_V} {v : zx_V} (K : zx_Ok p l e R s m args below meth c Q D cA A b nL ad0 m0 (pc, L, st, w.set q (.inl (ci, (fs.set k v))), mc, ms)) {ad : Nat → Nat} {H1 : Heap} {locs1 : List Loc} {ls : Array Slot} (h3 : ∀ k, k < m0 → ad k = ad0 k) (h5 : m0 ≤ w.length) (hP1 : va_P D zx_clL ((zx_cW ad b cA w).set q (ad q, .inr (ci, (fs.map (zx_cv ad b)).set k (zx_cv ad b v)))) H1) (hD1 : va_D A ((zx_cW ad b cA w).set q (ad q, .inr (ci, (fs.map (zx_cv ad b)).set k (zx_cv ad b v))))) (hS1 : va_S A s.heap H1 locs1) (hl : lv_has ls nL (zx_cL ad b L)) : W p l e R s m args below meth c H1 locs1 mc ms Q (F0 m pc ls (st.map (zx_cv ad b))) := by
  have e : (zx_cW ad b cA w).set q (ad q, .inr (ci, (fs.map (zx_cv ad b)).set k (zx_cv ad b v))) = zx_cW ad b cA (w.set q (.inl (ci, (fs.set k v)))) := by
    rw [zx_cW_set, ← List.map_set]
    rfl
  rw [e] at hP1 hD1
  exact K ad H1 locs1 ls h3 (by show m0 ≤ (w.set q _).length; rw [List.length_set]; exact h5) hP1 hD1 hS1 hl
theorem zx_s_pf (hx : p.tables.exec = Jvm.exec) (hb : c.code = cc) {own C : String} {T : u_T} {N ci index : Nat} {Ts : List Cond} (hts : ∀ w ∈ Ts, w.before args s = true) (hin : ∀ w ∈ u_ws C T N, w ∈ Ts) (ty0 : Nat → FieldType) (hty : ∀ k, k < N → parseFieldDescriptor (T k).2.2.1 = some (ty0 k)) (hnm : ∀ a, a < N → ∀ b, b < N → a ≠ b → (T a).2.1 ≠ (T b).2.1) (hown : s.vm.findClass own = some m.cls) (hK : va_K D zx_clL (zx_tys cA) s) (hc : zx_clL[ci]? = some (C, T, N)) (k : Nat) (hk : k < N) (hlink : (Cond.fieldLink own index (T k).1 (T k).2.1 (T k).2.2.1).before args s = true) (hfin : (T k).2.2.2 = false) {fit : Nat} (ht : zx_takes fit (ty0 k)) {σ τ : zx_S} (hdg : decode cc σ.1 = .ok (.putfield index, 3)) (h : zx_pf ci k fit σ = some τ) (K : zx_Ok p l e R s m args below meth c Q D cA A b nL ad0 m0 τ) : zx_Ok p l e R s m args below meth c Q D cA A b nL ad0 m0 σ := by
  obtain ⟨pc, L, v, q, st, w, mc, ms, fs, rfl, hq, hkl, hf, rfl⟩ := zx_pf_inv h
  intro ad H locs ls h3 h5 hP hD hS hl
  have he : (zx_cW ad b cA w)[q]? = some (ad q, .inr (ci, fs.map (zx_cv ad b))) := by rw [zx_cW_at, hq]; rfl
  have hv := zx_fit_ok (ad := ad) (b := b) ht hf
  exact va_put hx hb hts hin ty0 hty hnm hown hK hP hD hS q he hc k hk hlink (fun _ h => h) hfin (hty k hk) hv.1 hv.2 (by rw [List.length_map]; exact hkl) hdg (fun H1 locs1 hP1 hD1 hS1 => zx_put_ok K h3 h5 hP1 hD1 hS1 hl)
theorem zx_s_pfN (hx : p.tables.exec = Jvm.exec) (hb : c.code = cc) {own C host : String} {T : u_T} {N ci index : Nat} {Ts : List Cond} (hts : ∀ w ∈ Ts, w.before args s = true) (hin : ∀ w ∈ u_ws C T N, w ∈ Ts) (ty0 : Nat → FieldType) (hty : ∀ k, k < N → parseFieldDescriptor (T k).2.2.1 = some (ty0 k)) (hnm : ∀ a, a < N → ∀ b, b < N → a ≠ b → (T a).2.1 ≠ (T b).2.1) (hown : s.vm.findClass own = some m.cls) (hK : va_K D zx_clL (zx_tys cA) s) (hc : zx_clL[ci]? = some (C, T, N)) (k : Nat) (hk : k < N) (hlink : (Cond.fieldLinkNest own index (T k).1 (T k).2.1 (T k).2.2.1 host).before args s = true) (hfin : (T k).2.2.2 = false) {fit : Nat} (ht : zx_takes fit (ty0 k)) {σ τ : zx_S} (hdg : decode cc σ.1 = .ok (.putfield index, 3)) (h : zx_pf ci k fit σ = some τ) (K : zx_Ok p l e R s m args below meth c Q D cA A b nL ad0 m0 τ) : zx_Ok p l e R s m args below meth c Q D cA A b nL ad0 m0 σ := by
  obtain ⟨pc, L, v, q, st, w, mc, ms, fs, rfl, hq, hkl, hf, rfl⟩ := zx_pf_inv h
  intro ad H locs ls h3 h5 hP hD hS hl
  have he : (zx_cW ad b cA w)[q]? = some (ad q, .inr (ci, fs.map (zx_cv ad b))) := by rw [zx_cW_at, hq]; rfl
  have hv := zx_fit_ok (ad := ad) (b := b) ht hf
  exact va_putN hx hb hts hin ty0 hty hnm hown hK hP hD hS q he hc k hk hlink (fun _ h => h) hfin (hty k hk) hv.1 hv.2 (by rw [List.length_map]; exact hkl) hdg (fun H1 locs1 hP1 hD1 hS1 => zx_put_ok K h3 h5 hP1 hD1 hS1 hl)
theorem zx_s_pfF (hx : p.tables.exec = Jvm.exec) (hb : c.code = cc) {own C : String} {T : u_T} {N ci index : Nat} {Ts : List Cond} (hts : ∀ w ∈ Ts, w.before args s = true) (hin : ∀ w ∈ u_ws C T N, w ∈ Ts) (ty0 : Nat → FieldType) (hty : ∀ k, k < N → parseFieldDescriptor (T k).2.2.1 = some (ty0 k)) (hnm : ∀ a, a < N → ∀ b, b < N → a ≠ b → (T a).2.1 ≠ (T b).2.1) (hown : s.vm.findClass own = some m.cls) (hK : va_K D zx_clL (zx_tys cA) s) (hc : zx_clL[ci]? = some (C, T, N)) (k : Nat) (hk : k < N) (hlink : (Cond.fieldLink own index (T k).1 (T k).2.1 (T k).2.2.1).before args s = true) (hfin : (T k).2.2.2 = true) (hin2 : meth.name = "<init>") (hdecl : (T k).1 = own) {fit : Nat} (ht : zx_takes fit (ty0 k)) {σ τ : zx_S} (hdg : decode cc σ.1 = .ok (.putfield index, 3)) (h : zx_pf ci k fit σ = some τ) (K : zx_Ok p l e R s m args below meth c Q D cA A b nL ad0 m0 τ) : zx_Ok p l e R s m args below meth c Q D cA A b nL ad0 m0 σ := by
  obtain ⟨pc, L, v, q, st, w, mc, ms, fs, rfl, hq, hkl, hf, rfl⟩ := zx_pf_inv h
  intro ad H locs ls h3 h5 hP hD hS hl
  have he : (zx_cW ad b cA w)[q]? = some (ad q, .inr (ci, fs.map (zx_cv ad b))) := by rw [zx_cW_at, hq]; rfl
  have hv := zx_fit_ok (ad := ad) (b := b) ht hf
  exact va_putF hx hb hts hin ty0 hty hnm hown hK hP hD hS q he hc k hk hlink (fun _ h => h) hfin hin2 hdecl (hty k hk) hv.1 hv.2 (by rw [List.length_map]; exact hkl) hdg (fun H1 locs1 hP1 hD1 hS1 => zx_put_ok K h3 h5 hP1 hD1 hS1 hl)
/-- a new cell: its address is q -/
theorem zx_newcell {pc mc ms : Nat} {L : List (Nat × zx_V)} {st : List zx_V} {w : List zx_E} {x : zx_E} {xe : va_E} (hlim : zx_limS w.length L st w = true) (K : zx_Ok p l e R s m args below meth c Q D cA A b nL ad0 m0 (pc, L, (.inr (.inr (.inl w.length))) :: st, w ++ [x], mc, ms))
    {ad : Nat → Nat} {H : Heap} {locs : List Loc} {ls : Array Slot} (q : Nat) (hxe : ∀ ad' : Nat → Nat, zx_cE ad' b cA x = xe) (h3 : ∀ k, k < m0 → ad k = ad0 k) (h5 : m0 ≤ w.length)
    (hP : va_P D zx_clL (zx_cW ad b cA w ++ [(q, xe)]) H) (hD : va_D A (zx_cW ad b cA w ++ [(q, xe)])) (hS : va_S A s.heap H locs) (hl : lv_has ls nL (zx_cL ad b L)) : W p l e R s m args below meth c H locs mc ms Q (F0 m pc ls (.ref q :: st.map (zx_cv ad b))) := by
  simp only [zx_limS, Bool.and_eq_true] at hlim
  obtain ⟨g1, g2, g3⟩ := hlim
  let ad' : Nat → Nat := fun j => if j = w.length then q else ad j
  have ha : ∀ k, k < w.length → ad k = ad' k := fun k hk => (if_neg (Nat.ne_of_lt hk)).symm
  have hq : ad' w.length = q := if_pos rfl
  rw [zx_cW_lim ha (Nat.le_refl _) g3, ← hxe ad', ← hq, ← zx_cW_app] at hP hD
  rw [zx_cL_lim ha g1] at hl
  rw [zx_cS_lim ha g2]
  have k := K ad' H locs ls (fun k hk => by rw [← ha k (by omega)]; exact h3 k hk) (by show m0 ≤ (w ++ [x]).length; rw [List.length_append]; omega) hP hD hS hl
  have e : ((.inr (.inr (.inl w.length))) :: st).map (zx_cv ad' b) = .ref q :: st.map (zx_cv ad' b) := by
    show Value.ref (ad' w.length) :: _ = _
    rw [hq]
  rw [← e]
  exact k
end zxHeap
