/-! calls: the contract that the executor gives of a method, and its use -/
def sx_QC (D : va_G) (cA : Nat → ClassId) (b : Nat) (Ls : List sx_L) (ρ : Nat → Int32) (ad : Nat → Nat) (n0 m0 : Nat) (A : Nat → Prop) : Array Value → State → Outcome → State → Prop := fun _ st oc t => (∃ L ∈ Ls, ∃ (ρ' : Nat → Int32) (ad' : Nat → Nat), oc = .returned (L.1.map (sx_cv ρ' ad' b)) ∧ sx_ivOk ρ' L.2.2 ∧ (∀ k, k < n0 → ρ' k = ρ k) ∧ (∀ k, k < m0 → ad' k = ad k) ∧ n0 ≤ L.2.2.length ∧ m0 ≤ L.2.1.length ∧ va_P D sx_clL (sx_cW ρ' ad' b cA L.2.1) t.heap ∧ va_D A (sx_cW ρ' ad' b cA L.2.1)) ∧ va_F A st t
def sx_PC (D : va_G) (cA : Nat → ClassId) (b : Nat) (ρ : Nat → Int32) (ad : Nat → Nat) (w : List sx_E) (sz : Nat) : State → Prop := fun U => U.heap.size = sz ∧ va_P D sx_clL (sx_cW ρ ad b cA w) U.heap ∧ va_K D sx_clL (sx_tys cA) U ∧ va_D (fun _ => True) (sx_cW ρ ad b cA w) ∧ sx_Nest U ∧ va_AO "TwoInOne$State" U
noncomputable def sx_rm (d y : Nat) : Room := { frames := d, cells := (sx_caps y).1, slots := (sx_caps y).2, locals := 64 * d }
/-- K's leaves are true of the methods, in d frames -/
def sx_KOk (l : Launch) (K : sx_K) (d : Nat) : Prop := ∀ (y : Nat) (av : List sx_V) (w : List sx_E) (iv : sx_Iv) (Ls : List sx_L), K y av w iv = some Ls → y < 158 ∧ sx_rok w (sx_rc y) av = true ∧ (av.length ≤ (sx_rec y).2.2.1 → ∀ (D : va_G) (cA : Nat → ClassId) (b : Nat) (ρ : Nat → Int32) (ad : Nat → Nat) (sz : Nat), sx_ivOk ρ iv →
  Met l (sx_rec y).1 (sx_ws y) (sx_rm d y) (va_Pc (av.map (sx_cv ρ ad b)) (sx_PC D cA b ρ ad w sz)) (sx_QC D cA b Ls ρ ad iv.length w.length (va_A (sx_cW ρ ad b cA w) sz)) (sx_caps y).1 (sx_caps y).2 (va_A (sx_cW ρ ad b cA w) sz))
theorem sx_PC.calling {D : va_G} {cA : Nat → ClassId} {b : Nat} {ρ : Nat → Int32} {ad : Nat → Nat} {w : List sx_E} {sz : Nat} {av : List Value} : FrameBlind (va_Pc av (sx_PC D cA b ρ ad w sz)) := by
  intro a U g mk q
  obtain ⟨q0, q1, qP, qK, qD, qN, qO⟩ := q
  exact ⟨q0, q1, qP, va_K.moved (u := U) (U := U.calling g mk a) (Vm.Alike.refl U.vm) qK, qD, sx_Nest.same (s := U) (U := U.calling g mk a) rfl qN, va_AO.moved (u := U) (U := U.calling g mk a) (Vm.Alike.refl U.vm) qO⟩
theorem sx_PC.warm {D : va_G} {cA : Nat → ClassId} {b : Nat} {ρ : Nat → Int32} {ad : Nat → Nat} {w : List sx_E} {s : State} {H : Heap} {A : Nat → Prop} (hP : va_P D sx_clL (sx_cW ρ ad b cA w) H) (hK : va_K D sx_clL (sx_tys cA) s) (hD : va_D A (sx_cW ρ ad b cA w)) (hN : sx_Nest s) (hO : va_AO "TwoInOne$State" s) (av : List Value) : ∀ U : State, U.heap = H → s.WarmedH U.vm → va_Pc av (sx_PC D cA b ρ ad w H.size) av.toArray U :=
  fun U hU hW => ⟨rfl, by rw [hU], by rw [hU]; exact hP, va_K.moved hW.alike hK, hD.weaken (fun _ _ _ _ => trivial), hN.warm hW, hO.moved hW.alike⟩
theorem sx_take_ok : ∀ {n : Nat} {acc st av st' : List sx_V}, sx_take n acc st = some (av, st') → ∃ l, av = l ++ acc ∧ st = l.reverse ++ st' ∧ l.length = n
  | 0, acc, st, av, st', h => by
    simp only [sx_take] at h
    cases h
    exact ⟨[], rfl, rfl, rfl⟩
  | n + 1, acc, v :: st, av, st', h => by
    simp only [sx_take] at h
    obtain ⟨l, h1, h2, h3⟩ := sx_take_ok h
    refine ⟨l ++ [v], ?_, ?_, ?_⟩
    · rw [h1, List.append_assoc]; rfl
    · rw [h2, List.reverse_append]; rfl
    · rw [List.length_append, h3]; rfl
  | n + 1, acc, [], av, st', h => by
    simp only [sx_take] at h
    cases h
theorem sx_bind_mem {α β : Type} {f : α → Option (List β)} : ∀ {l : List α} {m : List β}, sx_bind f l = some m → ∀ a ∈ l, ∃ r, f a = some r ∧ ∀ x ∈ r, x ∈ m
  | [], _, _, a, ha => absurd ha List.not_mem_nil
  | [b], m, h, a, ha => by
    simp only [sx_bind] at h
    rw [List.mem_singleton.mp ha]
    exact ⟨m, h, fun _ hx => hx⟩
  | b :: b2 :: l, m, h, a, ha => by
    unfold sx_bind at h
    simp only at h
    split at h
    next => cases h
    next r hr =>
      split at h
      next => cases h
      next m2 hm =>
        cases h
        rcases List.mem_cons.mp ha with e | e
        · rw [e]
          exact ⟨r, hr, fun x hx => List.mem_append_left _ hx⟩
        · obtain ⟨r2, g1, g2⟩ := sx_bind_mem hm a e
          exact ⟨r2, g1, fun x hx => List.mem_append_right _ (g2 x hx)⟩
theorem sx_sum8 {ρ : Nat → Int32} {ad : Nat → Nat} {b : Nat} {st : List sx_V} (z : st.length ≤ 4) : ((st.map (sx_cv ρ ad b)).map fun v => v.category).sum ≤ 8 := by
  have hsum : ∀ l : List Value, (l.map fun v => v.category).sum ≤ 2 * l.length := by
    intro l
    induction l with
    | nil => exact Nat.le_refl _
    | cons v l ih =>
      rw [List.map_cons, List.sum_cons, List.length_cons]
      rcases lv_cat v with e | e <;> rw [e] <;> omega
  have h8 := hsum (st.map (sx_cv ρ ad b))
  rw [List.length_map] at h8
  omega
section sxCall
variable {p : Program} {l : Launch} {e : Env} {R : Room} {s : State} {m : MethodId} {args : Array Value} {below : List Frame} {meth : Method} {c : Code} {Q : State → Prop} {D : va_G} {cA : Nat → ClassId} {A : Nat → Prop} {b nL : Nat} {ρ0 : Nat → Int32} {ad0 : Nat → Nat} {n0 m0 : Nat} {cc : ByteArray}
theorem sx_callG {H : Heap} {locs : List Loc} {cells slots mc ms pc : Nat} {ls : Array Slot} {st0 rest : List Value} {Qa : State → Outcome → State → Prop} {free : Addr → Prop} (hr : va_Run p l e R s m args below meth c H locs cells slots mc ms (F0 m pc ls st0) rest Qa free)
    (kk : ∀ (v : Option Value) (st₀ t : State) (L : List Loc), st₀.heap = H → Qa st₀ (.returned v) t → (∀ q ∈ L, free q.base) → W p l e R s m args below meth c t.heap (locs ++ L) (cells + mc) (slots + ms) Q (F0 m (pc + 3) ls (v.toList ++ rest))) : W p l e R s m args below meth c H locs cells slots Q (F0 m pc ls st0) := by
  intro T hT X
  obtain ⟨v, st₀, t, T', L, h0, X', hL, e1, e2, hq, st⟩ := hr T hT X
  obtain ⟨t2, a1, b1⟩ := kk v st₀ t L h0 hq hL T' e1 X'
  exact ⟨t2, st t2 a1, b1⟩
/-- what a method's body knows -/
def sx_Cx (p : Program) (s : State) (m : MethodId) (args : Array Value) (c : Code) (D : va_G) (cA : Nat → ClassId) (own : String) (cc : ByteArray) (nL : Nat) : Prop :=
  p.tables.exec = Jvm.exec ∧ c.code = cc ∧ c.maxLocals = nL ∧ s.vm.findClass own = some m.cls ∧ (∀ w ∈ sx_TS, w.before args s = true) ∧ sx_Nest s ∧ va_AO "TwoInOne$State" s ∧ va_K D sx_clL (sx_tys cA) s
/-- how method y is called: by which instruction, its link, its values -/
def sx_Lk (s : State) (args : Array Value) (own : String) (y n : Nat) (I : Instr) : Prop :=
  (∃ i, I = .invokevirtual i ∧ (Cond.methodLink own i (sx_rec y).1).before args s = true ∧ (∃ ci, sx_rc y = ci + 1) ∧ (sx_rec y).1.name ≠ "<init>" ∧ (parseMethodDescriptor (sx_rec y).1.desc).map (fun d => d.parameters.length) = some (n - 1)) ∨
  (∃ i, I = .invokespecial i ∧ (Cond.methodLink own i (sx_rec y).1).before args s = true ∧ (∃ ci, sx_rc y = ci + 1) ∧ (sx_rec y).1.name = "<init>" ∧ (sx_rec y).2.2.2 = none ∧ (parseMethodDescriptor (sx_rec y).1.desc).map (fun d => d.parameters.length) = some (n - 1)) ∨
  (∃ i host, I = .invokespecial i ∧ va_Nw (.methodLinkNest own i (sx_rec y).1 host) s ∧ (∃ ci, sx_rc y = ci + 1) ∧ (sx_rec y).1.name = "<init>" ∧ (sx_rec y).2.2.2 = none ∧ (parseMethodDescriptor (sx_rec y).1.desc).map (fun d => d.parameters.length) = some (n - 1)) ∨
  (∃ i, I = .invokestatic i ∧ (Cond.methodLink own i (sx_rec y).1).before args s = true ∧ sx_rc y = 0 ∧ (parseMethodDescriptor (sx_rec y).1.desc).map (fun d => d.parameters.length) = some n)
theorem sx_rok_inv {w : List sx_E} {ci : Nat} {av : List sx_V} (h : sx_rok w (ci + 1) av = true) : ∃ q t fs, av = (.inr (.inr (.inl q))) :: t ∧ w[q]? = some (.inl (ci, fs)) := by
  unfold sx_rok at h
  simp only at h
  split at h
  next q t =>
    split at h
    next c' fs hq =>
      rw [sx_nth_eq] at hq
      rw [Nat.eq_of_beq_eq_true h] at hq
      exact ⟨q, t, fs, rfl, hq⟩
    next => cases h
  next => cases h
theorem sx_runC {own : String} (C : sx_Cx p s m args c D cA own cc nL) {d y n : Nat} {I : Instr} (hL : sx_Lk s args own y n I) (hfr : d + 1 ≤ R.frames) (hlo : 64 * (d + 1) ≤ R.locals) {av : List sx_V} {w : List sx_E} {iv : sx_Iv} {Ls : List sx_L} (hy : y < 158) (hrok : sx_rok w (sx_rc y) av = true) (hn : av.length = n) {ρ : Nat → Int32} {ad : Nat → Nat} {H : Heap} {locs : List Loc} {mc ms pc : Nat} {ls : Array Slot} {st : List sx_V}
    (hM : Met l (sx_rec y).1 (sx_ws y) (sx_rm d y) (va_Pc (av.map (sx_cv ρ ad b)) (sx_PC D cA b ρ ad w H.size)) (sx_QC D cA b Ls ρ ad iv.length w.length (va_A (sx_cW ρ ad b cA w) H.size)) (sx_caps y).1 (sx_caps y).2 (va_A (sx_cW ρ ad b cA w) H.size))
    (hP : va_P D sx_clL (sx_cW ρ ad b cA w) H) (hD : va_D A (sx_cW ρ ad b cA w)) (hls : ls.size = nL) (hst : st.length ≤ 4) (hc : mc + (sx_caps y).1 ≤ R.cells) (hs : ms + (sx_caps y).2 ≤ R.slots) (hdg : decode cc pc = .ok (I, 3)) :
    va_Run p l e R s m args below meth c H locs mc ms (sx_caps y).1 (sx_caps y).2 (F0 m pc ls ((av.reverse ++ st).map (sx_cv ρ ad b))) (st.map (sx_cv ρ ad b)) (sx_QC D cA b Ls ρ ad iv.length w.length (va_A (sx_cW ρ ad b cA w) H.size) (av.map (sx_cv ρ ad b)).toArray) (va_A (sx_cW ρ ad b cA w) H.size) := by
  obtain ⟨hx, hb, hml, hown, hts, hN, hO, hK⟩ := C
  obtain ⟨m1, m2, m3, m4, m5, m6, m7, m8⟩ := sx_mok hy
  have hG : GoodIn sx_TS (sx_ws y) := fun w h => by
    rcases List.mem_cons.mp h with e | e
    · rw [e]; exact sx_goodTS _ m4
    · exact sx_goodTS _ e
  have hR : (sx_rm d y).frames + 1 ≤ R.frames ∧ 8 + ((sx_rec y).2.2.1 + 11) + (sx_rm d y).locals ≤ R.locals := ⟨hfr, by show 8 + ((sx_rec y).2.2.1 + 11) + 64 * d ≤ R.locals; omega⟩
  have hcell : mc + (sx_caps y).1 ≤ R.cells ∧ ms + (sx_caps y).2 ≤ R.slots := ⟨hc, hs⟩
  have h8 : 2 * (F0 m pc ls ((av.reverse ++ st).map (sx_cv ρ ad b))).monitorRoom + ((st.map (sx_cv ρ ad b)).map fun v => v.category).sum ≤ 8 := lv_room (sx_sum8 hst)
  rcases hL with ⟨i, rfl, hl, ⟨ci, hrc⟩, hni, hpd⟩ | ⟨i, rfl, hl, ⟨ci, hrc⟩, hni, hrn, hpd⟩ | ⟨i, host, rfl, hl, ⟨ci, hrc⟩, hni, hrn, hpd⟩ | ⟨i, rfl, hl, hrc, hpd⟩
  · rw [hrc] at hrok
    obtain ⟨q, t, fs, rfl, hq⟩ := sx_rok_inv hrok
    obtain ⟨k1, k2, k3⟩ := m8 ci hrc
    have k3 := k3.resolve_left hni
    cases hcl : sx_clL[ci]? with
    | none => rw [hcl] at k2; cases k2
    | some qq =>
      rw [hcl] at k2
      have e2 : qq.1 = (sx_rec y).1.cls := Option.some.inj k2
      have he : (sx_cW ρ ad b cA w)[q]? = some (ad q, .inr (ci, fs.map (sx_cv ρ ad b))) := by rw [sx_cW_at, hq]; rfl
      have hrecv := va_recv hK hP hcl he
      rw [e2] at hrecv
      have hstk : (F0 m pc ls ((((.inr (.inr (.inl q))) :: t).reverse ++ st).map (sx_cv ρ ad b))).stack = (t.map (sx_cv ρ ad b)).reverse ++ .ref (ad q) :: st.map (sx_cv ρ ad b) := by
        show (((.inr (.inr (.inl q))) :: t).reverse ++ st).map (sx_cv ρ ad b) = _
        rw [List.reverse_cons, List.append_assoc, List.map_append, List.map_reverse]
        rfl
      exact va_runV (As := t.map (sx_cv ρ ad b)) (b := ad q) ⟨hx, hb, hml, hown, hts⟩ hM ⟨callB_of (n - 1) hts hG rfl rfl rfl (hts _ m5) hl ⟨m2, m3, hpd⟩ hR, hts _ k1, hts _ k3⟩ ⟨sx_PC.calling, hrecv, sx_PC.warm hP hK hD hN hO _⟩ rfl (by rw [List.length_map, ← hn]; rfl) hls hstk h8 hdg hcell
  · rw [hrc] at hrok
    obtain ⟨q, t, fs, rfl, hq⟩ := sx_rok_inv hrok
    obtain ⟨k1, k2, k3⟩ := m8 ci hrc
    have hstk : (F0 m pc ls ((((.inr (.inr (.inl q))) :: t).reverse ++ st).map (sx_cv ρ ad b))).stack = (t.map (sx_cv ρ ad b)).reverse ++ .ref (ad q) :: st.map (sx_cv ρ ad b) := by
      show (((.inr (.inr (.inl q))) :: t).reverse ++ st).map (sx_cv ρ ad b) = _
      rw [List.reverse_cons, List.append_assoc, List.map_append, List.map_reverse]
      rfl
    have hw : sx_ws y = Cond.code (sx_rec y).1 (sx_rec y).2.1 (sx_rec y).2.2.1 none :: sx_TS := by rw [← hrn]; rfl
    exact va_runI (As := t.map (sx_cv ρ ad b)) (b := ad q) ⟨hx, hb, hml, hown, hts⟩ hM ⟨callB_of (n - 1) hts hG hw rfl rfl (hts _ m5) hl ⟨m2, m3, hpd⟩ hR, hni, hts _ k1⟩ ⟨sx_PC.calling, sx_PC.warm hP hK hD hN hO _⟩ rfl (by rw [List.length_map, ← hn]; rfl) hls hstk h8 hdg hcell
  · rw [hrc] at hrok
    obtain ⟨q, t, fs, rfl, hq⟩ := sx_rok_inv hrok
    obtain ⟨k1, k2, k3⟩ := m8 ci hrc
    have hstk : (F0 m pc ls ((((.inr (.inr (.inl q))) :: t).reverse ++ st).map (sx_cv ρ ad b))).stack = (t.map (sx_cv ρ ad b)).reverse ++ .ref (ad q) :: st.map (sx_cv ρ ad b) := by
      show (((.inr (.inr (.inl q))) :: t).reverse ++ st).map (sx_cv ρ ad b) = _
      rw [List.reverse_cons, List.append_assoc, List.map_append, List.map_reverse]
      rfl
    have hw : sx_ws y = Cond.code (sx_rec y).1 (sx_rec y).2.1 (sx_rec y).2.2.1 none :: sx_TS := by rw [← hrn]; rfl
    exact va_runIN (As := t.map (sx_cv ρ ad b)) (b := ad q) ⟨hx, hb, hml, hown, hts⟩ hM ⟨va_cnB (n - 1) hts hG hw rfl rfl hl (hts _ m5) ⟨m2, m3, hpd⟩ hR, hni, hts _ k1⟩ ⟨sx_PC.calling, sx_PC.warm hP hK hD hN hO _⟩ rfl (by rw [List.length_map, ← hn]; rfl) hls hstk h8 hdg hcell
  · have hstk : (F0 m pc ls ((av.reverse ++ st).map (sx_cv ρ ad b))).stack = (av.map (sx_cv ρ ad b)).reverse ++ st.map (sx_cv ρ ad b) := by
      show (av.reverse ++ st).map (sx_cv ρ ad b) = _
      rw [List.map_append, List.map_reverse]
    exact va_runS (As := av.map (sx_cv ρ ad b)) ⟨hx, hb, hml, hown, hts⟩ hM ⟨callB_of n hts hG rfl rfl rfl (hts _ m5) hl ⟨m2, m3, hpd⟩ hR, hts _ (m7 hrc)⟩ ⟨sx_PC.calling, sx_PC.warm hP hK hD hN hO _⟩ rfl (by rw [List.length_map, hn]) hls hstk h8 hdg hcell
theorem sx_s_call {own : String} (C : sx_Cx p s m args c D cA own cc nL) (hA : ∀ q, s.heap.size ≤ q → A q) {K : sx_K} {d y n : Nat} {I : Instr} (hKK : sx_KOk l K d) (hL : sx_Lk s args own y n I) (hnl : n ≤ (sx_rec y).2.2.1) (hfr : d + 1 ≤ R.frames) (hlo : 64 * (d + 1) ≤ R.locals) {cap : Nat × Nat} (hR : cap.1 ≤ R.cells ∧ cap.2 ≤ R.slots) {f : sx_S → sx_N} {σ : sx_S} {ss : List sx_S}
    (hf : ∀ (τ : sx_S) (r : List sx_S), f τ = some r → (∀ x ∈ r, x ∈ ss) → sx_Ok p l e R s m args below meth c Q D cA A b nL ρ0 ad0 n0 m0 τ) (hdg : decode cc σ.1 = .ok (I, 3)) (h : sx_call K sx_caps cap f σ y n = some ss) : sx_Ok p l e R s m args below meth c Q D cA A b nL ρ0 ad0 n0 m0 σ := by
  obtain ⟨pc, L, st0, w, iv, mc, ms⟩ := σ
  unfold sx_call at h
  simp only at h
  split at h
  next av st ht =>
    split at h
    next hz =>
      split at h
      next Ls hLs =>
        simp only [Bool.and_eq_true] at hz
        obtain ⟨⟨⟨⟨z1, z2⟩, z3⟩, z4⟩, z5⟩ := hz
        have z1 := Nat.le_of_ble_eq_true z1
        have z4 := Nat.le_of_ble_eq_true z4
        have z5 := Nat.le_of_ble_eq_true z5
        obtain ⟨ll, e1, e2, e3⟩ := sx_take_ok ht
        rw [List.append_nil] at e1
        subst e1
        obtain ⟨hy, hrok, hMM⟩ := hKK y av w iv Ls hLs
        have hnext : ∀ L2 ∈ Ls, sx_Ok p l e R s m args below meth c Q D cA A b nL ρ0 ad0 n0 m0 (pc + 3, L, L2.1.toList ++ st, L2.2.1, L2.2.2, mc + (sx_caps y).1, ms + (sx_caps y).2) := by
          intro L2 hL2
          obtain ⟨r, g1, g2⟩ := sx_bind_mem h L2 hL2
          obtain ⟨v, w2, iv2⟩ := L2
          cases v with
          | none => exact hf _ r g1 g2
          | some v => exact hf _ r g1 g2
        intro ρ ad H locs ls h1 h2 h3 h4 h5 hP hD hS hl
        have hM := hMM (by omega) D cA b ρ ad H.size h1
        have hrun := sx_runC (p := p) (e := e) (below := below) (meth := meth) (A := A) (locs := locs) (mc := mc) (ms := ms) (pc := pc) (ls := ls) (st := st) C hL hfr hlo hy hrok e3 hM hP hD hl.1 z1 (by omega) (by omega) hdg
        rw [← e2] at hrun
        refine sx_callG hrun (fun v st₀ t Lc h0 hq hLc => ?_)
        obtain ⟨⟨L2, hL2, ρ', ad', hv, g1, g2, g3, g4, g5, g6, g7⟩, hz1, hk1⟩ := hq
        cases hv
        have hFree : ∀ q, va_A (sx_cW ρ ad b cA w) H.size q → A q := by
          intro q hq
          rcases hq with ⟨k, e, hk⟩ | hq
          · exact hD.2 k (q, e) hk
          · exact hA q (Nat.le_trans hS.1 hq)
        have hρ : ∀ k, k < iv.length → ρ k = ρ' k := fun k hk => (g2 k hk).symm
        have ha : ∀ k, k < w.length → ad k = ad' k := fun k hk => (g3 k hk).symm
        have kk := hnext L2 hL2 ρ' ad' t.heap (locs ++ Lc) ls g1 (fun k hk => (g2 k (Nat.lt_of_lt_of_le hk h4)).trans (h2 k hk)) (fun k hk => (g3 k (Nat.lt_of_lt_of_le hk h5)).trans (h3 k hk)) (Nat.le_trans h4 g4) (Nat.le_trans h5 g5) g6 (g7.weaken (fun _ q _ hq => hFree q.1 hq))
          ⟨Nat.le_trans hS.1 (by rw [← h0]; exact hz1), fun q q1 q2 => by
            rw [h0] at hk1
            rw [hk1 q (Nat.lt_of_lt_of_le q1 hS.1) (fun z => q2 (hFree q z))]
            exact hS.2.1 q q1 q2, fun q hq => by
            rcases List.mem_append.mp hq with z | z
            · exact hS.2.2 q z
            · exact hFree _ (hLc q z)⟩ (by rw [← sx_cL_lim hρ ha z2]; exact hl)
        have e4 : (L2.1.toList ++ st).map (sx_cv ρ' ad' b) = (L2.1.map (sx_cv ρ' ad' b)).toList ++ st.map (sx_cv ρ ad b) := by
          rw [List.map_append, ← sx_cS_lim hρ ha z3]
          cases L2.1 <;> rfl
        rw [← e4]
        exact kk
      next => cases h
    next => cases h
  next => cases h
end sxCall
