/-! calls: the contract that the exact machine gives of a method, and its use -/
def zx_QC (D : va_G) (cA : Nat → ClassId) (b : Nat) (r : zx_R) (ad : Nat → Nat) (m0 : Nat) (A : Nat → Prop) : Array Value → State → Outcome → State → Prop := fun _ st oc t => (∃ ad' : Nat → Nat, oc = .returned (r.1.map (zx_cv ad' b)) ∧ (∀ k, k < m0 → ad' k = ad k) ∧ m0 ≤ r.2.length ∧ va_P D zx_clL (zx_cW ad' b cA r.2) t.heap ∧ va_D A (zx_cW ad' b cA r.2)) ∧ va_F A st t
def zx_PC (D : va_G) (cA : Nat → ClassId) (b : Nat) (ad : Nat → Nat) (w : List zx_E) (sz : Nat) : State → Prop := fun U => U.heap.size = sz ∧ va_P D zx_clL (zx_cW ad b cA w) U.heap ∧ va_K D zx_clL (zx_tys cA) U ∧ va_D (fun _ => True) (zx_cW ad b cA w) ∧ zx_Nest U ∧ va_AO "TwoInOne$State" U ∧ zx_St (va_A (zx_cW ad b cA w) sz) U U.heap
def zx_rm (d : Nat) (cap : Nat × Nat) : Room := { frames := d + 6, cells := cap.1, slots := cap.2, locals := 64 * (d + 6) }
/-- K's ends are true of the methods, in d frames -/
def zx_KOk (l : Launch) (K : zx_K) (d : Nat) : Prop := ∀ (y : Nat) (av : List zx_V) (w : List zx_E) (cap : Nat × Nat) (r : zx_R), K y av w cap r → y < 354 ∧ zx_rok w (zx_rc y) av ∧ (∀ (D : va_G) (cA : Nat → ClassId) (b : Nat) (ad : Nat → Nat) (sz : Nat),
  Met l (zx_rec y).1 (zx_ws y) (zx_rm d cap) (va_Pc (av.map (zx_cv ad b)) (zx_PC D cA b ad w sz)) (zx_QC D cA b r ad w.length (va_A (zx_cW ad b cA w) sz)) cap.1 cap.2 (va_A (zx_cW ad b cA w) sz))
theorem zx_PC.calling {D : va_G} {cA : Nat → ClassId} {b : Nat} {ad : Nat → Nat} {w : List zx_E} {sz : Nat} {av : List Value} : FrameBlind (va_Pc av (zx_PC D cA b ad w sz)) := by
  intro a U g mk q
  obtain ⟨q0, q1, qP, qK, qD, qN, qO, qS⟩ := q
  exact ⟨q0, q1, qP, va_K.moved (u := U) (U := U.calling g mk a) (Vm.Alike.refl U.vm) qK, qD, zx_Nest.same (s := U) (U := U.calling g mk a) rfl qN, va_AO.moved (u := U) (U := U.calling g mk a) (Vm.Alike.refl U.vm) qO, zx_St.same (u := U) (U := U.calling g mk a) rfl qS⟩
theorem zx_PC.warm {D : va_G} {cA : Nat → ClassId} {b : Nat} {ad : Nat → Nat} {w : List zx_E} {s : State} {H : Heap} {A : Nat → Prop} (hP : va_P D zx_clL (zx_cW ad b cA w) H) (hK : va_K D zx_clL (zx_tys cA) s) (hD : va_D A (zx_cW ad b cA w)) (hN : zx_Nest s) (hO : va_AO "TwoInOne$State" s) (hSt : zx_St (va_A (zx_cW ad b cA w) H.size) s H) (av : List Value) : ∀ U : State, U.heap = H → s.WarmedH U.vm → va_Pc av (zx_PC D cA b ad w H.size) av.toArray U :=
  fun U hU hW => ⟨rfl, by rw [hU], by rw [hU]; exact hP, va_K.moved hW.alike hK, hD.weaken (fun _ _ _ _ => trivial), hN.warm hW, hO.moved hW.alike, by rw [hU]; exact hSt.warm hW⟩
theorem zx_words_sum {ad : Nat → Nat} {b : Nat} : ∀ (st : List zx_V), ((st.map (zx_cv ad b)).map fun v => v.category).sum = zx_words st
  | [] => rfl
  | v :: st => by
    rw [List.map_cons, List.map_cons, List.sum_cons, zx_words_sum st, zx_words]
    congr 1
    cases hc : zx_cat v with
    | false => exact zx_cat1 hc
    | true =>
      have h := zx_cat_eq (ad := ad) (b := b) v
      rw [hc] at h
      exact of_decide_eq_true h
theorem zx_take_ok : ∀ {n : Nat} {acc st av st' : List zx_V}, zx_take n acc st = some (av, st') → ∃ l, av = l ++ acc ∧ st = l.reverse ++ st' ∧ l.length = n
  | 0, acc, st, av, st', h => by
    simp only [zx_take] at h
    cases h
    exact ⟨[], rfl, rfl, rfl⟩
  | n + 1, acc, v :: st, av, st', h => by
    simp only [zx_take] at h
    obtain ⟨l, h1, h2, h3⟩ := zx_take_ok h
    refine ⟨l ++ [v], ?_, ?_, ?_⟩
    · rw [h1, List.append_assoc]; rfl
    · rw [h2, List.reverse_append]; rfl
    · rw [List.length_append, h3]; rfl
  | n + 1, acc, [], av, st', h => by
    simp only [zx_take] at h
    cases h
section zxCall
variable {p : Program} {l : Launch} {e : Env} {R : Room} {s : State} {m : MethodId} {args : Array Value} {below : List Frame} {meth : Method} {c : Code} {Q : State → Prop} {D : va_G} {cA : Nat → ClassId} {A : Nat → Prop} {b nL : Nat} {ad0 : Nat → Nat} {m0 : Nat} {cc : ByteArray}
theorem zx_callG {H : Heap} {locs : List Loc} {cells slots mc ms pc : Nat} {ls : Array Slot} {st0 rest : List Value} {Qa : State → Outcome → State → Prop} {free : Addr → Prop} (hr : va_Run p l e R s m args below meth c H locs cells slots mc ms (F0 m pc ls st0) rest Qa free)
    (kk : ∀ (v : Option Value) (st₀ t : State) (L : List Loc), st₀.heap = H → Qa st₀ (.returned v) t → (∀ q ∈ L, free q.base) → W p l e R s m args below meth c t.heap (locs ++ L) (cells + mc) (slots + ms) Q (F0 m (pc + 3) ls (v.toList ++ rest))) : W p l e R s m args below meth c H locs cells slots Q (F0 m pc ls st0) := by
  intro T hT X
  obtain ⟨v, st₀, t, T', L, h0, X', hL, e1, e2, hq, st⟩ := hr T hT X
  obtain ⟨t2, a1, b1⟩ := kk v st₀ t L h0 hq hL T' e1 X'
  exact ⟨t2, st t2 a1, b1⟩
/-- what a method's body knows -/
def zx_Cx (p : Program) (s : State) (m : MethodId) (args : Array Value) (c : Code) (D : va_G) (cA : Nat → ClassId) (own : String) (cc : ByteArray) (nL : Nat) (A : Nat → Prop) : Prop :=
  p.tables.exec = Jvm.exec ∧ c.code = cc ∧ c.maxLocals = nL ∧ s.vm.findClass own = some m.cls ∧ (∀ w ∈ zx_TS, w.before args s = true) ∧ zx_Nest s ∧ va_AO "TwoInOne$State" s ∧ va_K D zx_clL (zx_tys cA) s ∧ zx_St A s s.heap
/-- how method y is called: by which instruction, its link (of the nest or not), its values -/
def zx_Lk (s : State) (args : Array Value) (own : String) (y n : Nat) (I : Instr) : Prop :=
  (∃ i, I = .invokevirtual i ∧ ((Cond.methodLink own i (zx_rec y).1).before args s = true ∨ ∃ host, va_Nw (.methodLinkNest own i (zx_rec y).1 host) s) ∧ (∃ ci, zx_rc y = ci + 1) ∧ (zx_rec y).1.name ≠ "<init>" ∧ (parseMethodDescriptor (zx_rec y).1.desc).map (fun d => d.parameters.length) = some (n - 1)) ∨
  (∃ i, I = .invokespecial i ∧ ((Cond.methodLink own i (zx_rec y).1).before args s = true ∨ ∃ host, va_Nw (.methodLinkNest own i (zx_rec y).1 host) s) ∧ (∃ ci, zx_rc y = ci + 1) ∧ (zx_rec y).1.name = "<init>" ∧ (zx_rec y).2.2.2 = none ∧ (parseMethodDescriptor (zx_rec y).1.desc).map (fun d => d.parameters.length) = some (n - 1)) ∨
  (∃ i, I = .invokestatic i ∧ ((Cond.methodLink own i (zx_rec y).1).before args s = true ∨ ∃ host, va_Nw (.methodLinkNest own i (zx_rec y).1 host) s) ∧ zx_rc y = 0 ∧ (parseMethodDescriptor (zx_rec y).1.desc).map (fun d => d.parameters.length) = some n)
theorem zx_runC {own : String} (C : zx_Cx p s m args c D cA own cc nL A) {d y n : Nat} {I : Instr} (hL : zx_Lk s args own y n I) (hfr : d + 7 ≤ R.frames) (hlo : 64 * (d + 7) ≤ R.locals) {av : List zx_V} {w : List zx_E} {cap : Nat × Nat} {r : zx_R} (hy : y < 354) (hrok : zx_rok w (zx_rc y) av) (hn : av.length = n) {ad : Nat → Nat} {H : Heap} {locs : List Loc} {mc ms pc : Nat} {ls : Array Slot} {st : List zx_V}
    (hM : Met l (zx_rec y).1 (zx_ws y) (zx_rm d cap) (va_Pc (av.map (zx_cv ad b)) (zx_PC D cA b ad w H.size)) (zx_QC D cA b r ad w.length (va_A (zx_cW ad b cA w) H.size)) cap.1 cap.2 (va_A (zx_cW ad b cA w) H.size))
    (hP : va_P D zx_clL (zx_cW ad b cA w) H) (hD : va_D A (zx_cW ad b cA w)) (hSt : zx_St (va_A (zx_cW ad b cA w) H.size) s H) (hls : ls.size = nL) (hst : zx_words st ≤ 8) (hc : mc + cap.1 ≤ R.cells) (hs : ms + cap.2 ≤ R.slots) (hdg : decode cc pc = .ok (I, 3)) :
    va_Run p l e R s m args below meth c H locs mc ms cap.1 cap.2 (F0 m pc ls ((av.reverse ++ st).map (zx_cv ad b))) (st.map (zx_cv ad b)) (zx_QC D cA b r ad w.length (va_A (zx_cW ad b cA w) H.size) (av.map (zx_cv ad b)).toArray) (va_A (zx_cW ad b cA w) H.size) := by
  obtain ⟨hx, hb, hml, hown, hts, hN, hO, hK, -⟩ := C
  obtain ⟨m1, m2, m3, m4, m5, m6, m7, m8⟩ := zx_mok hy
  have hG : GoodIn zx_TS (zx_ws y) := fun w h => by
    rcases List.mem_cons.mp h with e | e
    · rw [e]; exact zx_goodTS _ m4
    · exact zx_goodTS _ e
  have hR : (zx_rm d cap).frames + 1 ≤ R.frames ∧ 8 + ((zx_rec y).2.2.1 + 11) + (zx_rm d cap).locals ≤ R.locals := by
    refine ⟨?_, ?_⟩
    · have e : (zx_rm d cap).frames = d + 6 := rfl
      omega
    · have e : (zx_rm d cap).locals = 64 * (d + 6) := rfl
      omega
  have hcell : mc + cap.1 ≤ R.cells ∧ ms + cap.2 ≤ R.slots := ⟨hc, hs⟩
  have h8 : 2 * (F0 m pc ls ((av.reverse ++ st).map (zx_cv ad b))).monitorRoom + ((st.map (zx_cv ad b)).map fun v => v.category).sum ≤ 8 := lv_room (by rw [zx_words_sum]; exact hst)
  rcases hL with ⟨i, rfl, hl, ⟨ci, hrc⟩, hni, hpd⟩ | ⟨i, rfl, hl, ⟨ci, hrc⟩, hni, hrn, hpd⟩ | ⟨i, rfl, hl, hrc, hpd⟩
  · rw [hrc] at hrok
    obtain ⟨q, t, fs, rfl, hq⟩ := hrok
    obtain ⟨k1, k2, k3⟩ := m8 ci hrc
    have k3 := k3.resolve_left hni
    cases hcl : zx_clL[ci]? with
    | none => rw [hcl] at k2; cases k2
    | some qq =>
      rw [hcl] at k2
      have e2 : qq.1 = (zx_rec y).1.cls := Option.some.inj k2
      have he : (zx_cW ad b cA w)[q]? = some (ad q, .inr (ci, fs.map (zx_cv ad b))) := by rw [zx_cW_at, hq]; rfl
      have hrecv := va_recv hK hP hcl he
      rw [e2] at hrecv
      have hstk : (F0 m pc ls ((((.inr (.inr (.inl q))) :: t).reverse ++ st).map (zx_cv ad b))).stack = (t.map (zx_cv ad b)).reverse ++ .ref (ad q) :: st.map (zx_cv ad b) := by
        show (((.inr (.inr (.inl q))) :: t).reverse ++ st).map (zx_cv ad b) = _
        rw [List.reverse_cons, List.append_assoc, List.map_append, List.map_reverse]
        rfl
      rcases hl with hl | ⟨host, hl⟩
      · exact va_runV (As := t.map (zx_cv ad b)) (b := ad q) ⟨hx, hb, hml, hown, hts⟩ hM ⟨callB_of (n - 1) hts hG rfl rfl rfl (hts _ m5) hl ⟨m2, m3, hpd⟩ hR, hts _ k1, hts _ k3⟩ ⟨zx_PC.calling, hrecv, zx_PC.warm hP hK hD hN hO hSt _⟩ rfl (by rw [List.length_map, ← hn]; rfl) hls hstk h8 hdg hcell
      · exact va_runVN (As := t.map (zx_cv ad b)) (b := ad q) ⟨hx, hb, hml, hown, hts⟩ hM ⟨va_cnB (n - 1) hts hG rfl rfl rfl hl (hts _ m5) ⟨m2, m3, hpd⟩ hR, hts _ k1, hts _ k3⟩ ⟨zx_PC.calling, hrecv, zx_PC.warm hP hK hD hN hO hSt _⟩ rfl (by rw [List.length_map, ← hn]; rfl) hls hstk h8 hdg hcell
  · rw [hrc] at hrok
    obtain ⟨q, t, fs, rfl, hq⟩ := hrok
    obtain ⟨k1, k2, k3⟩ := m8 ci hrc
    have hstk : (F0 m pc ls ((((.inr (.inr (.inl q))) :: t).reverse ++ st).map (zx_cv ad b))).stack = (t.map (zx_cv ad b)).reverse ++ .ref (ad q) :: st.map (zx_cv ad b) := by
      show (((.inr (.inr (.inl q))) :: t).reverse ++ st).map (zx_cv ad b) = _
      rw [List.reverse_cons, List.append_assoc, List.map_append, List.map_reverse]
      rfl
    have hw : zx_ws y = Cond.code (zx_rec y).1 (zx_rec y).2.1 (zx_rec y).2.2.1 none :: zx_TS := by rw [← hrn]; rfl
    rcases hl with hl | ⟨host, hl⟩
    · exact va_runI (As := t.map (zx_cv ad b)) (b := ad q) ⟨hx, hb, hml, hown, hts⟩ hM ⟨callB_of (n - 1) hts hG hw rfl rfl (hts _ m5) hl ⟨m2, m3, hpd⟩ hR, hni, hts _ k1⟩ ⟨zx_PC.calling, zx_PC.warm hP hK hD hN hO hSt _⟩ rfl (by rw [List.length_map, ← hn]; rfl) hls hstk h8 hdg hcell
    · exact va_runIN (As := t.map (zx_cv ad b)) (b := ad q) ⟨hx, hb, hml, hown, hts⟩ hM ⟨va_cnB (n - 1) hts hG hw rfl rfl hl (hts _ m5) ⟨m2, m3, hpd⟩ hR, hni, hts _ k1⟩ ⟨zx_PC.calling, zx_PC.warm hP hK hD hN hO hSt _⟩ rfl (by rw [List.length_map, ← hn]; rfl) hls hstk h8 hdg hcell
  · have hstk : (F0 m pc ls ((av.reverse ++ st).map (zx_cv ad b))).stack = (av.map (zx_cv ad b)).reverse ++ st.map (zx_cv ad b) := by
      show (av.reverse ++ st).map (zx_cv ad b) = _
      rw [List.map_append, List.map_reverse]
    rcases hl with hl | ⟨host, hl⟩
    · exact va_runS (As := av.map (zx_cv ad b)) ⟨hx, hb, hml, hown, hts⟩ hM ⟨callB_of n hts hG rfl rfl rfl (hts _ m5) hl ⟨m2, m3, hpd⟩ hR, hts _ (m7 hrc)⟩ ⟨zx_PC.calling, zx_PC.warm hP hK hD hN hO hSt _⟩ rfl (by rw [List.length_map, hn]) hls hstk h8 hdg hcell
    · exact va_runSN (As := av.map (zx_cv ad b)) ⟨hx, hb, hml, hown, hts⟩ hM ⟨va_cnB n hts hG rfl rfl rfl hl (hts _ m5) ⟨m2, m3, hpd⟩ hR, hts _ (m7 hrc), trivial⟩ ⟨zx_PC.calling, zx_PC.warm hP hK hD hN hO hSt _⟩ rfl (by rw [List.length_map, hn]) hls hstk h8 hdg hcell
theorem zx_s_call {own : String} (C : zx_Cx p s m args c D cA own cc nL A) (hA : ∀ q, s.heap.size ≤ q → A q) {K : zx_K} {d y n : Nat} {I : Instr} (hKK : zx_KOk l K d) (hL : zx_Lk s args own y n I) (hfr : d + 7 ≤ R.frames) (hlo : 64 * (d + 7) ≤ R.locals) {cap : Nat × Nat} (hR : cap.1 ≤ R.cells ∧ cap.2 ≤ R.slots) {σ τ : zx_S} (hdg : decode cc σ.1 = .ok (I, 3)) (h : zx_callS K cap y n σ τ) (Kτ : zx_Ok p l e R s m args below meth c Q D cA A b nL ad0 m0 τ) : zx_Ok p l e R s m args below meth c Q D cA A b nL ad0 m0 σ := by
  obtain ⟨pc, L, st0, w, mc, ms⟩ := σ
  obtain ⟨av, st, cy, r, ht, z1, z2, z3, z4, z5, hKr, rfl⟩ := h
  obtain ⟨ll, e1, e2, e3⟩ := zx_take_ok ht
  rw [List.append_nil] at e1
  subst e1
  obtain ⟨hy, hrok, hMM⟩ := hKK y av w cy r hKr
  intro ad H locs ls h3 h5 hP hD hS hl
  have hM := hMM D cA b ad H.size
  have hFree : ∀ q, va_A (zx_cW ad b cA w) H.size q → A q := by
    intro q hq
    rcases hq with ⟨k, e, hk⟩ | hq
    · exact hD.2 k (q, e) hk
    · exact hA q (Nat.le_trans hS.1 hq)
  have hSt : zx_St (va_A (zx_cW ad b cA w) H.size) s H := (C.2.2.2.2.2.2.2.2.kept hS.2.1).narrow hFree
  have hrun := zx_runC (p := p) (e := e) (below := below) (meth := meth) (A := A) (locs := locs) (mc := mc) (ms := ms) (pc := pc) (ls := ls) (st := st) C hL hfr hlo hy hrok e3 hM hP hD hSt hl.1 z1 (by omega) (by omega) hdg
  rw [← e2] at hrun
  refine zx_callG hrun (fun v st₀ t Lc h0 hq hLc => ?_)
  obtain ⟨⟨ad', hv, g3, g5, g6, g7⟩, hz1, hk1⟩ := hq
  cases hv
  have ha : ∀ k, k < w.length → ad k = ad' k := fun k hk => (g3 k hk).symm
  have kk := Kτ ad' t.heap (locs ++ Lc) ls (fun k hk => (g3 k (Nat.lt_of_lt_of_le hk h5)).trans (h3 k hk)) (Nat.le_trans h5 g5) g6 (g7.weaken (fun _ q _ hq => hFree q.1 hq))
    ⟨Nat.le_trans hS.1 (by rw [← h0]; exact hz1), fun q q1 q2 => by
      rw [h0] at hk1
      rw [hk1 q (Nat.lt_of_lt_of_le q1 hS.1) (fun z => q2 (hFree q z))]
      exact hS.2.1 q q1 q2, fun q hq => by
      rcases List.mem_append.mp hq with z | z
      · exact hS.2.2 q z
      · exact hFree _ (hLc q z)⟩ (by rw [← zx_cL_lim ha z2]; exact hl)
  have e4 : (r.1.toList ++ st).map (zx_cv ad' b) = (r.1.map (zx_cv ad' b)).toList ++ st.map (zx_cv ad b) := by
    rw [List.map_append, ← zx_cS_lim ha z3]
    cases r.1 <;> rfl
  rw [← e4]
  exact kk
end zxCall
