/-! runs and calls of the exact machine are the JVM's -/
def zx_tabOk (own : String) (cc : ByteArray) (nL : Nat) (init : Bool) (rt : Option FieldType) (tab : Nat → Option zx_Q) : Prop := ∀ (pc : Nat) (q : zx_Q), tab pc = some q → ∃ I len ex, q = zx_den I ex ∧ zx_chk own cc nL init rt pc I len ex = true
theorem zx_args_eq {ad : Nat → Nat} {b : Nat} : ∀ {av : List zx_V} {k : Nat}, lv_args k (av.map (zx_cv ad b)) = zx_cL ad b (zx_args k av) ∧ (lg_sl (av.map (zx_cv ad b))).length = zx_words av
  | [], _ => ⟨rfl, rfl⟩
  | v :: av, k => by
    have hc := zx_cat_eq (ad := ad) (b := b) v
    cases hv : zx_cat v with
    | false =>
      rw [hv] at hc
      have e : ¬ (zx_cv ad b v).category = 2 := by rw [zx_cat1 hv]; decide
      obtain ⟨h2, h3⟩ := zx_args_eq (ad := ad) (b := b) (av := av) (k := k + 1)
      constructor
      · show (k, zx_cv ad b v) :: lv_args (if (zx_cv ad b v).category = 2 then k + 2 else k + 1) (av.map (zx_cv ad b)) = _
        rw [if_neg e, h2]
        have ea : zx_args k (v :: av) = (k, v) :: zx_args (match zx_cat v with
          | true => k + 2
          | false => k + 1) av := rfl
        rw [ea, hv]
        rfl
      · unfold lg_sl at h3 ⊢
        rw [List.map_cons, List.flatMap_cons, if_neg e, List.length_append, h3]
        have ew : zx_words (v :: av) = (match zx_cat v with
          | true => 2
          | false => 1) + zx_words av := rfl
        rw [ew, hv]
        rfl
    | true =>
      rw [hv] at hc
      have e : (zx_cv ad b v).category = 2 := by
        have h := hc
        rw [beq_iff_eq] at h
        exact h
      obtain ⟨h2, h3⟩ := zx_args_eq (ad := ad) (b := b) (av := av) (k := k + 2)
      constructor
      · show (k, zx_cv ad b v) :: lv_args (if (zx_cv ad b v).category = 2 then k + 2 else k + 1) (av.map (zx_cv ad b)) = _
        rw [if_pos e, h2]
        have ea : zx_args k (v :: av) = (k, v) :: zx_args (match zx_cat v with
          | true => k + 2
          | false => k + 1) av := rfl
        rw [ea, hv]
        rfl
      · unfold lg_sl at h3 ⊢
        rw [List.map_cons, List.flatMap_cons, if_pos e, List.length_append, h3]
        have ew : zx_words (v :: av) = (match zx_cat v with
          | true => 2
          | false => 1) + zx_words av := rfl
        rw [ew, hv]
        rfl
section zxRun
variable {p : Program} {l : Launch} {e : Env} {R : Room} {s : State} {m : MethodId} {args : Array Value} {below : List Frame} {meth : Method} {c : Code} {Q : State → Prop} {D : va_G} {cA : Nat → ClassId} {A : Nat → Prop} {b nL : Nat} {ad0 : Nat → Nat} {m0 : Nat} {cc : ByteArray}
theorem zx_step_ok {own : String} {init : Bool} {rt : Option FieldType} (C : zx_Cx p s m args c D cA own cc nL A) (hA : ∀ q, s.heap.size ≤ q → A q) {K : zx_K} {d : Nat} (hKK : zx_KOk l K d) (hfr : d + 7 ≤ R.frames) (hlo : 64 * (d + 7) ≤ R.locals) {cap : Nat × Nat} (hR : cap.1 ≤ R.cells ∧ cap.2 ≤ R.slots) (hinit : init = true → meth.name = "<init>") {X : zx_X} (hX : zx_Scr X s A b) {tab : Nat → Option zx_Q} (hT : zx_tabOk own cc nL init rt tab) {σ τ : zx_S} (h : zx_step K X cap tab σ τ) (Kτ : zx_Ok p l e R s m args below meth c Q D cA A b nL ad0 m0 τ) : zx_Ok p l e R s m args below meth c Q D cA A b nL ad0 m0 σ := by
  unfold zx_step at h
  split at h
  next a1 a2 g htab =>
    obtain ⟨I, len, ex, hq, hc⟩ := hT _ _ htab
    have hE := zx_ent (p := p) (l := l) (e := e) (R := R) (m := m) (below := below) (meth := meth) (Q := Q) (ad0 := ad0) (m0 := m0) C hA hR (by omega) (by omega) hinit hX hc
    rw [← hq] at hE
    rcases hE with ⟨_, hs⟩ | ⟨I', h3, _⟩ | ⟨h1, _⟩ | ⟨h1, _⟩ | ⟨h1, _⟩ | ⟨h1, _⟩
    · exact hs σ τ rfl h Kτ
    · cases h3
    · cases h1
    · cases h1
    · cases h1
    · cases h1
  next y n g htab =>
    obtain ⟨I, len, ex, hq, hc⟩ := hT _ _ htab
    have hE := zx_ent (p := p) (l := l) (e := e) (R := R) (m := m) (below := below) (meth := meth) (Q := Q) (ad0 := ad0) (m0 := m0) C hA hR (by omega) (by omega) hinit hX hc
    rw [← hq] at hE
    rcases hE with ⟨h0, _⟩ | ⟨I', h3, hLk, hdg⟩ | ⟨h1, _⟩ | ⟨h1, _⟩ | ⟨h1, _⟩ | ⟨h1, _⟩
    · cases h0
    · exact zx_s_call C hA hKK hLk hfr hlo hR hdg h Kτ
    · cases h1
    · cases h1
    · cases h1
    · cases h1
  next => exact h.elim
theorem zx_star_ok {own : String} {init : Bool} {rt : Option FieldType} (C : zx_Cx p s m args c D cA own cc nL A) (hA : ∀ q, s.heap.size ≤ q → A q) {K : zx_K} {d : Nat} (hKK : zx_KOk l K d) (hfr : d + 7 ≤ R.frames) (hlo : 64 * (d + 7) ≤ R.locals) {cap : Nat × Nat} (hR : cap.1 ≤ R.cells ∧ cap.2 ≤ R.slots) (hinit : init = true → meth.name = "<init>") {X : zx_X} (hX : zx_Scr X s A b) {tab : Nat → Option zx_Q} (hT : zx_tabOk own cc nL init rt tab) :
    ∀ {n : Nat} {σ τ : zx_S}, zx_star (zx_step K X cap tab) n σ τ → zx_Ok p l e R s m args below meth c Q D cA A b nL ad0 m0 τ → zx_Ok p l e R s m args below meth c Q D cA A b nL ad0 m0 σ := by
  intro n
  induction n with
  | zero => intro σ τ h Kτ; cases h; exact Kτ
  | succ n ih =>
    intro σ τ h Kτ
    obtain ⟨μ, h1, h2⟩ := h
    exact zx_step_ok C hA hKK hfr hlo hR hinit hX hT h1 (ih h2 Kτ)
end zxRun
/-- calls by depth; the values fit the method's locals -/
def zx_Cl (mt : Nat → Option (Nat → Option zx_Q)) (rc ml : Nat → Nat) : Nat → zx_K
  | 0 => fun _ _ _ _ _ => False
  | d + 1 => fun y av w cap r => ∃ tab, mt y = some tab ∧ zx_rok w (rc y) av ∧ zx_words av ≤ ml y ∧ ∃ n σ, zx_star (zx_step (zx_Cl mt rc ml d) none cap tab) n (0, zx_args 0 av, [], w, 0, 0) σ ∧ zx_ret tab cap σ r
noncomputable def zx_mx' (y : Nat) : Nat := (zx_rec y).2.2.1
theorem zx_ofW {l : Launch} {y : MethodName} {ws ws' : List Cond} {rm : Room} {Pc : Array Value → State → Prop} {Qc : Array Value → State → Outcome → State → Prop} {mc ms : Nat} {free : Addr → Prop} {cc : ByteArray} {maxL : Nat} {ret : Option FieldType}
    (hy : plainFor y = true) (hw : ws = Cond.code y cc maxL ret :: ws')
    (body : ∀ p e s m args below meth c s₁, BodyLoose p l y (headSpec ws rm) cc maxL ret e s m args below meth c s₁ → c.maxLocals = maxL → Pc args s →
      W p l e (headSpec ws rm).room s m args below meth c s.heap [] 0 0 (MQ below Qc args s mc ms free) (entryFrame m args maxL)) : Met l y ws rm Pc Qc mc ms free := by
  refine MetFree.of_bodySF (code := cc) (maxLocals := maxL) (ret := ret) hy ?_ ?_
  · intro args s m h hn
    obtain ⟨meth, c, h1, h2, h3, h4, h5, h6, -, -⟩ := Cond.code_spec hn (atoms_spec (ws := ws) h _ (by rw [hw]; exact List.mem_cons_self))
    exact ⟨meth, c, h1, h2, h3, h4, h5, h6⟩
  · intro p e s m args below meth c s₁ B hml hP _
    have hh0 : s₁.heap = s.heap := by rw [B.state]; rfl
    obtain ⟨t, a1, o, b1, b2, b3⟩ := body p e s m args below meth c s₁ B hml hP s₁ hh0 (Stand.of_body B)
    exact ⟨t, o, a1, b1, b2, ⟨b3.1, b3.2⟩⟩
def zx_mtOk (mt : Nat → Option (Nat → Option zx_Q)) : Prop := ∀ (y : Nat) (tab : Nat → Option zx_Q), mt y = some tab → y < 354 ∧ ∃ init : Bool, (init = true → (zx_rec y).1.name = "<init>") ∧ zx_tabOk (zx_rec y).1.cls (zx_rec y).2.1 (zx_rec y).2.2.1 init (zx_rec y).2.2.2 tab
theorem zx_call_ok {mt : Nat → Option (Nat → Option zx_Q)} (hMT : zx_mtOk mt) (l : Launch) : ∀ d, zx_KOk l (zx_Cl mt zx_rc zx_mx' d) d := by
  intro d
  induction d with
  | zero => intro y av w cap r h; exact h.elim
  | succ d ih =>
    intro y av w cap r h
    obtain ⟨tab, ht, hrok, hlen, n, σ, hst, hret⟩ := h
    obtain ⟨hy, init, hini, hT⟩ := hMT y tab ht
    refine ⟨hy, hrok, fun D cA b ad sz => ?_⟩
    obtain ⟨m1, m2, m3, m4, m5, m6, m7, m8⟩ := zx_mok hy
    refine zx_ofW (cc := (zx_rec y).2.1) (maxL := (zx_rec y).2.2.1) (ret := (zx_rec y).2.2.2) m1 rfl ?_
    intro p e s m args below meth c s₁ B hml hv
    obtain ⟨rfl, hsz, hP, hK, hD0, hN, hO, hSt⟩ := hv
    have hts : ∀ w ∈ zx_TS, w.before (av.map (zx_cv ad b)).toArray s = true := fun w hw => atoms_spec (ws := zx_ws y) B.pre w (List.mem_cons_of_mem _ hw)
    have hown : s.vm.findClass (zx_rec y).1.cls = some m.cls := findClass_of_methodNamed B.named
    have hname := (name_of_methodNamed B.named B.method).1
    subst hsz
    have hD := hD0.self (sz := s.heap.size)
    generalize hAe : va_A (zx_cW ad b cA w) s.heap.size = A at hD hSt ⊢
    have hA : ∀ q : Nat, s.heap.size ≤ q → A q := fun q h => by rw [← hAe]; exact Or.inr h
    obtain ⟨ha1, ha2⟩ := zx_args_eq (ad := ad) (b := b) (av := av) (k := 0)
    have hl := lv_entry (av.map (zx_cv ad b)) (n := (zx_rec y).2.2.1) (by rw [ha2]; exact hlen)
    rw [ha1] at hl
    rw [lg_entry_eq]
    generalize (lg_sl (av.map (zx_cv ad b)) ++ List.replicate ((zx_rec y).2.2.1 - (lg_sl (av.map (zx_cv ad b))).length) Slot.unset).toArray = ls at hl ⊢
    have C : zx_Cx p s m (av.map (zx_cv ad b)).toArray c D cA (zx_rec y).1.cls (zx_rec y).2.1 (zx_rec y).2.2.1 A := ⟨B.exec, B.bytes, hml, hown, hts, hN, hO, hK, hSt⟩
    have hX : zx_Scr none s A b := fun n f h => by cases h
    have hinit : init = true → meth.name = "<init>" := fun hin => hname.trans (hini hin)
    have hfr : d + 7 ≤ (headSpec (zx_ws y) (zx_rm (d + 1) cap)).room.frames := by show d + 7 ≤ d + 1 + 6; omega
    have hlo : 64 * (d + 7) ≤ (headSpec (zx_ws y) (zx_rm (d + 1) cap)).room.locals := by show 64 * (d + 7) ≤ 64 * (d + 1 + 6); omega
    have hR : cap.1 ≤ (headSpec (zx_ws y) (zx_rm (d + 1) cap)).room.cells ∧ cap.2 ≤ (headSpec (zx_ws y) (zx_rm (d + 1) cap)).room.slots := ⟨Nat.le_refl _, Nat.le_refl _⟩
    have key := zx_star_ok (p := p) (l := l) (e := e) (R := (headSpec (zx_ws y) (zx_rm (d + 1) cap)).room) (below := below) (meth := meth) (Q := MQ below (zx_QC D cA b r ad w.length A) (av.map (zx_cv ad b)).toArray s cap.1 cap.2 A) (A := A) (b := b) (ad0 := ad) (m0 := w.length) C hA ih hfr hlo hR hinit hX hT hst ?_
    · exact key ad s.heap [] ls (fun _ _ => rfl) (Nat.le_refl _) hP hD va_S.rf hl
    · obtain ⟨pc, L', st, w', mc, ms⟩ := σ
      obtain ⟨z1, z2, hw', hr⟩ := hret
      split at hr
      next a1 a2 g htab =>
        obtain ⟨x, rfl, hrx⟩ := hr
        obtain ⟨I, len, ex, hq, hc⟩ := hT _ _ htab
        have hE := zx_ent (p := p) (l := l) (e := e) (R := (headSpec (zx_ws y) (zx_rm (d + 1) cap)).room) (below := below) (meth := meth) (Q := fun _ => True) (A := A) (b := b) (ad0 := ad) (m0 := 0) (cap := cap) C hA hR (by show 4 ≤ d + 1 + 6; omega) (by show 256 ≤ 64 * (d + 1 + 6); omega) hinit hX hc
        rw [← hq] at hE
        rcases hE with ⟨h0, _⟩ | ⟨I', h3, _⟩ | ⟨h1, hdg, hrt⟩ | ⟨h1, _⟩ | ⟨h1, _⟩ | ⟨h1, _⟩
        · cases h0
        · cases h3
        · intro ad' H locs ls' h3 h5 hP hD hS hl
          refine W.widen (k := cap.1) (n := cap.2) z1 z2 ?_
          exact W.zret (ty := .int) B.exec B.bytes (B.returns.trans hrt) rfl (fun t ht hW => ⟨⟨ad', by rw [hrx]; rfl, h3, by rw [hw']; exact h5, by rw [ht, hw']; exact hP, by rw [hw']; exact hD⟩, hS.F ht⟩) hS.2.2 hdg B.notSynchronized
        · cases h1
        · cases h1
        · cases h1
      next a1 a2 g htab =>
        obtain ⟨x, rfl, hx01, hrx⟩ := hr
        obtain ⟨I, len, ex, hq, hc⟩ := hT _ _ htab
        have hE := zx_ent (p := p) (l := l) (e := e) (R := (headSpec (zx_ws y) (zx_rm (d + 1) cap)).room) (below := below) (meth := meth) (Q := fun _ => True) (A := A) (b := b) (ad0 := ad) (m0 := 0) (cap := cap) C hA hR (by show 4 ≤ d + 1 + 6; omega) (by show 256 ≤ 64 * (d + 1 + 6); omega) hinit hX hc
        rw [← hq] at hE
        rcases hE with ⟨h0, _⟩ | ⟨I', h3, _⟩ | ⟨h1, _⟩ | ⟨h1, hdg, hrt⟩ | ⟨h1, _⟩ | ⟨h1, _⟩
        · cases h0
        · cases h3
        · cases h1
        · intro ad' H locs ls' h3 h5 hP hD hS hl
          refine W.widen (k := cap.1) (n := cap.2) z1 z2 ?_
          have hnar : narrow .boolean (.int x) = .int x := by
            rcases hx01 with rfl | rfl
            · decide +kernel
            · decide +kernel
          exact W.zret (ty := .boolean) B.exec B.bytes (B.returns.trans hrt) hnar (fun t ht hW => ⟨⟨ad', by rw [hrx]; rfl, h3, by rw [hw']; exact h5, by rw [ht, hw']; exact hP, by rw [hw']; exact hD⟩, hS.F ht⟩) hS.2.2 hdg B.notSynchronized
        · cases h1
        · cases h1
      next a1 a2 g htab =>
        obtain ⟨x, rfl, hrx⟩ := hr
        obtain ⟨I, len, ex, hq, hc⟩ := hT _ _ htab
        have hE := zx_ent (p := p) (l := l) (e := e) (R := (headSpec (zx_ws y) (zx_rm (d + 1) cap)).room) (below := below) (meth := meth) (Q := fun _ => True) (A := A) (b := b) (ad0 := ad) (m0 := 0) (cap := cap) C hA hR (by show 4 ≤ d + 1 + 6; omega) (by show 256 ≤ 64 * (d + 1 + 6); omega) hinit hX hc
        rw [← hq] at hE
        rcases hE with ⟨h0, _⟩ | ⟨I', h3, _⟩ | ⟨h1, _⟩ | ⟨h1, _⟩ | ⟨h1, hdg, hrt⟩ | ⟨h1, _⟩
        · cases h0
        · cases h3
        · cases h1
        · cases h1
        · intro ad' H locs ls' h3 h5 hP hD hS hl
          refine W.widen (k := cap.1) (n := cap.2) z1 z2 ?_
          exact W.lret B.exec B.bytes (B.returns.trans hrt) (fun t ht hW => ⟨⟨ad', by rw [hrx]; rfl, h3, by rw [hw']; exact h5, by rw [ht, hw']; exact hP, by rw [hw']; exact hD⟩, hS.F ht⟩) hS.2.2 hdg B.notSynchronized
        · cases h1
      next a1 a2 g htab =>
        obtain ⟨rfl, hrx⟩ := hr
        obtain ⟨I, len, ex, hq, hc⟩ := hT _ _ htab
        have hE := zx_ent (p := p) (l := l) (e := e) (R := (headSpec (zx_ws y) (zx_rm (d + 1) cap)).room) (below := below) (meth := meth) (Q := fun _ => True) (A := A) (b := b) (ad0 := ad) (m0 := 0) (cap := cap) C hA hR (by show 4 ≤ d + 1 + 6; omega) (by show 256 ≤ 64 * (d + 1 + 6); omega) hinit hX hc
        rw [← hq] at hE
        rcases hE with ⟨h0, _⟩ | ⟨I', h3, _⟩ | ⟨h1, _⟩ | ⟨h1, _⟩ | ⟨h1, _⟩ | ⟨h1, hdg, hrt⟩
        · cases h0
        · cases h3
        · cases h1
        · cases h1
        · cases h1
        · intro ad' H locs ls' h3 h5 hP hD hS hl
          refine W.widen (k := cap.1) (n := cap.2) z1 z2 ?_
          exact W.vret B.exec B.bytes (B.returns.trans hrt) (fun t ht hW => ⟨⟨ad', by rw [hrx]; rfl, h3, by rw [hw']; exact h5, by rw [ht, hw']; exact hP, by rw [hw']; exact hD⟩, hS.F ht⟩) hS.2.2 hdg B.notSynchronized
      next => exact hr.elim
