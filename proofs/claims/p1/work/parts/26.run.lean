/-! the executor is sound -/
def sx_tabOk (own : String) (cc : ByteArray) (nL : Nat) (init : Bool) (rt : Option FieldType) (tab : Nat → Option sx_Q) : Prop := ∀ (pc : Nat) (q : sx_Q), tab pc = some q → ∃ I len ex, q = sx_den sx_cls I ex ∧ sx_chk own cc nL init rt pc I len ex = true
theorem sx_args_eq {ρ : Nat → Int32} {ad : Nat → Nat} {b : Nat} : ∀ {av : List sx_V} {k : Nat}, av.all (fun v => !(sx_cat v)) = true → lv_args k (av.map (sx_cv ρ ad b)) = sx_cL ρ ad b (sx_args k av) ∧ (lg_sl (av.map (sx_cv ρ ad b))).length = av.length
  | [], _, _ => ⟨rfl, rfl⟩
  | v :: av, k, h => by
    rw [List.all_cons, Bool.and_eq_true, Bool.not_eq_true'] at h
    have h1 := sx_cat1 (ρ := ρ) (ad := ad) (b := b) h.1
    obtain ⟨h2, h3⟩ := sx_args_eq (ρ := ρ) (ad := ad) (b := b) (av := av) (k := k + 1) h.2
    have e : ¬ (sx_cv ρ ad b v).category = 2 := by rw [h1]; decide
    constructor
    · show (k, sx_cv ρ ad b v) :: lv_args (if (sx_cv ρ ad b v).category = 2 then k + 2 else k + 1) (av.map (sx_cv ρ ad b)) = _
      rw [if_neg e, h2]
      rfl
    · unfold lg_sl at h3 ⊢
      rw [List.map_cons, List.flatMap_cons, if_neg e, List.length_append, h3]
      show 1 + av.length = av.length + 1
      omega
section sxRun
variable {p : Program} {l : Launch} {e : Env} {R : Room} {s : State} {m : MethodId} {args : Array Value} {below : List Frame} {meth : Method} {c : Code} {Q : State → Prop} {D : va_G} {cA : Nat → ClassId} {A : Nat → Prop} {b nL : Nat} {ρ0 : Nat → Int32} {ad0 : Nat → Nat} {n0 m0 : Nat} {cc : ByteArray}
theorem sx_run_ok {own : String} {init : Bool} {rt : Option FieldType} (C : sx_Cx p s m args c D cA own cc nL) (hA : ∀ q, s.heap.size ≤ q → A q) {K : sx_K} {d : Nat} (hKK : sx_KOk l K d) (hfr : d + 1 ≤ R.frames) (hlo : 64 * (d + 1) ≤ R.locals) {cap : Nat × Nat} (hR : cap.1 ≤ R.cells ∧ cap.2 ≤ R.slots) (hinit : init = true → meth.name = "<init>") {sc : Bool} {LL : Nat} {xs : Nat → Int32} (hsc : sc = true → sx_Scr s A b ρ0 n0 LL xs) {tab : Nat → Option sx_Q} (hT : sx_tabOk own cc nL init rt tab) {stop : Nat} :
    ∀ (n : Nat) (σ : sx_S) (ss : List sx_S), sx_run K sx_caps sc cap tab stop n σ = some ss → (∀ τ ∈ ss, sx_Ok p l e R s m args below meth c Q D cA A b nL ρ0 ad0 n0 m0 τ) → sx_Ok p l e R s m args below meth c Q D cA A b nL ρ0 ad0 n0 m0 σ := by
  intro n
  induction n with
  | zero => intro σ ss h; cases h
  | succ n ih =>
    intro σ ss h KK
    have h : sx_body K sx_caps sc cap tab stop (sx_run K sx_caps sc cap tab stop n) σ = some ss := h
    unfold sx_body at h
    split at h
    next => cases h; exact KK _ List.mem_cons_self
    next =>
      split at h
      next => cases h
      next a1 a2 g htab =>
        obtain ⟨I, len, ex, hq, hc⟩ := hT _ _ htab
        have hE := sx_ent (p := p) (l := l) (e := e) (R := R) (m := m) (below := below) (meth := meth) (Q := Q) (ad0 := ad0) (m0 := m0) C hA hR (by omega) (by omega) hinit hsc hc
        rw [← hq] at hE
        unfold sx_next at h
        split at h
        next => cases h
        next ss1 hg =>
          rcases hE with ⟨_, hs⟩ | ⟨I', h3, _⟩ | ⟨h1, _⟩ | ⟨h2, _⟩
          · exact hs σ ss1 rfl hg (fun τ hτ => by
              obtain ⟨r, g1, g2⟩ := sx_bind_mem h τ hτ
              exact ih τ r g1 (fun x hx => KK x (g2 x hx)))
          · cases h3
          · cases h1
          · cases h2
      next y k g htab =>
        obtain ⟨I, len, ex, hq, hc⟩ := hT _ _ htab
        have hE := sx_ent (p := p) (l := l) (e := e) (R := R) (m := m) (below := below) (meth := meth) (Q := Q) (ad0 := ad0) (m0 := m0) C hA hR (by omega) (by omega) hinit hsc hc
        rw [← hq] at hE
        rcases hE with ⟨h0, _⟩ | ⟨I', h3, hLk, hdg, hnl⟩ | ⟨h1, _⟩ | ⟨h2, _⟩
        · cases h0
        · exact sx_s_call C hA hKK hLk hnl hfr hlo hR (fun τ r g1 g2 => ih τ r g1 (fun x hx => KK x (g2 x hx))) hdg h
        · cases h1
        · cases h2
      next => cases h; exact KK _ List.mem_cons_self
end sxRun
def sx_mtOk : Prop := ∀ (y : Nat) (tab : Nat → Option sx_Q), sx_mt y = some tab → y < 158 ∧ ∃ init : Bool, (init = true → (sx_rec y).1.name = "<init>") ∧ sx_tabOk (sx_rec y).1.cls (sx_rec y).2.1 (sx_rec y).2.2.1 init (sx_rec y).2.2.2 tab
theorem sx_zok_int {z : Nat} {v : sx_V} (h : sx_zok z v = true) : sx_isInt v = true := by
  unfold sx_zok at h
  split at h
  next => exact h
  next => exact (sx_bit_nar (ρ := fun _ => 0) h).1
theorem sx_zok_nar {ρ : Nat → Int32} {v : sx_V} (h : sx_zok 1 v = true) : narrow .boolean (.int (sx_xi ρ v)) = .int (sx_xi ρ v) := by
  have h : sx_bit v = true := h
  match v, h with
  | .inl n, h =>
    have h' : Nat.blt n 2 = true := h
    have h2 : n < 2 := Nat.le_of_ble_eq_true h'
    match n, h2 with
    | 0, _ => show narrow .boolean (.int (Int32.ofNat 0)) = .int (Int32.ofNat 0); decide +kernel
    | 1, _ => show narrow .boolean (.int (Int32.ofNat 1)) = .int (Int32.ofNat 1); decide +kernel
  | .inr _, h => cases h
theorem sx_exec_ok (hMT : sx_mtOk) (l : Launch) (fuel : Nat) : ∀ d, sx_KOk l (sx_exec sx_mt sx_caps sx_rc fuel d) d := by
  intro d
  induction d with
  | zero => intro y av w iv Ls h; cases h
  | succ d ih =>
    intro y av w iv Ls h
    have h : (match sx_mt y with
      | none => none
      | some tab => match sx_rok w (sx_rc y) av && av.all (fun v => !(sx_cat v)) with
        | true => match sx_run (sx_exec sx_mt sx_caps sx_rc fuel d) sx_caps false (sx_caps y) tab sx_far fuel (0, sx_args 0 av, [], w, iv, 0, 0) with
          | none => none
          | some ss => sx_mapO (sx_leaf tab (sx_caps y)) ss
        | false => none) = some Ls := h
    split at h
    next => cases h
    next tab ht =>
      split at h
      next hz =>
        split at h
        next => cases h
        next ss hrun =>
          rw [Bool.and_eq_true] at hz
          obtain ⟨hy, init, hini, hT⟩ := hMT y tab ht
          refine ⟨hy, hz.1, fun hlen D cA b ρ ad sz hiv => ?_⟩
          obtain ⟨m1, m2, m3, m4, m5, m6, m7, m8⟩ := sx_mok hy
          refine Met.ofW (cc := (sx_rec y).2.1) (maxL := (sx_rec y).2.2.1) (ret := (sx_rec y).2.2.2) m1 rfl ?_
          intro p e s m args below meth c s₁ B hml hv
          obtain ⟨rfl, hsz, hP, hK, hD0, hN, hO⟩ := hv
          have hts : ∀ w ∈ sx_TS, w.before (av.map (sx_cv ρ ad b)).toArray s = true := fun w hw => atoms_spec (ws := sx_ws y) B.pre w (List.mem_cons_of_mem _ hw)
          have hown : s.vm.findClass (sx_rec y).1.cls = some m.cls := findClass_of_methodNamed B.named
          have hname := (name_of_methodNamed B.named B.method).1
          subst hsz
          have hD := hD0.self (sz := s.heap.size)
          generalize hAe : va_A (sx_cW ρ ad b cA w) s.heap.size = A at hD ⊢
          have hA : ∀ q : Nat, s.heap.size ≤ q → A q := fun q h => by rw [← hAe]; exact Or.inr h
          obtain ⟨ha1, ha2⟩ := sx_args_eq (ρ := ρ) (ad := ad) (b := b) (k := 0) hz.2
          have hl := lv_entry (av.map (sx_cv ρ ad b)) (n := (sx_rec y).2.2.1) (by rw [ha2]; exact hlen)
          rw [ha1] at hl
          rw [lg_entry_eq]
          generalize (lg_sl (av.map (sx_cv ρ ad b)) ++ List.replicate ((sx_rec y).2.2.1 - (lg_sl (av.map (sx_cv ρ ad b))).length) Slot.unset).toArray = ls at hl ⊢
          have C : sx_Cx p s m (av.map (sx_cv ρ ad b)).toArray c D cA (sx_rec y).1.cls (sx_rec y).2.1 (sx_rec y).2.2.1 := ⟨B.exec, B.bytes, hml, hown, hts, hN, hO, hK⟩
          have key := sx_run_ok (p := p) (l := l) (e := e) (R := (headSpec (sx_ws y) (sx_rm (d + 1) y)).room) (below := below) (meth := meth) (Q := MQ below (sx_QC D cA b Ls ρ ad iv.length w.length A) (av.map (sx_cv ρ ad b)).toArray s (sx_caps y).1 (sx_caps y).2 A) (A := A) (b := b) (ρ0 := ρ) (ad0 := ad) (n0 := iv.length) (m0 := w.length) (LL := 0) (xs := fun _ => 0) C hA ih (Nat.le_refl _) (Nat.le_refl _) (cap := sx_caps y) ⟨Nat.le_refl _, Nat.le_refl _⟩ (fun hin => hname.trans (hini hin)) (sc := false) (fun h => by cases h) hT fuel _ ss hrun ?_
          · exact key ρ ad s.heap [] ls hiv (fun _ _ => rfl) (fun _ _ => rfl) (Nat.le_refl _) (Nat.le_refl _) hP hD va_S.rf hl
          · intro τ hτ
            obtain ⟨L, hL, hleaf⟩ := sx_mapO_mem h τ hτ
            obtain ⟨pc, L', st, w', iv', mc, ms⟩ := τ
            unfold sx_leaf at hleaf
            simp only at hleaf
            split at hleaf
            next hcap =>
              rw [Bool.and_eq_true] at hcap
              have z1 := Nat.le_of_ble_eq_true hcap.1
              have z2 := Nat.le_of_ble_eq_true hcap.2
              split at hleaf
              next z a2 g htab =>
                obtain ⟨I, len, ex, hq, hc⟩ := hT _ _ htab
                have hE := sx_ent (p := p) (l := l) (e := e) (R := (headSpec (sx_ws y) (sx_rm (d + 1) y)).room) (below := below) (meth := meth) (Q := fun _ => True) (A := A) (b := b) (ρ0 := ρ) (ad0 := ad) (n0 := 0) (m0 := 0) (LL := 0) (xs := fun _ => 0) (cap := sx_caps y) C hA ⟨Nat.le_refl _, Nat.le_refl _⟩ (Nat.le_add_left 1 d) (by show 64 ≤ 64 * (d + 1); omega) (fun hin => hname.trans (hini hin)) (sc := false) (fun h => by cases h) hc
                rw [← hq] at hE
                rcases hE with ⟨h0, _⟩ | ⟨I', h3, _⟩ | ⟨h1, hdg, hrt⟩ | ⟨h2, _⟩
                · cases h0
                · cases h3
                · split at hleaf
                  next v =>
                    split at hleaf
                    next hzk =>
                      cases hleaf
                      intro ρ' ad' H locs ls' h1 h2 h3 h4 h5 hP hD hS hl
                      refine W.widen (k := (sx_caps y).1) (n := (sx_caps y).2) z1 z2 ?_
                      have ev : sx_cv ρ' ad' b v = .int (sx_xi ρ' (sx_nm iv' v)) := by rw [← sx_nm_eq h1 v]; exact sx_cv_int (sx_zok_int hzk)
                      show W _ _ _ _ _ _ _ _ _ _ _ _ _ _ _ (F0 m pc ls' [sx_cv ρ' ad' b v])
                      rw [ev]
                      have hQ : ∀ t : State, t.heap = H → s.WarmedH t.vm → sx_QC D cA b Ls ρ ad iv.length w.length A (av.map (sx_cv ρ ad b)).toArray s (.returned (some (.int (sx_xi ρ' (sx_nm iv' v))))) t := fun t ht hW => ⟨⟨_, hL, ρ', ad', by rw [← ev, ← sx_nm_eq h1 v]; rfl, h1, h2, h3, h4, h5, by rw [ht]; exact hP, hD⟩, hS.F ht⟩
                      rcases hrt with ⟨e0, e1⟩ | ⟨e0, e1⟩
                      · exact W.zret (ty := .int) B.exec B.bytes (B.returns.trans e1) rfl hQ hS.2.2 hdg B.notSynchronized
                      · have e0 : z = 1 := e0
                        subst e0
                        exact W.zret (ty := .boolean) B.exec B.bytes (B.returns.trans e1) (sx_zok_nar hzk) hQ hS.2.2 hdg B.notSynchronized
                    next => cases hleaf
                  next => cases hleaf
                · cases h2
              next a1 a2 g htab =>
                obtain ⟨I, len, ex, hq, hc⟩ := hT _ _ htab
                have hE := sx_ent (p := p) (l := l) (e := e) (R := (headSpec (sx_ws y) (sx_rm (d + 1) y)).room) (below := below) (meth := meth) (Q := fun _ => True) (A := A) (b := b) (ρ0 := ρ) (ad0 := ad) (n0 := 0) (m0 := 0) (LL := 0) (xs := fun _ => 0) (cap := sx_caps y) C hA ⟨Nat.le_refl _, Nat.le_refl _⟩ (Nat.le_add_left 1 d) (by show 64 ≤ 64 * (d + 1); omega) (fun hin => hname.trans (hini hin)) (sc := false) (fun h => by cases h) hc
                rw [← hq] at hE
                rcases hE with ⟨h0, _⟩ | ⟨I', h3, _⟩ | ⟨h1, _⟩ | ⟨h2, hdg, hrt⟩
                · cases h0
                · cases h3
                · cases h1
                · split at hleaf
                  next =>
                    cases hleaf
                    intro ρ' ad' H locs ls' h1 h2 h3 h4 h5 hP hD hS hl
                    refine W.widen (k := (sx_caps y).1) (n := (sx_caps y).2) z1 z2 ?_
                    exact W.vret B.exec B.bytes (B.returns.trans hrt) (fun t ht hW => ⟨⟨_, hL, ρ', ad', rfl, h1, h2, h3, h4, h5, by rw [ht]; exact hP, hD⟩, hS.F ht⟩) hS.2.2 hdg B.notSynchronized
                  next => cases hleaf
              next => cases hleaf
            next => cases hleaf
      next => cases h
