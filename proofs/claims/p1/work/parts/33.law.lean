/-! the law, from its entry to its end -/
theorem sx_start_K {s : State} {args : Array Value} (hts : ∀ w ∈ sx_TS, w.before args s = true) (hO : va_AO "TwoInOne$State" s) : ∃ (D : va_G) (cA : Nat → ClassId), va_K D sx_clL (sx_tys cA) s := by
  have h : ∀ ci : Nat, ∃ q : ClassId × (Nat → Nat), ∀ C T N, sx_clL[ci]? = some (C, T, N) → u_Kn s C T N q.1 q.2 := by
    intro ci
    cases hc : sx_clL[ci]? with
    | none => exact ⟨(0, fun _ => 0), fun C T N h => by cases h⟩
    | some q =>
      obtain ⟨C, T, N⟩ := q
      obtain ⟨f1, -, -, f4, -⟩ := sx_clOk hc
      obtain ⟨cC, iS, hk⟩ := u_known hts f1 (hts _ f4)
      exact ⟨(cC, iS), fun C' T' N' h => by cases h; exact hk⟩
  obtain ⟨c0, k0, p0, a0, b0, d0⟩ := Cond.arrayClass_spec (hts _ sx_w_a0)
  obtain ⟨c1, k1, p1, a1, b1, d1⟩ := Cond.arrayClass_spec (hts _ sx_w_a1)
  obtain ⟨c2, k2, p2, a2, b2, d2⟩ := Cond.arrayClass_spec (hts _ sx_w_a2)
  obtain ⟨c3, k3, p3, a3, b3, d3⟩ := Cond.arrayClass_spec (hts _ sx_w_a3)
  obtain ⟨p4, c4, k4, a4, -, b4, d4, e4⟩ := Cond.arrayOver_spec hO
  refine ⟨(fun ci => (Classical.choose (h ci)).1, fun ci => (Classical.choose (h ci)).2), fun kd => match kd with | 0 => c0 | 1 => c1 | 2 => c2 | 3 => c3 | _ => c4, fun ci q hq => ?_, fun k q hk => ?_⟩
  · obtain ⟨C, T, N⟩ := q
    exact Classical.choose_spec (h ci) C T N hq
  · match k, hk with
    | 0, hk => cases hk; exact ⟨fun N z => ⟨(fun k h => by cases h), k0, b0, p0, d0⟩, a0⟩
    | 1, hk => cases hk; exact ⟨fun N z => ⟨(fun k h => by cases h), k1, b1, p1, d1⟩, a1⟩
    | 2, hk => cases hk; exact ⟨fun N z => ⟨(fun k h => by cases h), k2, b2, p2, d2⟩, a2⟩
    | 3, hk => cases hk; exact ⟨fun N z => ⟨(fun k h => by cases h), k3, b3, p3, d3⟩, a3⟩
    | 4, hk => cases hk; exact ⟨fun N z => ⟨(fun k h => by cases h), k4, b4, p4, d4⟩, k4, p4, b4, d4, a4, e4⟩
    | n + 5, hk => cases hk
theorem sx_iv_app {ρ : Nat → Int32} {iv : sx_Iv} {lo hi : Nat} (h : sx_ivOk ρ iv) (h1 : lo ≤ sx_b (ρ iv.length)) (h2 : sx_b (ρ iv.length) ≤ hi) : sx_ivOk ρ (iv ++ [(lo, hi)]) := by
  intro k a c hk
  by_cases hl : k < iv.length
  · rw [List.getElem?_append_left hl] at hk
    exact h k a c hk
  · rw [List.getElem?_append_right (by omega)] at hk
    have hz : k - iv.length < 1 := (List.getElem?_eq_some_iff.mp hk).1
    have e : k = iv.length := by omega
    subst e
    rw [Nat.sub_self] at hk
    cases hk
    exact ⟨h1, h2⟩
theorem sx_iv_pre {ρ : Nat → Int32} {iv jv : sx_Iv} (h : sx_ivOk ρ (iv ++ jv)) : sx_ivOk ρ iv := fun k a c hk => h k a c (by rw [List.getElem?_append_left (List.getElem?_eq_some_iff.mp hk).1]; exact hk)
theorem sx_iv0_ok {ρ : Nat → Int32} {lo hi L : Nat} (h6 : ρ 6 = Int32.ofNat L) (hL : L ≤ 6) (h1 : lo ≤ 2147483648 + L) (h2 : 2147483648 + L ≤ hi) : sx_ivOk ρ (sx_iv0 lo hi) := by
  intro k a c hk
  match k, hk with
  | 0, hk => cases hk; exact sx_full_ok _
  | 1, hk => cases hk; exact sx_full_ok _
  | 2, hk => cases hk; exact sx_full_ok _
  | 3, hk => cases hk; exact sx_full_ok _
  | 4, hk => cases hk; exact sx_full_ok _
  | 5, hk => cases hk; exact sx_full_ok _
  | 6, hk =>
    cases hk
    rw [h6, sx_b_of]
    unfold sx_bias
    omega
  | n + 7, hk => cases hk
section sxLaw
variable {p : Program} {l : Launch} {e : Env} {s : State} {m : MethodId} {below : List Frame} {meth : Method} {c : Code} {b L : Nat} {xs : Nat → Int32} {D : va_G} {cA : Nat → ClassId} {ρ0 : Nat → Int32}
theorem sx_lawRun (C : sx_Cx p s m #[Value.ref b] c D cA "TwoInOneLaw" code 4) (hsc : sx_Scr s (fun q => s.heap.size ≤ q) b ρ0 7 L xs) {stop : Nat} {σ : sx_S} {ss : List sx_S} (h : sx_law stop σ = some ss) (K : ∀ τ ∈ ss, sx_Ok p l e room_1 s m #[Value.ref b] below meth c (lw_Z below #[Value.ref b] s) D cA (fun q => s.heap.size ≤ q) b 4 ρ0 (fun _ => 0) 7 0 τ) : sx_Ok p l e room_1 s m #[Value.ref b] below meth c (lw_Z below #[Value.ref b] s) D cA (fun q => s.heap.size ≤ q) b 4 ρ0 (fun _ => 0) 7 0 σ :=
  sx_run_ok (R := room_1) (init := false) (rt := some .boolean) C (fun q h => h) (sx_exec_ok sx_mtok l 100000 6) (Nat.le_of_ble_eq_true rfl) (Nat.le_of_ble_eq_true rfl) (cap := (600000, 7302250)) ⟨Nat.le_refl _, Nat.le_refl _⟩ (fun h => by cases h) (sc := true) (fun _ => hsc) sx_lawOk 100000 σ ss h K
theorem sx_lawEnd (C : sx_Cx p s m #[Value.ref b] c D cA "TwoInOneLaw" code 4) (hr : meth.sig.returnType = ret) (hlocks : meth.locks = false) {τ : sx_S} (h : sx_gd τ = true) : sx_Ok p l e room_1 s m #[Value.ref b] below meth c (lw_Z below #[Value.ref b] s) D cA (fun q => s.heap.size ≤ q) b 4 ρ0 (fun _ => 0) 7 0 τ := by
  obtain ⟨pc, L', st, w, iv, mc, ms⟩ := τ
  unfold sx_gd at h
  split at h
  next pc' a v a' iv' mc' ms' heq =>
    cases heq
    split at h
    next a1 a2 g n hf hn =>
      simp only [Bool.and_eq_true] at h
      obtain ⟨g1, g2, g3⟩ := h
      have g1 := Nat.eq_of_beq_eq_true g1
      subst g1
      obtain ⟨I, len, ex, hq, hc⟩ := sx_lawOk _ _ hf
      have hE := sx_ent (p := p) (l := l) (e := e) (R := room_1) (below := below) (meth := meth) (Q := fun _ => True) (A := fun q => s.heap.size ≤ q) (b := b) (ρ0 := fun _ => 0) (ad0 := fun _ => 0) (n0 := 0) (m0 := 0) (LL := 0) (xs := fun _ => 0) (cap := (0, 0)) C (fun q h => h) ⟨Nat.zero_le _, Nat.zero_le _⟩ (Nat.le_of_ble_eq_true rfl) (Nat.le_of_ble_eq_true rfl) (fun h => by cases h) (sc := false) (fun h => by cases h) hc
      rw [← hq] at hE
      rcases hE with ⟨h0, _⟩ | ⟨I', h3, _⟩ | ⟨h1, hdg, hrt⟩ | ⟨h2, _⟩
      · cases h0
      · cases h3
      · intro ρ ad H locs ls h1 h2 h3 h4 h5 hP hD hS hl
        refine W.widen (k := 600000) (n := 7302250) (Nat.le_of_ble_eq_true g2) (Nat.le_of_ble_eq_true g3) ?_
        refine va_forget (fun q hq => hS.2.2 q hq) ?_
        show W p l e room_1 s m #[Value.ref b] below meth c H [] 600000 7302250 (lw_Z below #[Value.ref b] s) (F0 m pc ls [sx_cv ρ ad b v])
        rw [sx_nm_c h1 ad b hn]
        exact lw_ret C.1 C.2.1 hr hlocks hdg
      · cases h2
    next => cases h
  next => cases h
theorem sx_lawFin (C : sx_Cx p s m #[Value.ref b] c D cA "TwoInOneLaw" code 4) (hsc : sx_Scr s (fun q => s.heap.size ≤ q) b ρ0 7 L xs) (hr : meth.sig.returnType = ret) (hlocks : meth.locks = false) {σ : sx_S} (h : sx_fn (sx_law sx_far σ) = true) : sx_Ok p l e room_1 s m #[Value.ref b] below meth c (lw_Z below #[Value.ref b] s) D cA (fun q => s.heap.size ≤ q) b 4 ρ0 (fun _ => 0) 7 0 σ := by
  cases hs : sx_law sx_far σ with
  | none => rw [hs] at h; cases h
  | some ss =>
    rw [hs] at h
    exact sx_lawRun C hsc hs (fun τ hτ => sx_lawEnd C hr hlocks (List.all_eq_true.mp h τ hτ))
theorem sx_lawCov (C : sx_Cx p s m #[Value.ref b] c D cA "TwoInOneLaw" code 4) (hsc : sx_Scr s (fun q => s.heap.size ≤ q) b ρ0 7 L xs) {stop : Nat} {σ : sx_S} {Gs : List sx_S} (h : sx_covs (sx_law stop σ) Gs = true) (K : ∀ G ∈ Gs, sx_Ok p l e room_1 s m #[Value.ref b] below meth c (lw_Z below #[Value.ref b] s) D cA (fun q => s.heap.size ≤ q) b 4 ρ0 (fun _ => 0) 7 0 G) : sx_Ok p l e room_1 s m #[Value.ref b] below meth c (lw_Z below #[Value.ref b] s) D cA (fun q => s.heap.size ≤ q) b 4 ρ0 (fun _ => 0) 7 0 σ := by
  cases hs : sx_law stop σ with
  | none => rw [hs] at h; cases h
  | some ss =>
    rw [hs] at h
    refine sx_lawRun C hsc hs (fun τ hτ => ?_)
    obtain ⟨G, hG, hc⟩ := List.any_eq_true.mp (List.all_eq_true.mp h τ hτ)
    exact sx_cover hc (K G hG)
theorem sx_lawOps (C : sx_Cx p s m #[Value.ref b] c D cA "TwoInOneLaw" code 4) (hsc : sx_Scr s (fun q => s.heap.size ≤ q) b ρ0 7 L xs) (hr : meth.sig.returnType = ret) (hlocks : meth.locks = false) : ∀ k, k < 42 → sx_Ok p l e room_1 s m #[Value.ref b] below meth c (lw_Z below #[Value.ref b] s) D cA (fun q => s.heap.size ≤ q) b 4 ρ0 (fun _ => 0) 7 0 (sx_oS k k) := by
  intro k hk
  match k, hk with
  | 0, _ => exact sx_lawFin C hsc hr hlocks sx_o0
  | 1, _ => exact sx_lawFin C hsc hr hlocks sx_o1
  | 2, _ => exact sx_lawFin C hsc hr hlocks sx_o2
  | 3, _ => exact sx_lawFin C hsc hr hlocks sx_o3
  | 4, _ => exact sx_lawFin C hsc hr hlocks sx_o4
  | 5, _ => exact sx_lawFin C hsc hr hlocks sx_o5
  | 6, _ => exact sx_lawFin C hsc hr hlocks sx_o6
  | 7, _ => exact sx_lawFin C hsc hr hlocks sx_o7
  | 8, _ => exact sx_lawFin C hsc hr hlocks sx_o8
  | 9, _ => exact sx_lawFin C hsc hr hlocks sx_o9
  | 10, _ => exact sx_lawFin C hsc hr hlocks sx_o10
  | 11, _ => exact sx_lawFin C hsc hr hlocks sx_o11
  | 12, _ => exact sx_lawCov C hsc sx_c12 (List.forall_mem_cons.mpr ⟨sx_lawFin C hsc hr hlocks sx_f12_0, List.forall_mem_cons.mpr ⟨sx_lawFin C hsc hr hlocks sx_f12_1, List.forall_mem_cons.mpr ⟨sx_lawFin C hsc hr hlocks sx_f12_2, List.forall_mem_cons.mpr ⟨sx_lawFin C hsc hr hlocks sx_f12_3, fun _ h => absurd h List.not_mem_nil⟩⟩⟩⟩)
  | 13, _ => exact sx_lawFin C hsc hr hlocks sx_o13
  | 14, _ => exact sx_lawFin C hsc hr hlocks sx_o14
  | 15, _ => exact sx_lawFin C hsc hr hlocks sx_o15
  | 16, _ => exact sx_lawFin C hsc hr hlocks sx_o16
  | 17, _ => exact sx_lawFin C hsc hr hlocks sx_o17
  | 18, _ => exact sx_lawFin C hsc hr hlocks sx_o18
  | 19, _ => exact sx_lawFin C hsc hr hlocks sx_o19
  | 20, _ => exact sx_lawFin C hsc hr hlocks sx_o20
  | 21, _ => exact sx_lawFin C hsc hr hlocks sx_o21
  | 22, _ => exact sx_lawFin C hsc hr hlocks sx_o22
  | 23, _ => exact sx_lawFin C hsc hr hlocks sx_o23
  | 24, _ => exact sx_lawFin C hsc hr hlocks sx_o24
  | 25, _ => exact sx_lawFin C hsc hr hlocks sx_o25
  | 26, _ => exact sx_lawFin C hsc hr hlocks sx_o26
  | 27, _ => exact sx_lawFin C hsc hr hlocks sx_o27
  | 28, _ => exact sx_lawFin C hsc hr hlocks sx_o28
  | 29, _ => exact sx_lawFin C hsc hr hlocks sx_o29
  | 30, _ => exact sx_lawCov C hsc sx_c30 (List.forall_mem_cons.mpr ⟨sx_lawFin C hsc hr hlocks sx_f30_0, List.forall_mem_cons.mpr ⟨sx_lawFin C hsc hr hlocks sx_f30_1, List.forall_mem_cons.mpr ⟨sx_lawFin C hsc hr hlocks sx_f30_2, List.forall_mem_cons.mpr ⟨sx_lawFin C hsc hr hlocks sx_f30_3, fun _ h => absurd h List.not_mem_nil⟩⟩⟩⟩)
  | 31, _ => exact sx_lawFin C hsc hr hlocks sx_o31
  | 32, _ => exact sx_lawFin C hsc hr hlocks sx_o32
  | 33, _ => exact sx_lawFin C hsc hr hlocks sx_o33
  | 34, _ => exact sx_lawFin C hsc hr hlocks sx_o34
  | 35, _ => exact sx_lawFin C hsc hr hlocks sx_o35
  | 36, _ => exact sx_lawFin C hsc hr hlocks sx_o36
  | 37, _ => exact sx_lawFin C hsc hr hlocks sx_o37
  | 38, _ => exact sx_lawFin C hsc hr hlocks sx_o38
  | 39, _ => exact sx_lawFin C hsc hr hlocks sx_o39
  | 40, _ => exact sx_lawFin C hsc hr hlocks sx_o40
  | 41, _ => exact sx_lawFin C hsc hr hlocks sx_o41
  | n + 42, h => omega
theorem sx_lawSwitch (C : sx_Cx p s m #[Value.ref b] c D cA "TwoInOneLaw" code 4) (hsc : sx_Scr s (fun q => s.heap.size ≤ q) b ρ0 7 L xs) (hr : meth.sig.returnType = ret) (hlocks : meth.locks = false) : sx_Ok p l e room_1 s m #[Value.ref b] below meth c (lw_Z below #[Value.ref b] s) D cA (fun q => s.heap.size ≤ q) b 4 ρ0 (fun _ => 0) 7 0 (sx_oS 0 63) := by
  intro ρ ad H locs ls h1 h2 h3 h4 h5 hP hD hS hl
  have h1' : sx_ivOk ρ (sx_iv0 2147483654 2147483654 ++ [(2147483648 + 0, 2147483648 + 63)]) := h1
  have g : 2147483648 + 0 ≤ sx_b (ρ 7) ∧ sx_b (ρ 7) ≤ 2147483648 + 63 := h1' 7 (2147483648 + 0) (2147483648 + 63) rfl
  have h0 := sx_iv_pre h1'
  obtain ⟨k, hk⟩ : ∃ k, sx_b (ρ 7) = 2147483648 + k := ⟨sx_b (ρ 7) - 2147483648, by omega⟩
  have e7 : sx_b (ρ (sx_iv0 2147483654 2147483654).length) = 2147483648 + k := hk
  by_cases hk2 : k < 42
  · have hiv : sx_ivOk ρ (sx_iv0 2147483654 2147483654 ++ [(2147483648 + k, 2147483648 + k)]) := sx_iv_app h0 (Nat.le_of_eq e7.symm) (Nat.le_of_eq e7)
    exact sx_lawOps C hsc hr hlocks k hk2 ρ ad H locs ls hiv h2 h3 h4 h5 hP hD hS hl
  · have hiv : sx_ivOk ρ (sx_iv0 2147483654 2147483654 ++ [(2147483648 + 42, 2147483648 + 63)]) := sx_iv_app h0 (by rw [e7]; omega) (by rw [e7]; omega)
    exact sx_lawFin C hsc hr hlocks sx_o42 ρ ad H locs ls hiv h2 h3 h4 h5 hP hD hS hl
end sxLaw
theorem whole_start {p : Program} {e : Env} {s : State} {m : MethodId} {below : List Frame} {meth : Method} {c : Code} (l : Launch) (hflags : l.flags = flags0) {b L : Nat} {xs : Nat → Int32} (hL : L ≤ 6) (C0 : lw_At p s m meth c b L xs) : W p l e room_1 s m #[Value.ref b] below meth c s.heap [] 0 0 (lw_Z below #[Value.ref b] s) (entryFrame m ([Value.ref b] : List Value).toArray 4) := by
  obtain ⟨hx, hb, hr, hml, hown, hts0, hX, hbl, hlocks, hgv⟩ := C0
  have hts : ∀ w ∈ sx_TS, w.before #[Value.ref b] s = true := fun w hw => hts0 w (List.mem_filter.mp hw).1
  have hN : sx_Nest s := fun w hw hn => by
    have h1 := hts0 w hw
    cases w <;> first | (cases hn; done) | exact va_Nw.of rfl h1
  have hO : va_AO "TwoInOne$State" s := va_AO.of (hts0 (.arrayOver (.object "TwoInOne$State")) (List.mem_of_getElem? (i := 430) (by decide +kernel)))
  obtain ⟨D, cA, hK⟩ := sx_start_K hts hO
  have C : sx_Cx p s m #[Value.ref b] c D cA "TwoInOneLaw" code 4 := ⟨hx, hb, hml, hown, hts, hN, hO, hK⟩
  obtain ⟨ρ0, hρ⟩ : ∃ ρ0 : Nat → Int32, ρ0 = fun k => if k < 6 then xs k else Int32.ofNat L := ⟨_, rfl⟩
  have h6 : ρ0 6 = Int32.ofNat L := by rw [hρ]; rfl
  have hsc : sx_Scr s (fun q => s.heap.size ≤ q) b ρ0 7 L xs := ⟨hX, hbl, Nat.not_le.mpr hbl, Nat.le_refl _, fun j hj => by rw [hρ]; exact if_pos hj, h6, by omega⟩
  have hl := lv_entry ([Value.ref b]) (n := 4) (Nat.le_of_ble_eq_true rfl)
  rw [lg_entry_eq]
  generalize (lg_sl ([Value.ref b]) ++ List.replicate (4 - (lg_sl ([Value.ref b])).length) Slot.unset).toArray = ls at hl ⊢
  have hP : va_P D sx_clL (sx_cW ρ0 (fun _ => 0) b cA []) s.heap := fun k q h => by cases h
  have hD : va_D (fun q => s.heap.size ≤ q) (sx_cW ρ0 (fun _ => 0) b cA []) := ⟨fun i j p q h => (by cases h), fun k q h => (by cases h)⟩
  by_cases hL6 : L = 6
  · have k18 : sx_Ok p l e room_1 s m #[Value.ref b] below meth c (lw_Z below #[Value.ref b] s) D cA (fun q => s.heap.size ≤ q) b 4 ρ0 (fun _ => 0) 7 0 (18, [(3, (.inl 0)), (2, (.inr (.inr (.inl 75)))), (1, (.inr (.inr (.inl 0)))), (0, (.inr (.inr (.inr 2))))], [], sx_W0, sx_iv0 2147483654 2147483654, 124, 36542) := sx_lawRun C hsc sx_at33 (fun τ hτ => by rw [List.mem_singleton.mp hτ]; exact sx_lawSwitch C hsc hr hlocks)
    have k0 : sx_Ok p l e room_1 s m #[Value.ref b] below meth c (lw_Z below #[Value.ref b] s) D cA (fun q => s.heap.size ≤ q) b 4 ρ0 (fun _ => 0) 7 0 (0, [(0, (.inr (.inr (.inr 2))))], [], [], sx_iv0 2147483654 2147483654, 0, 0) := sx_lawRun C hsc sx_pre6 (fun τ hτ => by rw [List.mem_singleton.mp hτ]; exact k18)
    exact k0 ρ0 (fun _ => 0) s.heap [] ls (sx_iv0_ok h6 hL (by omega) (by omega)) (fun _ _ => rfl) (fun _ _ => rfl) (Nat.le_refl _) (Nat.zero_le _) hP hD va_S.rf hl
  · have k0 : sx_Ok p l e room_1 s m #[Value.ref b] below meth c (lw_Z below #[Value.ref b] s) D cA (fun q => s.heap.size ≤ q) b 4 ρ0 (fun _ => 0) 7 0 (0, [(0, (.inr (.inr (.inr 2))))], [], [], sx_iv0 2147483648 2147483653, 0, 0) := sx_lawFin C hsc hr hlocks sx_short
    exact k0 ρ0 (fun _ => 0) s.heap [] ls (sx_iv0_ok h6 hL (by omega) (by omega)) (fun _ _ => rfl) (fun _ _ => rfl) (Nat.le_refl _) (Nat.zero_le _) hP hD va_S.rf hl
