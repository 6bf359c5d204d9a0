/-! by hand: what holds between the law's calls; a call of either object -/
def tz_dep : tj_Ef := (tm_INd.1 ++ ((tj_dep 7).1 ++ [(100, 12), (73, 7), (149, 72)]), tm_INd.2 ++ (tj_dep 7).2)
/-- the class lies at 0, the reference at m -/
def tz_In (m : Nat) (Ψ : List Nat) (w : List zx_E) : Prop := tj_wt tj_Lam Ψ w ∧ Ψ[0]? = some 100 ∧ Ψ[m]? = some 149 ∧ tm_IN 0 w ∧ tj_sm7 (.inr (.inr (.inl m))) w ∧ tj_sm8 (.inr (.inr (.inl m))) w ∧ tr_BK w m ∧ ∃ t : Int32, tz_tm w 0 t ∧ tj_fi w m 12 72 t
theorem tz_BK_fr {m : Nat} {Ψ : List Nat} {w w' : List zx_E} {e : tj_Ef} (hw : tj_wt tj_Lam Ψ w) (h : tr_BK w m) (hfr : tj_fr e Ψ w w') (hd : tj_dj (tj_dep 7) e = true) : tr_BK w' m := by
  obtain ⟨bk, dv, rf, rt, h1, h2, h3, h4, h5⟩ := h
  exact ⟨bk, dv, rf, rt, te_fi hw hfr hd (by decide +kernel) h1, te_fa hw hfr hd (by decide +kernel) h2, te_fa hw hfr hd (by decide +kernel) h3, te_fa hw hfr hd (by decide +kernel) h4, h5⟩
theorem tz_s7 {m : Nat} {Ψ : List Nat} {w w' : List zx_E} {e : tj_Ef} (hw : tj_wt tj_Lam Ψ w) (h : tj_sm7 (.inr (.inr (.inl m))) w) (hfr : tj_fr e Ψ w w') (hd : tj_dj (tj_dep 7) e = true) : tj_sm7 (.inr (.inr (.inl m))) w' := te_so 7 (.inr (.inr (.inl m))) (.inr (.inr (.inr 0))) (.inr (.inr (.inr 0))) Ψ w w' e hw hfr hd h
theorem tz_s8 {m : Nat} {Ψ : List Nat} {w w' : List zx_E} {e : tj_Ef} (hw : tj_wt tj_Lam Ψ w) (h : tj_sm8 (.inr (.inr (.inl m))) w) (hfr : tj_fr e Ψ w w') (hd : tj_dj (tj_dep 8) e = true) : tj_sm8 (.inr (.inr (.inl m))) w' := te_so 8 (.inr (.inr (.inl m))) (.inr (.inr (.inr 0))) (.inr (.inr (.inr 0))) Ψ w w' e hw hfr hd h
theorem tz_time {m : Nat} {Ψ : List Nat} {w w' : List zx_E} {e : tj_Ef} (hw : tj_wt tj_Lam Ψ w) (hx : Ψ[0]? = some 100) (h : ∃ t : Int32, tz_tm w 0 t ∧ tj_fi w m 12 72 t) (hfr : tj_fr e Ψ w w') (hd : tj_dj ([(100, 12), (73, 7), (149, 72)], []) e = true) : ∃ t : Int32, tz_tm w' 0 t ∧ tj_fi w' m 12 72 t := by
  obtain ⟨t, h1, h2⟩ := h
  exact ⟨t, tz_tm_fr hw hx h1 hfr (tm_djs hd (by decide) (by decide)), te_fi hw hfr (d := ([(149, 72)], [])) (tm_djs hd (by decide) (by decide)) (by decide +kernel) h2⟩
theorem tz_In_fr {m : Nat} {Ψ Ψ' : List Nat} {w w' : List zx_E} {e : tj_Ef} (h : tz_In m Ψ w) (hw' : tj_wt tj_Lam Ψ' w') (hle : tj_le Ψ Ψ') (hfr : tj_fr e Ψ w w') (hd : tj_dj tz_dep e = true) (h8 : tj_sm8 (.inr (.inr (.inl m))) w') : tz_In m Ψ' w' := by
  obtain ⟨hw, hx, hm, hI, h7, -, hB, hT⟩ := h
  have d7 : tj_dj (tj_dep 7) e = true := tm_djs hd (by decide +kernel) (by decide +kernel)
  exact ⟨hw', hle _ _ hx, hle _ _ hm, tm_IN_fr hw hx hI hfr (tm_djs hd (by decide +kernel) (by decide +kernel)), tz_s7 hw h7 hfr d7, h8, tz_BK_fr hw hB hfr d7, tz_time hw hx hT hfr (tm_djs hd (by decide +kernel) (by decide +kernel))⟩
/-- method y, from these values and this world, ends within the room with an int x, and P -/
def tz_Do (y : Nat) (av : List zx_V) (w : List zx_E) (P : Int32 → List Nat → List zx_E → Prop) : Prop := ∃ (r : zx_R) (cy : Nat × Nat) (x : Int32) (Ψ' : List Nat), zx_Cl zx_mt zx_rc zx_mx' 420 y av w cy r ∧ (cy.1 + tj_P tj_c1 r.2 ≤ tj_P tj_c1 w ∧ cy.2 + tj_P tj_c2 r.2 ≤ tj_P tj_c2 w) ∧ r.1 = some (.inl x) ∧ w.length ≤ r.2.length ∧ P x Ψ' r.2
theorem tz_ofD {D y : Nat} {av : List zx_V} {E : tj_Ef} {Ψ : List Nat} {w : List zx_E} {P : Option zx_V → List Nat → List zx_E → Prop} {P' : Int32 → List Nat → List zx_E → Prop} (h : tr_Do D y av E Ψ w P) (hD : Nat.ble D 420 = true) (hl : Ψ.length = w.length) (hP : ∀ a Ψ' w', tj_le Ψ Ψ' → tj_wt tj_Lam Ψ' w' → tj_fr E Ψ w w' → P a Ψ' w' → ∃ x, a = some (.inl x) ∧ P' x Ψ' w') : tz_Do y av w P' := by
  obtain ⟨r, cy, h1, h2, Ψ', h3, h4, h5, h6⟩ := h
  obtain ⟨x, e, h7⟩ := hP _ _ _ h3 h4 h5 h6
  exact ⟨r, cy, x, Ψ', zx_Cl_le (Nat.le_of_ble_eq_true hD) h1, h2, e, by rw [← hl, ← h4.1]; exact tj_len_le h3, h7⟩
def tz_A : tj_f := (110, .inr 0, .inr 0, .inr 0)
def tz_B : tj_f := (111, .inr 0, .inr 0, .inr 0)
/-- ints come out, nothing is wanted ahead but kinds 7 and 8, kind 8 is left or told again -/
def tz_ck (C : tj_C) : Bool := tj_dj tz_dep C.2.2.1 && (C.2.2.2.1.all tm_isI && (decide (C.2.2.2.2.2.1 = []) && (C.2.2.2.2.2.2.all (fun f => decide (f = tz_A) || decide (f = tz_B)) && (tj_dj (tj_dep 8) C.2.2.1 || C.2.2.2.1.all (fun o => o.2.2.2.2.any (fun f => decide (f = tz_B)))))))
theorem tz_pre {Ψ : List Nat} {av : List zx_V} {w : List zx_E} {ts : List tj_y} {F : List tj_f} (h : tj_typed Ψ av ts) (hF : ∀ ρ : Nat → zx_V, (∀ i v, av[i]? = some v → ρ i = v) → ∀ f ∈ F, tj_fd ρ w f) : ∃ ρ : Nat → zx_V, (∀ i v, av[i]? = some v → ρ i = v) ∧ tj_env Ψ (ts ++ []) ρ ∧ ∀ f ∈ F, tj_fd ρ w f := by
  obtain ⟨ρ, h1, h2, -⟩ := zy_nopre (w := w) h
  exact ⟨ρ, h1, h2, hF ρ h1⟩
theorem tz_AB {ρ : Nat → zx_V} {w : List zx_E} {m : Nat} (h0 : ρ 0 = (.inr (.inr (.inl m)))) (h7 : tj_sm7 (.inr (.inr (.inl m))) w) (h8 : tj_sm8 (.inr (.inr (.inl m))) w) {f : tj_f} (hf : f = tz_A ∨ f = tz_B) : tj_fd ρ w f := by
  rcases hf with e | e
  · subst e
    show tj_sm7 (ρ 0) w
    rw [h0]
    exact h7
  · subst e
    show tj_sm8 (ρ 0) w
    rw [h0]
    exact h8
/-- by a summary: of the reference -/
theorem tz_Y {d : Nat} {C : tj_C} (hC : tj_KS1 (zx_Cl zx_mt zx_rc zx_mx' d) tj_Lam C) (hd : Nat.ble d 420 = true) (hc : tz_ck C = true) {m : Nat} {Ψ : List Nat} {w : List zx_E} {t : List zx_V} (hIn : tz_In m Ψ w) (hty : tj_typed Ψ ((.inr (.inr (.inl m))) :: t) C.2.1) : tz_Do C.1 ((.inr (.inr (.inl m))) :: t) w (fun _ Ψ' w' => tz_In m Ψ' w') := by
  simp only [tz_ck, Bool.and_eq_true] at hc
  obtain ⟨c1, c2, c3, c4, c5⟩ := hc
  have c3 := of_decide_eq_true c3
  have hIn' := hIn
  obtain ⟨hw, hx, hm, hI, h7, h8, hB, hT⟩ := hIn
  have hp : ∃ ρ : Nat → zx_V, (∀ i v, ((.inr (.inr (.inl m))) :: t)[i]? = some v → ρ i = v) ∧ tj_env Ψ (C.2.1 ++ C.2.2.2.2.2.1) ρ ∧ ∀ f ∈ C.2.2.2.2.2.2, tj_fd ρ w f := by
    rw [c3]
    refine tz_pre hty (fun ρ hρ f hf => tz_AB (hρ 0 _ rfl) h7 h8 ?_)
    have h1 := List.all_eq_true.mp c4 f hf
    rw [Bool.or_eq_true] at h1
    exact h1.imp of_decide_eq_true of_decide_eq_true
  obtain ⟨r, cy, Ψ', o, hK, r1, r2, hle, hw', hfr, ho, hto, hro, hHo⟩ := hC Ψ _ w hw hty hp
  obtain ⟨x, e⟩ := zy_retI c2 ho hro
  refine ⟨r, cy, x, Ψ', zx_Cl_le (Nat.le_of_ble_eq_true hd) hK, ⟨r1, r2⟩, e, by rw [← hw.1, ← hw'.1]; exact tj_len_le hle, tz_In_fr hIn' hw' hle hfr c1 ?_⟩
  rw [Bool.or_eq_true] at c5
  rcases c5 with c5 | c5
  · exact tz_s8 hw h8 hfr c5
  · have h1 := List.all_eq_true.mp c5 o ho
    obtain ⟨f, hf, ef⟩ := List.any_eq_true.mp h1
    have ef := of_decide_eq_true ef
    subst ef
    obtain ⟨ρ, g1, -, g3⟩ := hHo
    have h2 : tj_sm8 (ρ 0) r.2 := g3 _ hf
    rw [g1 0 (.inr (.inr (.inl m))) rfl] at h2
    exact h2
/-- of the class -/
def tz_cx (C : tj_C) : Bool := tj_dj tz_dep C.2.2.1 && (C.2.2.2.1.all tm_isI && (decide (C.2.2.2.2.2.1 = []) && (decide (C.2.2.2.2.2.2 = []) && tj_dj (tj_dep 8) C.2.2.1)))
theorem tz_X {d : Nat} {C : tj_C} (hC : tj_KS1 (zx_Cl zx_mt zx_rc zx_mx' d) tj_Lam C) (hd : Nat.ble d 420 = true) (hc : tz_cx C = true) {m : Nat} {Ψ : List Nat} {w : List zx_E} {av : List zx_V} (hIn : tz_In m Ψ w) (hty : tj_typed Ψ av C.2.1) : tz_Do C.1 av w (fun _ Ψ' w' => tz_In m Ψ' w') := by
  simp only [tz_cx, Bool.and_eq_true] at hc
  obtain ⟨c1, c2, c3, c4, c5⟩ := hc
  have c3 := of_decide_eq_true c3
  have c4 := of_decide_eq_true c4
  have hIn' := hIn
  obtain ⟨hw, hx, hm, hI, h7, h8, hB, hT⟩ := hIn
  have hp : ∃ ρ : Nat → zx_V, (∀ i v, av[i]? = some v → ρ i = v) ∧ tj_env Ψ (C.2.1 ++ C.2.2.2.2.2.1) ρ ∧ ∀ f ∈ C.2.2.2.2.2.2, tj_fd ρ w f := by
    rw [c3, c4]
    exact zy_nopre hty
  obtain ⟨r, cy, Ψ', o, hK, r1, r2, hle, hw', hfr, ho, hto, hro, hHo⟩ := hC Ψ _ w hw hty hp
  obtain ⟨x, e⟩ := zy_retI c2 ho hro
  exact ⟨r, cy, x, Ψ', zx_Cl_le (Nat.le_of_ble_eq_true hd) hK, ⟨r1, r2⟩, e, by rw [← hw.1, ← hw'.1]; exact tj_len_le hle, tz_In_fr hIn' hw' hle hfr c1 (tz_s8 hw h8 hfr c5)⟩
/-- together; the reference's register -/
theorem tz_Xtog {m : Nat} {Ψ : List Nat} {w : List zx_E} {p n : Int32} (hIn : tz_In m Ψ w) : tz_Do 77 [(.inr (.inr (.inl 0))), (.inl p), (.inl n)] w (fun _ Ψ' w' => tz_In m Ψ' w') := by
  obtain ⟨hw, hx, hm, hI, h7, h8, hB, hT⟩ := hIn
  obtain ⟨r, cy, hK, hroom, ⟨v, e⟩, Ψ', hle, hw', hfr, hI'⟩ := tm_tog (p := p) (n := n) hw hx hI
  have d7 : tj_dj (tj_dep 7) tm_ET = true := by decide +kernel
  exact ⟨r, cy, v, Ψ', zx_Cl_le (by decide : 399 + 1 ≤ 420) hK, hroom, e, by rw [← hw.1, ← hw'.1]; exact tj_len_le hle, hw', hle _ _ hx, hle _ _ hm, hI', tz_s7 hw h7 hfr d7, tz_s8 hw h8 hfr (by decide +kernel), tz_BK_fr hw hB hfr d7, tz_time hw hx hT hfr (by decide +kernel)⟩
theorem tz_Yreg {m : Nat} {Ψ : List Nat} {w : List zx_E} (hIn : tz_In m Ψ w) : tz_Do 195 [(.inr (.inr (.inl m)))] w (fun _ Ψ' w' => tz_In m Ψ' w') := by
  obtain ⟨hw, hx, hm, hI, h7, h8, hB, hT⟩ := hIn
  refine tz_ofD (tr_register hw hm h7 hB) rfl hw.1 (fun a Ψ' w' hle hw' hfr hp => ?_)
  obtain ⟨⟨v, e⟩, p7, pB, p8⟩ := hp
  exact ⟨v, e, hw', hle _ _ hx, hle _ _ hm, tm_IN_fr hw hx hI hfr (by decide +kernel), p7, p8 h8, pB, tz_time hw hx hT hfr (by decide +kernel)⟩
/-! later: both answer the same -/
def tz_no (t x : Int32) : Prop := zx_b x < 2147483648 ∨ 2147484648 < zx_b x ∨ zx_b (Int32.ofNat 100000) < zx_b (t + x)
/-- the answer a and the time t' behind it -/
def tz_la (t x a t' : Int32) : Prop := (tz_no t x ∧ a = Int32.ofNat 4294967295 ∧ t' = t) ∨ (¬ tz_no t x ∧ a = t + x ∧ t' = t + x)
theorem tz_la_eq {t x a b t1 t2 : Int32} (h1 : tz_la t x a t1) (h2 : tz_la t x b t2) : a = b ∧ t1 = t2 := by
  rcases h1 with ⟨n1, e1, g1⟩ | ⟨n1, e1, g1⟩
  · rcases h2 with ⟨n2, e2, g2⟩ | ⟨n2, e2, g2⟩
    · exact ⟨e1.trans e2.symm, g1.trans g2.symm⟩
    · exact absurd n1 n2
  · rcases h2 with ⟨n2, e2, g2⟩ | ⟨n2, e2, g2⟩
    · exact absurd n2 n1
    · exact ⟨e1.trans e2.symm, g1.trans g2.symm⟩
theorem tz_k1000 : zx_b (Int32.ofNat 1000) = 2147484648 := by decide
theorem tz_k1e5 : zx_b (Int32.ofNat 100000) = 2147583648 := by decide
def tz_f7 : List tj_y := tr_fo (tj_Lam[73]?)
theorem tz_hd7 : tj_Lam[73]? = some (.inl (7, 0, tz_f7)) := rfl
def tz_f11 : List tj_y := tr_fo (tj_Lam[100]?)
theorem tz_hd11 : tj_Lam[100]? = some (.inl (11, 0, tz_f11)) := rfl
set_option maxRecDepth 20000 in
theorem tz_later60 {Ψ : List Nat} {w : List zx_E} {x t : Int32} (hw : tj_wt tj_Lam Ψ w) (hx : Ψ[0]? = some 100) (hT : tz_tm w 0 t) : tr_Do 1 60 [(.inr (.inr (.inl 0))), (.inl x)] ([(73, 7)], []) Ψ w (fun a _ w' => ∃ v t', a = some (.inl v) ∧ tz_la t x v t' ∧ tz_tm w' 0 t') := by
  obtain ⟨fs, s, k0, k12, hs⟩ := hT
  obtain ⟨ss, s0, s7⟩ := hs
  obtain ⟨fsT, f1, -, -, f3⟩ := tj_obj hw hx tz_hd11
  rw [k0] at f1
  cases f1
  obtain ⟨vv, g, p, y, hp⟩ := f3 12 (1, 73, 0) rfl
  rw [k12] at g
  cases g
  cases y
  obtain ⟨fsS, q1, q2, -, q4⟩ := tj_obj hw hp tz_hd7
  rw [s0] at q1
  cases q1
  have hlt : s < w.length := (List.getElem?_eq_some_iff.mp s0).1
  have hl0 : 0 < w.length := (List.getElem?_eq_some_iff.mp k0).1
  have hk7 : 7 < ss.length := by rw [q2]; decide
  obtain ⟨v7, e7, t0, y0, b1, b2⟩ := q4 7 (0, 2147483648, 2147583648) rfl
  rw [s7] at e7
  cases e7
  cases y0
  have hne : 0 ≠ s := fun e => by
    subst e
    rw [k0] at s0
    cases s0
  have W0 : tj_W tj_Lam (tj_P tj_c1 w, tj_P tj_c2 w) ([(73, 7)], []) Ψ w Ψ w 0 0 := tm_W0 hw
  let P : Option zx_V → List Nat → List zx_E → Prop := fun a _ w' => ∃ v t', a = some (.inl v) ∧ tz_la t x v t' ∧ tz_tm w' 0 t'
  refine tr_meth (P := P) (d := 0) (dt := zx_d_X11_later) (by rw [← zx_q_X11_later]; rfl) (by rw [(by decide +kernel : zx_rc 60 = 12)]; exact ⟨0, _, fs, rfl, k0⟩) (by decide +kernel : 2 ≤ zx_mx' 60) ?_
  let WP : zx_S → Prop := fun σ => zx_wp (zx_Cl zx_mt zx_rc zx_mx' 0) none (tj_P tj_c1 w, tj_P tj_c2 w) (zx_find (zx_cT zx_d_X11_later)) (tr_end zx_d_X11_later ([(73, 7)], []) Ψ w P) σ
  have no : tz_no t x → WP (26, [(0, (.inr (.inr (.inl 0)))), (1, (.inl x))], [], w, 0, 0) := fun hn => by
    refine zy_ci (n := 1) (c := 4294967295) rfl ?_
    exact tr_endI ⟨_, _, _, rfl⟩ W0 ⟨_, t, rfl, Or.inl ⟨hn, rfl, rfl⟩, fs, s, k0, k12, ss, s0, s7⟩
  refine zy_li (k := 1) (n := 1) rfl rfl ?_
  refine zy_j0 rfl (fun h => no (Or.inl h)) (fun h1 => ?_)
  have h1 : 2147483648 ≤ zx_b x := h1
  refine zy_li (k := 1) (n := 1) rfl rfl ?_
  refine zy_ci (n := 3) (c := 1000) rfl ?_
  refine zy_jt rfl (fun h => no (Or.inr (Or.inl (by have h : zx_b (Int32.ofNat 1000) < zx_b x := h; rw [tz_k1000] at h; exact h)))) (fun h2 => ?_)
  have h2 : zx_b x ≤ zx_b (Int32.ofNat 1000) := h2
  rw [tz_k1000] at h2
  refine zy_la (k := 0) (n := 1) rfl rfl (Or.inl ⟨_, rfl⟩) ?_
  refine zy_get rfl k0 k12 ?_
  refine zy_get rfl s0 s7 ?_
  refine zy_li (k := 1) (n := 1) rfl rfl ?_
  refine zy_add rfl ?_
  refine zy_ci (n := 3) (c := 100000) rfl ?_
  refine zy_jt rfl (fun h3 => ?_) (fun h => no (Or.inr (Or.inr h)))
  have h3 : zx_b (t + x) ≤ zx_b (Int32.ofNat 100000) := h3
  have hno : ¬ tz_no t x := by
    unfold tz_no
    omega
  rw [tz_k1e5] at h3
  have it := zx_b_int t
  have ix := zx_b_int x
  have hs : (t + x).toInt = t.toInt + x.toInt := tr_add (by omega) (by omega)
  have is := zx_b_int (t + x)
  refine zy_la (k := 0) (n := 1) rfl rfl (Or.inl ⟨_, rfl⟩) ?_
  refine zy_get rfl k0 k12 ?_
  refine zy_dup rfl ?_
  refine zy_get rfl s0 s7 ?_
  refine zy_li (k := 1) (n := 1) rfl rfl ?_
  refine zy_add rfl ?_
  refine zy_put (k := 7) rfl s0 hk7 rfl ?_
  have W1 := tj_W_field W0 hp tz_hd7 s0 (rfl : tz_f7[7]? = some (0, 2147483648, 2147583648)) ⟨t + x, rfl, by omega, by omega⟩ trivial rfl (by decide)
  have m0 : (w.set s (.inl (7, (ss.set 7 (.inl (t + x))))))[0]? = some (.inl (11, fs)) := by rw [List.getElem?_set_ne (Ne.symm hne)]; exact k0
  have m1 : (w.set s (.inl (7, (ss.set 7 (.inl (t + x))))))[s]? = some (.inl (7, (ss.set 7 (.inl (t + x))))) := List.getElem?_set_self hlt
  have m2 : (ss.set 7 (.inl (t + x)))[7]? = some (.inl (t + x)) := List.getElem?_set_self hk7
  refine zy_la (k := 0) (n := 1) rfl rfl (Or.inl ⟨_, rfl⟩) ?_
  refine zy_get rfl m0 k12 ?_
  refine zy_get rfl m1 m2 ?_
  exact tr_endI ⟨_, _, _, rfl⟩ W1 ⟨_, _, rfl, Or.inr ⟨hno, rfl, rfl⟩, fs, s, m0, k12, _, m1, m2⟩
set_option maxRecDepth 20000 in
theorem tz_later161 {m : Nat} {Ψ : List Nat} {w : List zx_E} {x t : Int32} (hw : tj_wt tj_Lam Ψ w) (hq : Ψ[m]? = some 149) (ht : tj_fi w m 12 72 t) : tr_Do 2 161 [(.inr (.inr (.inl m))), (.inl x)] ([(149, 72)], []) Ψ w (fun a _ w' => ∃ v t', a = some (.inl v) ∧ tz_la t x v t' ∧ tj_fi w' m 12 72 t') := by
  obtain ⟨fs, k0, -, -⟩ := tr_ob hw hq
  have hlq : m < w.length := (List.getElem?_eq_some_iff.mp k0).1
  have bt := tr_bdI (k := 72) (lo := 2147483648) (hi := 2147583648) hw hq rfl ht
  have W0 : tj_W tj_Lam (tj_P tj_c1 w, tj_P tj_c2 w) ([(149, 72)], []) Ψ w Ψ w 0 0 := tm_W0 hw
  let P : Option zx_V → List Nat → List zx_E → Prop := fun a _ w' => ∃ v t', a = some (.inl v) ∧ tz_la t x v t' ∧ tj_fi w' m 12 72 t'
  refine tr_meth (P := P) (d := 1) (dt := zx_d_X12_later) (by rw [← zx_q_X12_later]; rfl) (by rw [(by decide +kernel : zx_rc 161 = 13)]; exact ⟨m, _, fs, rfl, k0⟩) (by decide +kernel : 2 ≤ zx_mx' 161) ?_
  let WP : zx_S → Prop := fun σ => zx_wp (zx_Cl zx_mt zx_rc zx_mx' 1) none (tj_P tj_c1 w, tj_P tj_c2 w) (zx_find (zx_cT zx_d_X12_later)) (tr_end zx_d_X12_later ([(149, 72)], []) Ψ w P) σ
  have no : tz_no t x → WP (23, [(0, (.inr (.inr (.inl m)))), (1, (.inl x))], [], w, 0, 0) := fun hn => by
    refine zy_ci (n := 1) (c := 4294967295) rfl ?_
    exact tr_endI ⟨_, _, _, rfl⟩ W0 ⟨_, t, rfl, Or.inl ⟨hn, rfl, rfl⟩, ht⟩
  have hls : zx_limP w.length [(0, (.inr (.inr (.inl m)))), (1, (.inl x))] = true := by
    show (Nat.blt m w.length && true) = true
    rw [show Nat.blt m w.length = true from Nat.ble_eq_true_of_le hlq]
    rfl
  have z0 : (Int32.ofNat 0).toInt = 0 := by decide
  have z1 : (Int32.ofNat 1000).toInt = 1000 := by decide
  have ix := zx_b_int x
  have it := zx_b_int t
  refine zy_li (k := 1) (n := 1) rfl rfl ?_
  refine zy_ci (n := 1) (c := 0) rfl ?_
  refine zy_ci (n := 3) (c := 1000) rfl ?_
  obtain ⟨v, hK, hv⟩ := tr_isInK (w := w) (x := x) (a := Int32.ofNat 0) (b := Int32.ofNat 1000)
  refine zy_callK hK (n := 3) (a := 0) rfl rfl (by decide) hls rfl (Nat.zero_le _) (Nat.zero_le _) ?_
  rcases hv with ⟨ev, v1, v2⟩ | ⟨ev, v1⟩
  · subst ev
    rw [z0] at v1
    rw [z1] at v2
    refine zy_j0 rfl (fun h => absurd h tr_no1) (fun _ => ?_)
    refine zy_la (k := 0) (n := 1) rfl rfl (Or.inl ⟨_, rfl⟩) ?_
    refine zy_gI rfl ht ?_
    refine zy_li (k := 1) (n := 1) rfl rfl ?_
    refine zy_add rfl ?_
    refine zy_ci (n := 3) (c := 100000) rfl ?_
    refine zy_jt rfl (fun h3 => ?_) (fun h => no (Or.inr (Or.inr h)))
    have h3 : zx_b (t + x) ≤ zx_b (Int32.ofNat 100000) := h3
    have hno : ¬ tz_no t x := by
      unfold tz_no
      omega
    rw [tz_k1e5] at h3
    have hs : (t + x).toInt = t.toInt + x.toInt := tr_add (by omega) (by omega)
    have is := zx_b_int (t + x)
    refine zy_la (k := 0) (n := 1) rfl rfl (Or.inl ⟨_, rfl⟩) ?_
    refine zy_dup rfl ?_
    refine zy_gI rfl ht ?_
    refine zy_li (k := 1) (n := 1) rfl rfl ?_
    refine zy_add rfl ?_
    refine zy_wI (k := 72) (lo := 2147483648) (hi := 2147583648) rfl W0 hq rfl (by omega) (by omega) rfl (by decide) (fun w1 W1 hfr hl1 ht1 => ?_)
    refine zy_la (k := 0) (n := 1) rfl rfl (Or.inl ⟨_, rfl⟩) ?_
    refine zy_gI rfl ht1 ?_
    exact tr_endI ⟨_, _, _, rfl⟩ W1 ⟨_, _, rfl, Or.inr ⟨hno, rfl, rfl⟩, ht1⟩
  · subst ev
    rw [z0, z1] at v1
    refine zy_j0 rfl (fun _ => no ?_) (fun h => absurd tr_z0 h)
    unfold tz_no
    by_cases h : zx_b x < 2147483648
    · exact Or.inl h
    · exact Or.inr (Or.inl (by omega))
/-- both objects' later, one behind the other: the same answer -/
theorem tz_XYlater {m : Nat} {Ψ : List Nat} {w : List zx_E} {x : Int32} (hIn : tz_In m Ψ w) : tz_Do 60 [(.inr (.inr (.inl 0))), (.inl x)] w (fun v Ψ1 w1 => tj_wt tj_Lam Ψ1 w1 ∧ Ψ1[m]? = some 149 ∧ tz_Do 161 [(.inr (.inr (.inl m))), (.inl x)] w1 (fun v' Ψ' w' => v' = v ∧ tz_In m Ψ' w')) := by
  obtain ⟨hw, hx, hm, hI, h7, h8, hB, t, hT, ht⟩ := hIn
  refine tz_ofD (tz_later60 (x := x) hw hx hT) rfl hw.1 (fun a Ψ1 w1 hle hw1 hfr hp => ?_)
  obtain ⟨v, t1, e, hla, hT1⟩ := hp
  have hx1 := hle _ _ hx
  have hm1 := hle _ _ hm
  have ht1 := te_fi hw hfr (d := ([(149, 72)], [])) (by decide +kernel) (by decide +kernel) ht
  have hI1 := tm_IN_fr hw hx hI hfr (by decide +kernel)
  have s7 := tz_s7 hw h7 hfr (by decide +kernel)
  have s8 := tz_s8 hw h8 hfr (by decide +kernel)
  have sB := tz_BK_fr hw hB hfr (by decide +kernel)
  refine ⟨v, e, hw1, hm1, tz_ofD (tz_later161 (x := x) hw1 hm1 ht1) rfl hw1.1 (fun a2 Ψ2 w2 hle2 hw2 hfr2 hp2 => ?_)⟩
  obtain ⟨v2, t2, e2, hla2, ht2⟩ := hp2
  obtain ⟨ev, et⟩ := tz_la_eq hla hla2
  refine ⟨v2, e2, ev.symm, hw2, hle2 _ _ hx1, hle2 _ _ hm1, tm_IN_fr hw1 hx1 hI1 hfr2 (by decide +kernel), tz_s7 hw1 s7 hfr2 (by decide +kernel), tz_s8 hw1 s8 hfr2 (by decide +kernel), tz_BK_fr hw1 sB hfr2 (by decide +kernel), t2, ?_, ht2⟩
  rw [← et]
  exact tz_tm_fr hw1 hx1 hT1 hfr2 (by decide +kernel)
