/-! by hand: the sums of the last days: what begin and gather keep -/
section zyMe
variable {mt : Nat → Option (Nat → Option zx_Q)} {rc ml : Nat → Nat} {d y : Nat} {dt : List (List (Nat × zx_I))} {av : List zx_V} {w : List zx_E} {Q : zx_R → Prop}
/-- a method's run by hand: its end, and the room it takes -/
theorem zy_meth (hmt : mt y = some (zx_find (zx_cT dt))) (hrc : zx_rok w (rc y) av) (hml : zx_words av ≤ ml y) (body : zx_wp (zx_Cl mt rc ml d) none (tj_P tj_c1 w, tj_P tj_c2 w) (zx_find (zx_cT dt)) (fun τ => ∃ r : zx_R, zx_ret (zx_find (zx_cT dt)) τ.2.2.2.2 τ r ∧ (τ.2.2.2.2.1 + tj_P tj_c1 r.2 ≤ tj_P tj_c1 w ∧ τ.2.2.2.2.2 + tj_P tj_c2 r.2 ≤ tj_P tj_c2 w) ∧ Q r) (0, zx_args 0 av, [], w, 0, 0)) : ∃ (r : zx_R) (cy : Nat × Nat), zx_Cl mt rc ml (d + 1) y av w cy r ∧ (cy.1 + tj_P tj_c1 r.2 ≤ tj_P tj_c1 w ∧ cy.2 + tj_P tj_c2 r.2 ≤ tj_P tj_c2 w) ∧ Q r := by
  obtain ⟨m, σ, hst, r, p1, p2, p3⟩ := body
  exact ⟨r, σ.2.2.2.2, ⟨_, hmt, hrc, hml, m, σ, (zx_star_shr hst).2 _ (Nat.le_refl _) (Nat.le_refl _), p1⟩, p2, p3⟩
end zyMe
theorem zy_typed_app {Ψ : List Nat} : ∀ {av vs : List zx_V} {ts us : List tj_y}, tj_typed Ψ av ts → tj_typed Ψ vs us → tj_typed Ψ (av ++ vs) (ts ++ us)
  | [], _, [], _, _, h => h
  | _ :: _, _, _ :: _, _, ⟨h1, h2⟩, h => ⟨h1, zy_typed_app h2 h⟩
  | [], _, _ :: _, _, h, _ => h.elim
  | _ :: _, _, [], _, h, _ => h.elim
/-- names and facts that a call wants -/
theorem zy_pre {Ψ : List Nat} {av vs : List zx_V} {w : List zx_E} {ts us : List tj_y} {F : List tj_f} (h : tj_typed Ψ av ts) (h' : tj_typed Ψ vs us) (hF : ∀ f ∈ F, tj_fd (fun k => ((av ++ vs)[k]?).getD (.inr (.inr (.inr 0)))) w f) : ∃ ρ : Nat → zx_V, (∀ i v, av[i]? = some v → ρ i = v) ∧ tj_env Ψ (ts ++ us) ρ ∧ ∀ f ∈ F, tj_fd ρ w f := by
  refine ⟨fun k => ((av ++ vs)[k]?).getD (.inr (.inr (.inr 0))), fun i v hi => ?_, fun k t hk => ?_, hF⟩
  · show ((av ++ vs)[i]?).getD _ = v
    rw [List.getElem?_append_left (List.getElem?_eq_some_iff.mp hi).1, hi]
    rfl
  · obtain ⟨v, h1, h2⟩ := tj_typed_at (zy_typed_app h h') k t hk
    show tj_vt Ψ t (((av ++ vs)[k]?).getD _)
    rw [h1]
    exact h2
theorem tm_sel1 {n a b i A B : Nat} (h : tj_sel [(n, a, b)] i = some (A, B)) : A = a ∧ B = b := by
  unfold tj_sel at h
  split at h
  next => cases h; exact ⟨rfl, rfl⟩
  next => cases h
/-- the sums q, their game g0, what is known, starts, counts, pool; the last day, how much is used; starts and counts -/
def tm_Pk (q g0 kn s c p : Nat) (L u : Int32) (sF cF : Nat → Int32) (w : List zx_E) : Prop := ∃ fs gs, w[q]? = some (.inl (9, fs)) ∧ fs[1]? = some (.inr (.inr (.inl g0))) ∧ fs[4]? = some (.inr (.inr (.inl kn))) ∧ fs[5]? = some (.inr (.inr (.inl s))) ∧ fs[6]? = some (.inr (.inr (.inl c))) ∧ fs[7]? = some (.inl u) ∧ fs[8]? = some (.inr (.inr (.inl p))) ∧ w[g0]? = some (.inl (1, gs)) ∧ gs[9]? = some (.inl L) ∧ w[s]? = some (.inr (0, 2100, .inl sF)) ∧ w[c]? = some (.inr (0, 2100, .inl cF))
def tm_HL (lS lk ls lc lp : Nat) (Ψ : List Nat) (q g0 kn s c p : Nat) : Prop := Ψ[q]? = some lS ∧ Ψ[g0]? = some 61 ∧ Ψ[kn]? = some lk ∧ Ψ[s]? = some ls ∧ Ψ[c]? = some lc ∧ Ψ[p]? = some lp
theorem tm_HL_le {lS lk ls lc lp : Nat} {Ψ Ψ' : List Nat} {q g0 kn s c p : Nat} (h : tm_HL lS lk ls lc lp Ψ q g0 kn s c p) (hle : tj_le Ψ Ψ') : tm_HL lS lk ls lc lp Ψ' q g0 kn s c p := ⟨hle _ _ h.1, hle _ _ h.2.1, hle _ _ h.2.2.1, hle _ _ h.2.2.2.1, hle _ _ h.2.2.2.2.1, hle _ _ h.2.2.2.2.2⟩
def tm_pkE (lS ls lc : Nat) (e : tj_Ef) : Bool := !(tj_h2 lS 1 e.1) && (!(tj_h2 lS 4 e.1) && (!(tj_h2 lS 5 e.1) && (!(tj_h2 lS 6 e.1) && (!(tj_h2 lS 7 e.1) && (!(tj_h2 lS 8 e.1) && (!(tj_h2 61 9 e.1) && (!(tj_h1 ls e.2) && !(tj_h1 lc e.2))))))))
/-- a call that changes nothing of it -/
theorem tm_Pk_fr {lS lk ls lc lp : Nat} {Ψ : List Nat} {q g0 kn s c p : Nat} {L u : Int32} {sF cF : Nat → Int32} {w w' : List zx_E} {e : tj_Ef} (H : tm_HL lS lk ls lc lp Ψ q g0 kn s c p) (hfr : tj_fr e Ψ w w') (hz : tm_pkE lS ls lc e = true) (h : tm_Pk q g0 kn s c p L u sF cF w) : tm_Pk q g0 kn s c p L u sF cF w' := by
  obtain ⟨fs, gs, h0, h1, h4, h5, h6, h7, h8, hg, h9, hs, hc⟩ := h
  unfold tm_pkE at hz
  simp only [Bool.and_eq_true, Bool.not_eq_true'] at hz
  obtain ⟨z1, z4, z5, z6, z7, z8, z9, zs, zc⟩ := hz
  obtain ⟨fs', k0, kk⟩ := (hfr q lS H.1).1 9 fs h0
  obtain ⟨gs', m0, mm⟩ := (hfr g0 61 H.2.1).1 1 gs hg
  obtain ⟨s', n0, nn⟩ := (hfr s ls H.2.2.2.1).2 0 2100 _ hs
  obtain ⟨c', o0, oo⟩ := (hfr c lc H.2.2.2.2.1).2 0 2100 _ hc
  rw [nn zs] at n0
  rw [oo zc] at o0
  exact ⟨fs', gs', k0, (kk 1 z1).trans h1, (kk 4 z4).trans h4, (kk 5 z5).trans h5, (kk 6 z6).trans h6, (kk 7 z7).trans h7, (kk 8 z8).trans h8, m0, (mm 9 z9).trans h9, n0, o0⟩
theorem tm_Pk_set {q g0 kn s c p a : Nat} {L u : Int32} {sF cF : Nat → Int32} {w : List zx_E} {e : zx_E} (h : tm_Pk q g0 kn s c p L u sF cF w) (a1 : a ≠ q) (a2 : a ≠ g0) (a3 : a ≠ s) (a4 : a ≠ c) : tm_Pk q g0 kn s c p L u sF cF (w.set a e) := by
  obtain ⟨fs, gs, h0, h1, h4, h5, h6, h7, h8, hg, h9, hs, hc⟩ := h
  exact ⟨fs, gs, by rw [List.getElem?_set_ne a1]; exact h0, h1, h4, h5, h6, h7, h8, by rw [List.getElem?_set_ne a2]; exact hg, h9, by rw [List.getElem?_set_ne a3]; exact hs, by rw [List.getElem?_set_ne a4]; exact hc⟩
theorem tm_Pk_s {q g0 kn s c p : Nat} {L u : Int32} {sF cF sF' : Nat → Int32} {w : List zx_E} (h : tm_Pk q g0 kn s c p L u sF cF w) (a1 : s ≠ q) (a2 : s ≠ g0) (a4 : s ≠ c) : tm_Pk q g0 kn s c p L u sF' cF (w.set s (.inr (0, 2100, .inl sF'))) := by
  obtain ⟨fs, gs, h0, h1, h4, h5, h6, h7, h8, hg, h9, hs, hc⟩ := h
  exact ⟨fs, gs, by rw [List.getElem?_set_ne a1]; exact h0, h1, h4, h5, h6, h7, h8, by rw [List.getElem?_set_ne a2]; exact hg, h9, List.getElem?_set_self (List.getElem?_eq_some_iff.mp hs).1, by rw [List.getElem?_set_ne a4]; exact hc⟩
theorem tm_Pk_c {q g0 kn s c p : Nat} {L u : Int32} {sF cF cF' : Nat → Int32} {w : List zx_E} (h : tm_Pk q g0 kn s c p L u sF cF w) (a1 : c ≠ q) (a2 : c ≠ g0) (a4 : c ≠ s) : tm_Pk q g0 kn s c p L u sF cF' (w.set c (.inr (0, 2100, .inl cF'))) := by
  obtain ⟨fs, gs, h0, h1, h4, h5, h6, h7, h8, hg, h9, hs, hc⟩ := h
  exact ⟨fs, gs, by rw [List.getElem?_set_ne a1]; exact h0, h1, h4, h5, h6, h7, h8, by rw [List.getElem?_set_ne a2]; exact hg, h9, by rw [List.getElem?_set_ne a4]; exact hs, List.getElem?_set_self (List.getElem?_eq_some_iff.mp hc).1⟩
/-- other fields of the sums replaced: k is none of those -/
theorem tm_Pk_q {q g0 kn s c p k : Nat} {L u : Int32} {sF cF : Nat → Int32} {w : List zx_E} {fs : List zx_V} {v : zx_V} (h : tm_Pk q g0 kn s c p L u sF cF w) (hq : w[q]? = some (.inl (9, fs))) (a2 : q ≠ g0) (a3 : q ≠ s) (a4 : q ≠ c) (hk : k ≠ 1 ∧ k ≠ 4 ∧ k ≠ 5 ∧ k ≠ 6 ∧ k ≠ 7 ∧ k ≠ 8) : tm_Pk q g0 kn s c p L u sF cF (w.set q (.inl (9, (fs.set k v)))) := by
  obtain ⟨fs', gs, h0, h1, h4, h5, h6, h7, h8, hg, h9, hs, hc⟩ := h
  rw [hq] at h0
  cases h0
  obtain ⟨k1, k4, k5, k6, k7, k8⟩ := hk
  exact ⟨fs.set k v, gs, List.getElem?_set_self (List.getElem?_eq_some_iff.mp hq).1, by rw [List.getElem?_set_ne k1]; exact h1, by rw [List.getElem?_set_ne k4]; exact h4, by rw [List.getElem?_set_ne k5]; exact h5, by rw [List.getElem?_set_ne k6]; exact h6, by rw [List.getElem?_set_ne k7]; exact h7, by rw [List.getElem?_set_ne k8]; exact h8, by rw [List.getElem?_set_ne a2]; exact hg, h9, by rw [List.getElem?_set_ne a3]; exact hs, by rw [List.getElem?_set_ne a4]; exact hc⟩
theorem tm_Pk_u {q g0 kn s c p : Nat} {L u : Int32} {sF cF : Nat → Int32} {w : List zx_E} {fs : List zx_V} {x : Int32} (h : tm_Pk q g0 kn s c p L u sF cF w) (hq : w[q]? = some (.inl (9, fs))) (a2 : q ≠ g0) (a3 : q ≠ s) (a4 : q ≠ c) : tm_Pk q g0 kn s c p L x sF cF (w.set q (.inl (9, (fs.set 7 (.inl x))))) := by
  obtain ⟨fs', gs, h0, h1, h4, h5, h6, h7, h8, hg, h9, hs, hc⟩ := h
  rw [hq] at h0
  cases h0
  exact ⟨fs.set 7 (.inl x), gs, List.getElem?_set_self (List.getElem?_eq_some_iff.mp hq).1, by rw [List.getElem?_set_ne (by decide)]; exact h1, by rw [List.getElem?_set_ne (by decide)]; exact h4, by rw [List.getElem?_set_ne (by decide)]; exact h5, by rw [List.getElem?_set_ne (by decide)]; exact h6, List.getElem?_set_self (List.getElem?_eq_some_iff.mp h7).1, by rw [List.getElem?_set_ne (by decide)]; exact h8, by rw [List.getElem?_set_ne a2]; exact hg, h9, by rw [List.getElem?_set_ne a3]; exact hs, by rw [List.getElem?_set_ne a4]; exact hc⟩
/-- the stretches lie within the room; those that are known are not empty -/
def tm_S1 (room : Int) (sF cF : Nat → Int32) : Prop := ∀ i : Nat, i < 2100 → (sF i).toInt + (cF i).toInt ≤ room
def tm_S2 (L : Int32) (sF cF : Nat → Int32) : Prop := (∀ l : Nat, l < 100 → 0 ≤ (cF (100 * L.toInt.toNat + l)).toInt) ∧ ∀ i : Nat, i < 2100 → (i : Int) < 100 * (L.toInt + 1) → 0 ≤ (cF i).toInt → 1 ≤ (sF i).toInt + (cF i).toInt
theorem tm_sm3 {q g0 kn s c p : Nat} {L u n : Int32} {sF cF : Nat → Int32} {w : List zx_E} {room : Int} (h : tm_Pk q g0 kn s c p L u sF cF w) (h1 : tm_S1 room sF cF) (hn : n.toInt = room) : tj_sm3 (.inr (.inr (.inl q))) (.inl n) w := by
  obtain ⟨fs, gs, h0, h1', h4, h5, h6, h7, h8, hg, h9, hs, hc⟩ := h
  exact ⟨q, n, sF, cF, rfl, rfl, ⟨fs, s, h0, h5, hs⟩, ⟨fs, c, h0, h6, hc⟩, fun i hi => by rw [hn]; exact h1 i hi⟩
theorem tm_sm4 {q g0 kn s c p : Nat} {L u : Int32} {sF cF : Nat → Int32} {w : List zx_E} (h : tm_Pk q g0 kn s c p L u sF cF w) (hL : 0 ≤ L.toInt ∧ L.toInt ≤ 20) (h2 : tm_S2 L sF cF) : tj_sm4 (.inr (.inr (.inl q))) w := by
  obtain ⟨fs, gs, h0, h1', h4, h5, h6, h7, h8, hg, h9, hs, hc⟩ := h
  exact ⟨q, g0, fs, L, sF, cF, rfl, h0, h1', ⟨gs, hg, h9⟩, ⟨fs, s, h0, h5, hs⟩, ⟨fs, c, h0, h6, hc⟩, hL, h2.1, h2.2⟩
theorem tm_sm3e {q g0 kn s c p : Nat} {L u n : Int32} {sF cF : Nat → Int32} {w : List zx_E} (h : tm_Pk q g0 kn s c p L u sF cF w) (h1 : tj_sm3 (.inr (.inr (.inl q))) (.inl n) w) : tm_S1 n.toInt sF cF := by
  obtain ⟨fs, gs, h0, h1', h4, h5, h6, h7, h8, hg, h9, hs, hc⟩ := h
  obtain ⟨q', n', s', c', e1, e2, ⟨fs1, p1, a1, a2, a3⟩, ⟨fs2, p2, b1, b2, b3⟩, h1⟩ := h1
  cases e1
  cases e2
  rw [h0] at a1 b1
  cases a1
  cases b1
  rw [h5] at a2
  cases a2
  rw [h6] at b2
  cases b2
  rw [hs] at a3
  cases a3
  rw [hc] at b3
  cases b3
  exact h1
/-- how a call by hand goes on: the room -/
theorem tm_W0 {Λ : List tj_D} {E : tj_Ef} {Ψ : List Nat} {w : List zx_E} (hw : tj_wt Λ Ψ w) : tj_W Λ (tj_P tj_c1 w, tj_P tj_c2 w) E Ψ w Ψ w 0 0 := ⟨hw, ⟨by show 0 + _ ≤ _; omega, by show 0 + _ ≤ _; omega⟩, tj_le_rf, tj_fr_rf⟩
theorem tm_ne {Ψ : List Nat} {a b l m : Nat} (h : Ψ[a]? = some l) (h' : Ψ[b]? = some m) (hn : l ≠ m) : a ≠ b := fun e => by
  rw [e, h'] at h
  cases h
  exact hn rfl
theorem tm_lim {w : List zx_E} {q : Nat} {ls : List (Nat × zx_V)} {k : Nat} (hq : q < w.length) (h : zx_limP w.length ls = true) : zx_limP w.length ((k, (.inr (.inr (.inl q)))) :: ls) = true := by
  show (Nat.blt q w.length && _) = true
  rw [show Nat.blt q w.length = true from Nat.ble_eq_true_of_le hq]
  exact h
section zyPop
variable {K : zx_K} {X : zx_X} {cap : Nat × Nat} {tab : Nat → Option zx_Q} {Q : zx_S → Prop} {pc mc ms : Nat} {ls : List (Nat × zx_V)} {st : List zx_V} {w : List zx_E}
theorem zy_popI {x : Int32} (ht : tab pc = some zx_o_pop) (kk : zx_wp K X cap tab Q (pc + 1, ls, st, w, mc, ms)) : zx_wp K X cap tab Q (pc, ls, (.inl x) :: st, w, mc, ms) := zx_wp_pure (μ := (pc + 1, ls, st, w, mc, ms)) ht rfl kk
end zyPop
theorem zy_limP_put {n k : Nat} {v : zx_V} {ls : List (Nat × zx_V)} (h : zx_limP n ls = true) (hv : zx_lim n v = true) : zx_limP n (zx_put k v ls) = true := by
  show (zx_lim n v && zx_limP n (ls.filter _)) = true
  rw [hv, Bool.true_and]
  exact List.all_eq_true.mpr (fun q hq => List.all_eq_true.mp h q (List.mem_filter.mp hq).1)
def tm_isI (o : tj_O) : Bool := match o.2.1 with
  | some (0, _, _) => true
  | _ => false
theorem zy_retI {Ψ : List Nat} {outs : List tj_O} {o : tj_O} {r : Option zx_V} (hc : outs.all tm_isI = true) (ho : o ∈ outs) (hr : tj_retT Ψ o.2.1 r) : ∃ x, r = some (.inl x) := by
  have h := List.all_eq_true.mp hc o ho
  unfold tm_isI at h
  split at h
  next lo hi e =>
    rw [e] at hr
    obtain ⟨v, e1, x, e2, -, -⟩ := hr
    exact ⟨x, by rw [e1, e2]⟩
  next => cases h
def tm_isN (o : tj_O) : Bool := o.2.1.isNone
theorem zy_retN {Ψ : List Nat} {outs : List tj_O} {o : tj_O} {r : Option zx_V} (hc : outs.all tm_isN = true) (ho : o ∈ outs) (hr : tj_retT Ψ o.2.1 r) : r = none := by
  have h := List.all_eq_true.mp hc o ho
  unfold tm_isN at h
  cases e : o.2.1 with
  | none => rw [e] at hr; exact hr
  | some t => rw [e] at h; cases h
/-- the room behind a call by hand -/
theorem zy_WK {Λ : List tj_D} {cap cy : Nat × Nat} {E e : tj_Ef} {Ψ0 Ψ Ψ' : List Nat} {w0 w w' : List zx_E} {mc ms : Nat} (hW : tj_W Λ cap E Ψ0 w0 Ψ w mc ms) (hcy : cy.1 + tj_P tj_c1 w' ≤ tj_P tj_c1 w ∧ cy.2 + tj_P tj_c2 w' ≤ tj_P tj_c2 w) (hle : tj_le Ψ Ψ') (hwt : tj_wt Λ Ψ' w') (hfr : tj_fr e Ψ w w') (h2 : tj_sub2 e.1 E.1 = true) (h1 : tj_sub1 e.2 E.2 = true) : tj_W Λ cap E Ψ0 w0 Ψ' w' (mc + cy.1) (ms + cy.2) ∧ mc + cy.1 ≤ cap.1 ∧ ms + cy.2 ≤ cap.2 := by
  have h := hW.2.1
  exact ⟨⟨hwt, by omega, tj_le_tr hW.2.2.1 hle, tj_fr_tr hW.2.2.2 hfr hW.2.2.1 h2 h1⟩, by omega, by omega⟩
theorem tm_dec {t m : Int32} (hm : zx_b m = 2147483647) (ht : -2147483648 < t.toInt) : (t + m).toInt = t.toInt - 1 := by
  have h1 := tj_b_add t m
  have h2 := zx_b_int (t + m)
  have h3 := zx_b_int t
  have h4 := Int32.toInt_lt t
  rw [hm] at h1
  omega
theorem tm_inc {t m : Int32} (hm : zx_b m = 2147483649) (ht : t.toInt < 2147483647) : (t + m).toInt = t.toInt + 1 := by
  have h1 := tj_b_add t m
  have h2 := zx_b_int (t + m)
  have h3 := zx_b_int t
  have h4 := Int32.le_toInt t
  rw [hm] at h1
  omega
theorem tm_sub1 {t m : Int32} (hm : zx_b m = 2147483649) (ht : -2147483648 < t.toInt) : (t - m).toInt = t.toInt - 1 := by
  have h1 := tj_b_sub t m
  have h2 := zx_b_int (t - m)
  have h3 := zx_b_int t
  have h4 := Int32.toInt_lt t
  rw [hm] at h1
  omega
theorem tm_k1 : zx_b (Int32.ofNat 1) = 2147483649 := by decide
theorem tm_k100 : zx_b (Int32.ofNat 100) = 2147483748 := by decide
