/-! by hand: History.restart, out of keepAt -/
def te_k : tj_C := (238, [(1, 53, 0), (0, 2147483648, 2147483688), (1, 33, 0)], ([(39, 0), (39, 1)], [50, 36, 37, 38, 34, 35]), [([(1, 53, 0), (0, 2147483648, 2147483688), (1, 33, 0)], none, ([], [], []))], ([], [], []))
/-- all three counters replaced -/
theorem te_histW3 {cap : Nat × Nat} {E : tj_Ef} {Ψ0 Ψ : List Nat} {w0 w : List zx_E} {mc ms : Nat} (h : tj_W tj_Lam cap E Ψ0 w0 Ψ w mc ms) {q : Nat} {fs : List zx_V} {c a b : Int32} (hq : Ψ[q]? = some 53) (hf : w[q]? = some (.inl (2, fs))) (hc : 2147483648 ≤ zx_b c) (hc2 : zx_b c ≤ 2147483688) (ha : 2147483648 ≤ zx_b a) (hb : 2147483648 ≤ zx_b b) (hab : zx_b a + zx_b b ≤ 4294967336) (h3 : tj_h2 53 3 E.1 = true) (h4 : tj_h2 53 4 E.1 = true) (h5 : tj_h2 53 5 E.1 = true) : tj_W tj_Lam cap E Ψ0 w0 Ψ (w.set q (.inl (2, (((fs.set 3 (.inl c)).set 4 (.inl a)).set 5 (.inl b))))) mc ms := by
  have hd : ∃ fts, tj_Lam[53]? = some (.inl (2, 1, fts)) ∧ fts.length = 6 ∧ fts[3]? = some (0, 2147483648, 2147483688) := ⟨_, rfl, rfl, rfl⟩
  obtain ⟨fts, hd, hl, t3⟩ := hd
  obtain ⟨fs', hf', hlen, -, -⟩ := tj_obj h.1 hq hd
  rw [hf] at hf'
  cases hf'
  have hlw : q < w.length := (List.getElem?_eq_some_iff.mp hf).1
  have h1 := tj_W_field (k := 3) (t := (0, 2147483648, 2147483688)) (v := (.inl c)) h hq hd hf t3 ⟨c, rfl, hc, hc2⟩ (tj_invk_ok (by decide) (by
    obtain ⟨fs2, hf2, -, hi, -⟩ := tj_obj h.1 hq hd
    rw [hf] at hf2
    cases hf2
    exact hi)) (by decide) h3
  have h2 := te_histW (a := a) (b := b) h1 hq (List.getElem?_set_self hlw) ha hb hab h4 h5
  rw [List.set_set] at h2
  exact h2
/-- an end without an answer -/
theorem te_end0 {cap : Nat × Nat} {E : tj_Ef} {Ψ0 Ψ : List Nat} {w0 w : List zx_E} {pc mc ms : Nat} {ls : List (Nat × zx_V)} {K : zx_K} {dt : List (List (Nat × zx_I))} {av : List zx_V} {ts : List tj_y} (ht : zx_find (zx_cT dt) pc = some zx_r2) (hW : tj_W tj_Lam (tj_P tj_c1 w0, tj_P tj_c2 w0) E Ψ0 w0 Ψ w mc ms) (hty : tj_typed Ψ av ts) : zx_wp K none cap (zx_find (zx_cT dt)) (tj_Post tj_Lam E Ψ0 w0 dt [(ts, none, ([], [], []))] av) (pc, ls, [], w, mc, ms) := by
  have hr : tj_retT Ψ none none := rfl
  refine zx_wp_done ⟨(none, w), Ψ, _, ⟨Nat.le_refl _, Nat.le_refl _, rfl, ?_⟩, hW.2.1.1, hW.2.1.2, hW.2.2.1, hW.1, hW.2.2.2, List.mem_cons_self, hty, hr, zy_noout hr⟩
  show (match zx_find (zx_cT dt) pc with
    | some (1, _, _, _) => _
    | some (5, _, _, _) => _
    | some (4, _, _, _) => _
    | some (2, _, _, _) => _
    | _ => False)
  rw [ht]
  exact ⟨rfl, rfl⟩
set_option maxRecDepth 20000 in
theorem te_b0 {d : Nat} (hk : tj_KS1 (zx_Cl zx_mt zx_rc zx_mx' d) tj_Lam te_k) : tj_KS1 (zx_Cl zx_mt zx_rc zx_mx' (d + 1)) tj_Lam te_h0 := by
  refine zy_method (dt := zx_d_X2_restart) (by rw [← zx_q_X2_restart]; rfl) (by decide +kernel) (by decide +kernel) ?_
  intro Ψ av w hw hty _
  match av, hty with
  | [v0, v1], ⟨⟨q, hv0, hq⟩, ⟨p, hv1, hp⟩, _⟩ =>
    subst hv0
    subst hv1
    obtain ⟨fs, x, y, hf, hlen, h4, h5, bx, b_y, hs⟩ := te_hist hw hq
    have hW : tj_W tj_Lam (tj_P tj_c1 w, tj_P tj_c2 w) te_h0.2.2.1 Ψ w Ψ w 0 0 := ⟨hw, ⟨by show 0 + _ ≤ _; omega, by show 0 + _ ≤ _; omega⟩, tj_le_rf, tj_fr_rf⟩
    have hlw : q < w.length := (List.getElem?_eq_some_iff.mp hf).1
    have hpw : p < w.length := by rw [← hw.1]; exact (List.getElem?_eq_some_iff.mp hp).1
    show zx_wp _ none _ _ _ (0, [(0, (.inr (.inr (.inl q)))), (1, (.inr (.inr (.inl p))))], [], w, 0, 0)
    refine zy_la (k := 0) rfl rfl (Or.inl ⟨q, rfl⟩) ?_
    refine zy_ci rfl ?_
    refine zy_put rfl hf (by omega) rfl ?_
    refine zy_la (k := 0) rfl rfl (Or.inl ⟨q, rfl⟩) ?_
    refine zy_ci rfl ?_
    refine zy_put rfl (List.getElem?_set_self hlw) (by rw [List.length_set]; omega) rfl ?_
    rw [List.set_set]
    refine zy_la (k := 0) rfl rfl (Or.inl ⟨q, rfl⟩) ?_
    refine zy_ci rfl ?_
    refine zy_put rfl (List.getElem?_set_self hlw) (by rw [List.length_set, List.length_set]; omega) rfl ?_
    rw [List.set_set]
    have z0 : zx_b (Int32.ofNat 0) = 2147483648 := by decide
    have hW2 := te_histW3 (c := Int32.ofNat 0) (a := Int32.ofNat 0) (b := Int32.ofNat 0) hW hq hf (by omega) (by omega) (by omega) (by omega) (by omega) (by decide +kernel) (by decide +kernel) (by decide +kernel)
    refine zy_la (k := 0) rfl rfl (Or.inl ⟨q, rfl⟩) ?_
    refine zy_ci rfl ?_
    refine zy_la (k := 1) rfl rfl (Or.inl ⟨p, rfl⟩) ?_
    have hls : zx_limP (w.set q (.inl (2, (((fs.set 3 (.inl (Int32.ofNat 0))).set 4 (.inl (Int32.ofNat 0))).set 5 (.inl (Int32.ofNat 0)))))).length [(0, (.inr (.inr (.inl q)))), (1, (.inr (.inr (.inl p))))] = true := by
      rw [List.length_set]
      show (Nat.blt q w.length && (Nat.blt p w.length && true)) = true
      rw [show Nat.blt q w.length = true from Nat.ble_eq_true_of_le hlw, show Nat.blt p w.length = true from Nat.ble_eq_true_of_le hpw]
      rfl
    have htyk : tj_typed Ψ [(.inr (.inr (.inl q))), (.inl (Int32.ofNat 0)), (.inr (.inr (.inl p)))] [(1, 53, 0), (0, 2147483648, 2147483688), (1, 33, 0)] := ⟨⟨q, rfl, hq⟩, ⟨_, rfl, by omega, by omega⟩, ⟨p, rfl, hp⟩, trivial⟩
    refine zy_call (C := te_k) hk (n := 3) (av := [(.inr (.inr (.inl q))), (.inl (Int32.ofNat 0)), (.inr (.inr (.inl p)))]) (st := []) rfl rfl (by decide) hls rfl hW2 htyk (zy_nopre htyk) (by decide +kernel) (by decide +kernel) ?_
    intro r cy Ψ' o hW3 hle hfr hls3 ho hto hro hho
    have hty3 : tj_typed Ψ' [(.inr (.inr (.inl q))), (.inr (.inr (.inl p)))] [(1, 53, 0), (1, 33, 0)] := ⟨⟨q, rfl, hle _ _ hq⟩, ⟨p, rfl, hle _ _ hp⟩, trivial⟩
    have e := List.mem_singleton.mp ho
    subst e
    have hro : r.1 = none := hro
    rw [hro]
    exact te_end0 rfl hW3 hty3
