/-! by hand: History.fillBox -/
theorem zy_az {K : zx_K} {X : zx_X} {cap : Nat × Nat} {tab : Nat → Option zx_Q} {Q : zx_S → Prop} {pc mc ms q n : Nat} {ls : List (Nat × zx_V)} {st : List zx_V} {w : List zx_E} {i x : Int32} {g : Nat → Int32} (ht : tab pc = some zx_az) (hq : w[q]? = some (.inr (2, n, .inl g))) (hin : zx_in i n = true) (kk : zx_wp K X cap tab Q (pc + 1, ls, st, w.set q (.inr (2, n, .inl (upd g i.toNatClampNeg (vp_nar .boolean x)))), mc, ms)) : zx_wp K X cap tab Q (pc, ls, (.inl x) :: (.inl i) :: (.inr (.inr (.inl q))) :: st, w, mc, ms) := by
  refine zx_wp_pure (μ := (pc + 1, ls, st, w.set q (.inr (2, n, .inl (upd g i.toNatClampNeg (vp_nar .boolean x)))), mc, ms)) ht ?_ kk
  show zx_ast 2 (vp_nar .boolean) _ = _
  simp only [zx_ast, hq, zx_beqT (rfl : (2 : Nat) = 2), hin, Bool.and_self]
/-- room, types and what changed when a State comes into the row -/
theorem te_boxW {Ψ : List Nat} {w : List zx_E} (hw : tj_wt tj_Lam Ψ w) {qk j : Nat} {lr : List (Option Nat)} (hk : Ψ[qk]? = some 51) (hf : w[qk]? = some (.inr (4, 3, .inr (.inr lr)))) (hl : lr.length = 3) (hr : ∀ o ∈ lr, tj_vt Ψ (2, 39, 0) (zx_ref o)) (hj : lr[j]? = some none) : (6 ≤ tj_P tj_c1 w ∧ 131 ≤ tj_P tj_c2 w) ∧ tj_W tj_Lam (tj_P tj_c1 w, tj_P tj_c2 w) te_h2.2.2.1 Ψ w (Ψ ++ te_d8) ((w ++ te_w8 w.length).set qk (.inr (4, 3, .inr (.inr (lr.set j (some w.length)))))) 6 131 := by
  have hlt : qk < w.length := (List.getElem?_eq_some_iff.mp hf).1
  have hfa : (w ++ te_w8 w.length)[qk]? = some (.inr (4, 3, .inr (.inr lr))) := by rw [List.getElem?_append_left hlt]; exact hf
  have hn : (Ψ ++ te_d8)[w.length]? = some 39 := by
    rw [List.getElem?_append_right (by rw [hw.1]; exact Nat.le_refl _), hw.1, Nat.sub_self]
    rfl
  have p1 : tj_P tj_c1 ((w ++ te_w8 w.length).set qk (.inr (4, 3, .inr (.inr (lr.set j (some w.length)))))) + 6 = tj_P tj_c1 (w ++ te_w8 w.length) := tj_P_set2 (by
    have := tj_nn_set (v := w.length) hj
    show 6 * tj_nn (lr.set j (some w.length)) + 6 = 6 * tj_nn lr
    omega) hfa
  have p2 : tj_P tj_c2 ((w ++ te_w8 w.length).set qk (.inr (4, 3, .inr (.inr (lr.set j (some w.length)))))) + 131 = tj_P tj_c2 (w ++ te_w8 w.length) := tj_P_set2 (by
    have := tj_nn_set (v := w.length) hj
    show 131 * tj_nn (lr.set j (some w.length)) + 131 = 131 * tj_nn lr
    omega) hfa
  have z1 : tj_P tj_c1 (w ++ te_w8 w.length) = tj_P tj_c1 w := tj_P_app
  have z2 : tj_P tj_c2 (w ++ te_w8 w.length) = tj_P tj_c2 w := tj_P_app
  refine ⟨⟨by omega, by omega⟩, ?_, ⟨by show 6 + _ ≤ tj_P tj_c1 w; omega, by show 131 + _ ≤ tj_P tj_c2 w; omega⟩, tj_le_app, fun q' l' hq' => ?_⟩
  · exact tj_setq (s := [(3, 39, 0)]) (te_wt8 hw) (tj_le_app _ _ hk) rfl hl (fun o ho => tj_vt_le tj_le_app (hr o ho)) (Or.inr ⟨_, rfl, hn⟩)
  · have hq'w : q' < w.length := by rw [← hw.1]; exact (List.getElem?_eq_some_iff.mp hq').1
    by_cases e : qk = q'
    · subst e
      rw [hk] at hq'
      cases hq'
      refine ⟨fun c fs0 e0 => ?_, fun kd n f e0 => ?_⟩
      · rw [hf] at e0
        cases e0
      · rw [hf] at e0
        cases e0
        exact ⟨_, List.getElem?_set_self (by rw [List.length_append]; omega), fun h => by
          have : tj_h1 51 te_h2.2.2.1.2 = true := by decide
          rw [this] at h
          cases h⟩
    · refine ⟨fun c fs0 e0 => ⟨fs0, ?_, fun _ _ => rfl⟩, fun kd n f e0 => ⟨f, ?_, fun _ => rfl⟩⟩
      · rw [List.getElem?_set_ne e, List.getElem?_append_left hq'w]
        exact e0
      · rw [List.getElem?_set_ne e, List.getElem?_append_left hq'w]
        exact e0
set_option maxRecDepth 20000 in
theorem te_b2 : tj_KS1 (zx_Cl zx_mt zx_rc zx_mx' 2) tj_Lam te_h2 := by
  refine zy_method (d := 1) (dt := zx_d_X2_fillBox) (by rw [← zx_q_X2_fillBox]; rfl) (by decide +kernel) (by decide +kernel) ?_
  intro Ψ av w hw hty _
  match av, hty with
  | [v0, v1, v2], ⟨⟨q, hv0, hq⟩, ⟨i, hv1, i1, i2⟩, ⟨p, hv2, hp⟩, _⟩ =>
    subst hv0
    subst hv1
    subst hv2
    have hd : ∃ fts, tj_Lam[53]? = some (.inl (2, 1, fts)) ∧ fts[1]? = some (1, 51, 0) ∧ fts[2]? = some (1, 52, 0) := ⟨_, rfl, rfl, rfl⟩
    obtain ⟨fts, hd, t0, t2⟩ := hd
    obtain ⟨fs, hf, -, -, htyf⟩ := tj_obj hw hq hd
    obtain ⟨vk, h0, ⟨qk, evk, hk⟩⟩ := htyf 1 _ t0
    obtain ⟨vb, hb0, ⟨qb, evb, hkb⟩⟩ := htyf 2 _ t2
    subst evb
    subst evk
    obtain ⟨lr, hlr, hlen, hrt⟩ := tj_qarr (s := [(3, 39, 0)]) hw hk rfl
    obtain ⟨hin, hi⟩ := tj_in (x := i) (n := 3) (by omega) (by omega)
    have hilt : i.toNatClampNeg < lr.length := by omega
    have hlw : q < w.length := (List.getElem?_eq_some_iff.mp hf).1
    have hkw : qk < w.length := (List.getElem?_eq_some_iff.mp hlr).1
    have hqk : qk ≠ q := fun e => by rw [e, hf] at hlr; cases hlr
    have hpw : p < w.length := by rw [← hw.1]; exact (List.getElem?_eq_some_iff.mp hp).1
    have hW0 : tj_W tj_Lam (tj_P tj_c1 w, tj_P tj_c2 w) te_h2.2.2.1 Ψ w Ψ w 0 0 := ⟨hw, ⟨by show 0 + _ ≤ _; omega, by show 0 + _ ≤ _; omega⟩, tj_le_rf, tj_fr_rf⟩
    have hls : ∀ m, w.length ≤ m → zx_limP m [(0, (.inr (.inr (.inl q)))), (1, (.inl i)), (2, (.inr (.inr (.inl p))))] = true := fun m hm => by
      show (Nat.blt q m && (true && (Nat.blt p m && true))) = true
      rw [show Nat.blt q m = true from Nat.ble_eq_true_of_le (by omega), show Nat.blt p m = true from Nat.ble_eq_true_of_le (by omega)]
      rfl
    have cont : ∀ (Ψ1 : List Nat) (w1 : List zx_E) (lr1 : List (Option Nat)) (x mc ms : Nat), tj_W tj_Lam (tj_P tj_c1 w, tj_P tj_c2 w) te_h2.2.2.1 Ψ w Ψ1 w1 mc ms → w.length ≤ w1.length → w1[q]? = some (.inl (2, fs)) → w1[qk]? = some (.inr (4, 3, .inr (.inr lr1))) → lr1[i.toNatClampNeg]? = some (some x) → Ψ1[x]? = some 39 → zx_wp (zx_Cl zx_mt zx_rc zx_mx' 1) none (tj_P tj_c1 w, tj_P tj_c2 w) (zx_find (zx_cT zx_d_X2_fillBox)) (tj_Post tj_Lam te_h2.2.2.1 Ψ w zx_d_X2_fillBox te_h2.2.2.2.1 [(.inr (.inr (.inl q))), (.inl i), (.inr (.inr (.inl p)))]) (22, [(0, (.inr (.inr (.inl q)))), (1, (.inl i)), (2, (.inr (.inr (.inl p))))], [], w1, mc, ms) := by
      intro Ψ1 w1 lr1 x mc ms hW1 hl1 f1 f2 f3 hx
      refine zy_la (k := 0) rfl rfl (Or.inl ⟨q, rfl⟩) ?_
      refine zy_get rfl f1 h0 ?_
      refine zy_li (k := 1) rfl rfl ?_
      refine zy_aald rfl f2 hin f3 ?_
      refine zy_la (k := 2) rfl rfl (Or.inl ⟨p, rfl⟩) ?_
      have htyc : tj_typed Ψ1 [(.inr (.inr (.inl x))), (.inr (.inr (.inl p)))] [(1, 39, 0), (1, 33, 0)] := ⟨⟨x, rfl, hx⟩, ⟨p, rfl, hW1.2.2.1 _ _ hp⟩, trivial⟩
      refine zy_call (C := te_s560) te_p560 (n := 2) (av := [(.inr (.inr (.inl x))), (.inr (.inr (.inl p)))]) (st := []) rfl rfl (by decide) (hls _ hl1) rfl hW1 htyc (zy_nopre htyc) (by decide +kernel) (by decide +kernel) ?_
      intro r cy Ψ' o hW3 hle hfr hls3 ho hto hro hho
      have hty3 : tj_typed Ψ' [(.inr (.inr (.inl q))), (.inl i), (.inr (.inr (.inl p)))] [(1, 53, 0), (0, 2147483648, 2147483650), (1, 33, 0)] := ⟨⟨q, rfl, hW3.2.2.1 _ _ hq⟩, ⟨i, rfl, i1, i2⟩, ⟨p, rfl, hW3.2.2.1 _ _ hp⟩, trivial⟩
      have e := List.mem_singleton.mp ho
      subst e
      have hro : r.1 = none := hro
      rw [hro]
      obtain ⟨fs', f1', f2'⟩ := (hfr q 53 (hW1.2.2.1 _ _ hq)).1 2 fs f1
      have hb1 : fs'[2]? = some (.inr (.inr (.inl qb))) := by rw [f2' 2 (by decide)]; exact hb0
      have hkb3 : Ψ'[qb]? = some 52 := hW3.2.2.1 _ _ hkb
      obtain ⟨g, hg, hgt⟩ := tj_iarr (s := [(3, 2147483648, 2147483649)]) hW3.1 hkb3 rfl (Or.inr (Or.inl rfl))
      refine zy_la (k := 0) rfl rfl (Or.inl ⟨q, rfl⟩) ?_
      refine zy_get rfl f1' hb1 ?_
      refine zy_li (k := 1) rfl rfl ?_
      refine zy_ci rfl ?_
      refine zy_az rfl hg hin ?_
      refine te_end0 rfl (tj_W_arr hW3 hkb3 hg (tj_seti hW3.1 hkb3 rfl hg (fun a b hs => ?_)) (by decide) (by decide)) hty3
      have e1 : vp_nar .boolean (Int32.ofNat 1) = 1 := by decide
      have z1 : zx_b 1 = 2147483649 := by decide
      rw [show vp_nar .boolean (Int32.ofNat (zx_hd [1])) = 1 from e1, z1]
      have hn : i.toNatClampNeg < 3 := by omega
      unfold tj_sel at hs
      rw [show Nat.blt i.toNatClampNeg 3 = true from Nat.ble_eq_true_of_le hn] at hs
      cases hs
      exact ⟨by decide, by decide⟩
    show zx_wp _ none _ _ _ (0, [(0, (.inr (.inr (.inl q)))), (1, (.inl i)), (2, (.inr (.inr (.inl p))))], [], w, 0, 0)
    refine zy_la (k := 0) rfl rfl (Or.inl ⟨q, rfl⟩) ?_
    refine zy_get rfl hf h0 ?_
    refine zy_li (k := 1) rfl rfl ?_
    refine zy_aald rfl hlr hin (List.getElem?_eq_getElem hilt) ?_
    refine zy_nn rfl (fun x hx => ?_) (fun hx => ?_)
    · have hlx : lr[i.toNatClampNeg]? = some (some x) := by rw [List.getElem?_eq_getElem hilt, hx]
      have hvx := hrt _ (List.mem_of_getElem? hlx)
      rcases hvx with e | ⟨x', e, hx'⟩
      · cases e
      · cases e
        exact cont Ψ w lr x 0 0 hW0 (Nat.le_refl _) hf hlr hlx hx'
    · have hlx : lr[i.toNatClampNeg]? = some none := by rw [List.getElem?_eq_getElem hilt, hx]
      obtain ⟨⟨r6, r131⟩, hWk⟩ := te_boxW hw hk hlr hlen hrt hlx
      refine zy_la (k := 0) rfl rfl (Or.inl ⟨q, rfl⟩) ?_
      refine zy_get rfl hf h0 ?_
      refine zy_li (k := 1) rfl rfl ?_
      refine zy_newO (ci := 8) (fs := zx_cls 8) rfl (by show 0 + 1 ≤ tj_P tj_c1 w; omega) (by show 0 + 7 ≤ tj_P tj_c2 w; omega) ?_ ?_
      · unfold zx_limS
        rw [Bool.and_eq_true, Bool.and_eq_true]
        refine ⟨hls _ (Nat.le_refl _), ?_, tj_wt_lim hw⟩
        show (true && (Nat.blt qk w.length && true)) = true
        rw [show Nat.blt qk w.length = true from Nat.ble_eq_true_of_le hkw]
        rfl
      · refine zy_dup rfl ?_
        have hle1 : w.length ≤ (w ++ ([(.inl (8, (zx_cls 8)))] : List zx_E)).length := by rw [List.length_append]; exact Nat.le_add_right _ _
        refine zx_wp_call (a := 0) (n := 1) (y := 329) (g := zx_no) (av := [(.inr (.inr (.inl w.length)))]) (st' := [(.inr (.inr (.inl w.length))), (.inl i), (.inr (.inr (.inl qk)))]) (cy := (5, 124)) (r := (none, w ++ te_w8 w.length)) rfl rfl (Nat.le_of_ble_eq_true rfl) (hls _ hle1) ?_ (by show 0 + 1 + 5 ≤ tj_P tj_c1 w; omega) (by show 0 + 7 + 124 ≤ tj_P tj_c2 w; omega) (te_init8 (tj_wt_lim hw)) ?_
        · show (Nat.blt w.length (w ++ ([(.inl (8, (zx_cls 8)))] : List zx_E)).length && (true && (Nat.blt qk (w ++ ([(.inl (8, (zx_cls 8)))] : List zx_E)).length && true))) = true
          rw [List.length_append, show Nat.blt w.length (w.length + ([(.inl (8, (zx_cls 8)))] : List zx_E).length) = true from te_blt0 (by decide), show Nat.blt qk (w.length + ([(.inl (8, (zx_cls 8)))] : List zx_E).length) = true from Nat.ble_eq_true_of_le (by omega)]
          rfl
        · refine zy_aast rfl (by rw [List.getElem?_append_left hkw]; exact hlr) (by rw [List.getElem?_append_right (Nat.le_refl _), Nat.sub_self]; rfl) hin hlen ?_
          refine cont (Ψ ++ te_d8) _ (lr.set i.toNatClampNeg (some w.length)) w.length 6 131 hWk (by rw [List.length_set, List.length_append]; exact Nat.le_add_right _ _) (by rw [List.getElem?_set_ne hqk, List.getElem?_append_left hlw]; exact hf) (List.getElem?_set_self (by rw [List.length_append]; omega)) (List.getElem?_set_self hilt) ?_
          rw [List.getElem?_append_right (by rw [hw.1]; exact Nat.le_refl _), hw.1, Nat.sub_self]
          rfl
