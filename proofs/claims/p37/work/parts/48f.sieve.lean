/-! by hand: Sums.beginSieve -/
set_option maxRecDepth 20000 in
theorem tg_sieve {d : Nat} (hfill : tj_KS1 (zx_Cl zx_mt zx_rc zx_mx' d) tj_Lam (3, [(1, 91, 0), (0, 2147483648, 2147483648), (0, 2147483648, 2147614720), (0, 2147483648, 2147483648)], ([], [91]), [([(1, 91, 0), (0, 2147483648, 2147483648), (0, 2147483648, 2147614720), (0, 2147483648, 2147483648)], none, ([], [], []))], ([], [], []))) : tj_KS1 (zx_Cl zx_mt zx_rc zx_mx' (d + 1)) tj_Lam (331, [(1, 93, 0), (3, 0, 0), (3, 0, 0)], ([(93, 14), (93, 15)], [91]), [([(1, 93, 0), (3, 0, 0), (3, 0, 0)], none, ([], [], []))], ([], [], [])) := by
  refine zy_method (d := d) (dt := zx_d_X9_beginSieve) (by rw [← zx_q_X9_beginSieve]; rfl) (by decide +kernel) (by decide +kernel) ?_
  intro Ψ av w hw hty _
  match av, hty with
  | [v0, v1, v2], ⟨⟨q, hv0, hq⟩, ⟨wd, hv1⟩, ⟨md, hv2⟩, _⟩ =>
    subst hv0
    subst hv1
    subst hv2
    have hd : ∃ fts, tj_Lam[93]? = some (.inl (9, 0, fts)) ∧ fts.length = 17 ∧ fts[13]? = some (1, 91, 0) ∧ fts[14]? = some (0, 2147483648, 2147483649) ∧ fts[15]? = some (0, 2147483648, 2147483680) := ⟨_, rfl, rfl, rfl, rfl, rfl⟩
    obtain ⟨fts, hd, hl, t13, t14, t15⟩ := hd
    obtain ⟨fs, hf, hlen, -, htyf⟩ := tj_obj hw hq hd
    obtain ⟨v13, h13, ⟨s, e13, hs⟩⟩ := htyf 13 _ t13
    subst e13
    obtain ⟨g, hg, -⟩ := tj_iarr (n := 131072) (s := [(131072, 0, 4294967295)]) hw hs rfl (Or.inl rfl)
    have hqs : q ≠ s := fun e => by rw [← e, hf] at hg; cases hg
    have hlw : q < w.length := (List.getElem?_eq_some_iff.mp hf).1
    have hty3 : tj_typed Ψ [(.inr (.inr (.inl q))), (.inr (.inl wd)), (.inr (.inl md))] [(1, 93, 0), (3, 0, 0), (3, 0, 0)] := ⟨⟨q, rfl, hq⟩, ⟨wd, rfl⟩, ⟨md, rfl⟩, trivial⟩
    let I : List zx_E → List zx_V → Prop := fun w' fs' => tj_W tj_Lam (tj_P tj_c1 w, tj_P tj_c2 w) ([(93, 14), (93, 15)], [91]) Ψ w Ψ w' 0 0 ∧ w'[q]? = some (.inl (9, fs')) ∧ fs'.length = 17 ∧ fs'[13]? = some (.inr (.inr (.inl s))) ∧ w'[s]? = some (.inr (0, 131072, .inl g))
    have hset : ∀ (w' : List zx_E) (fs' : List zx_V) (k : Nat) (x : Int32) (lo hi : Nat), I w' fs' → fts[k]? = some (0, lo, hi) → lo ≤ zx_b x → zx_b x ≤ hi → tj_free 9 k = true → tj_h2 93 k [(93, 14), (93, 15)] = true → k ≠ 13 → I (w'.set q (.inl (9, (fs'.set k (.inl x))))) (fs'.set k (.inl x)) := by
      intro w' fs' k x lo hi ⟨i1, i2, i3, i4, i5⟩ hk b1 b2 hfr hE hne
      have hlq : q < w'.length := (List.getElem?_eq_some_iff.mp i2).1
      refine ⟨tj_W_field i1 hq hd i2 hk ⟨x, rfl, b1, b2⟩ trivial hfr hE, List.getElem?_set_self hlq, by rw [List.length_set]; exact i3, by rw [List.getElem?_set_ne hne]; exact i4, by rw [List.getElem?_set_ne hqs]; exact i5⟩
    have hlim : ∀ (w' : List zx_E) (fs' : List zx_V) (ls : List (Nat × zx_V)), I w' fs' → True := fun _ _ _ _ => trivial
    have hfin : ∀ (w' : List zx_E) (fs' : List zx_V) (a : Int32) (b : Int64), I w' fs' → zx_wp (zx_Cl zx_mt zx_rc zx_mx' d) none (tj_P tj_c1 w, tj_P tj_c2 w) (zx_find (zx_cT zx_d_X9_beginSieve)) (tj_Post tj_Lam ([(93, 14), (93, 15)], [91]) Ψ w zx_d_X9_beginSieve [([(1, 93, 0), (3, 0, 0), (3, 0, 0)], none, ([], [], []))] [(.inr (.inr (.inl q))), (.inr (.inl wd)), (.inr (.inl md))]) (64, [(7, (.inl a)), (5, (.inr (.inl b))), (0, (.inr (.inr (.inl q)))), (1, (.inr (.inl wd))), (3, (.inr (.inl md)))], [], w', 0, 0) := by
      intro w' fs' a b hI
      refine zy_la (k := 0) rfl rfl (Or.inl ⟨_, rfl⟩) ?_
      refine zy_ci (n := 1) (c := 1) rfl ?_
      refine zy_put rfl hI.2.1 (by rw [hI.2.2.1]; decide) rfl ?_
      have hI2 := hset w' fs' 14 (Int32.ofNat 1) _ _ hI t14 (by decide) (by decide) rfl (by decide +kernel) (by decide)
      generalize w'.set q (.inl (9, (fs'.set 14 (.inl (Int32.ofNat 1))))) = w2 at hI2 ⊢
      generalize fs'.set 14 (.inl (Int32.ofNat 1)) = fs2 at hI2 ⊢
      obtain ⟨j1, j2, j3, j4, j5⟩ := hI2
      obtain ⟨fs3, k1, -, -, k2⟩ := tj_obj j1.1 hq hd
      rw [j2] at k1
      cases k1
      obtain ⟨v15, h15, ⟨sh, e15, -, -⟩⟩ := k2 15 _ t15
      subst e15
      refine zy_lj (k := 1) rfl rfl ?_
      refine zy_cj (n := 1) (c := 1) rfl ?_
      refine zy_bj rfl ?_
      refine zy_la (k := 0) rfl rfl (Or.inl ⟨_, rfl⟩) ?_
      refine zy_get rfl j2 h15 ?_
      refine zy_hj rfl ?_
      refine zy_ci (n := 1) (c := 5) rfl ?_
      refine zy_hj rfl ?_
      refine zy_cj (n := 1) (c := 1) rfl ?_
      refine zy_bj rfl ?_
      refine zy_sj rfl ?_
      generalize hu : (_ : Int64) + Int64.ofNat 1 = u
      show zx_wp _ none _ _ _ (83, [(7, (.inr (.inl u))), (5, (.inr (.inl b))), (0, (.inr (.inr (.inl q)))), (1, (.inr (.inl wd))), (3, (.inr (.inl md)))], [], w2, 0, 0)
      refine zy_la (k := 0) rfl rfl (Or.inl ⟨_, rfl⟩) ?_
      refine zy_get rfl j2 j4 ?_
      refine zy_ci (n := 1) (c := 0) rfl ?_
      refine zy_cj (n := 1) (c := 0) rfl ?_
      refine zy_la (k := 0) rfl rfl (Or.inl ⟨_, rfl⟩) ?_
      refine zy_get rfl j2 j4 ?_
      refine zy_al rfl j5 rfl ?_
      refine zy_i2l rfl ?_
      refine zy_lj (k := 7) rfl rfl ?_
      refine zy_mnl rfl (Nat.le_of_ble_eq_true rfl) (Nat.zero_le _) (Nat.zero_le _) ?_
      generalize hm : (if u < (Int32.ofNat 131072).toInt64 then u else (Int32.ofNat 131072).toInt64) = m
      refine zy_mxl rfl (Nat.le_of_ble_eq_true rfl) (Nat.zero_le _) (Nat.zero_le _) ?_
      generalize hM : (if m < Int64.ofNat 0 then Int64.ofNat 0 else m) = M
      refine zy_l2i rfl ?_
      obtain ⟨c1, c2⟩ := tg_cut hm.symm hM.symm
      generalize M.toInt32 = z at c1 c2 ⊢
      refine zy_ci (n := 1) (c := 0) rfl ?_
      have hqw : q < w2.length := (List.getElem?_eq_some_iff.mp j2).1
      have hls : zx_limP w2.length [(7, (.inr (.inl u))), (5, (.inr (.inl b))), (0, (.inr (.inr (.inl q)))), (1, (.inr (.inl wd))), (3, (.inr (.inl md)))] = true := by
        show (Nat.blt q w2.length && true) = true
        rw [show Nat.blt q w2.length = true from Nat.ble_eq_true_of_le hqw]
        rfl
      refine zy_call hfill (n := 4) (av := [(.inr (.inr (.inl s))), (.inl (Int32.ofNat 0)), (.inl z), (.inl (Int32.ofNat 0))]) (st := []) rfl rfl (by decide) hls rfl j1 ⟨⟨s, rfl, hs⟩, ⟨_, rfl, by decide, by decide⟩, ⟨z, rfl, c1, c2⟩, ⟨_, rfl, by decide, by decide⟩, trivial⟩ (zy_nopre (ts := [(1, 91, 0), (0, 2147483648, 2147483648), (0, 2147483648, 2147614720), (0, 2147483648, 2147483648)]) ⟨⟨s, rfl, hs⟩, ⟨_, rfl, by decide, by decide⟩, ⟨z, rfl, c1, c2⟩, ⟨_, rfl, by decide, by decide⟩, trivial⟩) (by decide +kernel) (by decide +kernel) ?_
      intro r cy Ψ' o hW3 hle hfr hls3 ho hto hro hho
      have e := List.mem_singleton.mp ho
      subst e
      have hro : r.1 = none := hro
      rw [hro]
      have hr : tj_retT Ψ' none (none : Option zx_V) := rfl
      exact zx_wp_done ⟨(none, r.2), Ψ', _, ⟨Nat.le_refl _, Nat.le_refl _, rfl, ⟨rfl, rfl⟩⟩, hW3.2.1.1, hW3.2.1.2, hW3.2.2.1, hW3.1, hW3.2.2.2, List.mem_cons_self, ⟨⟨q, rfl, hle _ _ hq⟩, ⟨wd, rfl⟩, ⟨md, rfl⟩, trivial⟩, hr, zy_noout hr⟩
    have hloop := zx_wp_loop (K := zx_Cl zx_mt zx_rc zx_mx' d) (X := none) (cap := (tj_P tj_c1 w, tj_P tj_c2 w)) (tab := zx_find (zx_cT zx_d_X9_beginSieve)) (Q := tj_Post tj_Lam ([(93, 14), (93, 15)], [91]) Ψ w zx_d_X9_beginSieve [([(1, 93, 0), (3, 0, 0), (3, 0, 0)], none, ([], [], []))] [(.inr (.inr (.inl q))), (.inr (.inl wd)), (.inr (.inl md))]) (fun a : Int32 × Int64 × List zx_E × List zx_V => (20, [(7, (.inl a.1)), (5, (.inr (.inl a.2.1))), (0, (.inr (.inr (.inl q)))), (1, (.inr (.inl wd))), (3, (.inr (.inl md)))], [], a.2.2.1, 0, 0)) (fun a => 4294967296 - zx_b a.1) (fun a => 2147483648 ≤ zx_b a.1 ∧ I a.2.2.1 a.2.2.2) ?_
    · show zx_wp _ none _ _ _ (0, [(0, (.inr (.inr (.inl q)))), (1, (.inr (.inl wd))), (3, (.inr (.inl md)))], [], w, 0, 0)
      have hI0 : I w fs := ⟨⟨hw, ⟨by show 0 + _ ≤ _; omega, by show 0 + _ ≤ _; omega⟩, tj_le_rf, tj_fr_rf⟩, hf, by rw [hlen, hl], h13, hg⟩
      refine zy_la (k := 0) rfl rfl (Or.inl ⟨_, rfl⟩) ?_
      refine zy_get rfl hf h13 ?_
      refine zy_al rfl hg rfl ?_
      refine zy_i2l rfl ?_
      refine zy_cj (n := 3) (c := 32) rfl ?_
      refine zy_bj rfl ?_
      refine zy_sj rfl ?_
      refine zy_la (k := 0) rfl rfl (Or.inl ⟨_, rfl⟩) ?_
      refine zy_ci (n := 1) (c := 0) rfl ?_
      refine zy_put rfl hf (by rw [hlen, hl]; decide) rfl ?_
      have hI2 := hset w fs 15 (Int32.ofNat 0) _ _ hI0 t15 (by decide) (by decide) rfl (by decide +kernel) (by decide)
      refine zy_ci (n := 1) (c := 0) rfl ?_
      refine zy_si rfl ?_
      exact hloop (Int32.ofNat 0, _, _, _) ⟨(by decide : 2147483648 ≤ zx_b (Int32.ofNat 0)), hI2⟩
    · intro ⟨a, b, w', fs'⟩ ⟨ha, hI⟩
      have ha : 2147483648 ≤ zx_b a := ha
      have hI : I w' fs' := hI
      show zx_wp _ none _ _ _ (20, [(7, (.inl a)), (5, (.inr (.inl b))), (0, (.inr (.inr (.inl q)))), (1, (.inr (.inl wd))), (3, (.inr (.inl md)))], [], w', 0, 0)
      refine zy_li (k := 7) rfl rfl ?_
      refine zy_ci (n := 2) (c := 32) rfl ?_
      refine zy_jt rfl (fun _ => zx_wp_mono (fun τ h => Or.inl h) (hfin w' fs' a b hI)) (fun hlt => ?_)
      have hlt : zx_b a < zx_b (Int32.ofNat 32) := hlt
      rw [show zx_b (Int32.ofNat 32) = 2147483680 by decide] at hlt
      have hgo : zx_wp (zx_Cl zx_mt zx_rc zx_mx' d) none (tj_P tj_c1 w, tj_P tj_c2 w) (zx_find (zx_cT zx_d_X9_beginSieve)) (fun τ => tj_Post tj_Lam ([(93, 14), (93, 15)], [91]) Ψ w zx_d_X9_beginSieve [([(1, 93, 0), (3, 0, 0), (3, 0, 0)], none, ([], [], []))] [(.inr (.inr (.inl q))), (.inr (.inl wd)), (.inr (.inl md))] τ ∨ ∃ a' : Int32 × Int64 × List zx_E × List zx_V, τ = (20, [(7, (.inl a'.1)), (5, (.inr (.inl a'.2.1))), (0, (.inr (.inr (.inl q)))), (1, (.inr (.inl wd))), (3, (.inr (.inl md)))], [], a'.2.2.1, 0, 0) ∧ (2147483648 ≤ zx_b a'.1 ∧ I a'.2.2.1 a'.2.2.2) ∧ 4294967296 - zx_b a'.1 < 4294967296 - zx_b a) (50, [(7, (.inl a)), (5, (.inr (.inl b))), (0, (.inr (.inr (.inl q)))), (1, (.inr (.inl wd))), (3, (.inr (.inl md)))], [], w', 0, 0) := by
        have e1 : zx_b (a + Int32.ofNat 1) = zx_b a + 1 := by
          have h1 : zx_b (Int32.ofNat 1) = 2147483649 := by decide
          have := tj_b_add a (Int32.ofNat 1)
          omega
        refine zy_la (k := 0) rfl rfl (Or.inl ⟨_, rfl⟩) ?_
        refine zy_li (k := 7) rfl rfl ?_
        refine zy_ci (n := 1) (c := 1) rfl ?_
        refine zy_add rfl ?_
        refine zy_put rfl hI.2.1 (by rw [hI.2.2.1]; decide) rfl ?_
        have hI2 := hset w' fs' 15 (a + Int32.ofNat 1) _ _ hI t15 (by omega) (by omega) rfl (by decide +kernel) (by decide)
        refine zy_ik (k := 7) (n := 1) rfl rfl ?_
        refine zy_goto rfl ?_
        exact zx_wp_done (Or.inr ⟨(a + Int32.ofNat 1, b, _, _), rfl, ⟨by show _ ≤ zx_b (a + Int32.ofNat 1); omega, hI2⟩, by show 4294967296 - zx_b (a + Int32.ofNat 1) < _; omega⟩)
      refine zy_lj (k := 1) rfl rfl ?_
      refine zy_cj (n := 1) (c := 1) rfl ?_
      refine zy_bj rfl ?_
      refine zy_li (k := 7) rfl rfl ?_
      refine zy_hj rfl ?_
      refine zy_lj (k := 5) rfl rfl ?_
      refine zy_lcmp rfl ?_
      refine zy_j0 rfl (fun _ => hgo) (fun _ => ?_)
      refine zy_lj (k := 3) rfl rfl ?_
      refine zy_li (k := 7) rfl rfl ?_
      refine zy_hj rfl ?_
      refine zy_cj (n := 3) (c := 1024) rfl ?_
      refine zy_lcmp rfl ?_
      refine zy_j0 rfl (fun _ => zx_wp_mono (fun τ h => Or.inl h) (hfin w' fs' a b hI)) (fun _ => hgo)
