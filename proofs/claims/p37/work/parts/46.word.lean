/-! by hand: Reader.wordToken -/
section zyWord
variable {K : zx_K} {X : zx_X} {cap : Nat × Nat} {tab : Nat → Option zx_Q} {Q : zx_S → Prop} {pc mc ms : Nat} {ls : List (Nat × zx_V)} {st : List zx_V} {w : List zx_E}
theorem zy_sL (ht : tab pc = some zx_sL) (h4 : st.length ≤ 4) (hm : mc ≤ cap.1) (hs : ms ≤ cap.2) (kk : zx_wp K X cap tab Q (pc + 5, ls, (.inl 108) :: st, w, mc, ms)) : zx_wp K X cap tab Q (pc, ls, st, w, mc, ms) := by
  refine zx_wp_pure (μ := (pc + 5, ls, (.inl 108) :: st, w, mc, ms)) ht ?_ kk
  show zx_strL cap _ = _
  simp only [zx_strL, Nat.ble_eq_true_of_le h4, Nat.ble_eq_true_of_le hm, Nat.ble_eq_true_of_le hs, Bool.and_self]
theorem zy_sC {a b : Nat} {x y : Int32} (ht : tab pc = some (zx_sC a b)) (ha : zx_look a ls = some (.inl x)) (hb : zx_look b ls = some (.inl y)) (hin : zx_in (x + y) 108 = true) (h4 : st.length ≤ 4) (hm : mc ≤ cap.1) (hs : ms ≤ cap.2) (kk : zx_wp K X cap tab Q (pc + 8, ls, (.inl (zx_chr (x + y).toNatClampNeg)) :: st, w, mc, ms)) : zx_wp K X cap tab Q (pc, ls, st, w, mc, ms) := by
  refine zx_wp_pure (μ := (pc + 8, ls, (.inl (zx_chr (x + y).toNatClampNeg)) :: st, w, mc, ms)) ht ?_ kk
  show zx_strC a b cap _ = _
  simp only [zx_strC, ha, hb, hin, Nat.ble_eq_true_of_le h4, Nat.ble_eq_true_of_le hm, Nat.ble_eq_true_of_le hs, Bool.and_self]
theorem zy_div {x y : Int32} (hy : y ≠ 0) (ht : tab pc = some zx_o_idiv) (kk : zx_wp K X cap tab Q (pc + 1, ls, (.inl (x / y)) :: st, w, mc, ms)) : zx_wp K X cap tab Q (pc, ls, (.inl y) :: (.inl x) :: st, w, mc, ms) := by
  refine zx_wp_pure (μ := (pc + 1, ls, (.inl (x / y)) :: st, w, mc, ms)) ht ?_ kk
  show zx_bd (fun x y => x / y) _ = _
  simp only [zx_bd, hy, decide_false]
end zyWord
theorem zy_look_put {k : Nat} {v : zx_V} {ls : List (Nat × zx_V)} : zx_look k (zx_put k v ls) = some v := by
  show zx_look k ((k, v) :: _) = _
  unfold zx_look
  rw [Nat.beq_refl]
theorem zy_look_ne {j k : Nat} {u v : zx_V} {ls : List (Nat × zx_V)} (hjk : j ≠ k) (hc : zx_cat u = false) (h : zx_look j ls = some u) : zx_look j (zx_put k v ls) = some u := by
  show zx_look j ((k, v) :: _) = _
  unfold zx_look
  rw [zx_beqF (Ne.symm hjk)]
  refine tj_look_filter ?_ h
  have e : (j == k) = false := tj_beqN (zx_beqF hjk)
  simp only [e, hc, Bool.and_false, Bool.not_false, Bool.and_self]
theorem te_addS {x y : Int32} {a b : Nat} (hx : zx_b x = 2147483648 + a) (hy : zx_b y = 2147483648 + b) (h : a + b < 2147483648) : zx_b (x + y) = 2147483648 + (a + b) := by
  rw [tj_b_add, hx, hy, show 2147483648 + a + (2147483648 + b) + 2147483648 = 4294967296 + (2147483648 + (a + b)) by omega, Nat.add_mod_left, Nat.mod_eq_of_lt (by omega)]
theorem te_b6n (k : Nat) (hk : k < 18) : 2147483848 ≤ zx_b (Int32.ofNat 200 + Int32.ofNat (6 * k) / Int32.ofNat 6) ∧ zx_b (Int32.ofNat 200 + Int32.ofNat (6 * k) / Int32.ofNat 6) ≤ 2147483865 := by
  have h : (List.range 18).all (fun k => Nat.ble 2147483848 (zx_b (Int32.ofNat 200 + Int32.ofNat (6 * k) / Int32.ofNat 6)) && Nat.ble (zx_b (Int32.ofNat 200 + Int32.ofNat (6 * k) / Int32.ofNat 6)) 2147483865) = true := by decide +kernel
  have h1 := List.all_eq_true.mp h k (List.mem_range.mpr hk)
  rw [Bool.and_eq_true] at h1
  exact ⟨Nat.le_of_ble_eq_true h1.1, Nat.le_of_ble_eq_true h1.2⟩
set_option maxRecDepth 20000 in
theorem te_b5 : tj_KS1 (zx_Cl zx_mt zx_rc zx_mx' 1) tj_Lam te_h5 := by
  refine zy_method (d := 0) (dt := zx_d_X4_wordToken) (by rw [← zx_q_X4_wordToken]; rfl) (by decide +kernel) (by decide +kernel) ?_
  intro Ψ av w hw hty hp
  match av, hty with
  | [v0, v1], ⟨⟨q, hv0, hq⟩, ⟨L, hv1, hL1, hL2⟩, _⟩ =>
    subst hv0
    subst hv1
    obtain ⟨ρ, r1, r2, r3⟩ := hp
    have e0 : ρ 0 = (.inr (.inr (.inl q))) := r1 0 _ rfl
    have e1 : ρ 1 = (.inl L) := r1 1 _ rfl
    have hd : ∃ fts, tj_Lam[49]? = some (.inl (4, 2, fts)) ∧ fts.length = 17 ∧ fts[5]? = some (1, 48, 0) := ⟨_, rfl, rfl, rfl⟩
    obtain ⟨fts, hd, hl, t5⟩ := hd
    obtain ⟨fs, hf, hlen, -, htyf⟩ := tj_obj hw hq hd
    have hlen : fs.length = 17 := by rw [hlen, hl]
    obtain ⟨v5, h5, ⟨qt, e5, hqt⟩⟩ := htyf 5 _ t5
    subst e5
    have hs : ∃ s, ρ 2 = (.inl s) ∧ 2147483648 ≤ zx_b s ∧ zx_b s ≤ 2147485248 := r2 2 (0, 2147483648, 2147485248) rfl
    have he : ∃ e, ρ 3 = (.inl e) ∧ 2147483648 ≤ zx_b e ∧ zx_b e ≤ 2147485248 := r2 3 (0, 2147483648, 2147485248) rfl
    obtain ⟨s, es, s1, s2⟩ := hs
    obtain ⟨e, ee, he1, he2⟩ := he
    have h9 : fs[9]? = some (.inl s) := by
      obtain ⟨q', ci, fs', c1, c2, c3⟩ := r3 (0, .inr 0, .inl 9, .inr 2) List.mem_cons_self
      have c1 : ρ 0 = (.inr (.inr (.inl q'))) := c1
      rw [e0] at c1
      cases c1
      rw [hf] at c2
      cases c2
      have c3 : fs[9]? = some (ρ 2) := c3
      rw [c3, es]
    have hLs : zx_b L = zx_b e - zx_b s + 2147483648 ∨ zx_b L < 2147483648 := by
      have h4 : tj_of 1 (ρ 3) (ρ 2) (ρ 1) w := r3 (4, .inr 3, .inr 2, .inr 1) (List.mem_cons_of_mem _ (List.mem_cons_of_mem _ List.mem_cons_self))
      rw [tj_of_op rfl] at h4
      obtain ⟨x, y, c1, c2, c3⟩ := h4
      rw [ee] at c1
      cases c1
      rw [es] at c2
      cases c2
      rw [e1] at c3
      have c3 : L = e - s := Sum.inl.inj c3
      have := tj_b_sub e s
      rw [← c3] at this
      omega
    obtain ⟨g, hg, -⟩ := tj_iarr (n := 1600) (s := [(1600, 2147483648, 2147483903)]) hw hqt rfl (Or.inl rfl)
    have hty : tj_typed Ψ [(.inr (.inr (.inl q))), (.inl L)] [(1, 49, 0), (0, 0, 4294967295)] := ⟨⟨q, rfl, hq⟩, ⟨L, rfl, hL1, hL2⟩, trivial⟩
    have h6 : zx_b (Int32.ofNat 6) = 2147483654 := by decide
    have hsix : ∀ k, k ≤ 19 → zx_b (Int32.ofNat (6 * k)) = 2147483648 + 6 * k := fun k hk => by
      rw [tj_b_of]
      omega
    show zx_wp (zx_Cl zx_mt zx_rc zx_mx' 0) none (tj_P tj_c1 w, tj_P tj_c2 w) (zx_find (zx_cT zx_d_X4_wordToken)) (tj_Post tj_Lam te_h5.2.2.1 Ψ w zx_d_X4_wordToken te_h5.2.2.2.1 [(.inr (.inr (.inl q))), (.inl L)]) (0, [(0, (.inr (.inr (.inl q)))), (1, (.inl L))], [], w, 0, 0)
    have hname : ∀ ls : List (Nat × zx_V), zx_wp (zx_Cl zx_mt zx_rc zx_mx' 0) none (tj_P tj_c1 w, tj_P tj_c2 w) (zx_find (zx_cT zx_d_X4_wordToken)) (tj_Post tj_Lam te_h5.2.2.1 Ψ w zx_d_X4_wordToken te_h5.2.2.2.1 [(.inr (.inr (.inl q))), (.inl L)]) (94, ls, [], w, 0, 0) := by
      intro ls
      refine zy_ci rfl ?_
      have hr : tj_retT Ψ (some (0, 2147483650, 2147483650)) (some (.inl (Int32.ofNat 2))) := ⟨_, rfl, ⟨_, rfl, by decide, by decide⟩⟩
      exact zx_wp_done ⟨(some (.inl (Int32.ofNat 2)), w), Ψ, _, ⟨Nat.le_refl _, Nat.le_refl _, rfl, ⟨_, rfl, rfl⟩⟩, Nat.le_of_eq (Nat.zero_add _), Nat.le_of_eq (Nat.zero_add _), tj_le_rf, hw, tj_fr_rf, List.mem_cons_self, hty, hr, zy_noout hr⟩
    refine zy_ci rfl ?_
    refine zy_si (k := 2) rfl ?_
    have houter := zx_wp_loop (K := zx_Cl zx_mt zx_rc zx_mx' 0) (X := none) (cap := (tj_P tj_c1 w, tj_P tj_c2 w)) (tab := zx_find (zx_cT zx_d_X4_wordToken)) (Q := tj_Post tj_Lam te_h5.2.2.1 Ψ w zx_d_X4_wordToken te_h5.2.2.2.1 [(.inr (.inr (.inl q))), (.inl L)]) (fun z : List (Nat × zx_V) × Nat => (2, z.1, [], w, 0, 0)) (fun z => 20 - z.2) (fun z => z.2 ≤ 18 ∧ zx_look 0 z.1 = some (.inr (.inr (.inl q))) ∧ zx_look 1 z.1 = some (.inl L) ∧ zx_look 2 z.1 = some (.inl (Int32.ofNat (6 * z.2)))) ?_
    · exact houter (zx_put 2 (.inl (Int32.ofNat 0)) [(0, (.inr (.inr (.inl q)))), (1, (.inl L))], 0) ⟨by show 0 ≤ 18; omega, rfl, rfl, rfl⟩
    · intro z ⟨hk, l0, l1, l2⟩
      obtain ⟨ls, k⟩ := z
      have hk : k ≤ 18 := hk
      have l0 : zx_look 0 ls = some (.inr (.inr (.inl q))) := l0
      have l1 : zx_look 1 ls = some (.inl L) := l1
      have l2 : zx_look 2 ls = some (.inl (Int32.ofNat (6 * k))) := l2
      generalize hQ : (fun τ => tj_Post tj_Lam te_h5.2.2.1 Ψ w zx_d_X4_wordToken te_h5.2.2.2.1 [(.inr (.inr (.inl q))), (.inl L)] τ ∨ ∃ a' : List (Nat × zx_V) × Nat, τ = (2, a'.1, [], w, 0, 0) ∧ (a'.2 ≤ 18 ∧ zx_look 0 a'.1 = some (.inr (.inr (.inl q))) ∧ zx_look 1 a'.1 = some (.inl L) ∧ zx_look 2 a'.1 = some (.inl (Int32.ofNat (6 * a'.2)))) ∧ 20 - a'.2 < 20 - k) = Q2
      have hnm : ∀ ls : List (Nat × zx_V), zx_wp (zx_Cl zx_mt zx_rc zx_mx' 0) none (tj_P tj_c1 w, tj_P tj_c2 w) (zx_find (zx_cT zx_d_X4_wordToken)) Q2 (94, ls, [], w, 0, 0) := fun ls => by
        rw [← hQ]
        exact zx_wp_mono (fun τ h => Or.inl h) (hname ls)
      show zx_wp _ none _ _ Q2 (2, ls, [], w, 0, 0)
      refine zy_li (k := 1) rfl l1 ?_
      refine zy_ci rfl ?_
      refine zy_jt rfl (fun _ => hnm ls) (fun hL6 => ?_)
      have hL6 : zx_b L ≤ zx_b (Int32.ofNat 6) := hL6
      refine zy_li (k := 2) rfl l2 ?_
      refine zy_ci rfl ?_
      refine zy_add rfl ?_
      refine zy_sL rfl (Nat.le_of_ble_eq_true rfl) (Nat.zero_le _) (Nat.zero_le _) ?_
      refine zy_jt rfl (fun _ => hnm ls) (fun hk6 => ?_)
      have hk6 : zx_b (Int32.ofNat (6 * k) + Int32.ofNat 6) ≤ zx_b 108 := hk6
      have e108 : zx_b 108 = 2147483756 := by decide
      have eadd := tj_b_add (Int32.ofNat (6 * k)) (Int32.ofNat 6)
      have ek := hsix k (by omega)
      have hk17 : k < 18 := by omega
      refine zy_ci rfl ?_
      refine zy_si (k := 3) rfl ?_
      -- the next place
      have hnext : ∀ ls : List (Nat × zx_V), zx_look 0 ls = some (.inr (.inr (.inl q))) → zx_look 1 ls = some (.inl L) → zx_look 2 ls = some (.inl (Int32.ofNat (6 * k))) → zx_wp (zx_Cl zx_mt zx_rc zx_mx' 0) none (tj_P tj_c1 w, tj_P tj_c2 w) (zx_find (zx_cT zx_d_X4_wordToken)) Q2 (88, ls, [], w, 0, 0) := by
        intro ls l0 l1 l2
        refine zy_ik rfl l2 ?_
        refine zy_goto rfl ?_
        rw [← hQ]
        refine zx_wp_done (Or.inr ⟨(_, k + 1), rfl, ⟨by show k + 1 ≤ 18; omega, zy_look_ne (by decide) rfl l0, zy_look_ne (by decide) rfl l1, ?_⟩, by show 20 - (k + 1) < 20 - k; omega⟩)
        show zx_look 2 (zx_put 2 (.inl (Int32.ofNat (6 * k) + Int32.ofNat 6)) ls) = some (.inl (Int32.ofNat (6 * (k + 1))))
        rw [zy_look_put, ← Int32.ofNat_add, show 6 * (k + 1) = 6 * k + 6 by omega]
      -- behind the inner loop
      have hend : ∀ (ls : List (Nat × zx_V)) (x : Int32), zx_look 0 ls = some (.inr (.inr (.inl q))) → zx_look 1 ls = some (.inl L) → zx_look 2 ls = some (.inl (Int32.ofNat (6 * k))) → zx_look 3 ls = some (.inl x) → 2147483648 ≤ zx_b x → zx_wp (zx_Cl zx_mt zx_rc zx_mx' 0) none (tj_P tj_c1 w, tj_P tj_c2 w) (zx_find (zx_cT zx_d_X4_wordToken)) Q2 (55, ls, [], w, 0, 0) := by
        intro ls x l0 l1 l2 l3 hx
        refine zy_li (k := 3) rfl l3 ?_
        refine zy_li (k := 1) rfl l1 ?_
        refine zy_jt rfl (fun _ => hnext ls l0 l1 l2) (fun hxL => ?_)
        have hxL : zx_b x = zx_b L := hxL
        have hyes : zx_wp (zx_Cl zx_mt zx_rc zx_mx' 0) none (tj_P tj_c1 w, tj_P tj_c2 w) (zx_find (zx_cT zx_d_X4_wordToken)) Q2 (79, ls, [], w, 0, 0) := by
          refine zy_ci rfl ?_
          refine zy_li (k := 2) rfl l2 ?_
          refine zy_ci rfl ?_
          refine zy_div (by decide) rfl ?_
          refine zy_add rfl ?_
          obtain ⟨b1, b2⟩ := te_b6n k hk17
          rw [← hQ]
          have hr : tj_retT Ψ (some (0, 2147483848, 2147483865)) (some (.inl (Int32.ofNat 200 + Int32.ofNat (6 * k) / Int32.ofNat 6))) := ⟨_, rfl, ⟨_, rfl, b1, b2⟩⟩
          exact zx_wp_done (Or.inl ⟨(some (.inl (Int32.ofNat 200 + Int32.ofNat (6 * k) / Int32.ofNat 6)), w), Ψ, _, ⟨Nat.le_refl _, Nat.le_refl _, rfl, ⟨_, rfl, rfl⟩⟩, Nat.le_of_eq (Nat.zero_add _), Nat.le_of_eq (Nat.zero_add _), tj_le_rf, hw, tj_fr_rf, List.mem_cons_of_mem _ List.mem_cons_self, hty, hr, zy_noout hr⟩)
        refine zy_li (k := 1) rfl l1 ?_
        refine zy_ci rfl ?_
        refine zy_jt rfl (fun _ => hyes) (fun hne => ?_)
        have hne : zx_b L ≠ zx_b (Int32.ofNat 6) := hne
        have es := te_addS (x := Int32.ofNat (6 * k)) (y := L) (a := 6 * k) (b := zx_b L - 2147483648) ek (by omega) (by omega)
        obtain ⟨hin, -⟩ := tj_in (x := Int32.ofNat (6 * k) + L) (n := 108) (by omega) (by omega)
        refine zy_sC rfl l2 l1 hin (Nat.zero_le _) (Nat.zero_le _) (Nat.zero_le _) ?_
        refine zy_ci rfl ?_
        exact zy_jt rfl (fun _ => hnext ls l0 l1 l2) (fun _ => hyes)
      have hinner := zx_wp_loop (K := zx_Cl zx_mt zx_rc zx_mx' 0) (X := none) (cap := (tj_P tj_c1 w, tj_P tj_c2 w)) (tab := zx_find (zx_cT zx_d_X4_wordToken)) (Q := Q2) (fun z : List (Nat × zx_V) × Int32 => (22, z.1, [], w, 0, 0)) (fun z => 2147483660 - zx_b z.2) (fun z => zx_look 0 z.1 = some (.inr (.inr (.inl q))) ∧ zx_look 1 z.1 = some (.inl L) ∧ zx_look 2 z.1 = some (.inl (Int32.ofNat (6 * k))) ∧ zx_look 3 z.1 = some (.inl z.2) ∧ 2147483648 ≤ zx_b z.2) ?_
      · exact hinner (zx_put 3 (.inl (Int32.ofNat 0)) ls, Int32.ofNat 0) ⟨zy_look_ne (by decide) rfl l0, zy_look_ne (by decide) rfl l1, zy_look_ne (by decide) rfl l2, zy_look_put, by show 2147483648 ≤ zx_b (Int32.ofNat 0); decide⟩
      · intro z ⟨l0, l1, l2, l3, hx⟩
        obtain ⟨ls, x⟩ := z
        have l0 : zx_look 0 ls = some (.inr (.inr (.inl q))) := l0
        have l1 : zx_look 1 ls = some (.inl L) := l1
        have l2 : zx_look 2 ls = some (.inl (Int32.ofNat (6 * k))) := l2
        have l3 : zx_look 3 ls = some (.inl x) := l3
        have hx : 2147483648 ≤ zx_b x := hx
        have hout : zx_wp (zx_Cl zx_mt zx_rc zx_mx' 0) none (tj_P tj_c1 w, tj_P tj_c2 w) (zx_find (zx_cT zx_d_X4_wordToken)) (fun τ => Q2 τ ∨ ∃ a' : List (Nat × zx_V) × Int32, τ = (22, a'.1, [], w, 0, 0) ∧ (zx_look 0 a'.1 = some (.inr (.inr (.inl q))) ∧ zx_look 1 a'.1 = some (.inl L) ∧ zx_look 2 a'.1 = some (.inl (Int32.ofNat (6 * k))) ∧ zx_look 3 a'.1 = some (.inl a'.2) ∧ 2147483648 ≤ zx_b a'.2) ∧ 2147483660 - zx_b a'.2 < 2147483660 - zx_b x) (55, ls, [], w, 0, 0) := zx_wp_mono (fun τ h => Or.inl h) (hend ls x l0 l1 l2 l3 hx)
        refine zy_li (k := 3) rfl l3 ?_
        refine zy_li (k := 1) rfl l1 ?_
        refine zy_jt rfl (fun _ => hout) (fun hxL => ?_)
        have hxL : zx_b x < zx_b L := hxL
        refine zy_la (k := 0) rfl l0 (Or.inl ⟨_, rfl⟩) ?_
        refine zy_get rfl hf h5 ?_
        refine zy_la (k := 0) rfl l0 (Or.inl ⟨_, rfl⟩) ?_
        refine zy_get rfl hf h9 ?_
        refine zy_li (k := 3) rfl l3 ?_
        refine zy_add rfl ?_
        have ei := tj_b_add s x
        obtain ⟨hin, -⟩ := tj_in (x := s + x) (n := 1600) (by omega) (by omega)
        refine zy_ld rfl hg hin ?_
        have ej := te_addS (x := Int32.ofNat (6 * k)) (y := x) (a := 6 * k) (b := zx_b x - 2147483648) ek (by omega) (by omega)
        obtain ⟨hin2, -⟩ := tj_in (x := Int32.ofNat (6 * k) + x) (n := 108) (by omega) (by omega)
        refine zy_sC rfl l2 l3 hin2 (Nat.le_of_ble_eq_true rfl) (Nat.zero_le _) (Nat.zero_le _) ?_
        refine zy_jt rfl (fun _ => hout) (fun _ => ?_)
        refine zy_ik rfl l3 ?_
        refine zy_goto rfl ?_
        have e1 : zx_b (Int32.ofNat 1) = 2147483649 := by decide
        have ex := tj_b_add x (Int32.ofNat 1)
        exact zx_wp_done (Or.inr ⟨(_, x + Int32.ofNat 1), rfl, ⟨zy_look_ne (by decide) rfl l0, zy_look_ne (by decide) rfl l1, zy_look_ne (by decide) rfl l2, zy_look_put, by show 2147483648 ≤ zx_b (x + Int32.ofNat 1); omega⟩, by show 2147483660 - zx_b (x + Int32.ofNat 1) < 2147483660 - zx_b x; omega⟩)
  | [], h => exact h.elim
  | [_], h => exact h.2.elim
  | _ :: _ :: _ :: _, h => exact h.2.2.elim
