/-! by hand: the law as a whole -/
def tz_ts : List (Nat × Nat) := [(2147483648, 216), (2147483649, 279), (2147483650, 302), (2147483651, 315), (2147483652, 338), (2147483653, 371), (2147483654, 404), (2147483655, 437), (2147483656, 470), (2147483657, 503), (2147483658, 536), (2147483659, 569), (2147483660, 612), (2147483661, 635), (2147483662, 668), (2147483663, 711), (2147483664, 734), (2147483665, 747), (2147483666, 760), (2147483667, 773), (2147483668, 816), (2147483669, 849), (2147483670, 872), (2147483671, 885), (2147483672, 918), (2147483673, 951), (2147483674, 994), (2147483675, 1033), (2147483676, 1046), (2147483677, 1069), (2147483678, 1082), (2147483679, 1105), (2147483680, 1128), (2147483681, 1161), (2147483682, 1194), (2147483683, 1217), (2147483684, 1240), (2147483685, 1273), (2147483686, 1316), (2147483687, 1349), (2147483688, 1372), (2147483689, 1395)]
theorem tz_all42 : ∀ q ∈ tz_ts, tz_Bd q.2 := List.forall_mem_cons.mpr ⟨tz_u0, List.forall_mem_cons.mpr ⟨tz_u1, List.forall_mem_cons.mpr ⟨tz_u2, List.forall_mem_cons.mpr ⟨tz_u3, List.forall_mem_cons.mpr ⟨tz_u4, List.forall_mem_cons.mpr ⟨tz_u5, List.forall_mem_cons.mpr ⟨tz_u6, List.forall_mem_cons.mpr ⟨tz_u7, List.forall_mem_cons.mpr ⟨tz_u8, List.forall_mem_cons.mpr ⟨tz_u9, List.forall_mem_cons.mpr ⟨tz_u10, List.forall_mem_cons.mpr ⟨tz_u11, List.forall_mem_cons.mpr ⟨tz_u12, List.forall_mem_cons.mpr ⟨tz_u13, List.forall_mem_cons.mpr ⟨tz_u14, List.forall_mem_cons.mpr ⟨tz_u15, List.forall_mem_cons.mpr ⟨tz_u16, List.forall_mem_cons.mpr ⟨tz_u17, List.forall_mem_cons.mpr ⟨tz_u18, List.forall_mem_cons.mpr ⟨tz_u19, List.forall_mem_cons.mpr ⟨tz_u20, List.forall_mem_cons.mpr ⟨tz_u21, List.forall_mem_cons.mpr ⟨tz_u22, List.forall_mem_cons.mpr ⟨tz_u23, List.forall_mem_cons.mpr ⟨tz_u24, List.forall_mem_cons.mpr ⟨tz_u25, List.forall_mem_cons.mpr ⟨tz_u26, List.forall_mem_cons.mpr ⟨tz_u27, List.forall_mem_cons.mpr ⟨tz_u28, List.forall_mem_cons.mpr ⟨tz_u29, List.forall_mem_cons.mpr ⟨tz_u30, List.forall_mem_cons.mpr ⟨tz_u31, List.forall_mem_cons.mpr ⟨tz_u32, List.forall_mem_cons.mpr ⟨tz_u33, List.forall_mem_cons.mpr ⟨tz_u34, List.forall_mem_cons.mpr ⟨tz_u35, List.forall_mem_cons.mpr ⟨tz_u36, List.forall_mem_cons.mpr ⟨tz_u37, List.forall_mem_cons.mpr ⟨tz_u38, List.forall_mem_cons.mpr ⟨tz_u39, List.forall_mem_cons.mpr ⟨tz_u40, List.forall_mem_cons.mpr ⟨tz_u41, fun _ h => absurd h List.not_mem_nil⟩⟩⟩⟩⟩⟩⟩⟩⟩⟩⟩⟩⟩⟩⟩⟩⟩⟩⟩⟩⟩⟩⟩⟩⟩⟩⟩⟩⟩⟩⟩⟩⟩⟩⟩⟩⟩⟩⟩⟩⟩⟩
theorem tz_swc {v d : Nat} : ∀ {l : List (Nat × Nat)}, zx_swc v d l = d ∨ ∃ q ∈ l, zx_swc v d l = q.2
  | [] => Or.inl rfl
  | (n, t) :: l => by
    unfold zx_swc
    split
    next => exact Or.inr ⟨(n, t), List.mem_cons_self, rfl⟩
    next =>
      rcases tz_swc (v := v) (d := d) (l := l) with h | ⟨q, hq, h⟩
      · exact Or.inl h
      · exact Or.inr ⟨q, List.mem_cons_of_mem _ hq, h⟩
/-- the head of the law's loop -/
def tz_Hd (L : Nat) (xs : Nat → Int32) (Q : zx_S → Prop) (m : Nat) (x : Int32) : Prop := ∀ (Ψ : List Nat) (ls : List (Nat × zx_V)) (w : List zx_E) (mc ms : Nat), zx_look 0 ls = some (.inr (.inr (.inr 2))) → zx_look 1 ls = some (.inr (.inr (.inl 0))) → zx_look 2 ls = some (.inr (.inr (.inl m))) → zx_look 3 ls = some (.inl x) → tz_In m Ψ w → tz_room w mc ms → zx_limP w.length ls = true → zx_wp tz_K (some (L, xs)) tz_cap tz_tab Q (18, ls, [], w, mc, ms)
set_option maxRecDepth 20000 in
theorem tz_turn {L : Nat} {xs : Nat → Int32} {Q : zx_S → Prop} {m : Nat} {x : Int32} (hL : L ≤ 3072) (hend : ∀ ls w mc ms, tz_room w mc ms → Q (1425, ls, [(.inl (Int32.ofNat 1))], w, mc, ms)) (x0 : 0 ≤ x.toInt) (next : x.toInt + 6 ≤ L → tz_Hd L xs Q m (x + Int32.ofNat 6)) : tz_Hd L xs Q m x := by
  intro Ψ ls w mc ms l0 l1 l2 l3 hI hr hs
  have z6 : (Int32.ofNat 6).toInt = 6 := by decide
  have zL : (Int32.ofNat L).toInt = L := tr_c (by omega)
  have zs : (Int32.ofNat L - Int32.ofNat 6).toInt = L - 6 := by
    rw [← z6, ← zL]
    exact tr_sub (by omega) (by omega)
  have bx := zx_b_int x
  have bs := zx_b_int (Int32.ofNat L - Int32.ofNat 6)
  refine zy_li (k := 3) (n := 1) rfl l3 ?_
  refine zx_wp_pure (μ := (20, ls, [(.inr (.inr (.inr 2))), (.inl x)], w, mc, ms)) (rfl : tz_tab 19 = some (zx_la 1 0)) ?_ ?_
  · show zx_ldA 1 0 _ = _
    simp only [zx_ldA, l0, zx_push]
  refine zx_wp_pure (μ := (21, ls, [(.inl (Int32.ofNat L)), (.inl x)], w, mc, ms)) (rfl : tz_tab 20 = some zx_al) rfl ?_
  refine zy_ci (n := 2) (c := 6) rfl ?_
  refine zy_sub rfl ?_
  refine zy_jt rfl (fun _ => ?_) (fun h => ?_)
  · refine zy_ci (n := 1) (c := 1) rfl ?_
    exact zx_wp_done (hend _ _ _ _ hr)
  · have h : zx_b x ≤ zx_b (Int32.ofNat L - Int32.ofNat 6) := h
    have x6 : x.toInt + 6 ≤ L := by omega
    have hin : zx_in x L = true := tr_in x0 (by omega)
    have tail : ∀ (Ψ' : List Nat) (w' : List zx_E) (mc' ms' : Nat), tz_In m Ψ' w' → tz_room w' mc' ms' → zx_limP w'.length ls = true → zx_wp tz_K (some (L, xs)) tz_cap tz_tab Q (1418, ls, [], w', mc', ms') := fun Ψ' w' mc' ms' hI' hr' hs' => by
      refine zy_ik (k := 3) (n := 6) rfl l3 ?_
      refine zy_goto rfl ?_
      exact next x6 Ψ' _ w' mc' ms' (zy_look_ne (by decide) rfl l0) (zy_look_ne (by decide) rfl l1) (zy_look_ne (by decide) rfl l2) zy_look_put hI' hr' (zy_limP_put hs' rfl)
    refine zx_wp_pure (μ := (28, ls, [(.inr (.inr (.inr 2)))], w, mc, ms)) (rfl : tz_tab 27 = some (zx_la 1 0)) ?_ ?_
    · show zx_ldA 1 0 _ = _
      simp only [zx_ldA, l0, zx_push]
    refine zy_li (k := 3) (n := 1) rfl l3 ?_
    refine zx_wp_pure (μ := (30, ls, [(.inl (xs x.toNatClampNeg))], w, mc, ms)) (rfl : tz_tab 29 = some (zx_ld 0)) ?_ ?_
    · show zx_ald 0 _ _ = _
      simp only [zx_ald, zx_beqT (rfl : (0 : Nat) = 0), hin, Bool.and_self]
    refine zy_ci (n := 2) (c := 63) rfl ?_
    refine zy_and rfl ?_
    refine zx_wp_pure (μ := (zx_swc ((xs x.toNatClampNeg &&& Int32.ofNat 63).toInt + 2147483648).toNat 1418 tz_ts, ls, [], w, mc, ms)) (rfl : tz_tab 33 = some (zx_sw 1418 tz_ts)) rfl ?_
    rcases tz_swc (v := ((xs x.toNatClampNeg &&& Int32.ofNat 63).toInt + 2147483648).toNat) (d := 1418) (l := tz_ts) with e | ⟨q, hq, e⟩
    · rw [e]
      exact tail Ψ w mc ms hI hr hs
    · rw [e]
      exact tz_all42 q hq L xs Q m x Ψ ls w mc ms ⟨l0, l1, l2, l3, x0, x6, hL⟩ hI hr hs tail
theorem tz_loop {L : Nat} {xs : Nat → Int32} {Q : zx_S → Prop} {m : Nat} (hL : L ≤ 3072) (hend : ∀ ls w mc ms, tz_room w mc ms → Q (1425, ls, [(.inl (Int32.ofNat 1))], w, mc, ms)) : ∀ (n : Nat) (x : Int32), 0 ≤ x.toInt → 3078 - x.toInt ≤ n → tz_Hd L xs Q m x := by
  intro n
  induction n with
  | zero => exact fun x x0 hn => tz_turn hL hend x0 (fun x6 => by omega)
  | succ n ih =>
    intro x x0 hn
    refine tz_turn hL hend x0 (fun x6 => ?_)
    have z6 : (Int32.ofNat 6).toInt = 6 := by decide
    have e6 : (x + Int32.ofNat 6).toInt = x.toInt + 6 := by
      rw [← z6]
      exact tr_add (by omega) (by omega)
    exact ih _ (by omega) (by omega)
set_option maxRecDepth 20000 in
/-- THE PURE CLAIM IS TRUE -/
theorem tz_P37 : zx_P37 := by
  intro L xs hL
  have hrun : zx_wp tz_K (some (L, xs)) tz_cap tz_tab (fun τ => ∃ ls w mc ms, τ = (1425, ls, [(.inl (Int32.ofNat 1))], w, mc, ms) ∧ tz_room w mc ms) (0, [(0, (.inr (.inr (.inr 2))))], [], [], 0, 0) := by
    refine zy_newO (ci := 11) (fs := zx_cls 11) rfl (by decide) (by decide) rfl ?_
    show zx_wp _ _ _ _ _ (3, [(0, (.inr (.inr (.inr 2))))], [(.inr (.inr (.inl 0)))], [(.inl (11, (zx_cls 11)))], 1, 13)
    refine zy_dup rfl ?_
    obtain ⟨r, cy, Ψ1, hK, e1, c1, c2, hw1, hx1, hI1, hT1⟩ := tz_new56
    refine zx_wp_call (a := 0) (g := zx_no) (y := 56) (n := 1) (cy := cy) (r := r) (av := [(.inr (.inr (.inl 0)))]) (st' := [(.inr (.inr (.inl 0)))]) rfl rfl (by decide) rfl rfl (by show 1 + cy.1 ≤ 600000; omega) (by show 13 + cy.2 ≤ 7302250; omega) (zx_Cl_le (by decide) hK) ?_
    obtain ⟨ra, w1⟩ := r
    have e1 : ra = none := e1
    subst e1
    have hlt : 0 < w1.length := by
      rw [← hw1.1]
      exact (List.getElem?_eq_some_iff.mp hx1).1
    have c1 : cy.1 + tj_P tj_c1 w1 ≤ 1000 := c1
    have c2 : cy.2 + tj_P tj_c2 w1 ≤ 1200000 := c2
    refine zx_wp_pure (μ := (8, zx_put 1 (.inr (.inr (.inl 0))) [(0, (.inr (.inr (.inr 2))))], [], w1, 1 + cy.1, 13 + cy.2)) (rfl : tz_tab 7 = some (zx_sa 1 1)) rfl ?_
    have hs1 : zx_limP w1.length (zx_put 1 (.inr (.inr (.inl 0))) [(0, (.inr (.inr (.inr 2))))]) = true := zy_limP_put rfl (Nat.ble_eq_true_of_le hlt)
    have hS : zx_limS w1.length (zx_put 1 (.inr (.inr (.inl 0))) [(0, (.inr (.inr (.inr 2))))]) [] w1 = true := by
      unfold zx_limS
      rw [hs1, tj_wt_lim hw1]
      rfl
    have n80 := tz_n80.1
    refine zy_newO (ci := 12) (fs := zx_cls 12) rfl (by show 1 + cy.1 + 1 ≤ 600000; omega) (by rw [n80]; show 13 + cy.2 + 80 ≤ 7302250; omega) hS ?_
    rw [n80]
    refine zy_dup rfl ?_
    obtain ⟨r2, cy2, Ψ2, hK2, e2, d1, d2, hle, hw2, hfr, hm2, h7, h8, hB, h72⟩ := tz_new135 hw1
    have hlen : (w1 ++ [(.inl (12, (zx_cls 12)))] : List zx_E).length = w1.length + 1 := by rw [List.length_append]; rfl
    refine zx_wp_call (a := 0) (g := zx_no) (y := 135) (n := 1) (cy := cy2) (r := r2) (av := [(.inr (.inr (.inl w1.length)))]) (st' := [(.inr (.inr (.inl w1.length)))]) rfl rfl (Nat.le_of_ble_eq_true rfl) (tj_limP_le (by rw [hlen]; omega) hs1) (by rw [hlen]; show (Nat.blt w1.length (w1.length + 1) && true) = true; rw [show Nat.blt w1.length (w1.length + 1) = true from te_blt0 (by decide)]; rfl) (by show 1 + cy.1 + 1 + cy2.1 ≤ 600000; omega) (by show 13 + cy.2 + 80 + cy2.2 ≤ 7302250; omega) (zx_Cl_le (by decide) hK2) ?_
    obtain ⟨ra, w2⟩ := r2
    have e2 : ra = none := e2
    subst e2
    have d1 : cy2.1 + tj_P tj_c1 w2 ≤ 100 + tj_P tj_c1 w1 := d1
    have d2 : cy2.2 + tj_P tj_c2 w2 ≤ 30000 + tj_P tj_c2 w1 := d2
    have hlm : w1.length < w2.length := by
      rw [← hw2.1]
      exact (List.getElem?_eq_some_iff.mp hm2).1
    refine zx_wp_pure (μ := (16, zx_put 2 (.inr (.inr (.inl w1.length))) (zx_put 1 (.inr (.inr (.inl 0))) [(0, (.inr (.inr (.inr 2))))]), [], w2, 1 + cy.1 + 1 + cy2.1, 13 + cy.2 + 80 + cy2.2)) (rfl : tz_tab 15 = some (zx_sa 1 2)) rfl ?_
    refine zy_ci (n := 1) (c := 0) rfl ?_
    refine zy_si (k := 3) (n := 1) rfl ?_
    have hI : tz_In w1.length Ψ2 w2 := ⟨hw2, hle _ _ hx1, hm2, tm_IN_fr hw1 hx1 hI1 hfr (by decide +kernel), h7, h8, hB, 0, tz_tm_fr hw1 hx1 hT1 hfr (by decide +kernel), h72⟩
    have z0 : (Int32.ofNat 0).toInt = 0 := by decide
    refine tz_loop (m := w1.length) hL (fun ls w mc ms hr => ⟨ls, w, mc, ms, rfl, hr⟩) 3078 (Int32.ofNat 0) (by omega) (by omega) Ψ2 _ w2 _ _ (zy_look_ne (by decide) rfl (zy_look_ne (by decide) rfl (zy_look_ne (by decide) rfl rfl))) (zy_look_ne (by decide) rfl (zy_look_ne (by decide) rfl zy_look_put)) (zy_look_ne (by decide) rfl zy_look_put) zy_look_put hI ⟨?_, ?_⟩ (zy_limP_put (zy_limP_put (tj_limP_le (by omega) hs1) (Nat.ble_eq_true_of_le hlm)) rfl)
    · show 1 + cy.1 + 1 + cy2.1 + tj_P tj_c1 w2 ≤ 600000
      omega
    · show 13 + cy.2 + 80 + cy2.2 + tj_P tj_c2 w2 ≤ 7302250
      omega
  obtain ⟨n, τ, h1, ls, w, mc, ms, e, h2, h3⟩ := hrun
  subst e
  exact ⟨420, n, 1425, ls, w, mc, ms, by decide, h1, ⟨_, _, _, rfl⟩, Nat.le_trans (Nat.le_add_right _ _) h2, Nat.le_trans (Nat.le_add_right _ _) h3⟩
