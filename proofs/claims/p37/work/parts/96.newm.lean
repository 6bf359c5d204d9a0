/-! by hand: new TwoInOneModel: many arrays, then two calls; its object and arrays are told with places from 0, and shifted -/
def tz_sh (n : Nat) (v : zx_V) : zx_V := match v with
  | (.inr (.inr (.inl q))) => (.inr (.inr (.inl (n + q))))
  | v => v
def tz_al : List (Nat × Nat × Nat × Nat) → List zx_V × List zx_E → List zx_V × List zx_E
  | [], p => p
  | (_, c, kd, k) :: L, (fs, e) => tz_al L (fs.set k (.inr (.inr (.inl (e.length + 1)))), e ++ [.inr (kd, c, zx_a0 kd c)])
def tz_pc : List (Nat × Nat × Nat × Nat) → Nat → Nat
  | [], pc => pc
  | (n1, _, _, _) :: L, pc => tz_pc L (pc + 1 + n1 + 5)
def tz_sl : List (Nat × Nat × Nat × Nat) → Nat
  | [] => 0
  | (_, c, _, _) :: L => c + tz_sl L
def tz_rw (tab : Nat → Option zx_Q) (ci : Nat) : List (Nat × Nat × Nat × Nat) → Nat → Prop
  | [], _ => True
  | (n1, c, kd, k) :: L, pc => (tab pc = some (zx_la 1 0) ∧ tab (pc + 1) = some (zx_ci n1 c) ∧ tab (pc + 1 + n1) = some (zx_na 2 kd) ∧ tab (pc + 1 + n1 + 2) = some (zx_pk ci k 1)) ∧ tz_rw tab ci L (pc + 1 + n1 + 5)
def tz_lb (m : Nat) : List (Nat × Nat × Nat × Nat) → Bool
  | [] => true
  | (_, c, _, k) :: L => (Nat.blt k m && (Nat.ble c 16777216 && (decide (¬ Int32.ofNat c < 0) && decide ((Int32.ofNat c).toNatClampNeg = c)))) && tz_lb m L
theorem tz_sh_set {n k q : Nat} {fs : List zx_V} : (fs.map (tz_sh n)).set k (.inr (.inr (.inl (n + q)))) = (fs.set k (.inr (.inr (.inl q)))).map (tz_sh n) := by
  first
    | (rw [List.map_set]; rfl)
    | (rw [← List.map_set]; rfl)
theorem tz_sh_setI {n k : Nat} {x : Int32} {fs : List zx_V} : (fs.map (tz_sh n)).set k (.inl x) = (fs.set k (.inl x)).map (tz_sh n) := by
  first
    | (rw [List.map_set]; rfl)
    | (rw [← List.map_set]; rfl)
section tzAl
variable {K : zx_K} {X : zx_X} {cap : Nat × Nat} {tab : Nat → Option zx_Q} {Q : zx_S → Prop} {ci : Nat} {ls : List (Nat × zx_V)} {w : List zx_E}
/-- a row of: this, a number, newarray, putfield -/
theorem tz_als (hw : w.all (zx_limE w.length) = true) (l0 : zx_look 0 ls = some (.inr (.inr (.inl w.length)))) (hls : zx_limP (w.length + 1) ls = true) : ∀ {L : List (Nat × Nat × Nat × Nat)} {pc mc ms : Nat} {fs : List zx_V} {e : List zx_E}, tz_rw tab ci L pc → tz_lb fs.length L = true → tm_eL w.length ((.inl (ci, (fs.map (tz_sh w.length)))) :: e) → mc + L.length ≤ cap.1 → ms + tz_sl L ≤ cap.2 → (tm_eL w.length ((.inl (ci, ((tz_al L (fs, e)).1.map (tz_sh w.length)))) :: (tz_al L (fs, e)).2) → zx_wp K X cap tab Q (tz_pc L pc, ls, [], w ++ ((.inl (ci, ((tz_al L (fs, e)).1.map (tz_sh w.length)))) :: (tz_al L (fs, e)).2), mc + L.length, ms + tz_sl L)) → zx_wp K X cap tab Q (pc, ls, [], w ++ ((.inl (ci, (fs.map (tz_sh w.length)))) :: e), mc, ms)
  | [], pc, mc, ms, fs, e, _, _, he, _, _, kk => kk he
  | (n1, c, kd, k) :: L, pc, mc, ms, fs, e, hr, hb, he, hm, hs, kk => by
    obtain ⟨⟨r0, r1, r2, r3⟩, hr⟩ := hr
    have hb : ((Nat.blt k fs.length && (Nat.ble c 16777216 && (decide (¬ Int32.ofNat c < 0) && decide ((Int32.ofNat c).toNatClampNeg = c)))) && tz_lb fs.length L) = true := hb
    rw [Bool.and_eq_true, Bool.and_eq_true, Bool.and_eq_true, Bool.and_eq_true] at hb
    obtain ⟨⟨hk, h16, hx, hc⟩, hbL⟩ := hb
    have hm : mc + (L.length + 1) ≤ cap.1 := hm
    have hs : ms + (c + tz_sl L) ≤ cap.2 := hs
    refine zy_alloc (c := c) (n1 := n1) (kd := kd) (k := k) r0 r1 r2 r3 l0 hw he hls hx (of_decide_eq_true hc) (Nat.le_of_ble_eq_true h16) (by rw [List.length_map]; exact Nat.le_of_ble_eq_true hk) (fun _ => rfl) (by omega) (by omega) (fun he' => ?_)
    rw [tz_sh_set] at he' ⊢
    refine tz_als hw l0 hls hr (by rw [List.length_set]; exact hbL) he' (by omega) (by omega) (fun hE => ?_)
    rw [show mc + 1 + L.length = mc + (L.length + 1) by omega, show ms + c + tz_sl L = ms + (c + tz_sl L) by omega]
    exact kk hE
end tzAl
/-! typed, then shifted -/
def tz_ce (q : Nat × Nat × Nat × Nat) : zx_E := .inr (q.2.2.1, q.2.1, zx_a0 q.2.2.1 q.2.1)
theorem tz_al2 : ∀ {L : List (Nat × Nat × Nat × Nat)} {fs : List zx_V} {e : List zx_E}, (tz_al L (fs, e)).2 = e ++ L.map tz_ce
  | [], _, e => (List.append_nil e).symm
  | (n1, c, kd, k) :: L, fs, e => by
    show (tz_al L (fs.set k (.inr (.inr (.inl (e.length + 1)))), e ++ [tz_ce (n1, c, kd, k)])).2 = _
    rw [tz_al2, List.append_assoc]
    rfl
def tz_zt : List Nat → List (Nat × Nat × Nat × Nat) → Bool
  | [], [] => true
  | l :: ls, q :: L => (match (tj_Lam[l]? : Option tj_D) with
    | some (.inr (kd, n, s)) => Nat.beq q.2.2.1 kd && (Nat.beq q.2.1 n && (Nat.ble kd 3 && (Nat.beq kd 1 || s.all (fun t => Nat.ble t.2.1 2147483648 && Nat.ble 2147483648 t.2.2))))
    | _ => false) && tz_zt ls L
  | _, _ => false
theorem tz_sel_mem {j a b : Nat} : ∀ {s : List tj_y}, tj_sel s j = some (a, b) → ∃ u, (u, a, b) ∈ s
  | [], h => by cases h
  | (u, lo, hi) :: r, h => by
    unfold tj_sel at h
    split at h
    next =>
      cases h
      exact ⟨u, List.mem_cons_self⟩
    next =>
      obtain ⟨u', hu⟩ := tz_sel_mem h
      exact ⟨u', List.mem_cons_of_mem _ hu⟩
theorem tz_at0 {Ψ : List Nat} {kd n : Nat} {s : List tj_y} (hk : kd ≤ 3) (h : kd = 1 ∨ s.all (fun t => Nat.ble t.2.1 2147483648 && Nat.ble 2147483648 t.2.2) = true) : tj_at Ψ kd n s (zx_a0 kd n) := by
  have hz : zx_b 0 = 2147483648 := by decide
  have z : s.all (fun t => Nat.ble t.2.1 2147483648 && Nat.ble 2147483648 t.2.2) = true → ∀ j, j < n → ∀ a b, tj_sel s j = some (a, b) → a ≤ zx_b 0 ∧ zx_b 0 ≤ b := fun hs j _ a b e => by
    obtain ⟨u, hu⟩ := tz_sel_mem e
    have h1 := List.all_eq_true.mp hs _ hu
    rw [Bool.and_eq_true] at h1
    rw [hz]
    exact ⟨Nat.le_of_ble_eq_true h1.1, Nat.le_of_ble_eq_true h1.2⟩
  match kd, hk, h with
  | 0, _, h => exact ⟨Or.inl rfl, z (h.resolve_left (by decide))⟩
  | 1, _, _ => exact rfl
  | 2, _, h => exact ⟨Or.inr (Or.inl rfl), z (h.resolve_left (by decide))⟩
  | 3, _, h => exact ⟨Or.inr (Or.inr rfl), z (h.resolve_left (by decide))⟩
  | k + 4, hk, _ => omega
theorem tz_zt_ok {Ψ : List Nat} : ∀ {ls : List Nat} {L : List (Nat × Nat × Nat × Nat)}, tz_zt ls L = true → ls.length = L.length ∧ ∀ (j : Nat) (q : Nat × Nat × Nat × Nat), L[j]? = some q → ∃ l d, ls[j]? = some l ∧ tj_Lam[l]? = some d ∧ tj_ct Ψ d (tz_ce q)
  | [], [], _ => ⟨rfl, fun j q h => by cases h⟩
  | [], _ :: _, h => by cases h
  | _ :: _, [], h => by cases h
  | l :: ls, q :: L, h => by
    have h : ((match (tj_Lam[l]? : Option tj_D) with
      | some (.inr (kd, n, s)) => Nat.beq q.2.2.1 kd && (Nat.beq q.2.1 n && (Nat.ble kd 3 && (Nat.beq kd 1 || s.all (fun t => Nat.ble t.2.1 2147483648 && Nat.ble 2147483648 t.2.2))))
      | _ => false) && tz_zt ls L) = true := h
    rw [Bool.and_eq_true] at h
    obtain ⟨h0, h⟩ := h
    obtain ⟨i1, i2⟩ := tz_zt_ok (Ψ := Ψ) h
    refine ⟨congrArg (· + 1) i1, fun j q' hq => ?_⟩
    match j, hq with
    | j + 1, hq => exact i2 j q' hq
    | 0, hq =>
      cases hq
      split at h0
      next kd n s hd =>
        rw [Bool.and_eq_true, Bool.and_eq_true, Bool.and_eq_true, Bool.or_eq_true] at h0
        obtain ⟨g1, g2, g3, g4⟩ := h0
        have g1 := Nat.eq_of_beq_eq_true g1
        have g2 := Nat.eq_of_beq_eq_true g2
        refine ⟨l, _, rfl, hd, g1, g2, ?_⟩
        show tj_at Ψ kd n s (zx_a0 q.2.2.1 q.2.1)
        rw [g1, g2]
        exact tz_at0 (Nat.le_of_ble_eq_true g3) (g4.imp Nat.eq_of_beq_eq_true id)
      next => cases h0
theorem tz_vt_sh {Ψ d : List Nat} {n : Nat} (hin : ∀ q l, d[q]? = some l → (Ψ ++ d)[n + q]? = some l) : ∀ {t : tj_y} {v : zx_V}, tj_vt d t v → tj_vt (Ψ ++ d) t (tz_sh n v)
  | (0, lo, hi), v, ⟨x, e, h⟩ => by subst e; exact ⟨x, rfl, h⟩
  | (1, l, _), v, ⟨q, e, h⟩ => by subst e; exact ⟨n + q, rfl, hin q l h⟩
  | (2, l, _), v, Or.inl e => by subst e; exact Or.inl rfl
  | (2, l, _), v, Or.inr ⟨q, e, h⟩ => by subst e; exact Or.inr ⟨n + q, rfl, hin q l h⟩
  | (_ + 3, _, _), v, ⟨x, e⟩ => by subst e; exact ⟨x, rfl⟩
theorem tz_map_at {n k : Nat} {F : List zx_V} {v : zx_V} (h : F[k]? = some v) : (F.map (tz_sh n))[k]? = some (tz_sh n v) := by
  rw [List.getElem?_map, h]
  rfl
theorem tz_wt_sh {Ψ d : List Nat} {w A : List zx_E} {F : List zx_V} {L : List (Nat × Nat × Nat × Nat)} (hw : tj_wt tj_Lam Ψ w) (hA : A = L.map tz_ce) (hL : tz_zt d L = true) (hF : tz_fs (149 :: d) tr_fts F = true) (hv : tz_inv 3 F = true) : tj_wt tj_Lam (Ψ ++ 149 :: d) (w ++ ((.inl (12, (F.map (tz_sh w.length)))) :: A)) := by
  have hin : ∀ q l, (149 :: d)[q]? = some l → (Ψ ++ 149 :: d)[w.length + q]? = some l := fun q l e => by
    rw [List.getElem?_append_right (by rw [hw.1]; omega), hw.1, Nat.add_sub_cancel_left]
    exact e
  obtain ⟨z1, z2⟩ := tz_zt_ok (Ψ := Ψ ++ 149 :: d) hL
  obtain ⟨y1, y2⟩ := tz_fs_ok hF
  refine tj_wt_app hw (by rw [hA, List.length_cons, List.length_cons, List.length_map, z1]) (fun j x hx => ?_)
  match j, hx with
  | 0, hx =>
    cases hx
    refine ⟨149, _, rfl, tr_hd, rfl, by rw [List.length_map]; exact y1, fun k t v e1 e2 => ?_, ?_⟩
    · rw [List.getElem?_map] at e2
      cases e3 : F[k]? with
      | none =>
        rw [e3] at e2
        cases e2
      | some v0 =>
        rw [e3] at e2
        cases e2
        exact tz_vt_sh hin (y2 k t v0 e1 e3)
    · obtain ⟨x, y, i1, i2, i3⟩ := tz_inv_ok hv
      exact ⟨x, y, tz_map_at i1, tz_map_at i2, i3⟩
  | j + 1, hx =>
    have hx : A[j]? = some x := hx
    rw [hA, List.getElem?_map] at hx
    cases e3 : L[j]? with
    | none =>
      rw [e3] at hx
      cases hx
    | some q =>
      rw [e3] at hx
      cases hx
      exact z2 j q e3
theorem tz_fr_app {E : tj_Ef} {Ψ d : List Nat} {w e w' : List zx_E} (hl : Ψ.length = w.length) (h : tj_fr E (Ψ ++ d) (w ++ e) w') : tj_fr E Ψ w w' := by
  intro q l hq
  have hlt : q < w.length := by rw [← hl]; exact (List.getElem?_eq_some_iff.mp hq).1
  have h1 := h q l (tj_le_app q l hq)
  rw [List.getElem?_append_left hlt] at h1
  exact h1
def tz_L1 : List (Nat × Nat × Nat × Nat) := [(3, 1620, 3, 0), (3, 1600, 3, 1)]
def tz_L2 : List (Nat × Nat × Nat × Nat) := [(1, 2, 0, 11), (1, 2, 0, 12), (1, 2, 0, 13), (1, 2, 0, 14), (1, 2, 0, 15), (1, 2, 0, 16), (2, 16, 0, 17), (2, 16, 0, 18), (2, 16, 0, 19), (2, 16, 0, 20), (3, 128, 0, 21), (2, 8, 0, 22), (2, 24, 0, 23), (2, 8, 0, 24), (2, 112, 0, 25), (2, 24, 0, 26), (2, 24, 0, 27), (1, 2, 2, 28), (2, 16, 2, 29), (3, 128, 2, 30), (2, 16, 1, 31), (2, 8, 1, 32), (2, 12, 1, 33), (3, 1280, 0, 34), (3, 1280, 0, 35), (2, 90, 0, 36), (2, 90, 0, 37), (2, 60, 0, 38), (2, 119, 0, 49), (3, 4879, 0, 50), (3, 6300, 0, 53), (3, 2000, 0, 54), (2, 20, 0, 55), (2, 14, 0, 57), (2, 8, 0, 59), (2, 8, 0, 60), (2, 9, 0, 62), (1, 3, 0, 64), (2, 30, 0, 65), (2, 30, 0, 66), (2, 30, 0, 67), (2, 30, 0, 68), (2, 30, 0, 69), (2, 14, 0, 70), (3, 357, 0, 78), (1, 3, 2, 79)]
def tz_p1 : List zx_V × List zx_E := tz_al tz_L1 (zx_cls 12, [])
def tz_p2 : List zx_V × List zx_E := tz_al tz_L2 (tz_p1.1.set 5 (.inl (Int32.ofNat 4294967295)), tz_p1.2)
def tz_d12 : List Nat := [101, 102, 103, 104, 105, 106, 107, 108, 109, 110, 111, 112, 113, 114, 115, 116, 117, 137, 138, 142, 143, 144, 146, 147, 148, 118, 119, 120, 121, 122, 139, 140, 123, 124, 125, 126, 127, 128, 129, 130, 131, 132, 133, 134, 135, 136, 141, 145]
theorem tz_c12 : tz_zt tz_d12 (tz_L1 ++ tz_L2) = true := by decide +kernel
theorem tz_F12 : tz_fs (149 :: tz_d12) tr_fts tz_p2.1 = true ∧ tz_inv 3 tz_p2.1 = true := by decide +kernel
theorem tz_A12 : tz_p2.2 = (tz_L1 ++ tz_L2).map tz_ce := by
  unfold tz_p2
  rw [tz_al2]
  unfold tz_p1
  rw [tz_al2, List.map_append]
  rfl
theorem tz_P12 : tj_P tj_c1 tz_p2.2 = 0 ∧ tj_P tj_c2 tz_p2.2 = 0 := by decide +kernel
theorem tz_f12 : tz_p2.1[39]? = some (.inl 0) ∧ tz_p2.1[40]? = some (.inl 0) ∧ tz_p2.1[72]? = some (.inl 0) := by decide +kernel
theorem tz_b12 : tz_lb 80 tz_L1 = true ∧ tz_lb 80 tz_L2 = true := by decide +kernel
theorem tz_n80 : (zx_cls 12).length = 80 ∧ tz_p1.1.length = 80 := by decide +kernel
theorem tz_s12 : tz_sl tz_L1 = 3220 ∧ tz_sl tz_L2 = 17270 ∧ tz_L1.length = 2 ∧ tz_L2.length = 46 := by decide +kernel
theorem tz_pc12 : tz_pc tz_L1 4 = 22 ∧ tz_pc tz_L2 27 = 394 := by decide +kernel
set_option maxRecDepth 20000 in
theorem tz_r1 : tz_rw (zx_find (zx_cT zx_d_X12_init)) 12 tz_L1 4 := by
    refine And.intro (And.intro rfl (And.intro rfl (And.intro rfl rfl))) ?_
    refine And.intro (And.intro rfl (And.intro rfl (And.intro rfl rfl))) ?_
    exact True.intro
set_option maxRecDepth 20000 in
theorem tz_r2 : tz_rw (zx_find (zx_cT zx_d_X12_init)) 12 tz_L2 27 := by
    refine And.intro (And.intro rfl (And.intro rfl (And.intro rfl rfl))) ?_
    refine And.intro (And.intro rfl (And.intro rfl (And.intro rfl rfl))) ?_
    refine And.intro (And.intro rfl (And.intro rfl (And.intro rfl rfl))) ?_
    refine And.intro (And.intro rfl (And.intro rfl (And.intro rfl rfl))) ?_
    refine And.intro (And.intro rfl (And.intro rfl (And.intro rfl rfl))) ?_
    refine And.intro (And.intro rfl (And.intro rfl (And.intro rfl rfl))) ?_
    refine And.intro (And.intro rfl (And.intro rfl (And.intro rfl rfl))) ?_
    refine And.intro (And.intro rfl (And.intro rfl (And.intro rfl rfl))) ?_
    refine And.intro (And.intro rfl (And.intro rfl (And.intro rfl rfl))) ?_
    refine And.intro (And.intro rfl (And.intro rfl (And.intro rfl rfl))) ?_
    refine And.intro (And.intro rfl (And.intro rfl (And.intro rfl rfl))) ?_
    refine And.intro (And.intro rfl (And.intro rfl (And.intro rfl rfl))) ?_
    refine And.intro (And.intro rfl (And.intro rfl (And.intro rfl rfl))) ?_
    refine And.intro (And.intro rfl (And.intro rfl (And.intro rfl rfl))) ?_
    refine And.intro (And.intro rfl (And.intro rfl (And.intro rfl rfl))) ?_
    refine And.intro (And.intro rfl (And.intro rfl (And.intro rfl rfl))) ?_
    refine And.intro (And.intro rfl (And.intro rfl (And.intro rfl rfl))) ?_
    refine And.intro (And.intro rfl (And.intro rfl (And.intro rfl rfl))) ?_
    refine And.intro (And.intro rfl (And.intro rfl (And.intro rfl rfl))) ?_
    refine And.intro (And.intro rfl (And.intro rfl (And.intro rfl rfl))) ?_
    refine And.intro (And.intro rfl (And.intro rfl (And.intro rfl rfl))) ?_
    refine And.intro (And.intro rfl (And.intro rfl (And.intro rfl rfl))) ?_
    refine And.intro (And.intro rfl (And.intro rfl (And.intro rfl rfl))) ?_
    refine And.intro (And.intro rfl (And.intro rfl (And.intro rfl rfl))) ?_
    refine And.intro (And.intro rfl (And.intro rfl (And.intro rfl rfl))) ?_
    refine And.intro (And.intro rfl (And.intro rfl (And.intro rfl rfl))) ?_
    refine And.intro (And.intro rfl (And.intro rfl (And.intro rfl rfl))) ?_
    refine And.intro (And.intro rfl (And.intro rfl (And.intro rfl rfl))) ?_
    refine And.intro (And.intro rfl (And.intro rfl (And.intro rfl rfl))) ?_
    refine And.intro (And.intro rfl (And.intro rfl (And.intro rfl rfl))) ?_
    refine And.intro (And.intro rfl (And.intro rfl (And.intro rfl rfl))) ?_
    refine And.intro (And.intro rfl (And.intro rfl (And.intro rfl rfl))) ?_
    refine And.intro (And.intro rfl (And.intro rfl (And.intro rfl rfl))) ?_
    refine And.intro (And.intro rfl (And.intro rfl (And.intro rfl rfl))) ?_
    refine And.intro (And.intro rfl (And.intro rfl (And.intro rfl rfl))) ?_
    refine And.intro (And.intro rfl (And.intro rfl (And.intro rfl rfl))) ?_
    refine And.intro (And.intro rfl (And.intro rfl (And.intro rfl rfl))) ?_
    refine And.intro (And.intro rfl (And.intro rfl (And.intro rfl rfl))) ?_
    refine And.intro (And.intro rfl (And.intro rfl (And.intro rfl rfl))) ?_
    refine And.intro (And.intro rfl (And.intro rfl (And.intro rfl rfl))) ?_
    refine And.intro (And.intro rfl (And.intro rfl (And.intro rfl rfl))) ?_
    refine And.intro (And.intro rfl (And.intro rfl (And.intro rfl rfl))) ?_
    refine And.intro (And.intro rfl (And.intro rfl (And.intro rfl rfl))) ?_
    refine And.intro (And.intro rfl (And.intro rfl (And.intro rfl rfl))) ?_
    refine And.intro (And.intro rfl (And.intro rfl (And.intro rfl rfl))) ?_
    refine And.intro (And.intro rfl (And.intro rfl (And.intro rfl rfl))) ?_
    exact True.intro
def tz_EM : tj_Ef := (tr_EC.1 ++ tr_ES.1, tr_EC.2 ++ tr_ES.2)
theorem tz_upd0 (g : Nat → Int32) : (upd g (0 : Int32).toInt.toNat (Int32.ofNat 0) (0 : Int32).toInt.toNat).toInt = 0 := by
  rw [tg_upd_eq]
  decide
set_option maxHeartbeats 4000000 in
set_option maxRecDepth 20000 in
theorem tz_new135 {Ψ : List Nat} {w : List zx_E} (hw : tj_wt tj_Lam Ψ w) : ∃ (r : zx_R) (cy : Nat × Nat) (Ψ' : List Nat), zx_Cl zx_mt zx_rc zx_mx' 2 135 [(.inr (.inr (.inl w.length)))] (w ++ [(.inl (12, (zx_cls 12)))]) cy r ∧ r.1 = none ∧ cy.1 + tj_P tj_c1 r.2 ≤ 100 + tj_P tj_c1 w ∧ cy.2 + tj_P tj_c2 r.2 ≤ 30000 + tj_P tj_c2 w ∧ tj_le Ψ Ψ' ∧ tj_wt tj_Lam Ψ' r.2 ∧ tj_fr tz_EM Ψ w r.2 ∧ Ψ'[w.length]? = some 149 ∧ tj_sm7 (.inr (.inr (.inl w.length))) r.2 ∧ tj_sm8 (.inr (.inr (.inl w.length))) r.2 ∧ tr_BK r.2 w.length ∧ tj_fi r.2 w.length 12 72 0 := by
  have hwl := tj_wt_lim hw
  have hls : zx_limP (w.length + 1) [(0, (.inr (.inr (.inl w.length))))] = true := by
    show (Nat.blt w.length (w.length + 1) && true) = true
    rw [show Nat.blt w.length (w.length + 1) = true from te_blt0 (by decide)]
    rfl
  have hrun : zx_wp (zx_Cl zx_mt zx_rc zx_mx' 1) none (100 + tj_P tj_c1 w, 30000 + tj_P tj_c2 w) (zx_find (zx_cT zx_d_X12_init)) (fun τ => ∃ (w' : List zx_E) (Ψ' : List Nat), zx_ret (zx_find (zx_cT zx_d_X12_init)) τ.2.2.2.2 τ (none, w') ∧ (τ.2.2.2.2.1 + tj_P tj_c1 w' ≤ 100 + tj_P tj_c1 w ∧ τ.2.2.2.2.2 + tj_P tj_c2 w' ≤ 30000 + tj_P tj_c2 w) ∧ tj_le Ψ Ψ' ∧ tj_wt tj_Lam Ψ' w' ∧ tj_fr tz_EM Ψ w w' ∧ Ψ'[w.length]? = some 149 ∧ tj_sm7 (.inr (.inr (.inl w.length))) w' ∧ tj_sm8 (.inr (.inr (.inl w.length))) w' ∧ tr_BK w' w.length ∧ tj_fi w' w.length 12 72 0) (0, [(0, (.inr (.inr (.inl w.length))))], [], w ++ ((.inl (12, (zx_cls 12))) :: []), 0, 0) := by
    refine zy_la (k := 0) (n := 1) rfl rfl (Or.inl ⟨_, rfl⟩) ?_
    refine zy_ob rfl (by decide) ?_
    have e0 : (zx_cls 12).map (tz_sh w.length) = zx_cls 12 := rfl
    show zx_wp _ _ _ _ _ (4, [(0, (.inr (.inr (.inl w.length))))], [], w ++ ((.inl (12, (zx_cls 12))) :: []), 0, 0)
    have he0 : tm_eL w.length ((.inl (12, ((zx_cls 12).map (tz_sh w.length)))) :: []) := by
      rw [e0]
      rfl
    rw [← e0]
    obtain ⟨n80, m80⟩ := tz_n80
    obtain ⟨lb1, lb2⟩ := tz_b12
    obtain ⟨s1, s2, c1, c2⟩ := tz_s12
    refine tz_als (ci := 12) (L := tz_L1) (fs := zx_cls 12) (e := []) hwl rfl hls tz_r1 (by rw [n80]; exact lb1) he0 (by rw [c1]; show 0 + 2 ≤ 100 + _; omega) (by rw [s1]; show 0 + 3220 ≤ 30000 + _; omega) (fun he1 => ?_)
    rw [tz_pc12.1, c1, s1]
    refine zy_la (k := 0) (n := 1) rfl rfl (Or.inl ⟨_, rfl⟩) ?_
    refine zy_ci (n := 1) (c := 4294967295) rfl ?_
    refine zy_putN (k := 5) rfl (by rw [List.length_map]; exact (by rw [show (tz_al tz_L1 (zx_cls 12, [])).1.length = 80 from m80]; decide)) rfl ?_
    have he2 := tm_eL_put (k := 5) (v := (.inl (Int32.ofNat 4294967295))) he1 rfl
    rw [tz_sh_setI] at he2 ⊢
    refine tz_als (ci := 12) (L := tz_L2) (pc := 27) hwl rfl hls tz_r2 (by rw [List.length_set, show (tz_al tz_L1 (zx_cls 12, [])).1.length = 80 from m80]; exact lb2) he2 (by rw [c2]; show 0 + 2 + 46 ≤ 100 + _; omega) (by rw [s2]; show 0 + 3220 + 17270 ≤ 30000 + _; omega) (fun _ => ?_)
    rw [tz_pc12.2, c2, s2]
    have hc : tj_wt tj_Lam (Ψ ++ 149 :: tz_d12) (w ++ ((.inl (12, (tz_p2.1.map (tz_sh w.length)))) :: tz_p2.2)) := tz_wt_sh hw tz_A12 tz_c12 tz_F12.1 tz_F12.2
    show zx_wp _ _ _ _ _ (394, [(0, (.inr (.inr (.inl w.length))))], [], w ++ ((.inl (12, (tz_p2.1.map (tz_sh w.length)))) :: tz_p2.2), 0 + 2 + 46, 0 + 3220 + 17270)
    generalize hW2 : w ++ ((.inl (12, (tz_p2.1.map (tz_sh w.length)))) :: tz_p2.2) = w2 at hc
    have hl2 : w2.length = w.length + (tz_p2.2.length + 1) := by rw [← hW2, List.length_append]; rfl
    have k0 : w2[w.length]? = some (.inl (12, (tz_p2.1.map (tz_sh w.length)))) := by
      rw [← hW2, List.getElem?_append_right (Nat.le_refl _), Nat.sub_self]
      rfl
    have hq : (Ψ ++ 149 :: tz_d12)[w.length]? = some 149 := by
      rw [List.getElem?_append_right (by rw [hw.1]; exact Nat.le_refl _), hw.1, Nat.sub_self]
      rfl
    have hP1 : tj_P tj_c1 w2 = tj_P tj_c1 w := by
      rw [← hW2, tj_P_app]
      show _ + (0 + tj_P tj_c1 tz_p2.2) = _
      rw [tz_P12.1]
      rfl
    have hP2 : tj_P tj_c2 w2 = tj_P tj_c2 w := by
      rw [← hW2, tj_P_app]
      show _ + (0 + tj_P tj_c2 tz_p2.2) = _
      rw [tz_P12.2]
      rfl
    have h39 : tj_fi w2 w.length 12 39 0 := ⟨_, k0, tz_map_at tz_f12.1⟩
    have h40 : tj_fi w2 w.length 12 40 0 := ⟨_, k0, tz_map_at tz_f12.2.1⟩
    have h72 : tj_fi w2 w.length 12 72 0 := ⟨_, k0, tz_map_at tz_f12.2.2⟩
    obtain ⟨hv, h11⟩ := tr_exA (k := 11) (l := 103) (n := 2) hc hq rfl rfl
    obtain ⟨pv, h13⟩ := tr_exA (k := 13) (l := 105) (n := 2) hc hq rfl rfl
    obtain ⟨dv, h14⟩ := tr_exA (k := 14) (l := 106) (n := 2) hc hq rfl rfl
    obtain ⟨ua, h15⟩ := tr_exA (k := 15) (l := 107) (n := 2) hc hq rfl rfl
    have hJ : tj_W tj_Lam (100 + tj_P tj_c1 w, 30000 + tj_P tj_c2 w) tz_EM (Ψ ++ 149 :: tz_d12) w2 (Ψ ++ 149 :: tz_d12) w2 (0 + 2 + 46) (0 + 3220 + 17270) := ⟨hc, ⟨by rw [hP1]; show _ ≤ 100 + _; omega, by rw [hP2]; show _ ≤ 30000 + _; omega⟩, tj_le_rf, tj_fr_rf⟩
    refine zy_la (k := 0) (n := 1) rfl rfl (Or.inl ⟨_, rfl⟩) ?_
    refine zy_callD (tr_clearBank hc hq h40 h11 h13 h14 h15) (n := 1) (st := []) rfl rfl (by decide) (tj_limP_le (by omega) hls) rfl hJ (by decide +kernel) (by decide +kernel) ?_
    intro a Ψ3 w3 mc3 ms3 hJ3 hle3 hfr3 hl3 _ hp3
    obtain ⟨ea, -, g11, g13, g14, -⟩ := hp3
    subst ea
    have hq3 := hle3 _ _ hq
    have g39 := te_fi hc hfr3 (d := ([(149, 39)], [])) (by decide +kernel) (by decide +kernel) h39
    have g72 := te_fi hc hfr3 (d := ([(149, 72)], [])) (by decide +kernel) (by decide +kernel) h72
    refine zy_la (k := 0) (n := 1) rfl rfl (Or.inl ⟨_, rfl⟩) ?_
    refine zy_callD (tr_startAnew hJ3.1 hq3) (n := 1) (st := []) rfl rfl (by decide) hl3 rfl hJ3 (by decide +kernel) (by decide +kernel) ?_
    intro a Ψ4 w4 mc4 ms4 hJ4 hle4 hfr4 hl4 _ hp4
    obtain ⟨ea, f58⟩ := hp4
    subst ea
    have hq4 := hle4 _ _ hq3
    have hw3 := hJ3.1
    have f39 := te_fi hw3 hfr4 (d := ([(149, 39)], [])) (by decide +kernel) (by decide +kernel) g39
    have f72 := te_fi hw3 hfr4 (d := ([(149, 72)], [])) (by decide +kernel) (by decide +kernel) g72
    have f11 := te_fa hw3 hfr4 (d := ([(149, 11)], [103])) (by decide +kernel) (by decide +kernel) g11
    have f13 := te_fa hw3 hfr4 (d := ([(149, 13)], [105])) (by decide +kernel) (by decide +kernel) g13
    have f14 := te_fa hw3 hfr4 (d := ([(149, 14)], [106])) (by decide +kernel) (by decide +kernel) g14
    have hw4 := hJ4.1
    obtain ⟨tm, f24⟩ := tr_exA (k := 24) (l := 116) (n := 8) hw4 hq4 rfl rfl
    obtain ⟨ho, f23⟩ := tr_exA (k := 23) (l := 115) (n := 24) hw4 hq4 rfl rfl
    obtain ⟨pe, f19⟩ := tr_exA (k := 19) (l := 111) (n := 16) hw4 hq4 rfl rfl
    obtain ⟨cd, f34⟩ := tr_exA (k := 34) (l := 118) (n := 1280) hw4 hq4 rfl rfl
    obtain ⟨rf, f26⟩ := tr_exA (k := 26) (l := 137) (n := 24) hw4 hq4 rfl rfl
    obtain ⟨rt, f27⟩ := tr_exA (k := 27) (l := 138) (n := 24) hw4 hq4 rfl rfl
    obtain ⟨bg, f57⟩ := tr_exA (k := 57) (l := 126) (n := 14) hw4 hq4 rfl rfl
    have z00 : (Int32.ofNat 0).toInt = 0 := by decide
    have u1 := tz_upd0 hv
    have u2 := tz_upd0 pv
    have u3 := tz_upd0 dv
    have h7 : tj_sm7 (.inr (.inr (.inl w.length))) w4 := ⟨w.length, 0, _, _, _, tm, ho, pe, cd, rf, rt, rfl, f39, f11, f13, f14, f24, f23, f19, f34, f26, f27, Or.inl (by decide), fun p hp => (by omega), fun h p hh _ => (by omega), fun r hr => (by omega)⟩
    have h8 : tj_sm8 (.inr (.inr (.inl w.length))) w4 := ⟨w.length, 0, Int32.ofNat 0, _, bg, rfl, f39, f58, f14, f57, fun i hi => (by omega)⟩
    have hB : tr_BK w4 w.length := ⟨0, _, rf, rt, f39, f14, f26, f27, fun r hr => (by omega)⟩
    refine zx_wp_done ⟨w4, Ψ4, ⟨Nat.le_refl _, Nat.le_refl _, rfl, ?_⟩, hJ4.2.1, tj_le_tr tj_le_app (tj_le_tr hle3 hle4), hw4, tz_fr_app hw.1 (by rw [hW2]; exact hJ4.2.2.2), hq4, h7, h8, hB, f72⟩
    exact ⟨rfl, rfl⟩
  obtain ⟨n, σ, h1, w', Ψ', h2, h3, h4⟩ := hrun
  exact ⟨(none, w'), σ.2.2.2.2, Ψ', ⟨_, (by rw [← zx_q_X12_init]; rfl : zx_mt 135 = some (zx_find (zx_cT zx_d_X12_init))), (by rw [(by decide +kernel : zx_rc 135 = 13)]; exact ⟨w.length, [], zx_cls 12, rfl, by rw [List.getElem?_append_right (Nat.le_refl _), Nat.sub_self]; rfl⟩), (by decide +kernel : 1 ≤ zx_mx' 135), n, σ, (zx_star_shr h1).2 _ (Nat.le_refl _) (Nat.le_refl _), h2⟩, rfl, h3.1, h3.2, h4⟩
