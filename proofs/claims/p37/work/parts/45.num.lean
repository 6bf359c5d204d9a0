/-! by hand: Reader.scanNumber -/
/-- the reader's fields while a number is read -/
def te_nF (fs F : List zx_V) (a b : Int32) : Prop := F.length = fs.length ∧ F[12]? = some (.inl a) ∧ F[13]? = some (.inl b) ∧ ∀ k, k ≠ 12 → k ≠ 13 → F[k]? = fs[k]?
theorem te_nF12 {fs F : List zx_V} {a b c : Int32} (h : te_nF fs F a b) (hl : 16 < fs.length) : te_nF fs (F.set 12 (.inl c)) c b := by
  obtain ⟨h1, h2, h3, h4⟩ := h
  refine ⟨by rw [List.length_set]; exact h1, List.getElem?_set_self (by omega), ?_, fun k k1 k2 => ?_⟩
  · rw [List.getElem?_set_ne (by decide)]
    exact h3
  · rw [List.getElem?_set_ne (Ne.symm k1)]
    exact h4 k k1 k2
theorem te_nF13 {fs F : List zx_V} {a b c : Int32} (h : te_nF fs F a b) (hl : 16 < fs.length) : te_nF fs (F.set 13 (.inl c)) a c := by
  obtain ⟨h1, h2, h3, h4⟩ := h
  refine ⟨by rw [List.length_set]; exact h1, ?_, List.getElem?_set_self (by omega), fun k k1 k2 => ?_⟩
  · rw [List.getElem?_set_ne (by decide)]
    exact h2
  · rw [List.getElem?_set_ne (Ne.symm k2)]
    exact h4 k k1 k2
theorem te_pow10 : ∀ k : Nat, k ≤ 3 → 10 ^ k ≤ 1000 ∧ 10 ^ (k + 1) = 10 * 10 ^ k
  | 0, _ => by decide
  | 1, _ => by decide
  | 2, _ => by decide
  | 3, _ => by decide
  | n + 4, h => by omega
theorem te_digit {a c : Int32} {k : Nat} (hk : k ≤ 3) (a1 : 2147483648 ≤ zx_b a) (a2 : zx_b a < 2147483648 + 10 ^ k) (c1 : 2147483648 + 48 ≤ zx_b c) (c2 : zx_b c ≤ 2147483648 + 57) : 2147483648 ≤ zx_b (a * Int32.ofNat 10 + (c - Int32.ofNat 48)) ∧ zx_b (a * Int32.ofNat 10 + (c - Int32.ofNat 48)) < 2147483648 + 10 ^ (k + 1) := by
  obtain ⟨p1, p2⟩ := te_pow10 k hk
  have h10 : zx_b (Int32.ofNat 10) = 2147483658 := by decide
  have h48 : zx_b (Int32.ofNat 48) = 2147483696 := by decide
  obtain ⟨m1, m2⟩ := tj_b_mul (x := a) (y := Int32.ofNat 10) (a := zx_b a - 2147483648) (b := zx_b a - 2147483648) (c := 10) (d := 10) (by omega) (by omega) (by omega) (by omega) (by omega)
  have s1 := tj_b_sub c (Int32.ofNat 48)
  have s2 := tj_b_add (a * Int32.ofNat 10) (c - Int32.ofNat 48)
  have eS : zx_b (c - Int32.ofNat 48) = zx_b c - 48 := by
    rw [s1, h48]
    omega
  have eM : zx_b (a * Int32.ofNat 10) = 2147483648 + (zx_b a - 2147483648) * 10 := by omega
  have e3 : 2147483648 + (zx_b a - 2147483648) * 10 + (zx_b c - 48) + 2147483648 = 4294967296 + ((zx_b a - 2147483648) * 10 + (zx_b c - 48)) := by omega
  rw [s2, eS, eM, p2, e3, Nat.add_mod_left, Nat.mod_eq_of_lt (by omega)]
  clear s1 s2 m1 m2 eS eM e3
  omega
set_option maxRecDepth 20000 in
theorem te_b4 : tj_KS1 (zx_Cl zx_mt zx_rc zx_mx' 2) tj_Lam te_h4 := by
  refine zy_method (d := 1) (dt := zx_d_X4_scanNumber) (by rw [← zx_q_X4_scanNumber]; rfl) (by decide +kernel) (by decide +kernel) ?_
  intro Ψ av w hw hty hp
  match av, hty with
  | [v0], ⟨⟨q, hv0, hq⟩, _⟩ =>
    subst hv0
    obtain ⟨ρ, r1, r2, r3⟩ := hp
    have e0 : ρ 0 = (.inr (.inr (.inl q))) := r1 0 _ rfl
    have hd : ∃ fts, tj_Lam[49]? = some (.inl (4, 2, fts)) ∧ fts.length = 17 ∧ fts[5]? = some (1, 48, 0) ∧ fts[6]? = some (0, 2147483648, 2147485248) ∧ fts[10]? = some (0, 0, 4294967295) ∧ fts[12]? = some (0, 0, 4294967295) ∧ fts[13]? = some (0, 2147483648, 2147485248) := ⟨_, rfl, rfl, rfl, rfl, rfl, rfl, rfl⟩
    obtain ⟨fts, hd, hl, t5, t6, t10, t12, t13⟩ := hd
    obtain ⟨fs, hf, hlen, -, htyf⟩ := tj_obj hw hq hd
    have hlen : fs.length = 17 := by rw [hlen, hl]
    obtain ⟨v5, h5, ⟨qt, e5, hqt⟩⟩ := htyf 5 _ t5
    obtain ⟨v6, h6, ⟨len, e6, l1, l2⟩⟩ := htyf 6 _ t6
    subst e5
    subst e6
    have hs : ∃ s, ρ 1 = (.inl s) ∧ 2147483648 ≤ zx_b s ∧ zx_b s ≤ 2147485248 := r2 1 (0, 2147483648, 2147485248) rfl
    obtain ⟨s, es, s1, s2⟩ := hs
    have h9 : fs[9]? = some (.inl s) := by
      obtain ⟨q', ci, fs', c1, c2, c3⟩ := r3 (0, .inr 0, .inl 9, .inr 1) List.mem_cons_self
      have c1 : ρ 0 = (.inr (.inr (.inl q'))) := c1
      rw [e0] at c1
      cases c1
      rw [hf] at c2
      cases c2
      have c3 : fs[9]? = some (ρ 1) := c3
      rw [c3, es]
    have h13 : fs[13]? = some (.inl s) := by
      obtain ⟨q', ci, fs', c1, c2, c3⟩ := r3 (0, .inr 0, .inl 13, .inr 1) (List.mem_cons_of_mem _ List.mem_cons_self)
      have c1 : ρ 0 = (.inr (.inr (.inl q'))) := c1
      rw [e0] at c1
      cases c1
      rw [hf] at c2
      cases c2
      have c3 : fs[13]? = some (ρ 1) := c3
      rw [c3, es]
    obtain ⟨g, hg, -⟩ := tj_iarr (n := 1600) (s := [(1600, 2147483648, 2147483903)]) hw hqt rfl (Or.inl rfl)
    have hqq : q ≠ qt := fun e => by rw [← e, hf] at hg; cases hg
    have hlw : q < w.length := (List.getElem?_eq_some_iff.mp hf).1
    have hat : ∀ F : List zx_V, (w.set q (.inl (4, F)))[q]? = some (.inl (4, F)) := fun F => List.getElem?_set_self hlw
    have hgt : ∀ F : List zx_V, (w.set q (.inl (4, F)))[qt]? = some (.inr (0, 1600, .inl g)) := fun F => by rw [List.getElem?_set_ne hqq]; exact hg
    have hls : ∀ F : List zx_V, zx_limP (w.set q (.inl (4, F))).length [(0, (.inr (.inr (.inl q))))] = true := fun F => by
      rw [List.length_set]
      show (Nat.blt q w.length && true) = true
      rw [show Nat.blt q w.length = true from Nat.ble_eq_true_of_le hlw]
      rfl
    have hlq : ∀ F : List zx_V, zx_limL (w.set q (.inl (4, F))).length [(.inr (.inr (.inl q)))] = true := fun F => by
      rw [List.length_set]
      show (Nat.blt q w.length && true) = true
      rw [show Nat.blt q w.length = true from Nat.ble_eq_true_of_le hlw]
      rfl
    have hW : tj_W tj_Lam (tj_P tj_c1 w, tj_P tj_c2 w) te_h4.2.2.1 Ψ w Ψ w 0 0 := ⟨hw, ⟨by show 0 + _ ≤ _; omega, by show 0 + _ ≤ _; omega⟩, tj_le_rf, tj_fr_rf⟩
    have hend : ∀ (F : List zx_V) (a b t : Int32), te_nF fs F a b → 2147483648 ≤ zx_b b → zx_b b ≤ 2147485248 → (zx_b t = 2147483649 ∨ (zx_b t = 2147483651 ∧ 2147483648 ≤ zx_b a ∧ zx_b a ≤ 2147493647)) → zx_wp (zx_Cl zx_mt zx_rc zx_mx' 1) none (tj_P tj_c1 w, tj_P tj_c2 w) (zx_find (zx_cT zx_d_X4_scanNumber)) (tj_Post tj_Lam te_h4.2.2.1 Ψ w zx_d_X4_scanNumber te_h4.2.2.2.1 [(.inr (.inr (.inl q)))]) (94, [(0, (.inr (.inr (.inl q))))], [(.inl t), (.inr (.inr (.inl q)))], w.set q (.inl (4, F)), 0, 0) := by
      intro F a b t ⟨f1, f2, f3, f4⟩ b1 b2 ht
      refine zy_put rfl (hat F) (by omega) rfl ?_
      rw [List.set_set]
      have g10 : (F.set 10 (.inl t))[10]? = some (.inl t) := List.getElem?_set_self (by omega)
      have g12 : (F.set 10 (.inl t))[12]? = some (.inl a) := by rw [List.getElem?_set_ne (by decide)]; exact f2
      have g13 : (F.set 10 (.inl t))[13]? = some (.inl b) := by rw [List.getElem?_set_ne (by decide)]; exact f3
      have gk : ∀ k, k ≠ 10 → k ≠ 12 → k ≠ 13 → (F.set 10 (.inl t))[k]? = fs[k]? := fun k k0 k2 k3 => by rw [List.getElem?_set_ne (Ne.symm k0)]; exact f4 k k2 k3
      have hW2 : tj_W tj_Lam (tj_P tj_c1 w, tj_P tj_c2 w) te_h4.2.2.1 Ψ w Ψ (w.set q (.inl (4, (F.set 10 (.inl t))))) 0 0 := by
        refine tj_W_obj hW hq hd hf (by rw [List.length_set, f1, hlen, hl]) (fun k ty v hk hv => ?_) (fun x y e1 e2 e3 => ?_) (by decide) (fun k hk => ?_)
        · by_cases k10 : k = 10
          · subst k10
            rw [t10] at hk
            cases hk
            rw [g10] at hv
            cases hv
            exact ⟨t, rfl, Nat.zero_le _, by have := tj_b_lt t; omega⟩
          · by_cases k12 : k = 12
            · subst k12
              rw [t12] at hk
              cases hk
              rw [g12] at hv
              cases hv
              exact ⟨a, rfl, Nat.zero_le _, by have := tj_b_lt a; omega⟩
            · by_cases k13 : k = 13
              · subst k13
                rw [t13] at hk
                cases hk
                rw [g13] at hv
                cases hv
                exact ⟨b, rfl, b1, b2⟩
              · rw [gk k k10 k12 k13] at hv
                obtain ⟨v', c1, c2⟩ := htyf k ty hk
                rw [c1] at hv
                cases hv
                exact c2
        · rw [g10] at e1
          rw [g12] at e2
          cases e1
          cases e2
          rcases ht with h | ⟨-, h1, h2⟩
          · omega
          · exact ⟨h1, h2⟩
        · have n10 : k ≠ 10 := fun e => by rw [e] at hk; exact absurd hk (by decide)
          have n12 : k ≠ 12 := fun e => by rw [e] at hk; exact absurd hk (by decide)
          have n13 : k ≠ 13 := fun e => by rw [e] at hk; exact absurd hk (by decide)
          exact gk k n10 n12 n13
      have hty : tj_typed Ψ [(.inr (.inr (.inl q)))] [(1, 49, 0)] := ⟨⟨q, rfl, hq⟩, trivial⟩
      rcases ht with h | ⟨h, h1, h2⟩
      · refine zx_wp_done ⟨(none, w.set q (.inl (4, (F.set 10 (.inl t))))), Ψ, _, ⟨Nat.le_refl _, Nat.le_refl _, rfl, ⟨rfl, rfl⟩⟩, hW2.2.1.1, hW2.2.1.2, hW2.2.2.1, hW2.1, hW2.2.2.2, List.mem_cons_self, hty, rfl, ?_⟩
        refine ⟨fun k => (([(.inr (.inr (.inl q))), (.inl t)] : List zx_V)[k]?).getD (.inr (.inr (.inr 0))), fun i v hi => ?_, fun j ty hj => ?_, fun f hf => ?_⟩
        · match i, hi with
          | 0, hi => cases hi; rfl
          | i + 1, hi => cases hi
        · match j, hj with
          | 0, hj =>
            cases hj
            exact ⟨t, rfl, by omega, by omega⟩
          | j + 1, hj => cases hj
        · have e := List.mem_singleton.mp hf
          subst e
          exact ⟨q, 4, _, rfl, hat _, g10⟩
      · refine zx_wp_done ⟨(none, w.set q (.inl (4, (F.set 10 (.inl t))))), Ψ, _, ⟨Nat.le_refl _, Nat.le_refl _, rfl, ⟨rfl, rfl⟩⟩, hW2.2.1.1, hW2.2.1.2, hW2.2.2.1, hW2.1, hW2.2.2.2, List.mem_cons_of_mem _ List.mem_cons_self, hty, rfl, ?_⟩
        refine ⟨fun k => (([(.inr (.inr (.inl q))), (.inl t), (.inl a)] : List zx_V)[k]?).getD (.inr (.inr (.inr 0))), fun i v hi => ?_, fun j ty hj => ?_, fun f hf => ?_⟩
        · match i, hi with
          | 0, hi => cases hi; rfl
          | i + 1, hi => cases hi
        · match j, hj with
          | 0, hj =>
            cases hj
            exact ⟨t, rfl, by omega, by omega⟩
          | 1, hj =>
            cases hj
            exact ⟨a, rfl, by omega, by omega⟩
          | j + 2, hj => cases hj
        · rcases List.mem_cons.mp hf with e | e
          · subst e
            exact ⟨q, 4, _, rfl, hat _, g10⟩
          · have e := List.mem_singleton.mp e
            subst e
            exact ⟨q, 4, _, rfl, hat _, g12⟩
    show zx_wp _ none _ _ _ (0, [(0, (.inr (.inr (.inl q))))], [], w, 0, 0)
    refine zy_la (k := 0) rfl rfl (Or.inl ⟨_, rfl⟩) ?_
    refine zy_ci rfl ?_
    refine zy_put rfl hf (by omega) rfl ?_
    have hloop := zx_wp_loop (K := zx_Cl zx_mt zx_rc zx_mx' 1) (X := none) (cap := (tj_P tj_c1 w, tj_P tj_c2 w)) (tab := zx_find (zx_cT zx_d_X4_scanNumber)) (Q := tj_Post tj_Lam te_h4.2.2.1 Ψ w zx_d_X4_scanNumber te_h4.2.2.2.1 [(.inr (.inr (.inl q)))]) (fun z : List zx_V × Int32 × Int32 => (5, [(0, (.inr (.inr (.inl q))))], [], w.set q (.inl (4, z.1)), 0, 0)) (fun z => 4294967296 - zx_b z.2.2) (fun z => te_nF fs z.1 z.2.1 z.2.2 ∧ zx_b s ≤ zx_b z.2.2 ∧ zx_b z.2.2 ≤ 2147485248 ∧ (zx_b z.2.2 - zx_b s ≤ 4 → 2147483648 ≤ zx_b z.2.1 ∧ zx_b z.2.1 < 2147483648 + 10 ^ (zx_b z.2.2 - zx_b s))) ?_
    · refine hloop (fs.set 12 (.inl (Int32.ofNat 0)), 0, s) ⟨⟨by rw [List.length_set], List.getElem?_set_self (by omega), by rw [List.getElem?_set_ne (by decide)]; exact h13, fun k k1 _ => by rw [List.getElem?_set_ne (Ne.symm k1)]⟩, Nat.le_refl _, s2, fun _ => ?_⟩
      rw [Nat.sub_self]
      show 2147483648 ≤ zx_b 0 ∧ zx_b 0 < 2147483648 + 10 ^ 0
      decide
    · intro z hz
      obtain ⟨F, a, b⟩ := z
      obtain ⟨hF, b1, b2, ha⟩ := hz
      have hF : te_nF fs F a b := hF
      have b1 : zx_b s ≤ zx_b b := b1
      have b2 : zx_b b ≤ 2147485248 := b2
      have ha : zx_b b - zx_b s ≤ 4 → 2147483648 ≤ zx_b a ∧ zx_b a < 2147483648 + 10 ^ (zx_b b - zx_b s) := ha
      obtain ⟨f1, f2, f3, f4⟩ := id hF
      have g5 : F[5]? = some (.inr (.inr (.inl qt))) := by rw [f4 5 (by decide) (by decide)]; exact h5
      have g6 : F[6]? = some (.inl len) := by rw [f4 6 (by decide) (by decide)]; exact h6
      have g9 : F[9]? = some (.inl s) := by rw [f4 9 (by decide) (by decide)]; exact h9
      have hout : zx_wp (zx_Cl zx_mt zx_rc zx_mx' 1) none (tj_P tj_c1 w, tj_P tj_c2 w) (zx_find (zx_cT zx_d_X4_scanNumber)) (fun τ => tj_Post tj_Lam te_h4.2.2.1 Ψ w zx_d_X4_scanNumber te_h4.2.2.2.1 [(.inr (.inr (.inl q)))] τ ∨ ∃ z' : List zx_V × Int32 × Int32, τ = (5, [(0, (.inr (.inr (.inl q))))], [], w.set q (.inl (4, z'.1)), 0, 0) ∧ (te_nF fs z'.1 z'.2.1 z'.2.2 ∧ zx_b s ≤ zx_b z'.2.2 ∧ zx_b z'.2.2 ≤ 2147485248 ∧ (zx_b z'.2.2 - zx_b s ≤ 4 → 2147483648 ≤ zx_b z'.2.1 ∧ zx_b z'.2.1 < 2147483648 + 10 ^ (zx_b z'.2.2 - zx_b s))) ∧ 4294967296 - zx_b z'.2.2 < 4294967296 - zx_b b) (64, [(0, (.inr (.inr (.inl q))))], [], w.set q (.inl (4, F)), 0, 0) := by
        refine zx_wp_mono (fun τ h => Or.inl h) ?_
        refine zy_la (k := 0) rfl rfl (Or.inl ⟨_, rfl⟩) ?_
        refine zy_la (k := 0) rfl rfl (Or.inl ⟨_, rfl⟩) ?_
        refine zy_get rfl (hat F) f3 ?_
        refine zy_la (k := 0) rfl rfl (Or.inl ⟨_, rfl⟩) ?_
        refine zy_get rfl (hat F) g9 ?_
        refine zy_sub rfl ?_
        refine zy_ci rfl ?_
        have es2 := tj_b_sub b s
        have h4 : zx_b (Int32.ofNat 4) = 2147483652 := by decide
        refine zy_jt rfl (fun _ => ?_) (fun hle => ?_)
        · refine zy_ci rfl ?_
          refine zy_goto rfl ?_
          exact hend F a b _ hF (by omega) b2 (Or.inl (by decide))
        · have hle : zx_b (b - s) ≤ zx_b (Int32.ofNat 4) := hle
          have hk4 : zx_b b - zx_b s ≤ 4 := by omega
          obtain ⟨a1, a2⟩ := ha hk4
          have a3 : 10 ^ (zx_b b - zx_b s) ≤ 10000 := Nat.pow_le_pow_right (n := 10) (by decide) hk4
          refine zy_la (k := 0) rfl rfl (Or.inl ⟨_, rfl⟩) ?_
          refine zy_la (k := 0) rfl rfl (Or.inl ⟨_, rfl⟩) ?_
          refine zy_get rfl (hat F) f3 ?_
          obtain ⟨x, hK, hx⟩ := te_isLetter (i := b) (hat F) g5 g6 (hgt F) (by omega)
          refine zx_wp_call (a := 0) (n := 2) (y := 262) (g := zx_no) (av := [(.inr (.inr (.inl q))), (.inl b)]) (st' := [(.inr (.inr (.inl q)))]) (cy := (0, 0)) (r := (some (.inl x), w.set q (.inl (4, F)))) rfl rfl (Nat.le_of_ble_eq_true rfl) (hls F) (hlq F) (Nat.zero_le _) (Nat.zero_le _) hK ?_
          refine zy_j0 rfl (fun _ => ?_) (fun _ => ?_)
          · refine zy_ci rfl ?_
            exact hend F a b _ hF (by omega) b2 (Or.inr ⟨by decide, a1, by omega⟩)
          · refine zy_ci rfl ?_
            refine zy_goto rfl ?_
            exact hend F a b _ hF (by omega) b2 (Or.inl (by decide))
      refine zy_la (k := 0) rfl rfl (Or.inl ⟨_, rfl⟩) ?_
      refine zy_get rfl (hat F) f3 ?_
      refine zy_la (k := 0) rfl rfl (Or.inl ⟨_, rfl⟩) ?_
      refine zy_get rfl (hat F) g6 ?_
      refine zy_jt rfl (fun _ => hout) (fun hlt => ?_)
      have hlt : zx_b b < zx_b len := hlt
      refine zy_la (k := 0) rfl rfl (Or.inl ⟨_, rfl⟩) ?_
      refine zy_la (k := 0) rfl rfl (Or.inl ⟨_, rfl⟩) ?_
      refine zy_get rfl (hat F) f3 ?_
      obtain ⟨x, hK, hx⟩ := te_isDigit (i := b) (hat F) g5 g6 (hgt F) (by omega)
      refine zx_wp_call (a := 0) (n := 2) (y := 261) (g := zx_no) (av := [(.inr (.inr (.inl q))), (.inl b)]) (st' := []) (cy := (0, 0)) (r := (some (.inl x), w.set q (.inl (4, F)))) rfl rfl (by decide) (hls F) rfl (Nat.zero_le _) (Nat.zero_le _) hK ?_
      refine zy_j0 rfl (fun _ => hout) (fun hne => ?_)
      have hne : zx_b x ≠ 2147483648 := hne
      rcases hx with hx | ⟨-, x1, x2, x3, x4⟩
      · exact absurd hx hne
      · obtain ⟨hin, hi⟩ := tj_in (x := b) (n := 1600) x1 (by omega)
        refine zy_la (k := 0) rfl rfl (Or.inl ⟨_, rfl⟩) ?_
        refine zy_la (k := 0) rfl rfl (Or.inl ⟨_, rfl⟩) ?_
        refine zy_get rfl (hat F) f2 ?_
        refine zy_ci rfl ?_
        refine zy_mul rfl ?_
        refine zy_la (k := 0) rfl rfl (Or.inl ⟨_, rfl⟩) ?_
        refine zy_get rfl (hat F) g5 ?_
        refine zy_la (k := 0) rfl rfl (Or.inl ⟨_, rfl⟩) ?_
        refine zy_get rfl (hat F) f3 ?_
        refine zy_ld rfl (hgt F) hin ?_
        refine zy_ci rfl ?_
        refine zy_sub rfl ?_
        refine zy_add rfl ?_
        refine zy_put rfl (hat F) (by omega) rfl ?_
        rw [List.set_set]
        refine zy_la (k := 0) rfl rfl (Or.inl ⟨_, rfl⟩) ?_
        refine zy_dup rfl ?_
        have hF2 := te_nF12 (c := a * Int32.ofNat 10 + (g b.toNatClampNeg - Int32.ofNat 48)) hF (by omega)
        refine zy_get rfl (hat _) hF2.2.2.1 ?_
        refine zy_ci rfl ?_
        refine zy_add rfl ?_
        refine zy_put rfl (hat _) (by rw [List.length_set]; omega) rfl ?_
        rw [List.set_set]
        refine zy_goto rfl ?_
        have eb : zx_b (b + Int32.ofNat 1) = zx_b b + 1 := by
          have h1 : zx_b (Int32.ofNat 1) = 2147483649 := by decide
          have := tj_b_add b (Int32.ofNat 1)
          omega
        refine zx_wp_done (Or.inr ⟨(_, a * Int32.ofNat 10 + (g b.toNatClampNeg - Int32.ofNat 48), b + Int32.ofNat 1), rfl, ⟨te_nF13 hF2 (by omega), by show zx_b s ≤ zx_b (b + Int32.ofNat 1); omega, by show zx_b (b + Int32.ofNat 1) ≤ _; omega, fun hk => ?_⟩, by show 4294967296 - zx_b (b + Int32.ofNat 1) < 4294967296 - zx_b b; have := tj_b_lt b; omega⟩)
        have hk : zx_b (b + Int32.ofNat 1) - zx_b s ≤ 4 := hk
        obtain ⟨a1, a2⟩ := ha (by omega)
        have hres := te_digit (a := a) (c := g b.toNatClampNeg) (k := zx_b b - zx_b s) (by omega) a1 a2 (by rw [hi]; exact x3) (by rw [hi]; exact x4)
        show 2147483648 ≤ zx_b (a * Int32.ofNat 10 + (g b.toNatClampNeg - Int32.ofNat 48)) ∧ zx_b (a * Int32.ofNat 10 + (g b.toNatClampNeg - Int32.ofNat 48)) < 2147483648 + 10 ^ (zx_b (b + Int32.ofNat 1) - zx_b s)
        rw [show zx_b (b + Int32.ofNat 1) - zx_b s = (zx_b b - zx_b s) + 1 by omega]
        exact hres
