/-! the abstract executor: stores into arrays, copies, counters, the stack -/
section tjSt
variable {Λ : List tj_D} {cap : Nat × Nat} {E : tj_Ef} {Ψ0 : List Nat} {w0 : List zx_E}
def tj_keepA (env : List tj_y) (l : Nat) (f : tj_f) : Bool := match f with
  | (1, .inr r, _, _) => tj_nl env l r
  | (1, _, _, _) => false
  | (n + 3, _, _, _) => Nat.blt n 100 || !(tj_h1 l (tj_dep (n - 100)).2)
  | _ => true
theorem tj_keepA_ok (hso : tj_SO Λ) {Ψ : List Nat} {env : List tj_y} {ρ : Nat → zx_V} (he : tj_env Ψ env ρ) {w : List zx_E} {q l kd n : Nat} {g g' : zx_A} (hw : tj_wt Λ Ψ w) (hfr : tj_fr ([], [l]) Ψ w (w.set q (.inr (kd, n, g')))) (hq : Ψ[q]? = some l) (hf : w[q]? = some (.inr (kd, n, g))) : ∀ {f : tj_f}, tj_keepA env l f = true → tj_fd ρ w f → tj_fd ρ (w.set q (.inr (kd, n, g'))) f
  | (0, r, .inl k', u), _, ⟨q', c', fs', h1, h2, h3⟩ => by
    have hne : q ≠ q' := fun e => by
      subst e
      rw [hf] at h2
      cases h2
    exact ⟨q', c', fs', h1, by rw [List.getElem?_set_ne hne]; exact h2, h3⟩
  | (0, _, .inr _, _), _, _ => trivial
  | (1, .inr r, i, u), hk, ⟨q', x, h1, h2, h3⟩ => by
    have hk : tj_nl env l r = true := hk
    refine ⟨q', x, h1, h2, ?_⟩
    rw [List.getElem?_set_ne (tj_nl_ok he hk hq h1)]
    exact h3
  | (1, .inl _, _, _), hk, _ => by cases hk
  | (2, a, .inl b, c), _, h => h
  | (2, a, .inr b, c), _, h => h
  | (n' + 3, a, b, c), hk, h => by
    have hk : (Nat.blt n' 100 || !(tj_h1 l (tj_dep (n' - 100)).2)) = true := hk
    have h : tj_of n' (tj_v ρ a) (tj_v ρ b) (tj_v ρ c) w := h
    show tj_of n' (tj_v ρ a) (tj_v ρ b) (tj_v ρ c) _
    unfold tj_of at h ⊢
    cases hn : Nat.blt n' 100 with
    | true => rw [hn] at h; exact h
    | false =>
      rw [hn] at h hk
      refine hso _ _ _ _ Ψ w _ ([], [l]) hw hfr ?_ h
      simpa [tj_dj] using hk
theorem tj_fr1 {Ψ : List Nat} {w : List zx_E} {mc ms q l kd n : Nat} {f f' : zx_A} (hW : tj_W Λ cap E Ψ0 w0 Ψ w mc ms) (hq : Ψ[q]? = some l) (hf : w[q]? = some (.inr (kd, n, f))) (hw' : tj_wt Λ Ψ (w.set q (.inr (kd, n, f')))) (hk : kd ≠ 4) : tj_fr ([], [l]) Ψ w (w.set q (.inr (kd, n, f'))) :=
  (tj_W_arr (E := ([], [l])) (Ψ0 := Ψ) (w0 := w) (cap := cap) (mc := mc) (ms := ms) ⟨hW.1, hW.2.1, tj_le_rf, tj_fr_rf⟩ hq hf hw' hk (by unfold tj_h1; rw [Nat.beq_refl])).2.2.2
/-- bounds of what is stored -/
def tj_nb (kd la ha : Nat) : Nat × Nat := match kd with
  | 0 => (la, ha)
  | 2 => (2147483648, 2147483649)
  | _ => (2147483520, 2147483775)
def tj_af (kd : Nat) (r i x : tj_a) : List tj_f := match kd with
  | 0 => [(1, r, i, x)]
  | _ => []
def tj_ast (Λ : List tj_D) (E : tj_Ef) (kd : Nat) (A : tj_S) : Option (List tj_S) := match A with
  | (pc, L, x :: i :: .inr r :: st, env, F) => match tj_ix Λ env i r, tj_iv env x with
    | some (l, kd', _, s, a, b), some (la, ha) => match (Nat.beq kd kd' && tj_kd kd) && (tj_wr (tj_nb kd la ha).1 (tj_nb kd la ha).2 s a b && tj_h1 l E.2) with
      | true => some [(pc + 1, L, st, env, tj_af kd (.inr r) i x ++ F.filter (tj_keepA env l))]
      | false => none
    | _, _ => none
  | _ => none
theorem tj_kd4 {kd : Nat} (h : kd = 0 ∨ kd = 2 ∨ kd = 3) : kd ≠ 4 := by omega
theorem tj_ast_ok (hso : tj_SO Λ) {kd : Nat} {nar : Int32 → Int32} (hn : ∀ (x : Int32) (la ha : Nat), la ≤ zx_b x → zx_b x ≤ ha → (tj_nb kd la ha).1 ≤ zx_b (nar x) ∧ zx_b (nar x) ≤ (tj_nb kd la ha).2) (h0 : kd = 0 → ∀ x, nar x = x) {A : tj_S} {As : List tj_S} (h : tj_ast Λ E kd A = some As) : tj_sim Λ cap E Ψ0 w0 (tj_fn (zx_ast kd nar)) A As := by
  unfold tj_ast at h
  split at h
  next pc L x i r st env F =>
    split at h
    next l kd' n s a b la ha hix hiv =>
      split at h
      next hz =>
        cases h
        simp only [Bool.and_eq_true] at hz
        obtain ⟨⟨z1, z2⟩, z3, z4⟩ := hz
        have ek := Nat.eq_of_beq_eq_true z1
        subst ek
        have hkd := tj_kd_ok z2
        intro Ψ ρ σ ⟨ls, w, mc, ms, hσ, hW, hL, hls, he, hF⟩
        subst hσ
        obtain ⟨q, j, hq, hΨ, hd, hj, hin, hlt, h1, h2⟩ := tj_ix_ok hix he
        obtain ⟨g, hg, hty⟩ := tj_iarr hW.1 hΨ hd hkd
        obtain ⟨y, hy, b1, b2⟩ := tj_iv_ok he hiv
        obtain ⟨n1, n2⟩ := hn y la ha b1 b2
        have hlw : q < w.length := (List.getElem?_eq_some_iff.mp hg).1
        have hw' : tj_wt Λ Ψ (w.set q (.inr (kd, n, .inl (upd g j.toNatClampNeg (nar y))))) := tj_seti hW.1 hΨ hd hg (fun a' b' hs => by
          obtain ⟨c1, c2⟩ := tj_wr_ok z3 _ h1 h2 a' b' hs
          omega)
        refine ⟨(pc + 1, ls, st.map (tj_v ρ), w.set q (.inr (kd, n, .inl (upd g j.toNatClampNeg (nar y)))), mc, ms), Ψ, ρ, _, ?_, List.mem_cons_self, ⟨ls, _, mc, ms, rfl, tj_W_arr hW hΨ hg hw' (tj_kd4 hkd) z4, hL, by rw [List.length_set]; exact hls, he, fun f hf => ?_⟩, Nat.le_refl _, fun _ _ => rfl⟩
        · show zx_ast kd nar (pc, ls, tj_v ρ x :: tj_v ρ i :: ρ r :: st.map (tj_v ρ), w, mc, ms) = _
          rw [hy, hj, hq]
          simp only [zx_ast, hg, zx_beqT (rfl : kd = kd), hin, Bool.and_self]
        · rcases List.mem_append.mp hf with e | e
          · unfold tj_af at e
            split at e
            next =>
              rw [List.mem_singleton.mp e]
              refine ⟨q, j, hq, hj, Or.inl ⟨_, n, _, List.getElem?_set_self hlw, ?_⟩⟩
              rw [hy, h0 rfl]
              unfold upd
              rw [if_pos rfl]
            next => exact absurd e List.not_mem_nil
          · obtain ⟨e1, e2⟩ := List.mem_filter.mp e
            exact tj_keepA_ok hso he hW.1 (tj_fr1 hW hΨ hg hw' (tj_kd4 hkd)) hΨ hg e2 (hF f e1)
      next => cases h
    next => cases h
  next => cases h
theorem tj_ai_ok (hso : tj_SO Λ) {A : tj_S} {As : List tj_S} (h : tj_ast Λ E 0 A = some As) : tj_sim Λ cap E Ψ0 w0 (tj_fn (zx_ast 0 (fun x => x))) A As := tj_ast_ok hso (kd := 0) (nar := fun x => x) (fun x la ha h1 h2 => ⟨h1, h2⟩) (fun _ _ => rfl) h
theorem tj_az_ok (hso : tj_SO Λ) {A : tj_S} {As : List tj_S} (h : tj_ast Λ E 2 A = some As) : tj_sim Λ cap E Ψ0 w0 (tj_fn (zx_ast 2 (vp_nar .boolean))) A As := tj_ast_ok hso (fun x la ha h1 h2 => by
  have e : vp_nar .boolean x = x &&& 1 := rfl
  rw [e]
  have q := tj_b_and (x := x) (y := 1) (by decide)
  have : zx_b 1 = 2147483649 := by decide
  show 2147483648 ≤ _ ∧ _ ≤ 2147483649
  omega) (fun e => by cases e) h
theorem tj_ab_ok (hso : tj_SO Λ) {A : tj_S} {As : List tj_S} (h : tj_ast Λ E 3 A = some As) : tj_sim Λ cap E Ψ0 w0 (tj_fn (zx_ast 3 (vp_nar .byte))) A As := tj_ast_ok hso (fun x la ha h1 h2 => by
  rw [vp_nar_byte]
  exact tj_uv_ok (n := 2) h1 h2) (fun e => by cases e) h
def tj_last (Λ : List tj_D) (E : tj_Ef) (A : tj_S) : Option (List tj_S) := match A with
  | (pc, L, x :: i :: .inr r :: st, env, F) => match tj_ix Λ env i r with
    | some (l, kd, _, _, _, _) => match Nat.beq kd 1 && (Nat.beq (tj_k env x) 3 && tj_h1 l E.2) with
      | true => some [(pc + 1, L, st, env, F.filter (tj_keepA env l))]
      | false => none
    | none => none
  | _ => none
theorem tj_last_ok (hso : tj_SO Λ) {A : tj_S} {As : List tj_S} (h : tj_last Λ E A = some As) : tj_sim Λ cap E Ψ0 w0 (tj_fn zx_last) A As := by
  unfold tj_last at h
  split at h
  next pc L x i r st env F =>
    split at h
    next l kd n s a b hix =>
      split at h
      next hz =>
        cases h
        simp only [Bool.and_eq_true] at hz
        obtain ⟨z1, z2, z3⟩ := hz
        have ek := Nat.eq_of_beq_eq_true z1
        subst ek
        intro Ψ ρ σ ⟨ls, w, mc, ms, hσ, hW, hL, hls, he, hF⟩
        subst hσ
        obtain ⟨q, j, hq, hΨ, hd, hj, hin, hlt, h1, h2⟩ := tj_ix_ok hix he
        obtain ⟨g, hg⟩ := tj_larr hW.1 hΨ hd
        obtain ⟨y, hy⟩ := tj_k3 he (Nat.eq_of_beq_eq_true z2)
        refine ⟨(pc + 1, ls, st.map (tj_v ρ), w.set q (.inr (1, n, .inr (.inl (vp_updL g j.toNatClampNeg y)))), mc, ms), Ψ, ρ, _, ?_, List.mem_cons_self, ⟨ls, _, mc, ms, rfl, tj_W_arr hW hΨ hg (tj_setl hW.1 hΨ hd) (by decide) z3, hL, by rw [List.length_set]; exact hls, he, fun f hf => tj_keepA_ok hso he hW.1 (tj_fr1 hW hΨ hg (tj_setl hW.1 hΨ hd) (by decide)) hΨ hg (List.mem_filter.mp hf).2 (hF f (List.mem_filter.mp hf).1)⟩, Nat.le_refl _, fun _ _ => rfl⟩
        show zx_last (pc, ls, tj_v ρ x :: tj_v ρ i :: ρ r :: st.map (tj_v ρ), w, mc, ms) = _
        rw [hy, hj, hq]
        simp only [zx_last, hg, zx_beqT (rfl : (1 : Nat) = 1), hin, Bool.and_self]
      next => cases h
    next => cases h
  next => cases h
def tj_alen (Λ : List tj_D) (A : tj_S) : Option (List tj_S) := match A with
  | (pc, L, .inr r :: st, env, F) => match env[r]? with
    | some (1, l, _) => match Λ[l]? with
      | some (.inr (kd, n, _)) => match Nat.blt kd 5 with
        | true => some [(pc + 1, L, .inl n :: st, env, F)]
        | false => none
      | _ => none
    | _ => none
  | _ => none
theorem tj_alen_ok {X : zx_X} {A : tj_S} {As : List tj_S} (h : tj_alen Λ A = some As) : tj_sim Λ cap E Ψ0 w0 (tj_fn (zx_alen X)) A As := by
  unfold tj_alen at h
  split at h
  next pc L r st env F =>
    split at h
    next l c0 hr =>
      split at h
      next kd n s hd =>
        split at h
        next hz =>
          cases h
          refine tj_mv (fun Ψ ρ ls w mc ms hW he hF hL => ?_)
          obtain ⟨q, hq, hΨ⟩ := he r _ hr
          obtain ⟨f, hf, -⟩ := tj_arr hW.1 hΨ hd
          show zx_alen X (pc, ls, ρ r :: st.map (tj_v ρ), w, mc, ms) = some (pc + 1, ls, (.inl (Int32.ofNat n)) :: st.map (tj_v ρ), w, mc, ms)
          rw [hq]
          simp only [zx_alen, hf, hz]
        next => cases h
      next => cases h
    next => cases h
  next => cases h
/-- an int that is no less than 0, as a number -/
theorem tj_nat {x : Int32} (h1 : 2147483648 ≤ zx_b x) : decide (¬ x < 0) = true ∧ x.toNatClampNeg = zx_b x - 2147483648 := by
  have hb := zx_b_int x
  have hp : ¬ x < 0 := by
    rw [Int32.lt_iff_toInt_lt]
    have : (0 : Int32).toInt = 0 := rfl
    omega
  have hc : (x.toNatClampNeg : Int) = x.toInt := by
    unfold Int32.toNatClampNeg
    omega
  exact ⟨decide_eq_true hp, by omega⟩
def tj_cpB (n dp sp : Nat × Nat) (np nq : Nat) : Bool := (Nat.ble 2147483648 n.1 && (Nat.ble 2147483648 dp.1 && Nat.ble 2147483648 sp.1)) && (Nat.ble (sp.2 + n.2) (np + 4294967296) && Nat.ble (dp.2 + n.2) (nq + 4294967296))
def tj_cpR (a b : tj_a) (Λ : List tj_D) (env : List tj_y) : Option (Nat × Nat × List tj_y × Nat × Nat × List tj_y) := match a, b with
  | .inr p, .inr q => match env[p]?, env[q]? with
    | some (1, lp, _), some (1, lq, _) => match Λ[lp]?, Λ[lq]? with
      | some (.inr (0, np, s)), some (.inr (0, nq, s')) => some (lp, np, s, lq, nq, s')
      | _, _ => none
    | _, _ => none
  | _, _ => none
def tj_copy (Λ : List tj_D) (E : tj_Ef) (A : tj_S) : Option (List tj_S) := match A with
  | (pc, L, n :: dp :: q :: sp :: p :: st, env, F) => match tj_cpR p q Λ env with
    | some (lp, np, s, lq, nq, s') => match tj_iv env n, tj_iv env dp, tj_iv env sp with
      | some vn, some vd, some vs => match tj_rd s 0 (np - 1) with
        | some (a, b) => match (tj_cpB vn vd vs np nq && tj_wr a b s' 0 (nq - 1)) && ((!(Nat.beq lp lq) && tj_h1 lq E.2) && Nat.ble st.length 4) with
          | true => some [(pc + 3, L, st, env, F.filter (tj_keepA env lq))]
          | false => none
        | none => none
      | _, _, _ => none
    | none => none
  | _ => none
theorem tj_cpR_ok {p q : tj_a} {env : List tj_y} {lp np lq nq : Nat} {s s' : List tj_y} (h : tj_cpR p q Λ env = some (lp, np, s, lq, nq, s')) {Ψ : List Nat} {ρ : Nat → zx_V} (he : tj_env Ψ env ρ) : ∃ pp qq, tj_v ρ p = (.inr (.inr (.inl pp))) ∧ Ψ[pp]? = some lp ∧ Λ[lp]? = some (.inr (0, np, s)) ∧ tj_v ρ q = (.inr (.inr (.inl qq))) ∧ Ψ[qq]? = some lq ∧ Λ[lq]? = some (.inr (0, nq, s')) := by
  unfold tj_cpR at h
  split at h
  next p q =>
    split at h
    next lp' c lq' c' hp hq =>
      split at h
      next np' s1 nq' s2 hlp hlq =>
        cases h
        obtain ⟨pp, e1, e2⟩ := he p _ hp
        obtain ⟨qq, e3, e4⟩ := he q _ hq
        exact ⟨pp, qq, e1, e2, hlp, e3, e4, hlq⟩
      next => cases h
    next => cases h
  next => cases h
theorem tj_copy_ok (hso : tj_SO Λ) {A : tj_S} {As : List tj_S} (h : tj_copy Λ E A = some As) : tj_sim Λ cap E Ψ0 w0 (tj_fn zx_copy) A As := by
  unfold tj_copy at h
  split at h
  next pc L n dp q sp p st env F =>
    split at h
    next lp np s lq nq s' hR =>
      split at h
      next vn vd vs hn hdp hsp =>
        split at h
        next a b hrd =>
          split at h
          next hz =>
            cases h
            simp only [Bool.and_eq_true, tj_cpB] at hz
            obtain ⟨⟨⟨⟨z1, z2, z3⟩, z4, z5⟩, z6⟩, ⟨z7, z8⟩, z9⟩ := hz
            have z1 := Nat.le_of_ble_eq_true z1
            have z2 := Nat.le_of_ble_eq_true z2
            have z3 := Nat.le_of_ble_eq_true z3
            have z4 := Nat.le_of_ble_eq_true z4
            have z5 := Nat.le_of_ble_eq_true z5
            intro Ψ ρ σ ⟨ls, w, mc, ms, hσ, hW, hL, hls, he, hF⟩
            subst hσ
            obtain ⟨pp, qq, e1, e2, e3, e4, e5, e6⟩ := tj_cpR_ok hR he
            obtain ⟨f, hf, hft⟩ := tj_iarr hW.1 e2 e3 (Or.inl rfl)
            obtain ⟨g, hg, hgt⟩ := tj_iarr hW.1 e5 e6 (Or.inl rfl)
            obtain ⟨xn, hxn, n1, n2⟩ := tj_iv_ok (lo := vn.1) (hi := vn.2) he hn
            obtain ⟨xd, hxd, d1, d2⟩ := tj_iv_ok (lo := vd.1) (hi := vd.2) he hdp
            obtain ⟨xs, hxs, s1, s2⟩ := tj_iv_ok (lo := vs.1) (hi := vs.2) he hsp
            obtain ⟨tn1, tn2⟩ := tj_nat (x := xn) (by omega)
            obtain ⟨td1, td2⟩ := tj_nat (x := xd) (by omega)
            obtain ⟨ts1, ts2⟩ := tj_nat (x := xs) (by omega)
            have l1 : xs.toNatClampNeg + xn.toNatClampNeg ≤ np := by omega
            have l2 : xd.toNatClampNeg + xn.toNatClampNeg ≤ nq := by omega
            have hne : pp ≠ qq := fun e => by
              subst e
              rw [e2] at e5
              cases e5
              rw [Nat.beq_refl] at z7
              cases z7
            have hbn : Nat.beq pp qq = false := by
              cases hb : Nat.beq pp qq with
              | false => rfl
              | true => exact absurd (Nat.eq_of_beq_eq_true hb) hne
            have hw' : tj_wt Λ Ψ (w.set qq (.inr (0, nq, .inl (va_cpy f g xs.toNatClampNeg xd.toNatClampNeg xn.toNatClampNeg)))) := by
              refine tj_set hW.1 e5 e6 ⟨rfl, rfl, Or.inl rfl, fun j hj a' b' hs => ?_⟩
              unfold va_cpy
              split
              next hc =>
                obtain ⟨a2, b2, r1, r2, r3⟩ := tj_rd_ok hrd (xs.toNatClampNeg + (j - xd.toNatClampNeg)) (Nat.zero_le _) (by omega)
                obtain ⟨t1, t2⟩ := hft (xs.toNatClampNeg + (j - xd.toNatClampNeg)) (by omega) a2 b2 r1
                obtain ⟨u1, u2⟩ := tj_wr_ok z6 j (Nat.zero_le _) (by omega) a' b' hs
                omega
              next => exact hgt j hj a' b' hs
            refine ⟨(pc + 3, ls, st.map (tj_v ρ), w.set qq (.inr (0, nq, .inl (va_cpy f g xs.toNatClampNeg xd.toNatClampNeg xn.toNatClampNeg))), mc, ms), Ψ, ρ, _, ?_, List.mem_cons_self, ⟨ls, _, mc, ms, rfl, tj_W_arr hW e5 hg hw' (by decide) z8, hL, by rw [List.length_set]; exact hls, he, fun f' hf' => ?_⟩, Nat.le_refl _, fun _ _ => rfl⟩
            · show zx_copy (pc, ls, tj_v ρ n :: tj_v ρ dp :: tj_v ρ q :: tj_v ρ sp :: tj_v ρ p :: st.map (tj_v ρ), w, mc, ms) = _
              rw [hxn, hxd, e4, hxs, e1]
              have b1 : Nat.ble (xs.toNatClampNeg + xn.toNatClampNeg) np = true := Nat.ble_eq_true_of_le l1
              have b2 : Nat.ble (xd.toNatClampNeg + xn.toNatClampNeg) nq = true := Nat.ble_eq_true_of_le l2
              simp only [zx_copy, hf, hg, tn1, td1, ts1, b1, b2, hbn, List.length_map, z9, Bool.not_false, Bool.and_self]
            · obtain ⟨k1, k2⟩ := List.mem_filter.mp hf'
              exact tj_keepA_ok hso he hW.1 (tj_fr1 hW e5 hg hw' (by decide)) e5 hg k2 (hF f' k1)
          next => cases h
        next => cases h
      next => cases h
    next => cases h
  next => cases h
/-- counters -/
def tj_inc (k n : Nat) (A : tj_S) : Option (List tj_S) := match A with
  | (pc, L, st, env, F) => match tj_look k L with
    | some a => match tj_iv env a, tj_iv env (.inl n) with
      | some (la, ha), some (lb, hb) => match tj_limS env.length L st F with
        | true => some [(pc + 3, tj_put (env ++ [(0, tj_ivo 0 la ha lb hb)]) k (.inr env.length) L, st, env ++ [(0, tj_ivo 0 la ha lb hb)], (3, a, .inl n, .inr env.length) :: F)]
        | false => none
      | _, _ => none
    | none => none
theorem tj_inc_ok {k n : Nat} {A : tj_S} {As : List tj_S} (h : tj_inc k n A = some As) : tj_sim Λ cap E Ψ0 w0 (tj_fn (zx_inc k (Int32.ofNat n))) A As := by
  obtain ⟨pc, L, st, env, F⟩ := A
  simp only [tj_inc] at h
  split at h
  next a hk =>
    split at h
    next la ha lb hb hia hib =>
      split at h
      next hlim =>
        cases h
        intro Ψ ρ σ ⟨ls, w, mc, ms, hσ, hW, hL, hls, he, hF⟩
        subst hσ
        obtain ⟨x, hx, a1, a2⟩ := tj_iv_ok he hia
        obtain ⟨y, hy, b1, b2⟩ := tj_iv_ok he hib
        have ey : Int32.ofNat n = y := Sum.inl.inj hy
        subst ey
        have hiv := tj_ivo_ok (n := 0) a1 a2 b1 b2
        simp only [tj_limS, Bool.and_eq_true] at hlim
        obtain ⟨l1, l2, l3⟩ := hlim
        let v : zx_V := (.inl (x + Int32.ofNat n))
        let ρ' : Nat → zx_V := fun k => if k = env.length then v else ρ k
        have hr : ∀ k, k < env.length → ρ' k = ρ k := fun k hk => if_neg (Nat.ne_of_lt hk)
        have hn : ρ' env.length = v := if_pos rfl
        have he' : tj_env Ψ (env ++ [(0, tj_ivo 0 la ha lb hb)]) ρ' := tj_env_new he hr (by rw [hn]; exact ⟨_, rfl, hiv.1, hiv.2⟩)
        have hput := tj_put_ok (k := k) (a := .inr env.length) he' (tj_L_lim hr l1 hL)
        refine ⟨(pc + 3, zx_put k v ls, st.map (tj_v ρ), w, mc, ms), Ψ, ρ', _, ?_, List.mem_cons_self, ⟨zx_put k v ls, w, mc, ms, ?_, hW, ?_, tj_limP_put rfl hls, he', fun g hg => ?_⟩, ?_, hr⟩
        · have hl := hL _ (tj_look_mem hk)
          have hl : zx_look k ls = some (tj_v ρ a) := hl
          rw [hx] at hl
          show zx_inc k (Int32.ofNat n) (pc, ls, st.map (tj_v ρ), w, mc, ms) = _
          simp only [zx_inc, hl]
          rfl
        · show _ = (pc + 3, zx_put k v ls, st.map (tj_v ρ'), w, mc, ms)
          rw [tj_st_lim hr l2]
        · have e : tj_v ρ' (.inr env.length) = v := hn
          rw [e] at hput
          exact hput
        · rcases List.mem_cons.mp hg with e | e
          · rw [e]
            show tj_of 0 _ _ _ w
            rw [tj_of_op rfl]
            exact ⟨x, Int32.ofNat n, by rw [tj_lim_v hr (tj_iv_lim hia)]; exact hx, rfl, hn⟩
          · exact tj_lim_f hr (List.all_eq_true.mp l3 g e) (hF g e)
        · show env.length ≤ (env ++ [(0, tj_ivo 0 la ha lb hb)]).length
          rw [List.length_append]
          exact Nat.le_add_right _ _
      next => cases h
    next => cases h
  next => cases h
/-- the stack -/
def tj_pop (A : tj_S) : Option (List tj_S) := match A with
  | (pc, L, a :: st, env, F) => match Nat.blt (tj_k env a) 3 with
    | true => some [(pc + 1, L, st, env, F)]
    | false => none
  | _ => none
theorem tj_pop_ok {A : tj_S} {As : List tj_S} (h : tj_pop A = some As) : tj_sim Λ cap E Ψ0 w0 (tj_fn zx_pop) A As := by
  unfold tj_pop at h
  split at h
  next pc L a st env F =>
    split at h
    next hz =>
      cases h
      refine tj_mv (fun Ψ ρ ls w mc ms hW he hF hL => ?_)
      have hc := tj_k_cat he hz
      show zx_pop (pc, ls, tj_v ρ a :: st.map (tj_v ρ), w, mc, ms) = _
      simp only [zx_pop, hc]
    next => cases h
  next => cases h
def tj_dup (A : tj_S) : Option (List tj_S) := match A with
  | (pc, L, a :: st, env, F) => match Nat.blt (tj_k env a) 3 with
    | true => some [(pc + 1, L, a :: a :: st, env, F)]
    | false => none
  | _ => none
theorem tj_dup_ok {A : tj_S} {As : List tj_S} (h : tj_dup A = some As) : tj_sim Λ cap E Ψ0 w0 (tj_fn zx_dup) A As := by
  unfold tj_dup at h
  split at h
  next pc L a st env F =>
    split at h
    next hz =>
      cases h
      refine tj_mv (fun Ψ ρ ls w mc ms hW he hF hL => ?_)
      have hc := tj_k_cat he hz
      show zx_dup (pc, ls, tj_v ρ a :: st.map (tj_v ρ), w, mc, ms) = some (pc + 1, ls, tj_v ρ a :: tj_v ρ a :: st.map (tj_v ρ), w, mc, ms)
      simp only [zx_dup, hc]
    next => cases h
  next => cases h
def tj_dup2 (A : tj_S) : Option (List tj_S) := match A with
  | (pc, L, b :: a :: st, env, F) => match Nat.blt (tj_k env a) 3 && Nat.blt (tj_k env b) 3 with
    | true => some [(pc + 1, L, b :: a :: b :: a :: st, env, F)]
    | false => none
  | _ => none
theorem tj_dup2_ok {A : tj_S} {As : List tj_S} (h : tj_dup2 A = some As) : tj_sim Λ cap E Ψ0 w0 (tj_fn zx_dup2) A As := by
  unfold tj_dup2 at h
  split at h
  next pc L b a st env F =>
    split at h
    next hz =>
      cases h
      rw [Bool.and_eq_true] at hz
      refine tj_mv (fun Ψ ρ ls w mc ms hW he hF hL => ?_)
      have hc := tj_k_cat he hz.1
      have hd := tj_k_cat he hz.2
      show zx_dup2 (pc, ls, tj_v ρ b :: tj_v ρ a :: st.map (tj_v ρ), w, mc, ms) = some (pc + 1, ls, tj_v ρ b :: tj_v ρ a :: tj_v ρ b :: tj_v ρ a :: st.map (tj_v ρ), w, mc, ms)
      simp only [zx_dup2, hc, hd, Bool.or_self]
    next => cases h
  next => cases h
/-- Math of longs -/
def tj_ml (A : tj_S) : Option (List tj_S) := match A with
  | (pc, L, b :: a :: st, env, F) => match (Nat.beq (tj_k env a) 3 && Nat.beq (tj_k env b) 3) && (Nat.ble st.length 4 && tj_limS env.length L st F) with
    | true => some [(pc + 3, L, .inr env.length :: st, env ++ [(3, 0, 0)], [] ++ F)]
    | false => none
  | _ => none
theorem tj_ml_ok {f : Int64 → Int64 → Int64} {A : tj_S} {As : List tj_S} (h : tj_ml A = some As) : tj_sim Λ cap E Ψ0 w0 (tj_fn (zx_ml f cap)) A As := by
  unfold tj_ml at h
  split at h
  next pc L b a st env F =>
    split at h
    next hz =>
      cases h
      simp only [Bool.and_eq_true] at hz
      obtain ⟨⟨z1, z2⟩, z3, z4⟩ := hz
      refine tj_val z4 (fun Ψ ρ ls w mc ms hW he hF hL => ?_)
      obtain ⟨x, hx⟩ := tj_k3 he (Nat.eq_of_beq_eq_true z1)
      obtain ⟨y, hy⟩ := tj_k3 he (Nat.eq_of_beq_eq_true z2)
      refine ⟨(.inr (.inl (f x y))), ?_, ⟨_, rfl⟩, fun _ _ _ g hg => absurd hg List.not_mem_nil⟩
      have c1 : Nat.ble mc cap.1 = true := Nat.ble_eq_true_of_le (by have := hW.2.1.1; omega)
      have c2 : Nat.ble ms cap.2 = true := Nat.ble_eq_true_of_le (by have := hW.2.1.2; omega)
      show zx_ml f cap (pc, ls, tj_v ρ b :: tj_v ρ a :: st.map (tj_v ρ), w, mc, ms) = _
      rw [hx, hy]
      simp only [zx_ml, List.length_map, z3, c1, c2, Bool.and_self]
    next => cases h
  next => cases h
end tjSt
