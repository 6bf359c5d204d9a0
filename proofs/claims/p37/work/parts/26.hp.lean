/-! the abstract executor: fields, arrays, small ones -/
section tjHp
variable {Λ : List tj_D} {cap : Nat × Nat} {E : tj_Ef} {Ψ0 : List Nat} {w0 : List zx_E}
/-- a value has a type -/
def tj_sub (env : List tj_y) (a : tj_a) (t : tj_y) : Bool := match t with
  | (0, lo, hi) => match tj_iv env a with
    | some (l, h) => Nat.ble lo l && Nat.ble h hi
    | none => false
  | (1, l, _) => match a with
    | .inr k => match env[k]? with
      | some (1, l', _) => Nat.beq l l'
      | _ => false
    | .inl _ => false
  | (2, l, _) => match a with
    | .inr k => match env[k]? with
      | some (1, l', _) => Nat.beq l l'
      | some (2, l', _) => Nat.beq l l'
      | _ => false
    | .inl _ => false
  | _ => Nat.beq (tj_k env a) 3
theorem tj_sub_ok {Ψ : List Nat} {env : List tj_y} {ρ : Nat → zx_V} (he : tj_env Ψ env ρ) : ∀ {a : tj_a} {t : tj_y}, tj_sub env a t = true → tj_vt Ψ t (tj_v ρ a)
  | a, (0, lo, hi), h => by
    simp only [tj_sub] at h
    split at h
    next l h' hi' =>
      rw [Bool.and_eq_true] at h
      obtain ⟨x, hx, b1, b2⟩ := tj_iv_ok he hi'
      have y1 := Nat.le_of_ble_eq_true h.1
      have y2 := Nat.le_of_ble_eq_true h.2
      exact ⟨x, hx, by omega, by omega⟩
    next => cases h
  | .inr k, (1, l, c), h => by
    simp only [tj_sub] at h
    split at h
    next l' c' hk =>
      obtain ⟨q, h1, h2⟩ := he k _ hk
      rw [← Nat.eq_of_beq_eq_true h] at h2
      exact ⟨q, h1, h2⟩
    next => cases h
  | .inl _, (1, l, c), h => by cases h
  | .inr k, (2, l, c), h => by
    simp only [tj_sub] at h
    split at h
    next l' c' hk =>
      obtain ⟨q, h1, h2⟩ := he k _ hk
      rw [← Nat.eq_of_beq_eq_true h] at h2
      exact Or.inr ⟨q, h1, h2⟩
    next l' c' hk =>
      rcases he k _ hk with h1 | ⟨q, h1, h2⟩
      · exact Or.inl h1
      · rw [← Nat.eq_of_beq_eq_true h] at h2
        exact Or.inr ⟨q, h1, h2⟩
    next => cases h
  | .inl _, (2, l, c), h => by cases h
  | a, (n + 3, l, c), h => tj_k3 he (Nat.eq_of_beq_eq_true h)
/-- what is of a type may lie in a field of that fit -/
def tj_fit (fit : Nat) (t : tj_y) : Bool := match fit, t with
  | 0, (0, _, _) => true
  | 1, (1, _, _) => true
  | 1, (2, _, _) => true
  | 2, (0, lo, hi) => Nat.ble 2147483648 lo && Nat.ble hi 2147483649
  | _ + 3, (_ + 3, _, _) => true
  | _, _ => false
theorem tj_bit {x : Int32} (c1 : 2147483648 ≤ zx_b x) (c2 : zx_b x ≤ 2147483649) : x = 0 ∨ x = 1 := by
  have hb := zx_b_int x
  have e0 : (0 : Int32).toInt = 0 := by decide
  have e1 : (1 : Int32).toInt = 1 := by decide
  by_cases h0 : zx_b x = 2147483648
  · left
    refine Int32.toInt_inj.mp ?_
    omega
  · right
    refine Int32.toInt_inj.mp ?_
    omega
theorem tj_fit_ok {Ψ : List Nat} {fit : Nat} {t : tj_y} {v : zx_V} (h : tj_fit fit t = true) (hv : tj_vt Ψ t v) : zx_fit fit v = true := by
  unfold tj_fit at h
  split at h
  next lo hi =>
    obtain ⟨x, e, _⟩ := hv
    rw [e]; rfl
  next l c =>
    obtain ⟨q, e, _⟩ := hv
    rw [e]; rfl
  next l c =>
    rcases hv with e | ⟨q, e, _⟩ <;> rw [e] <;> rfl
  next lo hi =>
    obtain ⟨x, e, h1, h2⟩ := hv
    rw [Bool.and_eq_true] at h
    have y1 := Nat.le_of_ble_eq_true h.1
    have y2 := Nat.le_of_ble_eq_true h.2
    rw [e]
    show (decide (x = 0) || decide (x = 1)) = true
    rcases tj_bit (x := x) (by omega) (by omega) with e | e <;> rw [e] <;> rfl
  next n m l c =>
    obtain ⟨x, e⟩ := hv
    rw [e]; rfl
  next => cases h
/-- a field's type, by the object's rule -/
def tj_gt3 (t : tj_y) (p : Option (Nat × Nat)) : tj_y := match p with
  | some q => (match Nat.beq q.1 2147483651 && Nat.beq q.2 2147483651 with
    | true => (0, 2147483648, 2147493647)
    | false => t)
  | none => t
def tj_gt2 (t : tj_y) (env : List tj_y) (F : List tj_f) (r : Nat) : tj_y := match tj_fk 0 (.inr r) (.inl 10) F with
  | some v => tj_gt3 t (tj_iv env v)
  | none => t
def tj_gty (rr k : Nat) (t : tj_y) (env : List tj_y) (F : List tj_f) (r : Nat) : tj_y := match rr, k with
  | 2, 12 => tj_gt2 t env F r
  | _, _ => t
theorem tj_gty_ok {Ψ : List Nat} {env : List tj_y} {ρ : Nat → zx_V} {F : List tj_f} {w : List zx_E} (he : tj_env Ψ env ρ) (hF : ∀ g ∈ F, tj_fd ρ w g) {rr k r q ci : Nat} {t : tj_y} {fs : List zx_V} {v : zx_V} (hq : ρ r = (.inr (.inr (.inl q)))) (hf : w[q]? = some (.inl (ci, fs))) (hi : tj_inv rr fs) (hv : fs[k]? = some v) (hvt : tj_vt Ψ t v) (ht : t.1 = 0) : tj_vt Ψ (tj_gty rr k t env F r) v := by
  unfold tj_gty
  split
  next =>
    unfold tj_gt2
    split
    next u hu =>
      unfold tj_gt3
      split
      next p hp =>
        split
        next hz =>
          rw [Bool.and_eq_true] at hz
          have z1 := Nat.eq_of_beq_eq_true hz.1
          have z2 := Nat.eq_of_beq_eq_true hz.2
          obtain ⟨x, hx, b1, b2⟩ := tj_iv_ok (lo := p.1) (hi := p.2) he hp
          obtain ⟨q2, ci2, fs2, g1, g2, g3⟩ := hF _ (tj_fk_mem hu)
          have g1 : ρ r = (.inr (.inr (.inl q2))) := g1
          rw [hq] at g1
          cases g1
          rw [hf] at g2
          cases g2
          rw [hx] at g3
          obtain ⟨t0, lo, hi'⟩ := t
          have ht : t0 = 0 := ht
          subst ht
          obtain ⟨y, hy, -⟩ := hvt
          rw [hy] at hv
          exact ⟨y, hy, hi x y g3 hv (by omega)⟩
        next => exact hvt
      next => exact hvt
    next => exact hvt
  next => exact hvt
def tj_gtk (rr k : Nat) (t : tj_y) : Bool := match rr, k with
  | 2, 12 => Nat.beq t.1 0
  | _, _ => true
theorem tj_gty_ok2 {Ψ : List Nat} {env : List tj_y} {ρ : Nat → zx_V} {F : List tj_f} {w : List zx_E} (he : tj_env Ψ env ρ) (hF : ∀ g ∈ F, tj_fd ρ w g) {rr k r q ci : Nat} {t : tj_y} {fs : List zx_V} {v : zx_V} (hq : ρ r = (.inr (.inr (.inl q)))) (hf : w[q]? = some (.inl (ci, fs))) (hi : tj_inv rr fs) (hv : fs[k]? = some v) (hvt : tj_vt Ψ t v) (ht : tj_gtk rr k t = true) : tj_vt Ψ (tj_gty rr k t env F r) v := by
  unfold tj_gtk at ht
  split at ht
  next => exact tj_gty_ok he hF hq hf hi hv hvt (Nat.eq_of_beq_eq_true ht)
  next h1 =>
    unfold tj_gty
    split
    next => exact absurd rfl (fun e => h1 rfl e)
    next => exact hvt
def tj_gf (Λ : List tj_D) (ci k : Nat) (A : tj_S) : Option (List tj_S) := match A with
  | (pc, L, .inr r :: st, env, F) => match env[r]? with
    | some (1, l, _) => match Λ[l]? with
      | some (.inl (c, rr, fts)) => match Nat.beq ci c, fts[k]? with
        | true, some t => match tj_fk 0 (.inr r) (.inl k) F with
          | some v => some [(pc + 3, L, v :: st, env, F)]
          | none => match tj_limS env.length L st F && tj_gtk rr k t with
            | true => some [(pc + 3, L, .inr env.length :: st, env ++ [tj_gty rr k t env F r], [(0, .inr r, .inl k, .inr env.length)] ++ F)]
            | false => none
        | _, _ => none
      | _ => none
    | _ => none
  | _ => none
theorem tj_gf_ok {ci k : Nat} {A : tj_S} {As : List tj_S} (h : tj_gf Λ ci k A = some As) : tj_sim Λ cap E Ψ0 w0 (tj_fn (zx_gf ci k)) A As := by
  unfold tj_gf at h
  split at h
  next pc L r st env F =>
    split at h
    next l c0 hr =>
      split at h
      next c rr fts hd =>
        split at h
        next t hc hk =>
          have ec := Nat.eq_of_beq_eq_true hc
          subst ec
          have hstep : ∀ (Ψ : List Nat) (ρ : Nat → zx_V) (ls : List (Nat × zx_V)) (w : List zx_E) (mc ms : Nat), tj_wt Λ Ψ w → tj_env Ψ env ρ → ∃ q fs v, ρ r = (.inr (.inr (.inl q))) ∧ w[q]? = some (.inl (ci, fs)) ∧ fs[k]? = some v ∧ tj_vt Ψ t v ∧ tj_inv rr fs ∧ zx_gf ci k (pc, ls, ρ r :: st.map (tj_v ρ), w, mc, ms) = some (pc + 3, ls, v :: st.map (tj_v ρ), w, mc, ms) := by
            intro Ψ ρ ls w mc ms hw he
            obtain ⟨q, hq, hΨ⟩ := he r _ hr
            obtain ⟨fs, hf, -, hi, hty⟩ := tj_obj hw hΨ hd
            obtain ⟨v, hv, hvt⟩ := hty k t hk
            refine ⟨q, fs, v, hq, hf, hv, hvt, hi, ?_⟩
            rw [hq]
            simp only [zx_gf, hf, hv, zx_beqT (rfl : ci = ci)]
          split at h
          next v hv =>
            cases h
            refine tj_mv (fun Ψ ρ ls w mc ms hW he hF hL => ?_)
            obtain ⟨q, fs, v', hq, hf, hv', hvt, -, hs⟩ := hstep Ψ ρ ls w mc ms hW.1 he
            obtain ⟨q2, ci2, fs2, g1, g2, g3⟩ := hF _ (tj_fk_mem hv)
            have e1 : q2 = q := by
              have g1 : ρ r = (.inr (.inr (.inl q2))) := g1
              rw [hq] at g1
              cases g1
              rfl
            subst e1
            rw [hf] at g2
            cases g2
            rw [hv'] at g3
            cases g3
            exact hs
          next =>
            split at h
            next hlim =>
              cases h
              rw [Bool.and_eq_true] at hlim
              refine tj_val hlim.1 (fun Ψ ρ ls w mc ms hW he hF hL => ?_)
              obtain ⟨q, fs, v, hq, hf, hv, hvt, hi, hs⟩ := hstep Ψ ρ ls w mc ms hW.1 he
              have hrl : r < env.length := (List.getElem?_eq_some_iff.mp hr).1
              refine ⟨v, hs, tj_gty_ok2 he hF hq hf hi hv hvt hlim.2, fun ρ' ha hn g hg => ?_⟩
              rw [List.mem_singleton.mp hg]
              exact ⟨q, ci, fs, by show ρ' r = _; rw [ha r hrl]; exact hq, hf, by show _ = some (ρ' env.length); rw [hn]; exact hv⟩
            next => cases h
        next => cases h
      next => cases h
    next => cases h
  next => cases h
/-- another location -/
def tj_nl (env : List tj_y) (l r : Nat) : Bool := match env[r]? with
  | some (1, l', _) => !(Nat.beq l l')
  | _ => false
theorem tj_nl_ok {Ψ : List Nat} {env : List tj_y} {ρ : Nat → zx_V} (he : tj_env Ψ env ρ) {l r q q' : Nat} (h : tj_nl env l r = true) (hq : Ψ[q]? = some l) (hr : ρ r = (.inr (.inr (.inl q')))) : q ≠ q' := by
  unfold tj_nl at h
  split at h
  next l' c hk =>
    intro e
    subst e
    obtain ⟨p, e1, e2⟩ := he r _ hk
    rw [hr] at e1
    cases e1
    rw [hq] at e2
    cases e2
    rw [Nat.beq_refl] at h
    cases h
  next => cases h
def tj_keep (env : List tj_y) (l k : Nat) (f : tj_f) : Bool := match f with
  | (0, .inr r, .inl k', _) => !(Nat.beq k k') || tj_nl env l r
  | (0, _, _, _) => false
  | (n + 3, _, _, _) => Nat.blt n 100 || !(tj_h2 l k (tj_dep (n - 100)).1)
  | _ => true
theorem tj_keep_ok (hso : tj_SO Λ) {Ψ : List Nat} {env : List tj_y} {ρ : Nat → zx_V} (he : tj_env Ψ env ρ) {w : List zx_E} {q l ci k : Nat} {fs : List zx_V} {v : zx_V} (hw : tj_wt Λ Ψ w) (hfr : tj_fr ([(l, k)], []) Ψ w (w.set q (.inl (ci, (fs.set k v))))) (hq : Ψ[q]? = some l) (hf : w[q]? = some (.inl (ci, fs))) : ∀ {f : tj_f}, tj_keep env l k f = true → tj_fd ρ w f → tj_fd ρ (w.set q (.inl (ci, (fs.set k v)))) f
  | (0, .inr r, .inl k', u), hk, ⟨q', c', fs', h1, h2, h3⟩ => by
    have hk : (!(Nat.beq k k') || tj_nl env l r) = true := hk
    by_cases hqq : q = q'
    · subst hqq
      rw [hf] at h2
      cases h2
      have hlt : q < w.length := (List.getElem?_eq_some_iff.mp hf).1
      refine ⟨q, ci, fs.set k v, h1, by rw [List.getElem?_set_self hlt], ?_⟩
      have hne : k ≠ k' := fun e => by
        rw [e, Nat.beq_refl] at hk
        exact tj_nl_ok he hk hq h1 rfl
      rw [List.getElem?_set_ne hne]
      exact h3
    · exact ⟨q', c', fs', h1, by rw [List.getElem?_set_ne hqq]; exact h2, h3⟩
  | (0, .inl _, .inl _, _), hk, _ => by cases hk
  | (0, _, .inr _, _), _, _ => trivial
  | (1, r, i, u), _, ⟨q', x, h1, h2, h3⟩ => by
    refine ⟨q', x, h1, h2, ?_⟩
    have hne : q ≠ q' := fun e => by
      subst e
      rcases h3 with ⟨kd, n, g, e1, -⟩ | ⟨n, l', o, e1, -⟩ <;> rw [hf] at e1 <;> cases e1
    rw [List.getElem?_set_ne hne]
    exact h3
  | (2, a, .inl b, c), _, h => h
  | (2, a, .inr b, c), _, h => h
  | (n + 3, a, b, c), hk, h => by
    have hk : (Nat.blt n 100 || !(tj_h2 l k (tj_dep (n - 100)).1)) = true := hk
    have h : tj_of n (tj_v ρ a) (tj_v ρ b) (tj_v ρ c) w := h
    show tj_of n (tj_v ρ a) (tj_v ρ b) (tj_v ρ c) _
    unfold tj_of at h ⊢
    cases hn : Nat.blt n 100 with
    | true => rw [hn] at h; exact h
    | false =>
      rw [hn] at h hk
      refine hso _ _ _ _ Ψ w _ ([(l, k)], []) hw hfr ?_ h
      simpa [tj_dj] using hk
def tj_pv (rr k : Nat) (env : List tj_y) (v : tj_a) : Bool := match tj_iv env v with
  | some q => tj_invv rr k q.1 q.2
  | none => false
def tj_pf (Λ : List tj_D) (E : tj_Ef) (ci k fit : Nat) (A : tj_S) : Option (List tj_S) := match A with
  | (pc, L, v :: .inr r :: st, env, F) => match env[r]? with
    | some (1, l, _) => match Λ[l]? with
      | some (.inl (c, rr, fts)) => match Nat.beq ci c, fts[k]? with
        | true, some t => match (tj_sub env v t && tj_fit fit t) && ((tj_invk rr k || tj_pv rr k env v) && (tj_free ci k && tj_h2 l k E.1)) with
          | true => some [(pc + 3, L, st, env, (0, .inr r, .inl k, v) :: F.filter (tj_keep env l k))]
          | false => none
        | _, _ => none
      | _ => none
    | _ => none
  | _ => none
theorem tj_pf_ok (hso : tj_SO Λ) {ci k fit : Nat} {A : tj_S} {As : List tj_S} (h : tj_pf Λ E ci k fit A = some As) : tj_sim Λ cap E Ψ0 w0 (tj_fn (zx_pf ci k fit)) A As := by
  unfold tj_pf at h
  split at h
  next pc L v r st env F =>
    split at h
    next l c0 hr =>
      split at h
      next c rr fts hd =>
        split at h
        next t hc hk =>
          split at h
          next hz =>
            cases h
            have ec := Nat.eq_of_beq_eq_true hc
            subst ec
            simp only [Bool.and_eq_true] at hz
            obtain ⟨⟨z1, z2⟩, z3, z4, z5⟩ := hz
            intro Ψ ρ σ ⟨ls, w, mc, ms, hσ, hW, hL, hls, he, hF⟩
            subst hσ
            obtain ⟨q, hq, hΨ⟩ := he r _ hr
            obtain ⟨fs, hf, hlen, hinv, -⟩ := tj_obj hW.1 hΨ hd
            have z3 : tj_inv rr (fs.set k (tj_v ρ v)) := by
              rw [Bool.or_eq_true] at z3
              rcases z3 with z3 | z3
              · exact tj_invk_ok z3 hinv
              · unfold tj_pv at z3
                split at z3
                next p hp =>
                  obtain ⟨x, hx, b1, b2⟩ := tj_iv_ok (lo := p.1) (hi := p.2) he hp
                  rw [hx]
                  exact tj_invv_ok z3 b1 b2
                next => cases z3
            have hvt := tj_sub_ok he z1
            have hfit := tj_fit_ok z2 hvt
            have hkl : k < fs.length := by rw [hlen]; exact (List.getElem?_eq_some_iff.mp hk).1
            have hlt : q < w.length := (List.getElem?_eq_some_iff.mp hf).1
            refine ⟨(pc + 3, ls, st.map (tj_v ρ), w.set q (.inl (ci, (fs.set k (tj_v ρ v)))), mc, ms), Ψ, ρ, _, ?_, List.mem_cons_self, ⟨ls, _, mc, ms, rfl, tj_W_field hW hΨ hd hf hk hvt z3 z4 z5, hL, by rw [List.length_set]; exact hls, he, fun g hg => ?_⟩, Nat.le_refl _, fun _ _ => rfl⟩
            · show zx_pf ci k fit (pc, ls, tj_v ρ v :: ρ r :: st.map (tj_v ρ), w, mc, ms) = _
              rw [hq]
              have hb : Nat.blt k fs.length = true := Nat.ble_eq_true_of_le hkl
              simp only [zx_pf, hf, zx_beqT (rfl : ci = ci), hb, hfit, Bool.and_self]
            · rcases List.mem_cons.mp hg with e | e
              · rw [e]
                exact ⟨q, ci, fs.set k (tj_v ρ v), hq, by rw [List.getElem?_set_self hlt], by rw [List.getElem?_set_self hkl]⟩
              · obtain ⟨e1, e2⟩ := List.mem_filter.mp e
                have hown : tj_W Λ cap ([(l, k)], []) Ψ w Ψ w mc ms := ⟨hW.1, hW.2.1, tj_le_rf, tj_fr_rf⟩
                exact tj_keep_ok hso he hW.1 (tj_W_field hown hΨ hd hf hk hvt z3 z4 (by unfold tj_h2; rw [Nat.beq_refl, Nat.beq_refl]; rfl)).2.2.2 hΨ hf e2 (hF g e1)
          next => cases h
        next => cases h
      next => cases h
    next => cases h
  next => cases h
/-- an index that lies in an array -/
theorem tj_in {x : Int32} {n : Nat} (h1 : 2147483648 ≤ zx_b x) (h2 : zx_b x < 2147483648 + n) : zx_in x n = true ∧ x.toNatClampNeg = zx_b x - 2147483648 := by
  have hb := zx_b_int x
  have hp : ¬ x < 0 := by
    rw [Int32.lt_iff_toInt_lt]
    have : (0 : Int32).toInt = 0 := rfl
    omega
  have hc : (x.toNatClampNeg : Int) = x.toInt := by
    unfold Int32.toNatClampNeg
    omega
  have hlt : x.toNatClampNeg < n := by omega
  refine ⟨?_, by omega⟩
  unfold zx_in
  rw [decide_eq_false hp]
  have : Nat.ble n x.toNatClampNeg = false := by
    cases e : Nat.ble n x.toNatClampNeg with
    | false => rfl
    | true => exact absurd (Nat.le_of_ble_eq_true e) (by omega)
  rw [this]
  rfl
def tj_idx (lo hi n : Nat) : Bool := Nat.ble 2147483648 lo && Nat.blt hi (2147483648 + n)
def tj_kd (kd : Nat) : Bool := Nat.beq kd 0 || (Nat.beq kd 2 || Nat.beq kd 3)
theorem tj_kd_ok {kd : Nat} (h : tj_kd kd = true) : kd = 0 ∨ kd = 2 ∨ kd = 3 := by
  unfold tj_kd at h
  rw [Bool.or_eq_true, Bool.or_eq_true] at h
  rcases h with h | h | h
  · exact Or.inl (Nat.eq_of_beq_eq_true h)
  · exact Or.inr (Or.inl (Nat.eq_of_beq_eq_true h))
  · exact Or.inr (Or.inr (Nat.eq_of_beq_eq_true h))
/-- the array and the index on the stack: location, kind, length, bounds, bounds of the index -/
def tj_ix (Λ : List tj_D) (env : List tj_y) (i : tj_a) (r : Nat) : Option (Nat × Nat × Nat × List tj_y × Nat × Nat) := match env[r]?, tj_iv env i with
  | some (1, l, _), some (lo, hi) => match Λ[l]? with
    | some (.inr (kd, n, s)) => match tj_idx lo hi n with
      | true => some (l, kd, n, s, lo - 2147483648, hi - 2147483648)
      | false => none
    | _ => none
  | _, _ => none
theorem tj_ix_ok {env : List tj_y} {i : tj_a} {r l kd n a b : Nat} {s : List tj_y} (h : tj_ix Λ env i r = some (l, kd, n, s, a, b)) {Ψ : List Nat} {ρ : Nat → zx_V} (he : tj_env Ψ env ρ) : ∃ q x, ρ r = (.inr (.inr (.inl q))) ∧ Ψ[q]? = some l ∧ Λ[l]? = some (.inr (kd, n, s)) ∧ tj_v ρ i = (.inl x) ∧ zx_in x n = true ∧ x.toNatClampNeg < n ∧ a ≤ x.toNatClampNeg ∧ x.toNatClampNeg ≤ b := by
  unfold tj_ix at h
  split at h
  next l' c lo hi hr hi' =>
    split at h
    next kd' n' s' hd =>
      split at h
      next hz =>
        simp only [Option.some.injEq, Prod.mk.injEq] at h
        obtain ⟨e1, e2, e3, e4, e5, e6⟩ := h
        subst e1
        subst e2
        subst e3
        subst e4
        obtain ⟨q, hq, hΨ⟩ := he r _ hr
        obtain ⟨x, hx, b1, b2⟩ := tj_iv_ok he hi'
        unfold tj_idx at hz
        rw [Bool.and_eq_true] at hz
        have z1 := Nat.le_of_ble_eq_true hz.1
        have z2 := tj_blt_t hz.2
        obtain ⟨g1, g2⟩ := tj_in (x := x) (n := n') (by omega) (by omega)
        exact ⟨q, x, hq, hΨ, hd, hx, g1, by omega, by omega, by omega⟩
      next => cases h
    next => cases h
  next => cases h
theorem tj_ix_r {env : List tj_y} {i : tj_a} {r : Nat} {p : Nat × Nat × Nat × List tj_y × Nat × Nat} (h : tj_ix Λ env i r = some p) : tj_lim env.length (.inr r) = true ∧ tj_lim env.length i = true := by
  unfold tj_ix at h
  split at h
  next l' c lo hi hr hi' => exact ⟨Nat.ble_eq_true_of_le (List.getElem?_eq_some_iff.mp hr).1, tj_iv_lim hi'⟩
  next => cases h
def tj_ald (Λ : List tj_D) (kd : Nat) (A : tj_S) : Option (List tj_S) := match A with
  | (pc, L, i :: .inr r :: st, env, F) => match tj_ix Λ env i r with
    | some (_, kd', _, s, a, b) => match Nat.beq kd kd' && tj_kd kd with
      | true => match tj_fk 1 (.inr r) i F with
        | some v => some [(pc + 1, L, v :: st, env, F)]
        | none => match tj_rd s a b, tj_limS env.length L st F with
          | some (lo, hi), true => some [(pc + 1, L, .inr env.length :: st, env ++ [(0, lo, hi)], [(1, .inr r, i, .inr env.length)] ++ F)]
          | _, _ => none
      | false => none
    | none => none
  | _ => none
theorem tj_ald_ok {kd : Nat} {X : zx_X} {A : tj_S} {As : List tj_S} (h : tj_ald Λ kd A = some As) : tj_sim Λ cap E Ψ0 w0 (tj_fn (zx_ald kd X)) A As := by
  unfold tj_ald at h
  split at h
  next pc L i r st env F =>
    split at h
    next l kd' n s a b hix =>
      split at h
      next hz =>
        rw [Bool.and_eq_true] at hz
        have ek := Nat.eq_of_beq_eq_true hz.1
        subst ek
        have hkd := tj_kd_ok hz.2
        have hstep : ∀ (Ψ : List Nat) (ρ : Nat → zx_V) (ls : List (Nat × zx_V)) (w : List zx_E) (mc ms : Nat), tj_wt Λ Ψ w → tj_env Ψ env ρ → ∃ q x g, ρ r = (.inr (.inr (.inl q))) ∧ tj_v ρ i = (.inl x) ∧ w[q]? = some (.inr (kd, n, .inl g)) ∧ a ≤ x.toNatClampNeg ∧ x.toNatClampNeg ≤ b ∧ (∀ lo hi, tj_sel s x.toNatClampNeg = some (lo, hi) → lo ≤ zx_b (g x.toNatClampNeg) ∧ zx_b (g x.toNatClampNeg) ≤ hi) ∧ zx_ald kd X (pc, ls, tj_v ρ i :: ρ r :: st.map (tj_v ρ), w, mc, ms) = some (pc + 1, ls, (.inl (g x.toNatClampNeg)) :: st.map (tj_v ρ), w, mc, ms) := by
          intro Ψ ρ ls w mc ms hw he
          obtain ⟨q, x, hq, hΨ, hd, hx, hin, hlt, h1, h2⟩ := tj_ix_ok hix he
          obtain ⟨g, hg, hty⟩ := tj_iarr hw hΨ hd hkd
          refine ⟨q, x, g, hq, hx, hg, h1, h2, fun lo hi hs => hty _ hlt lo hi hs, ?_⟩
          rw [hx, hq]
          simp only [zx_ald, hg, zx_beqT (rfl : kd = kd), hin, Bool.and_self]
        split at h
        next v hv =>
          cases h
          refine tj_mv (fun Ψ ρ ls w mc ms hW he hF hL => ?_)
          obtain ⟨q, x, g, hq, hx, hg, -, -, -, hs⟩ := hstep Ψ ρ ls w mc ms hW.1 he
          obtain ⟨q2, x2, g1, g2, g3⟩ := hF _ (tj_fk_mem hv)
          have e1 : q2 = q := by
            have g1 : ρ r = (.inr (.inr (.inl q2))) := g1
            rw [hq] at g1
            cases g1
            rfl
          have e2 : x2 = x := by
            rw [hx] at g2
            cases g2
            rfl
          subst e1
          subst e2
          rcases g3 with ⟨kd2, n2, gg, k1, k2⟩ | ⟨n2, l2, o2, k1, -⟩
          · rw [hg] at k1
            cases k1
            show zx_ald kd X (pc, ls, tj_v ρ i :: ρ r :: st.map (tj_v ρ), w, mc, ms) = some (pc + 1, ls, tj_v ρ v :: st.map (tj_v ρ), w, mc, ms)
            rw [k2]
            exact hs
          · rw [hg] at k1
            cases k1
        next =>
          split at h
          next lo hi hrd hlim =>
            cases h
            refine tj_val hlim (fun Ψ ρ ls w mc ms hW he hF hL => ?_)
            obtain ⟨q, x, g, hq, hx, hg, h1, h2, h3, hs⟩ := hstep Ψ ρ ls w mc ms hW.1 he
            obtain ⟨a', b', s1, s2, s3⟩ := tj_rd_ok hrd _ h1 h2
            have h4 := h3 a' b' s1
            obtain ⟨l1, l2⟩ := tj_ix_r hix
            refine ⟨_, hs, ⟨_, rfl, by omega, by omega⟩, fun ρ' ha hn gg hgg => ?_⟩
            rw [List.mem_singleton.mp hgg]
            exact ⟨q, x, by rw [tj_lim_v ha l1]; exact hq, by rw [tj_lim_v ha l2]; exact hx, Or.inl ⟨kd, n, g, hg, hn⟩⟩
          next => cases h
      next => cases h
    next => cases h
  next => cases h
def tj_lald (Λ : List tj_D) (A : tj_S) : Option (List tj_S) := match A with
  | (pc, L, i :: .inr r :: st, env, F) => match tj_ix Λ env i r with
    | some (_, kd, _, _, _, _) => match Nat.beq kd 1 && tj_limS env.length L st F with
      | true => some [(pc + 1, L, .inr env.length :: st, env ++ [(3, 0, 0)], [] ++ F)]
      | false => none
    | none => none
  | _ => none
theorem tj_lald_ok {A : tj_S} {As : List tj_S} (h : tj_lald Λ A = some As) : tj_sim Λ cap E Ψ0 w0 (tj_fn zx_lald) A As := by
  unfold tj_lald at h
  split at h
  next pc L i r st env F =>
    split at h
    next l kd n s a b hix =>
      split at h
      next hz =>
        cases h
        rw [Bool.and_eq_true] at hz
        have ek := Nat.eq_of_beq_eq_true hz.1
        subst ek
        refine tj_val hz.2 (fun Ψ ρ ls w mc ms hW he hF hL => ?_)
        obtain ⟨q, x, hq, hΨ, hd, hx, hin, hlt, h1, h2⟩ := tj_ix_ok hix he
        obtain ⟨g, hg⟩ := tj_larr hW.1 hΨ hd
        refine ⟨(.inr (.inl (g x.toNatClampNeg))), ?_, ⟨_, rfl⟩, fun _ _ _ g hg => absurd hg List.not_mem_nil⟩
        show zx_lald (pc, ls, tj_v ρ i :: ρ r :: st.map (tj_v ρ), w, mc, ms) = _
        rw [hx, hq]
        simp only [zx_lald, hg, zx_beqT (rfl : (1 : Nat) = 1), hin, Bool.and_self]
      next => cases h
    next => cases h
  next => cases h
def tj_aald (Λ : List tj_D) (A : tj_S) : Option (List tj_S) := match A with
  | (pc, L, i :: .inr r :: st, env, F) => match tj_ix Λ env i r with
    | some (_, kd, _, s, _, _) => match Nat.beq kd 4 with
      | true => match tj_fk 1 (.inr r) i F with
        | some v => some [(pc + 1, L, v :: st, env, F)]
        | none => match tj_limS env.length L st F with
          | true => some [(pc + 1, L, .inr env.length :: st, env ++ [(2, tj_loc s, 0)], [(1, .inr r, i, .inr env.length)] ++ F)]
          | false => none
      | false => none
    | none => none
  | _ => none
theorem tj_aald_ok {A : tj_S} {As : List tj_S} (h : tj_aald Λ A = some As) : tj_sim Λ cap E Ψ0 w0 (tj_fn zx_aald) A As := by
  unfold tj_aald at h
  split at h
  next pc L i r st env F =>
    split at h
    next l kd n s a b hix =>
      split at h
      next hz =>
        have ek := Nat.eq_of_beq_eq_true hz
        subst ek
        have hstep : ∀ (Ψ : List Nat) (ρ : Nat → zx_V) (ls : List (Nat × zx_V)) (w : List zx_E) (mc ms : Nat), tj_wt Λ Ψ w → tj_env Ψ env ρ → ∃ q x lr o, ρ r = (.inr (.inr (.inl q))) ∧ tj_v ρ i = (.inl x) ∧ w[q]? = some (.inr (4, n, .inr (.inr lr))) ∧ lr[x.toNatClampNeg]? = some o ∧ tj_vt Ψ (2, tj_loc s, 0) (zx_ref o) ∧ zx_aald (pc, ls, tj_v ρ i :: ρ r :: st.map (tj_v ρ), w, mc, ms) = some (pc + 1, ls, zx_ref o :: st.map (tj_v ρ), w, mc, ms) := by
          intro Ψ ρ ls w mc ms hw he
          obtain ⟨q, x, hq, hΨ, hd, hx, hin, hlt, h1, h2⟩ := tj_ix_ok hix he
          obtain ⟨lr, hg, hlen, hty⟩ := tj_qarr hw hΨ hd
          have hlt2 : x.toNatClampNeg < lr.length := by rw [hlen]; exact hlt
          have hget : lr[x.toNatClampNeg]? = some lr[x.toNatClampNeg] := List.getElem?_eq_getElem hlt2
          refine ⟨q, x, lr, _, hq, hx, hg, hget, hty _ (List.mem_of_getElem? hget), ?_⟩
          rw [hx, hq]
          simp only [zx_aald, hg, zx_beqT (rfl : (4 : Nat) = 4), hin, Bool.and_self, hget]
        split at h
        next v hv =>
          cases h
          refine tj_mv (fun Ψ ρ ls w mc ms hW he hF hL => ?_)
          obtain ⟨q, x, lr, o, hq, hx, hg, ho, -, hs⟩ := hstep Ψ ρ ls w mc ms hW.1 he
          obtain ⟨q2, x2, g1, g2, g3⟩ := hF _ (tj_fk_mem hv)
          have e1 : q2 = q := by
            have g1 : ρ r = (.inr (.inr (.inl q2))) := g1
            rw [hq] at g1
            cases g1
            rfl
          have e2 : x2 = x := by
            rw [hx] at g2
            cases g2
            rfl
          subst e1
          subst e2
          rcases g3 with ⟨kd2, n2, gg, k1, k2⟩ | ⟨n2, l2, o2, k1, k2, k3⟩
          · rw [hg] at k1
            cases k1
          · rw [hg] at k1
            cases k1
            rw [ho] at k2
            cases k2
            show zx_aald (pc, ls, tj_v ρ i :: ρ r :: st.map (tj_v ρ), w, mc, ms) = some (pc + 1, ls, tj_v ρ v :: st.map (tj_v ρ), w, mc, ms)
            rw [k3]
            exact hs
        next =>
          split at h
          next hlim =>
            cases h
            refine tj_val hlim (fun Ψ ρ ls w mc ms hW he hF hL => ?_)
            obtain ⟨q, x, lr, o, hq, hx, hg, ho, hvt, hs⟩ := hstep Ψ ρ ls w mc ms hW.1 he
            obtain ⟨l1, l2⟩ := tj_ix_r hix
            refine ⟨_, hs, hvt, fun ρ' ha hn gg hgg => ?_⟩
            rw [List.mem_singleton.mp hgg]
            exact ⟨q, x, by rw [tj_lim_v ha l1]; exact hq, by rw [tj_lim_v ha l2]; exact hx, Or.inr ⟨n, lr, o, hg, ho, hn⟩⟩
          next => cases h
      next => cases h
    next => cases h
  next => cases h
end tjHp
