/-! runs of the abstract executor; cuts; measures -/
def tj_bind {α β : Type} (f : α → Option (List β)) : List α → Option (List β)
  | [] => some []
  | a :: l => match f a, tj_bind f l with
    | some b, some m => some (b ++ m)
    | _, _ => none
theorem tj_bind_mem {α β : Type} {f : α → Option (List β)} : ∀ {l : List α} {m : List β}, tj_bind f l = some m → ∀ a ∈ l, ∃ r, f a = some r ∧ ∀ x ∈ r, x ∈ m
  | [], _, _, a, ha => absurd ha List.not_mem_nil
  | b :: l, m, h, a, ha => by
    unfold tj_bind at h
    split at h
    next r m2 hr hm =>
      cases h
      rcases List.mem_cons.mp ha with e | e
      · rw [e]
        exact ⟨r, hr, fun x hx => List.mem_append_left _ hx⟩
      · obtain ⟨r2, g1, g2⟩ := tj_bind_mem hm a e
        exact ⟨r2, g1, fun x hx => List.mem_append_right _ (g2 x hx)⟩
    next => cases h
def tj_run (step : tj_S → Option (List tj_S)) (stop : Nat → Bool) : Nat → tj_S → Option (List tj_S)
  | 0, _ => none
  | n + 1, A => match stop A.1 with
    | true => some [A]
    | false => match step A with
      | none => none
      | some As => tj_bind (tj_run step stop n) As
/-- from a cut: a step, then a run to the next cuts -/
def tj_from (step : tj_S → Option (List tj_S)) (stop : Nat → Bool) (n : Nat) (A : tj_S) : Option (List tj_S) := match step A with
  | none => none
  | some As => tj_bind (tj_run step stop n) As
section tjRun
variable {Λ : List tj_D} {cap : Nat × Nat} {E : tj_Ef} {Ψ0 : List Nat} {w0 : List zx_E}
variable {K : zx_K} {X : zx_X} {tab : Nat → Option zx_Q} {step : tj_S → Option (List tj_S)} {stop : Nat → Bool}
def tj_In (Λ : List tj_D) (cap : Nat × Nat) (E : tj_Ef) (Ψ0 : List Nat) (w0 : List zx_E) (n0 : Nat) (ρ : Nat → zx_V) (As : List tj_S) (τ : zx_S) : Prop := ∃ Ψ' ρ' A', A' ∈ As ∧ tj_G Λ cap E Ψ0 w0 A' Ψ' ρ' τ ∧ n0 ≤ A'.2.2.2.1.length ∧ ∀ k, k < n0 → ρ' k = ρ k
theorem tj_run_ok (hs : ∀ A As, step A = some As → tj_sim Λ cap E Ψ0 w0 (zx_step K X cap tab) A As) : ∀ {n : Nat} {A : tj_S} {As : List tj_S}, tj_run step stop n A = some As → ∀ {Ψ : List Nat} {ρ : Nat → zx_V} {σ : zx_S}, tj_G Λ cap E Ψ0 w0 A Ψ ρ σ → zx_wp K X cap tab (tj_In Λ cap E Ψ0 w0 A.2.2.2.1.length ρ As) σ
  | 0, _, _, h, _, _, _, _ => by cases h
  | n + 1, A, As, h, Ψ, ρ, σ, hG => by
    unfold tj_run at h
    split at h
    next =>
      cases h
      exact zx_wp_done ⟨Ψ, ρ, A, List.mem_cons_self, hG, Nat.le_refl _, fun _ _ => rfl⟩
    next =>
      split at h
      next => cases h
      next Bs hB =>
        obtain ⟨μ, Ψ', ρ', A', h1, h2, h3, h4, h5⟩ := hs A Bs hB Ψ ρ σ hG
        obtain ⟨r, g1, g2⟩ := tj_bind_mem h A' h2
        refine zx_wp_step h1 (zx_wp_mono ?_ (tj_run_ok hs g1 h3))
        intro τ ⟨Ψ2, ρ2, A2, k1, k2, k3, k4⟩
        exact ⟨Ψ2, ρ2, A2, g2 A2 k1, k2, Nat.le_trans h4 k3, fun k hk => (k4 k (Nat.lt_of_lt_of_le hk h4)).trans (h5 k hk)⟩
theorem tj_from_ok (hs : ∀ A As, step A = some As → tj_sim Λ cap E Ψ0 w0 (zx_step K X cap tab) A As) {n : Nat} {A : tj_S} {As : List tj_S} (h : tj_from step stop n A = some As) {Ψ : List Nat} {ρ : Nat → zx_V} {σ : zx_S} (hG : tj_G Λ cap E Ψ0 w0 A Ψ ρ σ) : zx_wp K X cap tab (tj_In Λ cap E Ψ0 w0 A.2.2.2.1.length ρ As) σ := by
  unfold tj_from at h
  split at h
  next => cases h
  next Bs hB =>
    obtain ⟨μ, Ψ', ρ', A', h1, h2, h3, h4, h5⟩ := hs A Bs hB Ψ ρ σ hG
    obtain ⟨r, g1, g2⟩ := tj_bind_mem h A' h2
    refine zx_wp_step h1 (zx_wp_mono ?_ (tj_run_ok hs g1 h3))
    intro τ ⟨Ψ2, ρ2, A2, k1, k2, k3, k4⟩
    exact ⟨Ψ2, ρ2, A2, g2 A2 k1, k2, Nat.le_trans h4 k3, fun k hk => (k4 k (Nat.lt_of_lt_of_le hk h4)).trans (h5 k hk)⟩
/-- a field looked up, where no fact says it -/
def tj_mat (Λ : List tj_D) (r k : Nat) (A : tj_S) : Option (tj_a × tj_S) := match A with
  | (pc, L, st, env, F) => match tj_fk 0 (.inr r) (.inl k) F with
    | some v => some (v, (pc, L, st, env, F))
    | none => match env[r]? with
      | some (1, l, _) => match Λ[l]? with
        | some (.inl (_, _, fts)) => match fts[k]?, tj_limS env.length L st F with
          | some t, true => some (.inr env.length, (pc, L, st, env ++ [t], (0, .inr r, .inl k, .inr env.length) :: F))
          | _, _ => none
        | _ => none
      | _ => none
theorem tj_mat_ok {r k : Nat} {A A1 : tj_S} {v : tj_a} (h : tj_mat Λ r k A = some (v, A1)) {Ψ : List Nat} {ρ : Nat → zx_V} {σ : zx_S} (hG : tj_G Λ cap E Ψ0 w0 A Ψ ρ σ) : ∃ ρ', tj_G Λ cap E Ψ0 w0 A1 Ψ ρ' σ ∧ A.2.2.2.1.length ≤ A1.2.2.2.1.length ∧ ∀ k, k < A.2.2.2.1.length → ρ' k = ρ k := by
  obtain ⟨pc, L, st, env, F⟩ := A
  simp only [tj_mat] at h
  split at h
  next u hu => cases h; exact ⟨ρ, hG, Nat.le_refl _, fun _ _ => rfl⟩
  next =>
    split at h
    next l c0 hr =>
      split at h
      next c rr fts hd =>
        split at h
        next t hk hlim =>
          cases h
          obtain ⟨ls, w, mc, ms, hσ, hW, hL, hls, he, hF⟩ := hG
          obtain ⟨q, hq, hΨ⟩ := he r _ hr
          obtain ⟨fs, hf, -, -, hty⟩ := tj_obj hW.1 hΨ hd
          obtain ⟨u, hu, hut⟩ := hty k t hk
          simp only [tj_limS, Bool.and_eq_true] at hlim
          obtain ⟨l1, l2, l3⟩ := hlim
          let ρ' : Nat → zx_V := fun k => if k = env.length then u else ρ k
          have hr' : ∀ k, k < env.length → ρ' k = ρ k := fun k hk => if_neg (Nat.ne_of_lt hk)
          have hn : ρ' env.length = u := if_pos rfl
          have hrl : r < env.length := (List.getElem?_eq_some_iff.mp hr).1
          refine ⟨ρ', ⟨ls, w, mc, ms, ?_, hW, tj_L_lim hr' l1 hL, hls, tj_env_new he hr' (by rw [hn]; exact hut), fun g hg => ?_⟩, ?_, hr'⟩
          · rw [hσ]
            show (pc, ls, st.map (tj_v ρ), w, mc, ms) = (pc, ls, st.map (tj_v ρ'), w, mc, ms)
            rw [tj_st_lim hr' l2]
          · rcases List.mem_cons.mp hg with e | e
            · rw [e]
              exact ⟨q, c, fs, by show ρ' r = _; rw [hr' r hrl]; exact hq, hf, by show _ = some (ρ' env.length); rw [hn]; exact hu⟩
            · exact tj_lim_f hr' (List.all_eq_true.mp l3 g e) (hF g e)
          · show env.length ≤ (env ++ [t]).length
            rw [List.length_append]
            exact Nat.le_add_right _ _
        next => cases h
      next => cases h
    next => cases h
/-- names of a cut -/
def tj_th (Λ : List tj_D) : List tj_b → List tj_a → tj_S → Option (List tj_a × tj_S)
  | [], θ, A => some (θ, A)
  | .inl k :: bs, θ, A => match tj_look k A.2.1 with
    | some a => tj_th Λ bs (θ ++ [a]) A
    | none => none
  | .inr q :: bs, θ, A => match Nat.blt q.2 1000 with
    | true => match θ[q.1]? with
      | some (.inr r) => match tj_mat Λ r q.2 A with
        | some (v, A1) => tj_th Λ bs (θ ++ [v]) A1
        | none => none
      | _ => none
    | false => match tj_bq θ q with
      | some p => match tj_fk p.1 p.2.1 p.2.2 A.2.2.2.2 with
        | some v => tj_th Λ bs (θ ++ [v]) A
        | none => none
      | none => none
theorem tj_th_ok {Ψ : List Nat} {σ : zx_S} (bs : List tj_b) : ∀ {θ θ' : List tj_a} {A A' : tj_S}, tj_th Λ bs θ A = some (θ', A') → ∀ {ρ : Nat → zx_V}, tj_G Λ cap E Ψ0 w0 A Ψ ρ σ → ∃ ρ', tj_G Λ cap E Ψ0 w0 A' Ψ ρ' σ ∧ A.2.2.2.1.length ≤ A'.2.2.2.1.length ∧ (∀ k, k < A.2.2.2.1.length → ρ' k = ρ k) ∧ ∃ s, θ' = θ ++ s := by
  induction bs with
  | nil =>
    intro θ θ' A A' h ρ hG
    simp only [tj_th] at h
    cases h
    exact ⟨ρ, hG, Nat.le_refl _, fun _ _ => rfl, [], (List.append_nil _).symm⟩
  | cons b bs ih =>
    intro θ θ' A A' h ρ hG
    cases b with
    | inl k =>
      simp only [tj_th] at h
      split at h
      next a ha =>
        obtain ⟨ρ', h1, h2, h3, s, h4⟩ := ih h hG
        exact ⟨ρ', h1, h2, h3, [a] ++ s, by rw [h4, List.append_assoc]⟩
      next => cases h
    | inr q =>
      simp only [tj_th] at h
      split at h
      next =>
        split at h
        next r hr =>
          split at h
          next v A1 hm =>
            obtain ⟨ρ1, k1, k2, k3⟩ := tj_mat_ok hm hG
            obtain ⟨ρ', h1, h2, h3, s, h4⟩ := ih h k1
            exact ⟨ρ', h1, Nat.le_trans k2 h2, fun k hk => (h3 k (Nat.lt_of_lt_of_le hk k2)).trans (k3 k hk), [v] ++ s, by rw [h4, List.append_assoc]⟩
          next => cases h
        next => cases h
      next =>
        split at h
        next p hp =>
          split at h
          next v hv =>
            obtain ⟨ρ', h1, h2, h3, s, h4⟩ := ih h hG
            exact ⟨ρ', h1, h2, h3, [v] ++ s, by rw [h4, List.append_assoc]⟩
          next => cases h
        next => cases h
def tj_covL (θ : List tj_a) (M : List (Nat × tj_a)) (q : Nat × tj_a) : Bool := match tj_look q.1 M, tj_s θ q.2 with
  | some a, some b => tj_eqa a b
  | _, _ => false
def tj_cov (C : tj_S) (θ : List tj_a) (A : tj_S) : Bool := (Nat.beq C.1 A.1 && (C.2.2.1.isEmpty && A.2.2.1.isEmpty)) && (C.2.1.all (tj_covL θ A.2.1) && (tj_fits A.2.2.2.1 θ C.2.2.2.1 && C.2.2.2.2.all (tj_covF θ A.2.2.2.2)))
theorem tj_cov_ok {C A : tj_S} {θ : List tj_a} (h : tj_cov C θ A = true) {Ψ : List Nat} {ρ : Nat → zx_V} {σ : zx_S} (hG : tj_G Λ cap E Ψ0 w0 A Ψ ρ σ) : tj_G Λ cap E Ψ0 w0 C Ψ (tj_rt ρ θ) σ := by
  unfold tj_cov at h
  simp only [Bool.and_eq_true] at h
  obtain ⟨⟨z1, z2, z3⟩, z4, z5, z6⟩ := h
  obtain ⟨ls, w, mc, ms, hσ, hW, hL, hls, he, hF⟩ := hG
  have e1 := Nat.eq_of_beq_eq_true z1
  have e2 : C.2.2.1 = [] := List.isEmpty_iff.mp z2
  have e3 : A.2.2.1 = [] := List.isEmpty_iff.mp z3
  refine ⟨ls, w, mc, ms, ?_, hW, fun q hq => ?_, hls, fun k t hk => ?_, fun f hf => ?_⟩
  · rw [hσ, e1, e2, e3]
    rfl
  · have hz := List.all_eq_true.mp z4 q hq
    unfold tj_covL at hz
    split at hz
    next a b ha hb =>
      rw [tj_s_ok hb, ← tj_eqa_ok hz]
      exact hL (q.1, a) (tj_look_mem ha)
    next => cases hz
  · obtain ⟨v, h1, h2⟩ := tj_typed_at (tj_fits_ok he z5) k t hk
    rw [List.getElem?_map] at h1
    cases ha : θ[k]? with
    | none => rw [ha] at h1; cases h1
    | some a =>
      rw [ha] at h1
      have h1 : tj_v ρ a = v := Option.some.inj h1
      unfold tj_rt
      rw [ha]
      show tj_vt Ψ t (tj_v ρ a)
      rw [h1]
      exact h2
  · have hz := List.all_eq_true.mp z6 f hf
    unfold tj_covF at hz
    split at hz
    next a b c ha hb hc =>
      split at hz
      next c' hk =>
        have hm := hF _ (tj_fk_mem hk)
        rw [← tj_eqa_ok hz] at hm
        exact tj_fd_s (fun a b h => tj_s_ok h) ha hb hc hm
      next => cases hz
    next => cases hz
end tjRun
/-! measures: (0, n) the number n, (1, k) a name that rises, (2, k) one that falls -/
def tj_bv : zx_V → Nat
  | (.inl x) => zx_b x
  | _ => 0
def tj_mvl (ρ : Nat → zx_V) (c : Nat × Nat) : Nat := match c.1 with
  | 0 => c.2
  | 1 => 4294967296 - tj_bv (ρ c.2)
  | _ => tj_bv (ρ c.2)
def tj_enc : List Nat → Nat
  | [] => 0
  | x :: l => x * 8589934592 ^ l.length + tj_enc l
theorem tj_enc_lt : ∀ {l : List Nat}, (∀ x ∈ l, x < 8589934592) → tj_enc l < 8589934592 ^ l.length
  | [], _ => by decide
  | x :: l, h => by
    have ih := tj_enc_lt (l := l) (fun y hy => h y (List.mem_cons_of_mem _ hy))
    have hx := h x List.mem_cons_self
    show x * 8589934592 ^ l.length + tj_enc l < 8589934592 ^ (l.length + 1)
    rw [Nat.pow_succ, Nat.mul_comm (8589934592 ^ l.length)]
    have h1 : (x + 1) * 8589934592 ^ l.length ≤ 8589934592 * 8589934592 ^ l.length := Nat.mul_le_mul_right _ hx
    rw [Nat.add_mul, Nat.one_mul] at h1
    exact Nat.lt_of_lt_of_le (Nat.add_lt_add_left ih _) h1
theorem tj_enc_fall {x y : Nat} {l m : List Nat} (hlen : m.length = l.length) (hm : ∀ z ∈ m, z < 8589934592) (h : y < x) : tj_enc (y :: m) < tj_enc (x :: l) := by
  have h1 := tj_enc_lt hm
  show y * 8589934592 ^ m.length + tj_enc m < x * 8589934592 ^ l.length + tj_enc l
  rw [hlen] at h1 ⊢
  have h2 : (y + 1) * 8589934592 ^ l.length ≤ x * 8589934592 ^ l.length := Nat.mul_le_mul_right _ h
  rw [Nat.add_mul, Nat.one_mul] at h2
  exact Nat.lt_of_lt_of_le (Nat.add_lt_add_left h1 _) (Nat.le_trans h2 (Nat.le_add_right _ _))
theorem tj_enc_same {x : Nat} {l m : List Nat} (hlen : m.length = l.length) (h : tj_enc m < tj_enc l) : tj_enc (x :: m) < tj_enc (x :: l) := by
  show x * 8589934592 ^ m.length + tj_enc m < x * 8589934592 ^ l.length + tj_enc l
  rw [hlen]
  exact Nat.add_lt_add_left h _
/-- b is x + c by a fact -/
theorem tl_bltF {a b : Nat} (h : b ≤ a) : Nat.blt a b = false := by
  cases e : Nat.blt a b with
  | false => rfl
  | true => have := tj_blt_t e; omega
theorem tl_of_lin {n : Nat} {a b c : zx_V} {w : List zx_E} : tj_of (n + 1100) a b c w = tj_lin n a b c := by
  have e1 : Nat.blt (n + 1100) 100 = false := tl_bltF (Nat.le_trans (Nat.le_of_ble_eq_true rfl : 100 ≤ 1100) (Nat.le_add_left _ _))
  have e2 : Nat.blt (n + 1000) 1000 = false := tl_bltF (Nat.le_add_left _ _)
  have e3 : n + 1100 - 100 = n + 1000 := by omega
  have e4 : n + 1000 - 1000 = n := by omega
  unfold tj_of
  rw [e1]
  simp only
  rw [e3]
  unfold tj_sem
  rw [e2]
  simp only
  rw [e4]
theorem tl_fd3 {ρ : Nat → zx_V} {w : List zx_E} {m : Nat} {a b c : tj_a} : tj_fd ρ w (m + 3, a, b, c) = tj_of m (tj_v ρ a) (tj_v ρ b) (tj_v ρ c) w := rfl
theorem tl_lin_fd {ρ : Nat → zx_V} {w : List zx_E} {k n : Nat} {a b c : tj_a} (hk : k = n + 1103) (h : tj_fd ρ w (k, a, b, c)) : tj_lin n (tj_v ρ a) (tj_v ρ b) (tj_v ρ c) := by
  have e0 : k = (n + 1100) + 3 := by omega
  rw [e0, tl_fd3, tl_of_lin] at h
  exact h
theorem tl_fd_lin {ρ : Nat → zx_V} {w : List zx_E} {k n : Nat} {a b c : tj_a} (hk : k = n + 1103) (h : tj_lin n (tj_v ρ a) (tj_v ρ b) (tj_v ρ c)) : tj_fd ρ w (k, a, b, c) := by
  have e0 : k = (n + 1100) + 3 := by omega
  rw [e0, tl_fd3, tl_of_lin]
  exact h
theorem tl_k0 : tj_l1 9932525098444199596950290432 = 1 ∧ tj_l2 9932525098444199596950290432 = -1 ∧ tj_l3 9932525098444199596950290432 = 0 ∧ tj_l0 9932525098444199596950290432 = 0 := by decide +kernel
theorem tl_k1 : tj_l1 9932525098444199596950290431 = 1 ∧ tj_l2 9932525098444199596950290431 = -1 ∧ tj_l3 9932525098444199596950290431 = 0 ∧ tj_l0 9932525098444199596950290431 = -1 := by decide +kernel
/-- a linear fact says a < b -/
def tj_lnn (a b : tj_a) (F : List tj_f) : Bool := F.any (fun f => Nat.beq f.1 9932525098444199596950291534 && (tj_eqa f.2.1 a && tj_eqa f.2.2.1 b))
theorem tj_lnn_ok {ρ : Nat → zx_V} {w : List zx_E} {F : List tj_f} (hF : ∀ g ∈ F, tj_fd ρ w g) {a b : tj_a} {x y : Int32} (hx : tj_v ρ a = (.inl x)) (hy : tj_v ρ b = (.inl y)) (h : tj_lnn a b F = true) : zx_b x < zx_b y := by
  obtain ⟨f, hf, hm⟩ := List.any_eq_true.mp h
  obtain ⟨j, p, q, r⟩ := f
  simp only [Bool.and_eq_true] at hm
  obtain ⟨m1, m2, m3⟩ := hm
  have m1 : j = 9932525098444199596950291534 := Nat.eq_of_beq_eq_true m1
  have m2 : p = a := tj_eqa_ok m2
  have m3 : q = b := tj_eqa_ok m3
  subst m2
  subst m3
  have hk : j = 9932525098444199596950290431 + 1103 := m1.trans (by decide +kernel)
  obtain ⟨x', y', z', k1, k2, k3, k4⟩ := tl_lin_fd (ρ := ρ) (w := w) hk (hF _ hf)
  rw [hx] at k1
  rw [hy] at k2
  cases k1
  cases k2
  rw [tl_k1.1, tl_k1.2.1, tl_k1.2.2.1, tl_k1.2.2.2] at k4
  have h1 := zx_b_int x
  have h2 := zx_b_int y
  omega
def tj_pre (b : tj_a) : List tj_f → Option (tj_a × Nat)
  | [] => none
  | (3, x, .inl c, b') :: F => match tj_eqa b b' with
    | true => some (x, c)
    | false => tj_pre b F
  | _ :: F => tj_pre b F
theorem tj_pre_mem {b x : tj_a} {c : Nat} : ∀ {F : List tj_f}, tj_pre b F = some (x, c) → (0 + 3, x, .inl c, b) ∈ F
  | [], h => by cases h
  | f :: F, h => by
    unfold tj_pre at h
    split at h
    next => cases ‹(f :: F) = []›
    next x' c' b' F' heq =>
      cases heq
      split at h
      next hb =>
        cases h
        rw [tj_eqa_ok hb]
        exact List.mem_cons_self
      next => exact List.mem_cons_of_mem _ (tj_pre_mem h)
    next heq =>
      cases heq
      exact List.mem_cons_of_mem _ (tj_pre_mem h)
def tj_dif (F : List tj_f) (a : tj_a) : Nat → tj_a → Option Nat
  | 0, _ => none
  | n + 1, b => match tj_pre b F with
    | some q => match Nat.blt q.2 2147483648 with
      | true => match tj_eqa a q.1 with
        | true => some q.2
        | false => match tj_dif F a n q.1 with
          | some d => some (d + q.2)
          | none => none
      | false => none
    | none => none
theorem tj_cb_lt {n : Nat} (h : n < 2147483648) : tj_cb n = n + 2147483648 := by
  unfold tj_cb
  omega
theorem tj_addc_up {x : Int32} {c : Nat} (hc : c < 2147483648) (h : zx_b x + c < 4294967296) : zx_b (tj_addc x c) = zx_b x + c := by
  rw [tj_addc_b, tj_cb_lt hc]
  omega
theorem tj_addc_dn {x : Int32} {c : Nat} (hc : 2147483648 ≤ c) (hc2 : c < 4294967296) (h : 4294967296 - c ≤ zx_b x) : zx_b (tj_addc x c) = zx_b x - (4294967296 - c) := by
  rw [tj_addc_b]
  have e : tj_cb c = c - 2147483648 := by
    unfold tj_cb
    omega
  have := tj_b_lt x
  rw [e]
  omega
theorem tj_dif_ok {ρ : Nat → zx_V} {w : List zx_E} {F : List tj_f} (hF : ∀ g ∈ F, tj_fd ρ w g) {a : tj_a} {x : Int32} (hx : tj_v ρ a = (.inl x)) : ∀ {n : Nat} {b : tj_a} {d : Nat}, tj_dif F a n b = some d → zx_b x + d < 4294967296 → ∃ y, tj_v ρ b = (.inl y) ∧ zx_b y = zx_b x + d
  | 0, _, _, h, _ => by cases h
  | n + 1, b, d, h, hd => by
    unfold tj_dif at h
    split at h
    next q hq =>
      split at h
      next hc =>
        have hc := tj_blt_t hc
        have hf0 : tj_opf 0 (tj_v ρ q.1) (.inl (Int32.ofNat q.2)) (tj_v ρ b) := hF _ (tj_pre_mem (x := q.1) (c := q.2) hq)
        obtain ⟨u, v, g1, g2, g3⟩ := hf0
        have ev : Int32.ofNat q.2 = v := Sum.inl.inj g2
        subst ev
        have g3 : tj_v ρ b = (.inl (tj_addc u q.2)) := g3
        split at h
        next he =>
          have e := tj_eqa_ok he
          have hd' : q.2 = d := Option.some.inj h
          rw [e] at hx
          have eu : u = x := Sum.inl.inj (g1.symm.trans hx)
          subst eu
          refine ⟨_, g3, ?_⟩
          rw [tj_addc_up hc (by omega), hd']
        next =>
          split at h
          next d' hd' =>
            have hdd : d' + q.2 = d := Option.some.inj h
            obtain ⟨y, k1, k2⟩ := tj_dif_ok hF hx hd' (by omega)
            have eu : u = y := Sum.inl.inj (g1.symm.trans k1)
            subst eu
            refine ⟨_, g3, ?_⟩
            rw [tj_addc_up hc (by omega)]
            omega
          next => cases h
      next => cases h
    next => cases h
/-- 0: it falls, 1: it is the same, 2: not known -/
def tj_up (env : List tj_y) (F : List tj_f) (a b : tj_a) : Nat := match tj_eqa a b with
  | true => 1
  | false => match tj_iv env a, tj_iv env b with
    | some p, some q => match Nat.blt p.2 q.1 || tj_lnn a b F with
      | true => 0
      | false => match tj_dif F a 3 b with
        | some d => match Nat.blt 0 d && Nat.blt (p.2 + d) 4294967296 with
          | true => 0
          | false => 2
        | none => 2
    | _, _ => 2
def tj_dw (env : List tj_y) (F : List tj_f) (a b : tj_a) : Nat := match tj_eqa a b with
  | true => 1
  | false => match tj_iv env a, tj_iv env b with
    | some p, some q => match Nat.blt q.2 p.1 || tj_lnn b a F with
      | true => 0
      | false => match tj_pre b F with
        | some u => match tj_eqa a u.1 && ((Nat.ble 2147483648 u.2 && Nat.blt u.2 4294967296) && Nat.ble (4294967296 - u.2) p.1) with
          | true => 0
          | false => 2
        | none => 2
    | _, _ => 2
theorem tj_up_ok {Ψ : List Nat} {env : List tj_y} {ρ : Nat → zx_V} {w : List zx_E} {F : List tj_f} (he : tj_env Ψ env ρ) (hF : ∀ g ∈ F, tj_fd ρ w g) {a b : tj_a} : (tj_up env F a b = 0 → tj_bv (tj_v ρ a) < tj_bv (tj_v ρ b) ∧ tj_bv (tj_v ρ b) < 4294967296) ∧ (tj_up env F a b = 1 → a = b) := by
  unfold tj_up
  split
  next h => exact ⟨fun e => (by cases e), fun _ => tj_eqa_ok h⟩
  next =>
    split
    next p q hp hq =>
      obtain ⟨x, hx, x1, x2⟩ := tj_iv_ok (lo := p.1) (hi := p.2) he hp
      obtain ⟨y, hy, y1, y2⟩ := tj_iv_ok (lo := q.1) (hi := q.2) he hq
      have hb := tj_b_lt y
      split
      next hc =>
        refine ⟨fun _ => ?_, fun e => (by cases e)⟩
        rw [hx, hy]
        show zx_b x < zx_b y ∧ zx_b y < _
        rw [Bool.or_eq_true] at hc
        rcases hc with hc | hc
        · have hc := tj_blt_t hc
          omega
        · have hc := tj_lnn_ok hF hx hy hc
          omega
      next =>
        split
        next d hd =>
          split
          next hz =>
            rw [Bool.and_eq_true] at hz
            have z1 := tj_blt_t hz.1
            have z2 := tj_blt_t hz.2
            obtain ⟨y', k1, k2⟩ := tj_dif_ok hF hx hd (by omega)
            refine ⟨fun _ => ?_, fun e => (by cases e)⟩
            rw [hx, k1]
            show zx_b x < zx_b y' ∧ zx_b y' < _
            omega
          next => exact ⟨fun e => (by cases e), fun e => (by cases e)⟩
        next => exact ⟨fun e => (by cases e), fun e => (by cases e)⟩
    next => exact ⟨fun e => (by cases e), fun e => (by cases e)⟩
theorem tj_dw_ok {Ψ : List Nat} {env : List tj_y} {ρ : Nat → zx_V} {w : List zx_E} {F : List tj_f} (he : tj_env Ψ env ρ) (hF : ∀ g ∈ F, tj_fd ρ w g) {a b : tj_a} : (tj_dw env F a b = 0 → tj_bv (tj_v ρ b) < tj_bv (tj_v ρ a)) ∧ (tj_dw env F a b = 1 → a = b) := by
  unfold tj_dw
  split
  next h => exact ⟨fun e => (by cases e), fun _ => tj_eqa_ok h⟩
  next =>
    split
    next p q hp hq =>
      obtain ⟨x, hx, x1, x2⟩ := tj_iv_ok (lo := p.1) (hi := p.2) he hp
      obtain ⟨y, hy, y1, y2⟩ := tj_iv_ok (lo := q.1) (hi := q.2) he hq
      split
      next hc =>
        refine ⟨fun _ => ?_, fun e => (by cases e)⟩
        rw [hx, hy]
        show zx_b y < zx_b x
        rw [Bool.or_eq_true] at hc
        rcases hc with hc | hc
        · have hc := tj_blt_t hc
          omega
        · exact tj_lnn_ok hF hy hx hc
      next =>
        split
        next u hu =>
          split
          next hz =>
            simp only [Bool.and_eq_true] at hz
            obtain ⟨z1, ⟨z2, z3⟩, z4⟩ := hz
            have z2 := Nat.le_of_ble_eq_true z2
            have z3 := tj_blt_t z3
            have z4 := Nat.le_of_ble_eq_true z4
            have hf0 : tj_opf 0 (tj_v ρ u.1) (.inl (Int32.ofNat u.2)) (tj_v ρ b) := hF _ (tj_pre_mem (x := u.1) (c := u.2) hu)
            obtain ⟨s, v, g1, g2, g3⟩ := hf0
            have ev : Int32.ofNat u.2 = v := Sum.inl.inj g2
            subst ev
            have g3 : tj_v ρ b = (.inl (tj_addc s u.2)) := g3
            rw [← tj_eqa_ok z1] at g1
            have es : s = x := Sum.inl.inj (g1.symm.trans hx)
            subst es
            refine ⟨fun _ => ?_, fun e => (by cases e)⟩
            rw [hx, g3]
            show zx_b (tj_addc s u.2) < zx_b s
            rw [tj_addc_dn z2 z3 (by omega)]
            omega
          next => exact ⟨fun e => (by cases e), fun e => (by cases e)⟩
        next => exact ⟨fun e => (by cases e), fun e => (by cases e)⟩
    next => exact ⟨fun e => (by cases e), fun e => (by cases e)⟩
def tj_cp (env : List tj_y) (F : List tj_f) (θ : List tj_a) (c c' : Nat × Nat) : Nat := match c.1, c'.1 with
  | 0, 0 => match Nat.blt c'.2 c.2 with
    | true => 0
    | false => match Nat.beq c'.2 c.2 with
      | true => 1
      | false => 2
  | 1, 1 => match θ[c'.2]? with
    | some b => tj_up env F (.inr c.2) b
    | none => 2
  | 2, 2 => match θ[c'.2]? with
    | some b => tj_dw env F (.inr c.2) b
    | none => 2
  | _, _ => 2
theorem tj_cp_ok {Ψ : List Nat} {env : List tj_y} {ρ : Nat → zx_V} {w : List zx_E} {F : List tj_f} (he : tj_env Ψ env ρ) (hF : ∀ g ∈ F, tj_fd ρ w g) {θ : List tj_a} {c c' : Nat × Nat} : (tj_cp env F θ c c' = 0 → tj_mvl (tj_rt ρ θ) c' < tj_mvl ρ c) ∧ (tj_cp env F θ c c' = 1 → tj_mvl (tj_rt ρ θ) c' = tj_mvl ρ c) := by
  have hrt : ∀ b, θ[c'.2]? = some b → tj_rt ρ θ c'.2 = tj_v ρ b := fun b h => by
    unfold tj_rt
    rw [h]
  unfold tj_cp
  split
  next e1 e2 =>
    have m1 : tj_mvl ρ c = c.2 := by simp only [tj_mvl, e1]
    have m2 : tj_mvl (tj_rt ρ θ) c' = c'.2 := by simp only [tj_mvl, e2]
    rw [m1, m2]
    split
    next h => exact ⟨fun _ => tj_blt_t h, fun e => (by cases e)⟩
    next =>
      split
      next h => exact ⟨fun e => (by cases e), fun _ => Nat.eq_of_beq_eq_true h⟩
      next => exact ⟨fun e => (by cases e), fun e => (by cases e)⟩
  next e1 e2 =>
    have m1 : tj_mvl ρ c = 4294967296 - tj_bv (ρ c.2) := by simp only [tj_mvl, e1]
    have m2 : tj_mvl (tj_rt ρ θ) c' = 4294967296 - tj_bv (tj_rt ρ θ c'.2) := by simp only [tj_mvl, e2]
    rw [m1, m2]
    split
    next b hb =>
      rw [hrt b hb]
      obtain ⟨k1, k2⟩ := tj_up_ok he hF (a := .inr c.2) (b := b)
      refine ⟨fun e => ?_, fun e => ?_⟩
      · have := k1 e
        have e3 : tj_v ρ (.inr c.2) = ρ c.2 := rfl
        rw [e3] at this
        omega
      · rw [← k2 e]
        rfl
    next => exact ⟨fun e => (by cases e), fun e => (by cases e)⟩
  next e1 e2 =>
    have m1 : tj_mvl ρ c = tj_bv (ρ c.2) := by simp only [tj_mvl, e1]
    have m2 : tj_mvl (tj_rt ρ θ) c' = tj_bv (tj_rt ρ θ c'.2) := by simp only [tj_mvl, e2]
    rw [m1, m2]
    split
    next b hb =>
      rw [hrt b hb]
      obtain ⟨k1, k2⟩ := tj_dw_ok he hF (a := .inr c.2) (b := b)
      refine ⟨fun e => k1 e, fun e => ?_⟩
      rw [← k2 e]
      rfl
    next => exact ⟨fun e => (by cases e), fun e => (by cases e)⟩
  next => exact ⟨fun e => (by cases e), fun e => (by cases e)⟩
def tj_low (env : List tj_y) (F : List tj_f) (θ : List tj_a) : List (Nat × Nat) → List (Nat × Nat) → Bool
  | c :: r, c' :: r' => match tj_cp env F θ c c' with
    | 0 => Nat.beq r.length r'.length
    | 1 => tj_low env F θ r r'
    | _ => false
  | _, _ => false
def tj_small (ms : List (Nat × Nat)) : Bool := ms.all (fun c => match c.1 with
  | 0 => Nat.blt c.2 8589934592
  | _ => true)
theorem tj_small_ok {ρ : Nat → zx_V} {ms : List (Nat × Nat)} (h : tj_small ms = true) : ∀ z ∈ ms.map (tj_mvl ρ), z < 8589934592 := by
  intro z hz
  obtain ⟨c, hc, e⟩ := List.mem_map.mp hz
  rw [← e]
  have hb : ∀ v : zx_V, tj_bv v < 4294967296 := fun v => by
    unfold tj_bv
    split
    next x => exact tj_b_lt x
    next => decide
  have h1 := List.all_eq_true.mp h c hc
  unfold tj_mvl
  split
  next e0 =>
    simp only [e0] at h1
    exact tj_blt_t h1
  next => omega
  next =>
    have := hb (ρ c.2)
    omega
theorem tj_low_len {env : List tj_y} {F : List tj_f} {θ : List tj_a} : ∀ {ms ms' : List (Nat × Nat)}, tj_low env F θ ms ms' = true → ms'.length = ms.length
  | [], _, h => by cases h
  | c :: r, [], h => by cases h
  | c :: r, c' :: r', h => by
    simp only [tj_low] at h
    split at h
    next => rw [List.length_cons, List.length_cons, Nat.eq_of_beq_eq_true h]
    next => rw [List.length_cons, List.length_cons, tj_low_len h]
    next => cases h
theorem tj_low_ok {Ψ : List Nat} {env : List tj_y} {ρ : Nat → zx_V} {w : List zx_E} {F : List tj_f} (he : tj_env Ψ env ρ) (hF : ∀ g ∈ F, tj_fd ρ w g) {θ : List tj_a} : ∀ {ms ms' : List (Nat × Nat)}, tj_small ms' = true → tj_low env F θ ms ms' = true → tj_enc (ms'.map (tj_mvl (tj_rt ρ θ))) < tj_enc (ms.map (tj_mvl ρ))
  | [], _, _, h => by cases h
  | c :: r, [], _, h => by cases h
  | c :: r, c' :: r', hs, h => by
    have hs' : tj_small r' = true := by
      unfold tj_small at hs ⊢
      rw [List.all_cons, Bool.and_eq_true] at hs
      exact hs.2
    obtain ⟨k1, k2⟩ := tj_cp_ok he hF (θ := θ) (c := c) (c' := c')
    have h0 := h
    simp only [tj_low] at h
    rw [List.map_cons, List.map_cons]
    split at h
    next e => exact tj_enc_fall (by rw [List.length_map, List.length_map, Nat.eq_of_beq_eq_true h]) (tj_small_ok hs') (k1 e)
    next e =>
      rw [k2 e]
      exact tj_enc_same (by rw [List.length_map, List.length_map, tj_low_len h]) (tj_low_ok he hF hs' h)
    next => cases h
