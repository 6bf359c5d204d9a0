/-! a method by the abstract executor: its summary is true -/
def tj_wd (t : tj_y) : Bool := match t.1 with
  | 0 => false
  | 1 => false
  | 2 => false
  | _ => true
def tj_args (k j : Nat) : List tj_y → List (Nat × tj_a)
  | [] => []
  | t :: ts => (k, .inr j) :: tj_args (match tj_wd t with
    | true => k + 2
    | false => k + 1) (j + 1) ts
def tj_words : List tj_y → Nat
  | [] => 0
  | t :: ts => (match tj_wd t with
    | true => 2
    | false => 1) + tj_words ts
theorem tj_catT {Ψ : List Nat} {t : tj_y} {v : zx_V} (h : tj_vt Ψ t v) : zx_cat v = tj_wd t := by
  match t, h with
  | (0, _, _), ⟨x, e, _⟩ => rw [e]; rfl
  | (1, _, _), ⟨q, e, _⟩ => rw [e]; rfl
  | (2, _, _), Or.inl e => rw [e]; rfl
  | (2, _, _), Or.inr ⟨q, e, _⟩ => rw [e]; rfl
  | (n + 3, _, _), ⟨x, e⟩ => rw [e]; rfl
theorem tj_words_ok {Ψ : List Nat} (av : List zx_V) : ∀ (ts : List tj_y), tj_typed Ψ av ts → zx_words av = tj_words ts := by
  induction av with
  | nil =>
    intro ts h
    cases ts with
    | nil => rfl
    | cons t ts => exact h.elim
  | cons v av ih =>
    intro ts h
    cases ts with
    | nil => exact h.elim
    | cons t ts =>
      rw [zx_words, tj_words, tj_catT h.1, ih ts h.2]
      cases tj_wd t <;> rfl
theorem tj_args_ok {Ψ : List Nat} {ρ : Nat → zx_V} (av : List zx_V) : ∀ (ts : List tj_y) (k j : Nat), tj_typed Ψ av ts → (∀ i v, av[i]? = some v → ρ (j + i) = v) → ∀ q ∈ tj_args k j ts, zx_look q.1 (zx_args k av) = some (tj_v ρ q.2) ∧ k ≤ q.1 := by
  induction av with
  | nil =>
    intro ts k j h hρ q hq
    cases ts with
    | nil => exact absurd hq List.not_mem_nil
    | cons t ts => exact h.elim
  | cons v av ih =>
    intro ts k j h hρ q hq
    cases ts with
    | nil => exact h.elim
    | cons t ts =>
      have h0 : ρ j = v := hρ 0 v rfl
      have hr : ∀ i u, av[i]? = some u → ρ (j + 1 + i) = u := fun i u hu => by
        have := hρ (i + 1) u hu
        rwa [show j + (i + 1) = j + 1 + i by omega] at this
      have hc := tj_catT h.1
      unfold tj_args at hq
      unfold zx_args zx_look
      rcases List.mem_cons.mp hq with e | e
      · rw [e]
        show (match Nat.beq k k with
          | true => some v
          | false => _) = some (ρ j) ∧ k ≤ k
        rw [Nat.beq_refl, h0]
        exact ⟨rfl, Nat.le_refl _⟩
      · rw [hc]
        obtain ⟨k1, k2⟩ := ih ts _ (j + 1) h.2 hr q e
        have hlt : k < q.1 := by
          split at k2 <;> omega
        have hb : Nat.beq k q.1 = false := by
          cases hb : Nat.beq k q.1 with
          | false => rfl
          | true => have := Nat.eq_of_beq_eq_true hb; omega
        rw [hb]
        exact ⟨k1, by omega⟩
theorem tj_args_lim {Λ : List tj_D} {Ψ : List Nat} {w : List zx_E} (hw : tj_wt Λ Ψ w) (av : List zx_V) : ∀ (ts : List tj_y) (k : Nat), tj_typed Ψ av ts → zx_limP w.length (zx_args k av) = true := by
  induction av with
  | nil => intro ts k _; rfl
  | cons v av ih =>
    intro ts k h
    cases ts with
    | nil => exact h.elim
    | cons t ts =>
      unfold zx_args zx_limP
      rw [List.all_cons, Bool.and_eq_true]
      exact ⟨tj_vlim hw h.1, ih ts _ h.2⟩
theorem tj_typed_len {Ψ : List Nat} : ∀ {av : List zx_V} {ts : List tj_y}, tj_typed Ψ av ts → ts.length = av.length
  | [], [], _ => rfl
  | _ :: av, _ :: ts, h => by rw [List.length_cons, List.length_cons, tj_typed_len h.2]
  | [], _ :: _, h => h.elim
  | _ :: _, [], h => h.elim
def tj_isRet (dt : List (List (Nat × zx_I))) (pc : Nat) : Bool := match zx_find dt pc with
  | some (.ireturn, _, _) => true
  | some (.lreturn, _, _) => true
  | some (.return_, _, _) => true
  | _ => false
def tj_ri (env : List tj_y) (st : List tj_a) (ex : List Nat) (rt : Option tj_y) : Bool := match st, rt with
  | [a], some t => (tj_sub env a t && Nat.beq t.1 0) && (match zx_hd ex with
    | 1 => tj_sub env a (0, 2147483648, 2147483649)
    | _ => true)
  | _, _ => false
def tj_rl (env : List tj_y) (st : List tj_a) (rt : Option tj_y) : Bool := match st, rt with
  | [a], some t => Nat.beq (tj_k env a) 3 && tj_sub env a t
  | _, _ => false
def tj_retV (dt : List (List (Nat × zx_I))) (A : tj_S) (rt : Option tj_y) : Bool := match zx_find dt A.1 with
  | some (.ireturn, _, ex) => tj_ri A.2.2.2.1 A.2.2.1 ex rt
  | some (.lreturn, _, _) => tj_rl A.2.2.2.1 A.2.2.1 rt
  | some (.return_, _, _) => rt.isNone && A.2.2.1.isEmpty
  | _ => false
theorem tj_retV_ok {dt : List (List (Nat × zx_I))} {A : tj_S} {rt : Option tj_y} (h : tj_retV dt A rt = true) {Ψ : List Nat} {ρ : Nat → zx_V} (he : tj_env Ψ A.2.2.2.1 ρ) (ls : List (Nat × zx_V)) (w : List zx_E) (mc ms : Nat) : ∃ r : Option zx_V, zx_ret (zx_find (zx_cT dt)) (mc, ms) (A.1, ls, A.2.2.1.map (tj_v ρ), w, mc, ms) (r, w) ∧ tj_retT Ψ rt r := by
  obtain ⟨pc, L, st, env, F⟩ := A
  unfold tj_retV at h
  split at h
  next len ex hf =>
    have hf1 : zx_find (zx_cT dt) pc = some (zx_den .ireturn ex) := tj_find_cT hf
    unfold tj_ri at h
    split at h
    next a t hst =>
      have hst : st = [a] := hst
      subst hst
      simp only [Bool.and_eq_true] at h
      obtain ⟨⟨h1, h2⟩, h3⟩ := h
      obtain ⟨t0, lo, hi⟩ := t
      have h2 : t0 = 0 := Nat.eq_of_beq_eq_true h2
      subst h2
      have hvt := tj_sub_ok he h1
      obtain ⟨x, hx, b1, b2⟩ := hvt
      have hx : tj_v ρ a = (.inl x) := hx
      by_cases hex : zx_hd ex = 1
      · have hd : zx_den .ireturn ex = zx_r5 := by
          unfold zx_den
          simp only [hex]
        rw [hd] at hf1
        rw [hex] at h3
        obtain ⟨x', hx', c1, c2⟩ := tj_sub_ok he h3
        rw [hx] at hx'
        cases hx'
        refine ⟨some (.inl x), ⟨Nat.le_refl _, Nat.le_refl _, rfl, ?_⟩, ⟨_, rfl, ⟨x, rfl, b1, b2⟩⟩⟩
        rw [hf1]
        exact ⟨x, by show [tj_v ρ a] = _; rw [hx], tj_bit c1 c2, rfl⟩
      · have hd : zx_den .ireturn ex = zx_r1 := by
          unfold zx_den
          simp only
        rw [hd] at hf1
        refine ⟨some (.inl x), ⟨Nat.le_refl _, Nat.le_refl _, rfl, ?_⟩, ⟨_, rfl, ⟨x, rfl, b1, b2⟩⟩⟩
        rw [hf1]
        exact ⟨x, by show [tj_v ρ a] = _; rw [hx], rfl⟩
    next => cases h
  next len ex hf =>
    have hf1 : zx_find (zx_cT dt) pc = some zx_r4 := tj_find_cT hf
    unfold tj_rl at h
    split at h
    next a t hst =>
      have hst : st = [a] := hst
      subst hst
      rw [Bool.and_eq_true] at h
      obtain ⟨x, hx⟩ := tj_k3 he (Nat.eq_of_beq_eq_true h.1)
      have hvt := tj_sub_ok he h.2
      rw [hx] at hvt
      refine ⟨some (.inr (.inl x)), ⟨Nat.le_refl _, Nat.le_refl _, rfl, ?_⟩, ⟨_, rfl, hvt⟩⟩
      rw [hf1]
      exact ⟨x, by show [tj_v ρ a] = _; rw [hx], rfl⟩
    next => cases h
  next len ex hf =>
    have hf1 : zx_find (zx_cT dt) pc = some zx_r2 := tj_find_cT hf
    rw [Bool.and_eq_true] at h
    have hrt : rt = none := Option.isNone_iff_eq_none.mp h.1
    have hst : st = [] := List.isEmpty_iff.mp h.2
    subst hrt
    subst hst
    refine ⟨none, ⟨Nat.le_refl _, Nat.le_refl _, rfl, ?_⟩, rfl⟩
    rw [hf1]
    exact ⟨rfl, rfl⟩
  next => cases h
theorem tj_retV_st {tab : Nat → Option zx_Q} {cap : Nat × Nat} {pc mc ms : Nat} {ls : List (Nat × zx_V)} {st : List zx_V} {w : List zx_E} {r : zx_R} (h : zx_ret tab cap (pc, ls, st, w, mc, ms) r) : r.1.toList = st := by
  obtain ⟨-, -, -, h⟩ := h
  split at h
  next => obtain ⟨x, h1, h2⟩ := h; rw [h1, h2]; rfl
  next => obtain ⟨x, h1, -, h2⟩ := h; rw [h1, h2]; rfl
  next => obtain ⟨x, h1, h2⟩ := h; rw [h1, h2]; rfl
  next => rw [h.1, h.2]; rfl
  next => exact h.elim
theorem tj_idl_map {ρ : Nat → zx_V} : ∀ {n j : Nat} {av : List zx_V}, av.length = n → (∀ i v, av[i]? = some v → ρ (j + i) = v) → (tj_idl j n).map (tj_v ρ) = av
  | 0, _, [], _, _ => rfl
  | n + 1, j, v :: av, h, hρ => by
    show ρ j :: (tj_idl (j + 1) n).map (tj_v ρ) = _
    rw [show ρ j = v from hρ 0 v rfl, tj_idl_map (av := av) (by simpa using h) (fun i u hu => by
      have := hρ (i + 1) u hu
      rwa [show j + (i + 1) = j + 1 + i by omega] at this)]
def tj_oFg (na : Nat) (A : tj_S) (o : tj_O) : Bool := match tj_thC o.2.2.1 (tj_idl 0 na ++ A.2.2.1) A.2.2.2.2 with
  | some θ => tj_fits A.2.2.2.1 (θ.drop na) (o.2.1.toList ++ o.2.2.2.1) && o.2.2.2.2.all (tj_covF θ A.2.2.2.2)
  | none => false
def tj_outOk (dt : List (List (Nat × zx_I))) (na : Nat) (A : tj_S) (o : tj_O) : Bool := (tj_fits A.2.2.2.1 (tj_idl 0 na) o.1 && tj_retV dt A o.2.1) && tj_oFg na A o
/-- a cut: its state, its names, its measure -/
abbrev tj_cut : Type := tj_S × List tj_b × List (Nat × Nat)
def tj_arr1 (Λ : List tj_D) (na : Nat) (old : Option (List (Nat × Nat))) (A : tj_S) (c : tj_cut) : Bool := match Nat.beq c.1.1 A.1 with
  | false => false
  | true => match tj_th Λ c.2.1 (tj_idl 0 na) A with
    | none => false
    | some (θ, A1) => tj_cov c.1 θ A1 && (match old with
      | none => true
      | some ms => tj_small c.2.2 && tj_low A1.2.2.2.1 A1.2.2.2.2 θ ms c.2.2)
def tj_fin (Λ : List tj_D) (dt : List (List (Nat × zx_I))) (na : Nat) (outs : List tj_O) (cuts : List tj_cut) (old : Option (List (Nat × Nat))) (A : tj_S) : Bool := match tj_isRet dt A.1 with
  | true => outs.any (tj_outOk dt na A)
  | false => cuts.any (tj_arr1 Λ na old A)
def tj_stop (dt : List (List (Nat × zx_I))) (ps : List Nat) (pc : Nat) : Bool := tj_isRet dt pc || tj_h1 pc ps
def tj_okc (na : Nat) (c : tj_cut) : Bool := Nat.ble na c.1.2.2.2.1.length && c.2.2.all (fun m => Nat.beq m.1 0 || Nat.blt m.2 c.1.2.2.2.1.length)
def tj_all (Λ : List tj_D) (dt : List (List (Nat × zx_I))) (na : Nat) (outs : List tj_O) (cuts : List tj_cut) (old : Option (List (Nat × Nat))) (r : Option (List tj_S)) : Bool := match r with
  | some As => As.all (tj_fin Λ dt na outs cuts old)
  | none => false
def tj_chk (Λ : List tj_D) (E : tj_Ef) (CS : List tj_C) (dt : List (List (Nat × zx_I))) (ts : List tj_y) (outs : List tj_O) (pre : tj_Fg) (cuts : List tj_cut) (ps : List Nat) (n : Nat) : Bool := tj_all Λ dt ts.length outs cuts none (tj_run (tj_step Λ E CS dt) (tj_stop dt ps) n (0, tj_args 0 0 ts, [], ts ++ pre.2.1, pre.2.2)) && cuts.all (fun c => tj_okc ts.length c && tj_all Λ dt ts.length outs cuts (some c.2.2) (tj_from (tj_step Λ E CS dt) (tj_stop dt ps) n c.1))
def tj_Post (Λ : List tj_D) (E : tj_Ef) (Ψ0 : List Nat) (w0 : List zx_E) (dt : List (List (Nat × zx_I))) (outs : List tj_O) (av : List zx_V) (τ : zx_S) : Prop := ∃ (r : zx_R) (Ψ' : List Nat) (o : tj_O), zx_ret (zx_find (zx_cT dt)) τ.2.2.2.2 τ r ∧ τ.2.2.2.2.1 + tj_P tj_c1 r.2 ≤ tj_P tj_c1 w0 ∧ τ.2.2.2.2.2 + tj_P tj_c2 r.2 ≤ tj_P tj_c2 w0 ∧ tj_le Ψ0 Ψ' ∧ tj_wt Λ Ψ' r.2 ∧ tj_fr E Ψ0 w0 r.2 ∧ o ∈ outs ∧ tj_typed Ψ' av o.1 ∧ tj_retT Ψ' o.2.1 r.1 ∧ tj_Ho Ψ' r.2 av r.1 o
section tjMeth
variable {Λ : List tj_D} {E : tj_Ef} {Ψ0 : List Nat} {w0 : List zx_E}
theorem tj_fin_ok {dt : List (List (Nat × zx_I))} {outs : List tj_O} {cuts : List tj_cut} {old : Option (List (Nat × Nat))} {A : tj_S} {av : List zx_V} (h : tj_fin Λ dt av.length outs cuts old A = true) {Ψ : List Nat} {ρ : Nat → zx_V} {τ : zx_S} (hG : tj_G Λ (tj_P tj_c1 w0, tj_P tj_c2 w0) E Ψ0 w0 A Ψ ρ τ) (hav : ∀ i v, av[i]? = some v → ρ i = v) (hna : av.length ≤ A.2.2.2.1.length) : tj_Post Λ E Ψ0 w0 dt outs av τ ∨ ∃ c ∈ cuts, ∃ ρ', tj_G Λ (tj_P tj_c1 w0, tj_P tj_c2 w0) E Ψ0 w0 c.1 Ψ ρ' τ ∧ (∀ i v, av[i]? = some v → ρ' i = v) ∧ ∀ ms, old = some ms → (∀ m ∈ ms, m.1 = 0 ∨ m.2 < A.2.2.2.1.length) → tj_enc (c.2.2.map (tj_mvl ρ')) < tj_enc (ms.map (tj_mvl ρ)) := by
  unfold tj_fin at h
  split at h
  next =>
    left
    obtain ⟨o, ho, hok⟩ := List.any_eq_true.mp h
    unfold tj_outOk at hok
    simp only [Bool.and_eq_true] at hok
    obtain ⟨⟨z1, z2⟩, z3⟩ := hok
    obtain ⟨ls, w, mc, ms, hσ, hW, hL, hls, he, hF⟩ := hG
    subst hσ
    obtain ⟨r, h1, h2⟩ := tj_retV_ok z2 he ls w mc ms
    have hid : (tj_idl 0 av.length).map (tj_v ρ) = av := tj_idl_map rfl (fun i v hv => by rw [Nat.zero_add]; exact hav i v hv)
    have ht := tj_fits_ok he z1
    rw [hid] at ht
    have hst : r.toList = A.2.2.1.map (tj_v ρ) := tj_retV_st h1
    unfold tj_oFg at z3
    split at z3
    next θ hθ =>
      rw [Bool.and_eq_true] at z3
      obtain ⟨s, hs⟩ := tj_thC_pre _ hθ
      refine ⟨(r, w), Ψ, o, h1, hW.2.1.1, hW.2.1.2, hW.2.2.1, hW.1, hW.2.2.2, ho, ht, h2, tj_rt ρ θ, fun i v hv => ?_, fun j t hj => ?_, fun f hf => tj_covF_ok hF (fun a b h => tj_s_ok h) (List.all_eq_true.mp z3.2 f hf)⟩
      · have e : av ++ r.toList = (tj_idl 0 av.length ++ A.2.2.1).map (tj_v ρ) := by
          rw [List.map_append, hid, ← hst]
        have hv : (av ++ r.toList)[i]? = some v := hv
        rw [e, List.getElem?_map] at hv
        cases ha : (tj_idl 0 av.length ++ A.2.2.1)[i]? with
        | none => rw [ha] at hv; cases hv
        | some a =>
          rw [ha] at hv
          have hv : tj_v ρ a = v := Option.some.inj hv
          have hi := (List.getElem?_eq_some_iff.mp ha).1
          unfold tj_rt
          rw [hs, List.getElem?_append_left hi, ha]
          exact hv
      · obtain ⟨v, k1, k2⟩ := tj_typed_at (tj_fits_ok he z3.1) j t hj
        rw [List.getElem?_map, List.getElem?_drop] at k1
        cases ha : θ[av.length + j]? with
        | none => rw [ha] at k1; cases k1
        | some a =>
          rw [ha] at k1
          have k1 : tj_v ρ a = v := Option.some.inj k1
          unfold tj_rt
          rw [ha]
          show tj_vt Ψ t (tj_v ρ a)
          rw [k1]
          exact k2
    next => cases z3
  next =>
    right
    obtain ⟨c, hc, hok⟩ := List.any_eq_true.mp h
    unfold tj_arr1 at hok
    split at hok
    next => cases hok
    next =>
      split at hok
      next => cases hok
      next θ A1 hth =>
        rw [Bool.and_eq_true] at hok
        obtain ⟨ρ1, k1, k2, k3, s, k4⟩ := tj_th_ok (cap := (tj_P tj_c1 w0, tj_P tj_c2 w0)) _ hth hG
        refine ⟨c, hc, tj_rt ρ1 θ, tj_cov_ok hok.1 k1, fun i v hv => ?_, fun ms hms hn => ?_⟩
        · have hi : i < av.length := (List.getElem?_eq_some_iff.mp hv).1
          have hθ : θ[i]? = some (.inr i) := by
            rw [k4, List.getElem?_append_left (by
              have := (List.getElem?_eq_some_iff.mp (tj_idl_at (j := 0) hi)).1
              exact this), tj_idl_at hi, Nat.zero_add]
          unfold tj_rt
          rw [hθ]
          show ρ1 i = v
          rw [k3 i (by omega)]
          exact hav i v hv
        · rw [hms] at hok
          have hok2 := hok.2
          simp only [Bool.and_eq_true] at hok2
          obtain ⟨ls, w, mc, ms', hσ, hW, hL, hls, he, hF⟩ := k1
          have hlow := tj_low_ok he hF hok2.1 hok2.2
          have e : ms.map (tj_mvl ρ1) = ms.map (tj_mvl ρ) := List.map_congr_left (fun m hm => by
            rcases hn m hm with e | e
            · simp only [tj_mvl, e]
            · simp only [tj_mvl, k3 m.2 e])
          rw [e] at hlow
          exact hlow
def tj_rcOk (Λ : List tj_D) (rcy : Nat) (ts : List tj_y) : Bool := match rcy with
  | 0 => true
  | ci + 1 => match ts with
    | (1, l, _) :: _ => match Λ[l]? with
      | some (.inl (c, _, _)) => Nat.beq ci c
      | _ => false
    | _ => false
theorem tj_rcOk_ok {rcy : Nat} {ts : List tj_y} (h : tj_rcOk Λ rcy ts = true) {Ψ : List Nat} {w : List zx_E} {av : List zx_V} (hw : tj_wt Λ Ψ w) (ht : tj_typed Ψ av ts) : zx_rok w rcy av := by
  unfold tj_rcOk at h
  split at h
  next => exact trivial
  next ci =>
    split at h
    next l c ts' =>
      split at h
      next c' rr fts hd =>
        have e := Nat.eq_of_beq_eq_true h
        subst e
        match av, ht with
        | v :: av', ⟨⟨q, hv, hΨ⟩, _⟩ =>
          obtain ⟨fs, hf, -⟩ := tj_obj hw hΨ hd
          exact ⟨q, av', fs, by rw [hv], hf⟩
      next => cases h
    next => cases h
theorem tj_method (hso : tj_SO Λ) {mt : Nat → Option (Nat → Option zx_Q)} {rc ml : Nat → Nat} {d y n : Nat} {CS : List tj_C} {dt : List (List (Nat × zx_I))} {ts : List tj_y} {outs : List tj_O} {pre : tj_Fg} {cuts : List tj_cut} {ps : List Nat} (hmt : mt y = some (zx_find (zx_cT dt))) (hKS : tj_KS (zx_Cl mt rc ml d) Λ CS) (hrc : tj_rcOk Λ (rc y) ts = true) (hml : Nat.ble (tj_words ts) (ml y) = true) (hc : tj_chk Λ E CS dt ts outs pre cuts ps n = true) : tj_KS1 (zx_Cl mt rc ml (d + 1)) Λ (y, ts, E, outs, pre) := by
  intro Ψ av w hw hty ⟨ρ0, hρ0, hp2, hp3⟩
  have hp2 : tj_env Ψ (ts ++ pre.2.1) ρ0 := hp2
  have hp3 : ∀ f ∈ pre.2.2, tj_fd ρ0 w f := hp3
  have hty : tj_typed Ψ av ts := hty
  unfold tj_chk at hc
  rw [Bool.and_eq_true] at hc
  obtain ⟨hc1, hc2⟩ := hc
  have hlen : ts.length = av.length := tj_typed_len hty
  rw [hlen] at hc1 hc2
  have hs : ∀ A As, tj_step Λ E CS dt A = some As → tj_sim Λ (tj_P tj_c1 w, tj_P tj_c2 w) E Ψ w (zx_step (zx_Cl mt rc ml d) none (tj_P tj_c1 w, tj_P tj_c2 w) (zx_find (zx_cT dt))) A As := fun A As h => tj_step_ok hso hKS h
  have key : ∀ (m : Nat) (c : tj_cut), c ∈ cuts → ∀ (Ψ' : List Nat) (ρ : Nat → zx_V) (σ : zx_S), tj_G Λ (tj_P tj_c1 w, tj_P tj_c2 w) E Ψ w c.1 Ψ' ρ σ → (∀ i v, av[i]? = some v → ρ i = v) → tj_enc (c.2.2.map (tj_mvl ρ)) = m → zx_wp (zx_Cl mt rc ml d) none (tj_P tj_c1 w, tj_P tj_c2 w) (zx_find (zx_cT dt)) (tj_Post Λ E Ψ w dt outs av) σ := by
    intro m
    induction m using Nat.strongRecOn with
    | _ m ih =>
      intro c hcm Ψ' ρ σ hG hav hm
      have hcc := List.all_eq_true.mp hc2 c hcm
      rw [Bool.and_eq_true] at hcc
      obtain ⟨hok, hall⟩ := hcc
      unfold tj_okc at hok
      rw [Bool.and_eq_true] at hok
      have hna := Nat.le_of_ble_eq_true hok.1
      unfold tj_all at hall
      split at hall
      next As hAs =>
        refine zx_wp_seq (zx_wp_mono ?_ (tj_from_ok hs hAs hG))
        intro τ ⟨Ψ2, ρ2, A2, k1, k2, k3, k4⟩
        have hfin := List.all_eq_true.mp hall A2 k1
        have hav2 : ∀ i v, av[i]? = some v → ρ2 i = v := fun i v hv => by
          have hi : i < av.length := (List.getElem?_eq_some_iff.mp hv).1
          rw [k4 i (by omega)]
          exact hav i v hv
        rcases tj_fin_ok hfin k2 hav2 (by omega) with hp | ⟨c', hc', ρ', g1, g2, g3⟩
        · exact zx_wp_done hp
        · have hlt := g3 c.2.2 rfl (fun q hq => by
            have := List.all_eq_true.mp hok.2 q hq
            rw [Bool.or_eq_true] at this
            rcases this with e | e
            · exact Or.inl (Nat.eq_of_beq_eq_true e)
            · have := tj_blt_t e
              exact Or.inr (by omega))
          have e : c.2.2.map (tj_mvl ρ2) = c.2.2.map (tj_mvl ρ) := List.map_congr_left (fun q hq => by
            have := List.all_eq_true.mp hok.2 q hq
            rw [Bool.or_eq_true] at this
            rcases this with e | e
            · simp only [tj_mvl, Nat.eq_of_beq_eq_true e]
            · simp only [tj_mvl, k4 q.2 (tj_blt_t e)])
          rw [e, hm] at hlt
          exact ih _ hlt c' hc' Ψ2 ρ' τ g1 g2 rfl
      next => cases hall
  have hG0 : tj_G Λ (tj_P tj_c1 w, tj_P tj_c2 w) E Ψ w (0, tj_args 0 0 ts, [], ts ++ pre.2.1, pre.2.2) Ψ ρ0 (0, zx_args 0 av, [], w, 0, 0) := by
    refine ⟨zx_args 0 av, w, 0, 0, rfl, ⟨hw, ⟨by show 0 + _ ≤ _; omega, by show 0 + _ ≤ _; omega⟩, tj_le_rf, tj_fr_rf⟩, fun q hq => (tj_args_ok av ts 0 0 hty (fun i v h => by rw [Nat.zero_add]; exact hρ0 i v h) q hq).1, tj_args_lim hw av ts 0 hty, hp2, hp3⟩
  have hrun : zx_wp (zx_Cl mt rc ml d) none (tj_P tj_c1 w, tj_P tj_c2 w) (zx_find (zx_cT dt)) (tj_Post Λ E Ψ w dt outs av) (0, zx_args 0 av, [], w, 0, 0) := by
    unfold tj_all at hc1
    split at hc1
    next As hAs =>
      refine zx_wp_seq (zx_wp_mono ?_ (tj_run_ok hs hAs hG0))
      intro τ ⟨Ψ2, ρ2, A2, k1, k2, k3, k4⟩
      have k3 : (ts ++ pre.2.1).length ≤ A2.2.2.2.1.length := k3
      have k4 : ∀ k, k < (ts ++ pre.2.1).length → ρ2 k = ρ0 k := k4
      rw [List.length_append] at k3
      simp only [List.length_append] at k4
      have hfin := List.all_eq_true.mp hc1 A2 k1
      have hav2 : ∀ i v, av[i]? = some v → ρ2 i = v := fun i v hv => by
        have hi : i < av.length := (List.getElem?_eq_some_iff.mp hv).1
        rw [k4 i (by omega)]
        exact hρ0 i v hv
      rcases tj_fin_ok hfin k2 hav2 (by omega) with hp | ⟨c', hc', ρ', g1, g2, g3⟩
      · exact zx_wp_done hp
      · exact key _ c' hc' Ψ2 ρ' τ g1 g2 rfl
    next => cases hc1
  obtain ⟨m, σ, hst, r, Ψ', o, p1, p2, p3, p4, p5, p6, p7, p8, p9, p10⟩ := hrun
  refine ⟨r, σ.2.2.2.2, Ψ', o, ⟨_, hmt, tj_rcOk_ok hrc hw hty, by rw [tj_words_ok av ts hty]; exact Nat.le_of_ble_eq_true hml, m, σ, (zx_star_shr hst).2 _ (Nat.le_refl _) (Nat.le_refl _), p1⟩, p2, p3, p4, p5, p6, p7, p8, p9, p10⟩
/-- more frames do no harm -/
theorem tj_KS1_le {mt : Nat → Option (Nat → Option zx_Q)} {rc ml : Nat → Nat} {d e : Nat} (hde : d ≤ e) {C : tj_C} (h : tj_KS1 (zx_Cl mt rc ml d) Λ C) : tj_KS1 (zx_Cl mt rc ml e) Λ C := by
  intro Ψ av w hw ht hp
  obtain ⟨r, cy, Ψ', o, hK, rest⟩ := h Ψ av w hw ht hp
  exact ⟨r, cy, Ψ', o, zx_Cl_le hde hK, rest⟩
end tjMeth
