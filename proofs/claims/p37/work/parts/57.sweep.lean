/-! by hand: Search.sweepTo -/
theorem zy_look_ne2 {j k : Nat} {u v : zx_V} {ls : List (Nat × zx_V)} (hjk : j ≠ k) (hc : j + 1 ≠ k) (h : zx_look j ls = some u) : zx_look j (zx_put k v ls) = some u := by
  show zx_look j ((k, v) :: _) = _
  unfold zx_look
  rw [zx_beqF (Ne.symm hjk)]
  refine tj_look_filter ?_ h
  have e : (j == k) = false := tj_beqN (zx_beqF hjk)
  have e2 : (j + 1 == k) = false := tj_beqN (zx_beqF hc)
  simp only [e, e2, Bool.false_and, Bool.not_false, Bool.and_self]
theorem zy_lookL_put {k : Nat} {v : zx_V} {ls : List (Nat × zx_V)} : zx_look k (zx_putL k v ls) = some v := by
  show zx_look k ((k, v) :: _) = _
  unfold zx_look
  rw [Nat.beq_refl]
theorem zy_lookL_ni {j k : Nat} {u v : zx_V} {ls : List (Nat × zx_V)} (hjk : j ≠ k) (h1 : j ≠ k + 1) (hc : zx_cat u = false) (h : zx_look j ls = some u) : zx_look j (zx_putL k v ls) = some u := by
  show zx_look j ((k, v) :: _) = _
  unfold zx_look
  rw [zx_beqF (Ne.symm hjk)]
  refine tj_look_filter ?_ h
  have e : (j == k) = false := tj_beqN (zx_beqF hjk)
  have e2 : (j == k + 1) = false := tj_beqN (zx_beqF h1)
  simp only [e, e2, hc, Bool.and_false, Bool.not_false, Bool.and_self]
theorem zy_lookL_ne {j k : Nat} {u v : zx_V} {ls : List (Nat × zx_V)} (hjk : j ≠ k) (h1 : j ≠ k + 1) (hc : j + 1 ≠ k) (h : zx_look j ls = some u) : zx_look j (zx_putL k v ls) = some u := by
  show zx_look j ((k, v) :: _) = _
  unfold zx_look
  rw [zx_beqF (Ne.symm hjk)]
  refine tj_look_filter ?_ h
  have e : (j == k) = false := tj_beqN (zx_beqF hjk)
  have e2 : (j == k + 1) = false := tj_beqN (zx_beqF h1)
  have e3 : (j + 1 == k) = false := tj_beqN (zx_beqF hc)
  simp only [e, e2, e3, Bool.false_and, Bool.not_false, Bool.and_self]
theorem zy_limP_putL {n k : Nat} {v : zx_V} {ls : List (Nat × zx_V)} (h : zx_limP n ls = true) (hv : zx_lim n v = true) : zx_limP n (zx_putL k v ls) = true := by
  show (zx_lim n v && zx_limP n (ls.filter _)) = true
  rw [hv, Bool.true_and]
  exact List.all_eq_true.mpr (fun q hq => List.all_eq_true.mp h q (List.mem_filter.mp hq).1)
theorem zy_dj {K : zx_K} {X : zx_X} {cap : Nat × Nat} {tab : Nat → Option zx_Q} {Q : zx_S → Prop} {pc mc ms : Nat} {ls : List (Nat × zx_V)} {st : List zx_V} {w : List zx_E} {x y : Int64} (hy : y ≠ 0) (ht : tab pc = some zx_o_ldiv) (kk : zx_wp K X cap tab Q (pc + 1, ls, (.inr (.inl (x / y))) :: st, w, mc, ms)) : zx_wp K X cap tab Q (pc, ls, (.inr (.inl y)) :: (.inr (.inl x)) :: st, w, mc, ms) := by
  refine zx_wp_pure (μ := (pc + 1, ls, (.inr (.inl (x / y))) :: st, w, mc, ms)) ht ?_ kk
  show zx_dj _ = _
  simp only [zx_dj, hy, decide_false]
theorem tm_lt0 {x y : Int64} (h : zx_b (lg_cmp x y) < 2147483648) : x.toInt < y.toInt := by
  unfold lg_cmp at h
  split at h
  next => exact absurd h (by decide)
  next h1 =>
    split at h
    next => exact absurd h (by decide)
    next h2 =>
      have h1' : ¬ y.toInt < x.toInt := fun e => h1 (Int64.lt_iff_toInt_lt.mpr e)
      have h3 : x.toInt ≠ y.toInt := fun e => h2 (Int64.toInt_inj.mp e)
      omega
theorem tm_linc {i o : Int64} (ho : o.toInt = 1) (h0 : 0 ≤ i.toInt) (h : i.toInt < 4294967296) : (i + o).toInt = i.toInt + 1 := by
  rw [Int64.toInt_add, ho]
  exact Int.bmod_eq_of_le (by omega) (by omega)
theorem tm_div0 {x a b o : Int64} (hx : 0 ≤ x.toInt) (ha : a.toInt = 4) (hb : b.toInt = 131072) (ho : o.toInt = 1) : o + x / a / b ≠ 0 := by
  intro h
  have h1 : (x / a).toInt = x.toInt / 4 := by
    rw [Int64.toInt_div, ha, Int.tdiv_eq_ediv_of_nonneg hx]
    have := Int64.toInt_lt x
    exact Int.bmod_eq_of_le (by omega) (by omega)
  have h2 : (x / a / b).toInt = x.toInt / 4 / 131072 := by
    rw [Int64.toInt_div, hb, h1, Int.tdiv_eq_ediv_of_nonneg (by omega)]
    have := Int64.toInt_lt x
    exact Int.bmod_eq_of_le (by omega) (by omega)
  have h3 : (o + x / a / b).toInt = 1 + x.toInt / 4 / 131072 := by
    rw [Int64.toInt_add, ho, h2]
    have := Int64.toInt_lt x
    exact Int.bmod_eq_of_le (by omega) (by omega)
  rw [h] at h3
  have h4 : (0 : Int64).toInt = 0 := by decide
  omega
/-- locals of sweepTo: this, the middle load, the start, longest, step, done, i, width -/
def tm_LK (q : Nat) (m sa : Int32) (lo sp dn i wd : Int64) (ls : List (Nat × zx_V)) : Prop := zx_look 0 ls = some (.inr (.inr (.inl q))) ∧ zx_look 1 ls = some (.inl m) ∧ zx_look 2 ls = some (.inl sa) ∧ zx_look 3 ls = some (.inr (.inl lo)) ∧ zx_look 5 ls = some (.inr (.inl sp)) ∧ zx_look 7 ls = some (.inr (.inl dn)) ∧ zx_look 9 ls = some (.inr (.inl i)) ∧ zx_look 11 ls = some (.inr (.inl wd))
theorem tm_LK13 {q : Nat} {m sa x : Int32} {lo sp dn i wd : Int64} {ls : List (Nat × zx_V)} (h : tm_LK q m sa lo sp dn i wd ls) : tm_LK q m sa lo sp dn i wd (zx_put 13 (.inl x) ls) := by
  obtain ⟨h0, h1, h2, h3, h5, h7, h9, h11⟩ := h
  exact ⟨zy_look_ne (by decide) rfl h0, zy_look_ne (by decide) rfl h1, zy_look_ne (by decide) rfl h2, zy_look_ne2 (by decide) (by decide) h3, zy_look_ne2 (by decide) (by decide) h5, zy_look_ne2 (by decide) (by decide) h7, zy_look_ne2 (by decide) (by decide) h9, zy_look_ne2 (by decide) (by decide) h11⟩
theorem tm_LK5 {q : Nat} {m sa : Int32} {lo sp dn i wd x : Int64} {ls : List (Nat × zx_V)} (h : tm_LK q m sa lo sp dn i wd ls) : tm_LK q m sa lo x dn i wd (zx_putL 5 (.inr (.inl x)) ls) := by
  obtain ⟨h0, h1, h2, h3, h5, h7, h9, h11⟩ := h
  exact ⟨zy_lookL_ni (by decide) (by decide) rfl h0, zy_lookL_ni (by decide) (by decide) rfl h1, zy_lookL_ni (by decide) (by decide) rfl h2, zy_lookL_ne (by decide) (by decide) (by decide) h3, zy_lookL_put, zy_lookL_ne (by decide) (by decide) (by decide) h7, zy_lookL_ne (by decide) (by decide) (by decide) h9, zy_lookL_ne (by decide) (by decide) (by decide) h11⟩
theorem tm_LK7 {q : Nat} {m sa : Int32} {lo sp dn i wd x : Int64} {ls : List (Nat × zx_V)} (h : tm_LK q m sa lo sp dn i wd ls) : tm_LK q m sa lo sp x i wd (zx_putL 7 (.inr (.inl x)) ls) := by
  obtain ⟨h0, h1, h2, h3, h5, h7, h9, h11⟩ := h
  exact ⟨zy_lookL_ni (by decide) (by decide) rfl h0, zy_lookL_ni (by decide) (by decide) rfl h1, zy_lookL_ni (by decide) (by decide) rfl h2, zy_lookL_ne (by decide) (by decide) (by decide) h3, zy_lookL_ne (by decide) (by decide) (by decide) h5, zy_lookL_put, zy_lookL_ne (by decide) (by decide) (by decide) h9, zy_lookL_ne (by decide) (by decide) (by decide) h11⟩
set_option maxRecDepth 20000 in
theorem tm_sweep : tj_KS1 (zx_Cl zx_mt zx_rc zx_mx' 360) tj_Lam tg_h5 := by
  refine zy_method (d := 359) (dt := zx_d_X6_sweepTo) (by rw [← zx_q_X6_sweepTo]; rfl) (by decide +kernel) (by decide +kernel) ?_
  intro Ψ av w hw hty hp
  match av, hty with
  | [v0, v1], ⟨⟨q, hv0, hq⟩, ⟨m, hv1, m1, m2⟩, _⟩ =>
    subst hv0
    subst hv1
    obtain ⟨ρ, r1, r2, r3⟩ := hp
    have e0 : ρ 0 = (.inr (.inr (.inl q))) := r1 0 _ rfl
    have e1 : ρ 1 = (.inl m) := r1 1 _ rfl
    obtain ⟨su, es, hsu⟩ : ∃ q', ρ 2 = (.inr (.inr (.inl q'))) ∧ Ψ[q']? = some 93 := r2 2 (1, 93, 0) rfl
    have F0 : ∃ q' ci fs', ρ 0 = (.inr (.inr (.inl q'))) ∧ w[q']? = some (.inl (ci, fs')) ∧ fs'[1]? = some (ρ 2) := r3 (0, .inr 0, .inl 1, .inr 2) List.mem_cons_self
    have F1 : tj_sm3 (ρ 2) (.inl (Int32.ofNat 262144)) w := r3 (106, .inr 2, .inl 262144, .inr 2) (List.mem_cons_of_mem _ List.mem_cons_self)
    have F2 : tj_sm6 (ρ 0) (ρ 1) w := r3 (109, .inr 0, .inr 1, .inl 0) (List.mem_cons_of_mem _ (List.mem_cons_of_mem _ (List.mem_cons_of_mem _ List.mem_cons_self)))
    rw [es] at F1
    rw [e0, e1] at F2
    rw [e0, es] at F0
    clear r1 r2 r3 e0 e1 es
    clear ρ
    have hd : ∃ fts, tj_Lam[99]? = some (.inl (6, 0, fts)) ∧ fts.length = 19 ∧ fts[0]? = some (1, 61, 0) ∧ fts[4]? = some (0, 2147483648, 2147614720) ∧ fts[6]? = some (0, 2147483648, 2147483668) ∧ fts[9]? = some (1, 95, 0) ∧ fts[11]? = some (0, 2147483648, 2147483668) ∧ fts[13]? = some (3, 0, 0) ∧ fts[14]? = some (0, 2147483648, 2147483649) ∧ fts[15]? = some (0, 0, 4294967295) := ⟨_, rfl, rfl, rfl, rfl, rfl, rfl, rfl, rfl, rfl, rfl⟩
    obtain ⟨fts, hd, hl, t0, t4, t6, t9, t11, t13, t14, t15⟩ := hd
    have hds : ∃ gts, tj_Lam[93]? = some (.inl (9, 0, gts)) ∧ gts.length = 17 ∧ gts[8]? = some (1, 89, 0) ∧ gts[10]? = some (0, 0, 4294967295) ∧ gts[11]? = some (0, 2147483647, 2147549184) ∧ gts[12]? = some (0, 0, 4294967295) ∧ gts[13]? = some (1, 91, 0) := ⟨_, rfl, rfl, rfl, rfl, rfl, rfl, rfl⟩
    obtain ⟨gts, hds, hls2, u8, u10, u11, u12, u13⟩ := hds
    obtain ⟨fs, hf, hlen, -, htf⟩ := tj_obj hw hq hd
    obtain ⟨q', ci, fs', a1, a2, f1⟩ := F0
    cases a1
    rw [hf] at a2
    cases a2
    obtain ⟨x0, f0, ga, y0, hga⟩ := htf 0 _ t0
    obtain ⟨x11, f11, md, y11, md1, md2⟩ := htf 11 _ t11
    obtain ⟨x9, f9, fl, y9, hfl⟩ := htf 9 _ t9
    subst y0 y11 y9
    obtain ⟨fg, hfg⟩ := tj_larr (n := 100) (s := []) hw hfl rfl
    obtain ⟨q'', fg', m', c1, ⟨fs'', p', c2, c3, c4⟩, c5, c6, c7⟩ := F2
    cases c1
    cases c5
    rw [hf] at c2
    cases c2
    rw [f9] at c3
    cases c3
    rw [hfg] at c4
    cases c4
    have bm := zx_b_int m
    have hqs := tm_ne hq hsu (by decide)
    let WP : zx_S → Prop := fun σ => zx_wp (zx_Cl zx_mt zx_rc zx_mx' 359) none (tj_P tj_c1 w, tj_P tj_c2 w) (zx_find (zx_cT zx_d_X6_sweepTo)) (tj_Post tj_Lam tg_h5.2.2.1 Ψ w zx_d_X6_sweepTo tg_h5.2.2.2.1 [(.inr (.inr (.inl q))), (.inl m)]) σ
    let J : List Nat → List zx_E → Nat → Nat → Prop := fun Ψ' w' mc ms => tj_W tj_Lam (tj_P tj_c1 w, tj_P tj_c2 w) tg_h5.2.2.1 Ψ w Ψ' w' mc ms
    -- what is there in every world on the way
    have hq' : ∀ {Ψ' : List Nat} {w' : List zx_E} {mc ms : Nat}, J Ψ' w' mc ms → Ψ'[q]? = some 99 ∧ Ψ'[su]? = some 93 ∧ Ψ'[ga]? = some 61 := fun h => ⟨h.2.2.1 _ _ hq, h.2.2.1 _ _ hsu, h.2.2.1 _ _ hga⟩
    have hS : ∀ {Ψ' : List Nat} {w' : List zx_E} {mc ms : Nat}, J Ψ' w' mc ms → ∃ fs', w'[q]? = some (.inl (6, fs')) ∧ fs'.length = 19 ∧ fs'[0]? = some (.inr (.inr (.inl ga))) ∧ fs'[1]? = some (.inr (.inr (.inl su))) ∧ fs'[11]? = some (.inl md) ∧ fs'[9]? = some (.inr (.inr (.inl fl))) ∧ w'[fl]? = some (.inr (1, 100, .inr (.inl fg))) ∧ (∃ x, fs'[4]? = some (.inl x)) ∧ (∃ x, fs'[6]? = some (.inl x) ∧ 2147483648 ≤ zx_b x ∧ zx_b x ≤ 2147483668) ∧ (∃ x, fs'[13]? = some (.inr (.inl x))) ∧ ∃ x, fs'[15]? = some (.inl x) := by
      intro Ψ' w' mc ms h
      obtain ⟨fs', k1, k2⟩ := (h.2.2.2 q 99 hq).1 6 fs hf
      obtain ⟨fs2, g1, g2, -, g3⟩ := tj_obj h.1 (hq' h).1 hd
      rw [k1] at g1
      cases g1
      obtain ⟨fl', l1, l2⟩ := (h.2.2.2 fl 95 hfl).2 1 100 _ hfg
      rw [l2 (by decide +kernel)] at l1
      obtain ⟨y4, g4, z4, i4, -⟩ := g3 4 _ t4
      obtain ⟨y6, g6, z6, i6, j6⟩ := g3 6 _ t6
      obtain ⟨y13, g13, z13, i13⟩ := g3 13 _ t13
      obtain ⟨y15, g15, z15, i15, -⟩ := g3 15 _ t15
      exact ⟨fs', k1, by rw [g2, hl], (k2 0 (by decide +kernel)).trans f0, (k2 1 (by decide +kernel)).trans f1, (k2 11 (by decide +kernel)).trans f11, (k2 9 (by decide +kernel)).trans f9, l1, ⟨z4, by rw [g4, i4]⟩, ⟨z6, by rw [g6, i6], j6⟩, ⟨z13, by rw [g13, i13]⟩, ⟨z15, by rw [g15, i15]⟩⟩
    have hU : ∀ {Ψ' : List Nat} {w' : List zx_E} {mc ms : Nat}, J Ψ' w' mc ms → ∃ gs, w'[su]? = some (.inl (9, gs)) ∧ gs.length = 17 ∧ (∃ p, gs[8]? = some (.inr (.inr (.inl p))) ∧ ∃ g, w'[p]? = some (.inr (0, 65536, .inl g))) ∧ (∃ x, gs[10]? = some (.inl x)) ∧ (∃ x, gs[11]? = some (.inl x)) ∧ (∃ p, gs[13]? = some (.inr (.inr (.inl p))) ∧ ∃ g, w'[p]? = some (.inr (0, 131072, .inl g))) := by
      intro Ψ' w' mc ms h
      obtain ⟨gs, g1, g2, -, g3⟩ := tj_obj h.1 (hq' h).2.1 hds
      obtain ⟨y8, g8, z8, i8, j8⟩ := g3 8 _ u8
      obtain ⟨y10, g10, z10, i10, -⟩ := g3 10 _ u10
      obtain ⟨y11, g11, z11, i11, -⟩ := g3 11 _ u11
      obtain ⟨y13, g13, z13, i13, j13⟩ := g3 13 _ u13
      obtain ⟨a, ha, -⟩ := tj_iarr (kd := 0) (n := 65536) (s := [(65536, 0, 4294967295)]) h.1 j8 rfl (Or.inl rfl)
      obtain ⟨b, hb, -⟩ := tj_iarr (kd := 0) (n := 131072) (s := [(131072, 0, 4294967295)]) h.1 j13 rfl (Or.inl rfl)
      exact ⟨gs, g1, by rw [g2, hls2], ⟨z8, by rw [g8, i8], a, ha⟩, ⟨z10, by rw [g10, i10]⟩, ⟨z11, by rw [g11, i11]⟩, ⟨z13, by rw [g13, i13], b, hb⟩⟩
    have hQ : ∀ {w' : List zx_E} {fs' : List zx_V}, w'[q]? = some (.inl (6, fs')) → q < w'.length := fun h => (List.getElem?_eq_some_iff.mp h).1
    have h3 : ∀ {Ψ' : List Nat} {w' : List zx_E} {mc ms : Nat}, J Ψ' w' mc ms → tj_sm3 (.inr (.inr (.inl su))) (.inl (Int32.ofNat 262144)) w' := fun {_ w' _ _} h => te_so 3 (.inr (.inr (.inl su))) (.inl (Int32.ofNat 262144)) (.inr (.inr (.inr 0))) Ψ w w' _ hw h.2.2.2 (by decide +kernel) F1
    -- fields stored
    have hSet : ∀ {Ψ' : List Nat} {w' : List zx_E} {mc ms : Nat} {fs' : List zx_V} {k : Nat} {t : tj_y} {v : zx_V}, J Ψ' w' mc ms → w'[q]? = some (.inl (6, fs')) → fts[k]? = some t → tj_vt Ψ' t v → tj_h2 99 k tg_h5.2.2.1.1 = true → J Ψ' (w'.set q (.inl (6, (fs'.set k v)))) mc ms := fun h k0 ht hv hE => tj_W_field h (hq' h).1 hd k0 ht hv trivial (by rfl) hE
    have hSet2 : ∀ {Ψ' : List Nat} {w' : List zx_E} {mc ms : Nat} {gs : List zx_V} {k : Nat} {t : tj_y} {v : zx_V}, J Ψ' w' mc ms → w'[su]? = some (.inl (9, gs)) → gts[k]? = some t → tj_vt Ψ' t v → tj_h2 93 k tg_h5.2.2.1.1 = true → J Ψ' (w'.set su (.inl (9, (gs.set k v)))) mc ms := fun h k0 ht hv hE => tj_W_field h (hq' h).2.1 hds k0 ht hv trivial (by rfl) hE
    have hcap : ∀ {Ψ' : List Nat} {w' : List zx_E} {mc ms : Nat}, J Ψ' w' mc ms → mc ≤ tj_P tj_c1 w ∧ ms ≤ tj_P tj_c2 w := fun h => ⟨Nat.le_trans (Nat.le_add_right _ _) h.2.1.1, Nat.le_trans (Nat.le_add_right _ _) h.2.1.2⟩
    have hend : ∀ (Ψ' : List Nat) (w' : List zx_E) (mc ms : Nat) (ls : List (Nat × zx_V)), J Ψ' w' mc ms → WP (364, ls, [], w', mc, ms) := by
      intro Ψ' w' mc ms ls h
      have hr : tj_retT Ψ' none (none : Option zx_V) := rfl
      exact zx_wp_done ⟨(none, w'), Ψ', _, ⟨Nat.le_refl _, Nat.le_refl _, rfl, ⟨rfl, rfl⟩⟩, h.2.1.1, h.2.1.2, h.2.2.1, h.1, h.2.2.2, List.mem_cons_self, ⟨⟨q, rfl, (hq' h).1⟩, ⟨m, rfl, m1, m2⟩, trivial⟩, hr, zy_noout hr⟩
    have hLa : ∀ (k : Nat) (l : Int32) (Ψ' : List Nat) (w' : List zx_E) (mc ms : Nat) (ls : List (Nat × zx_V)) (sa : Int32) (lo sp dn i wd : Int64), l.toInt + k = 100 → 0 ≤ l.toInt → J Ψ' w' mc ms → zx_limP w'.length ls = true → tm_LK q m sa lo sp dn i wd ls → zx_look 13 ls = some (.inl l) → (∀ (Ψ' : List Nat) (w' : List zx_E) (mc ms : Nat) (ls : List (Nat × zx_V)), J Ψ' w' mc ms → zx_limP w'.length ls = true → tm_LK q m sa lo sp dn i wd ls → WP (179, ls, [], w', mc, ms)) → WP (151, ls, [], w', mc, ms) := by
      intro k
      induction k with
      | zero =>
        intro l Ψ' w' mc ms ls sa lo sp dn i wd hk hl0 hJ hls hLK h13 hX
        have bl := zx_b_int l
        refine zy_li rfl h13 ?_
        refine zy_ci (n := 2) (c := 100) rfl ?_
        refine zy_jt rfl (fun _ => hX Ψ' w' mc ms ls hJ hls hLK) (fun h => ?_)
        have h : zx_b l < zx_b (Int32.ofNat 100) := h
        rw [tm_k100] at h
        omega
      | succ k ih =>
        intro l Ψ' w' mc ms ls sa lo sp dn i wd hk hl0 hJ hls hLK h13 hX
        have bl := zx_b_int l
        refine zy_li rfl h13 ?_
        refine zy_ci (n := 2) (c := 100) rfl ?_
        refine zy_jt rfl (fun h => ?_) (fun _ => ?_)
        · have h : zx_b (Int32.ofNat 100) ≤ zx_b l := h
          rw [tm_k100] at h
          omega
        · have el : (l + Int32.ofNat 1).toInt = l.toInt + 1 := tm_inc tm_k1 (by omega)
          obtain ⟨fs', k0, kl, k1, k2, k11, k9, kf, k4, ⟨fd, k6, d1, d2⟩, k13, k15⟩ := hS hJ
          obtain ⟨n, hn⟩ : ∃ n, zx_b fd = 2147483648 + n := ⟨zx_b fd - 2147483648, by omega⟩
          refine zy_la rfl hLK.1 (Or.inl ⟨_, rfl⟩) ?_
          refine zy_la rfl hLK.1 (Or.inl ⟨_, rfl⟩) ?_
          refine zy_get rfl k0 k6 ?_
          refine zy_li rfl h13 ?_
          refine zy_ci (n := 1) (c := 0) rfl ?_
          refine zy_li rfl h13 ?_
          refine zy_lj rfl hLK.2.2.2.2.2.2.2 ?_
          have ty : tj_typed Ψ' [(.inr (.inr (.inl q))), (.inl fd), (.inl l), (.inl (Int32.ofNat 0)), (.inl l), (.inr (.inl wd))] [(1, 99, 0), (0, 2147483648 + n, 2147483648 + n), (0, 2147483648, 2147483747), (0, 0, 4294967295), (0, 2147483648, 2147483747), (3, 0, 0)] := ⟨⟨q, rfl, (hq' hJ).1⟩, ⟨fd, rfl, by omega, by omega⟩, ⟨l, rfl, by omega, by omega⟩, ⟨_, rfl, Nat.zero_le _, by decide⟩, ⟨l, rfl, by omega, by omega⟩, ⟨wd, rfl⟩, trivial⟩
          refine zy_call (tj_KS1_le (by decide) (tg_up2 n (by omega))) (n := 6) (av := [(.inr (.inr (.inl q))), (.inl fd), (.inl l), (.inl (Int32.ofNat 0)), (.inl l), (.inr (.inl wd))]) (st := []) rfl rfl (by decide) hls rfl hJ ty (zy_nopre ty) rfl rfl ?_
          intro r cy Ψ1 o hW1 hle1 hfr1 hls1 ho hto hro hho
          rw [zy_retN (outs := (tg_u2 n).2.2.2.1) rfl ho hro]
          refine zy_ik (k := 13) (n := 1) rfl h13 ?_
          refine zy_goto rfl ?_
          exact ih _ Ψ1 r.2 _ _ _ sa lo sp dn i wd (by omega) (by omega) hW1 (zy_limP_put hls1 rfl) (tm_LK13 hLK) zy_look_put hX
    have hLb : ∀ (k : Nat) (l : Int32) (Ψ' : List Nat) (w' : List zx_E) (mc ms : Nat) (ls : List (Nat × zx_V)) (sa : Int32) (lo sp dn i wd : Int64), l.toInt + k = 100 → 0 ≤ l.toInt → J Ψ' w' mc ms → zx_limP w'.length ls = true → tm_LK q m sa lo sp dn i wd ls → zx_look 13 ls = some (.inl l) → (∀ (Ψ' : List Nat) (w' : List zx_E) (mc ms : Nat) (ls : List (Nat × zx_V)), J Ψ' w' mc ms → zx_limP w'.length ls = true → tm_LK q m sa lo sp dn i wd ls → WP (283, ls, [], w', mc, ms)) → WP (255, ls, [], w', mc, ms) := by
      intro k
      induction k with
      | zero =>
        intro l Ψ' w' mc ms ls sa lo sp dn i wd hk hl0 hJ hls hLK h13 hX
        have bl := zx_b_int l
        refine zy_li rfl h13 ?_
        refine zy_ci (n := 2) (c := 100) rfl ?_
        refine zy_jt rfl (fun _ => hX Ψ' w' mc ms ls hJ hls hLK) (fun h => ?_)
        have h : zx_b l < zx_b (Int32.ofNat 100) := h
        rw [tm_k100] at h
        omega
      | succ k ih =>
        intro l Ψ' w' mc ms ls sa lo sp dn i wd hk hl0 hJ hls hLK h13 hX
        have bl := zx_b_int l
        refine zy_li rfl h13 ?_
        refine zy_ci (n := 2) (c := 100) rfl ?_
        refine zy_jt rfl (fun h => ?_) (fun _ => ?_)
        · have h : zx_b (Int32.ofNat 100) ≤ zx_b l := h
          rw [tm_k100] at h
          omega
        · have el : (l + Int32.ofNat 1).toInt = l.toInt + 1 := tm_inc tm_k1 (by omega)
          obtain ⟨fs', k0, kl, k1, k2, k11, k9, kf, k4, ⟨fd, k6, d1, d2⟩, k13, k15⟩ := hS hJ
          obtain ⟨n, hn⟩ : ∃ n, zx_b fd = 2147483648 + n := ⟨zx_b fd - 2147483648, by omega⟩
          refine zy_la rfl hLK.1 (Or.inl ⟨_, rfl⟩) ?_
          refine zy_la rfl hLK.1 (Or.inl ⟨_, rfl⟩) ?_
          refine zy_get rfl k0 k6 ?_
          refine zy_li rfl h13 ?_
          refine zy_ci (n := 1) (c := 0) rfl ?_
          refine zy_li rfl h13 ?_
          refine zy_lj rfl hLK.2.2.2.2.2.2.2 ?_
          have ty : tj_typed Ψ' [(.inr (.inr (.inl q))), (.inl fd), (.inl l), (.inl (Int32.ofNat 0)), (.inl l), (.inr (.inl wd))] [(1, 99, 0), (0, 2147483648 + n, 2147483648 + n), (0, 2147483648, 2147483747), (0, 0, 4294967295), (0, 2147483648, 2147483747), (3, 0, 0)] := ⟨⟨q, rfl, (hq' hJ).1⟩, ⟨fd, rfl, by omega, by omega⟩, ⟨l, rfl, by omega, by omega⟩, ⟨_, rfl, Nat.zero_le _, by decide⟩, ⟨l, rfl, by omega, by omega⟩, ⟨wd, rfl⟩, trivial⟩
          refine zy_call (tj_KS1_le (by decide) (tg_up2 n (by omega))) (n := 6) (av := [(.inr (.inr (.inl q))), (.inl fd), (.inl l), (.inl (Int32.ofNat 0)), (.inl l), (.inr (.inl wd))]) (st := []) rfl rfl (by decide) hls rfl hJ ty (zy_nopre ty) rfl rfl ?_
          intro r cy Ψ1 o hW1 hle1 hfr1 hls1 ho hto hro hho
          rw [zy_retN (outs := (tg_u2 n).2.2.2.1) rfl ho hro]
          refine zy_ik (k := 13) (n := 1) rfl h13 ?_
          refine zy_goto rfl ?_
          exact ih _ Ψ1 r.2 _ _ _ sa lo sp dn i wd (by omega) (by omega) hW1 (zy_limP_put hls1 rfl) (tm_LK13 hLK) zy_look_put hX
    have h80 : ∀ (n : Nat) (i : Int64) (Ψ' : List Nat) (w' : List zx_E) (mc ms : Nat) (ls : List (Nat × zx_V)) (sa : Int32) (lo sp dn : Int64), 0 ≤ i.toInt → i.toInt + n = 4294967296 → J Ψ' w' mc ms → zx_limP w'.length ls = true → zx_look 0 ls = some (.inr (.inr (.inl q))) → zx_look 1 ls = some (.inl m) → zx_look 2 ls = some (.inl sa) → zx_look 3 ls = some (.inr (.inl lo)) → zx_look 5 ls = some (.inr (.inl sp)) → zx_look 7 ls = some (.inr (.inl dn)) → zx_look 9 ls = some (.inr (.inl i)) → WP (80, ls, [], w', mc, ms) := by
      intro n
      induction n with
      | zero =>
        intro i Ψ' w' mc ms ls sa lo sp dn hi0 hn hJ hls l0 l1 l2 l3 l5 l7 l9
        refine zy_lj rfl l9 ?_
        refine zy_cj (n := 3) (c := 4294967296) rfl ?_
        refine zy_lcmp rfl ?_
        refine zy_j0 rfl (fun _ => hend Ψ' w' mc ms ls hJ) (fun h => ?_)
        have h := tm_lt0 h
        rw [show (Int64.ofNat 4294967296).toInt = 4294967296 by decide] at h
        omega
      | succ n ih =>
        intro i Ψ' w' mc ms ls sa lo sp dn hi0 hn hJ hls l0 l1 l2 l3 l5 l7 l9
        have hnext : ∀ (Ψ' : List Nat) (w' : List zx_E) (mc ms : Nat) (ls : List (Nat × zx_V)) (sp dn wd : Int64), J Ψ' w' mc ms → zx_limP w'.length ls = true → tm_LK q m sa lo sp dn i wd ls → WP (355, ls, [], w', mc, ms) := by
          intro Ψ' w' mc ms ls sp dn wd hJ hls ⟨l0, l1, l2, l3, l5, l7, l9, l11⟩
          refine zy_lj rfl l9 ?_
          refine zy_cj (n := 1) (c := 1) rfl ?_
          refine zy_bj rfl ?_
          refine zy_sj (k := 9) rfl ?_
          refine zy_goto rfl ?_
          have ei := tm_linc (i := i) (o := Int64.ofNat 1) (by decide) hi0 (by omega)
          exact ih _ Ψ' w' mc ms _ sa lo sp dn (by omega) (by omega) hJ (zy_limP_putL hls rfl) (zy_lookL_ni (by decide) (by decide) rfl l0) (zy_lookL_ni (by decide) (by decide) rfl l1) (zy_lookL_ni (by decide) (by decide) rfl l2) (zy_lookL_ne (by decide) (by decide) (by decide) l3) (zy_lookL_ne (by decide) (by decide) (by decide) l5) (zy_lookL_ne (by decide) (by decide) (by decide) l7) zy_lookL_put
        -- a stretch that was swept
        have h283 : ∀ (Ψ' : List Nat) (w' : List zx_E) (mc ms : Nat) (ls : List (Nat × zx_V)) (sp dn wd : Int64), J Ψ' w' mc ms → zx_limP w'.length ls = true → tm_LK q m sa lo sp dn i wd ls → WP (283, ls, [], w', mc, ms) := by
          intro Ψ' w' mc ms ls sp dn wd hJ hls hLK
          obtain ⟨fs', k0, kl, k1, k2, k11, k9, kf, k4, k6, k13, k15⟩ := hS hJ
          obtain ⟨gs, g0, gl, g8, ⟨ss, g10⟩, g11, g13⟩ := hU hJ
          have hlsu : su < w'.length := (List.getElem?_eq_some_iff.mp g0).1
          refine zy_la rfl hLK.1 (Or.inl ⟨_, rfl⟩) ?_
          refine zy_get rfl k0 k2 ?_
          refine zy_la rfl hLK.1 (Or.inl ⟨_, rfl⟩) ?_
          refine zy_get rfl k0 k2 ?_
          refine zy_la rfl hLK.1 (Or.inl ⟨_, rfl⟩) ?_
          refine zy_get rfl k0 k2 ?_
          refine zy_get rfl g0 g10 ?_
          refine zy_lj rfl hLK.2.2.2.2.2.2.2 ?_
          refine zy_cj (n := 1) (c := 1) rfl ?_
          refine zy_bj rfl ?_
          refine zy_l2i rfl ?_
          refine zy_add rfl ?_
          generalize (ss + _ : Int32) = z
          have ty : tj_typed Ψ' [(.inr (.inr (.inl su))), (.inl z)] [(1, 93, 0), (0, 0, 4294967295)] := ⟨⟨su, rfl, (hq' hJ).2.1⟩, ⟨z, rfl, Nat.zero_le _, by have := tj_b_lt z; omega⟩, trivial⟩
          have hst : zx_limL w'.length [(.inr (.inr (.inl su)))] = true := by
            show (Nat.blt su w'.length && true) = true
            rw [show Nat.blt su w'.length = true from Nat.ble_eq_true_of_le hlsu]
            rfl
          refine zy_call (tj_KS1_le (by decide) tg_p123) (n := 2) (av := [(.inr (.inr (.inl su))), (.inl z)]) (st := [(.inr (.inr (.inl su)))]) rfl rfl (Nat.le_of_ble_eq_true rfl) hls hst hJ ty (zy_nopre ty) (by decide +kernel) (by decide +kernel) ?_
          intro r cy Ψ1 o hW1 hle1 hfr1 hls1 ho hto hro hho
          obtain ⟨x, hx⟩ := zy_retI (by decide +kernel) ho hro
          rw [hx]
          have hJ1 : J Ψ1 r.2 (mc + cy.1) (ms + cy.2) := hW1
          clear hto hro hho ho hx hW1 hfr1 hJ k0 kl k1 k2 k11 k9 kf k4 k6 k13 k15 g0 gl g8 g10 g11 g13 hst hlsu hls
          clear fs' gs
          generalize r.2 = w1 at hJ1 hls1 ⊢
          generalize mc + cy.1 = mc1 at hJ1 ⊢
          generalize ms + cy.2 = ms1 at hJ1 ⊢
          obtain ⟨gs, g0, gl, g8, g10, g11, g13⟩ := hU hJ1
          show WP (307, ls, [(.inl x), (.inr (.inr (.inl su)))], w1, mc1, ms1)
          refine zy_put rfl g0 (by rw [gl]; decide) rfl ?_
          have hJ2 := hSet2 hJ1 g0 u12 (v := (.inl x)) ⟨x, rfl, Nat.zero_le _, by have := tj_b_lt x; omega⟩ (by decide +kernel)
          have hl2 : zx_limP (w1.set su (.inl (9, (gs.set 12 (.inl x))))).length ls = true := by rw [List.length_set]; exact hls1
          show WP (310, ls, [], w1.set su (.inl (9, (gs.set 12 (.inl x)))), mc1, ms1)
          generalize w1.set su (.inl (9, (gs.set 12 (.inl x)))) = w2 at hJ2 hl2 ⊢
          clear g0 gl g8 g10 g11 g13
          clear gs
          obtain ⟨fs', k0, kl, k1, k2, k11, k9, kf, k4, k6, k13, k15⟩ := hS hJ2
          obtain ⟨gs, g0, gl, ⟨pl, g8, gp, hgp⟩, g10, ⟨sc, g11⟩, g13⟩ := hU hJ2
          refine zy_lj rfl hLK.2.2.2.2.2.1 ?_
          refine zy_lj rfl hLK.2.2.2.2.2.2.2 ?_
          refine zy_bj rfl ?_
          refine zy_sj (k := 7) rfl ?_
          generalize (dn + wd : Int64) = dn2
          have hLK2 := tm_LK7 (x := dn2) hLK
          have hl3 : zx_limP w2.length (zx_putL 7 (.inr (.inl dn2)) ls) = true := zy_limP_putL hl2 rfl
          generalize zx_putL 7 (.inr (.inl dn2)) ls = ls2 at hLK2 hl3 ⊢
          obtain ⟨c1, c2⟩ := hcap hJ2
          have h353 : ∀ v : Int64, WP (353, ls2, [(.inr (.inl v))], w2, mc1, ms1) := fun v => by
            refine zy_sj (k := 5) rfl ?_
            exact hnext Ψ1 w2 mc1 ms1 _ v dn2 wd hJ2 (zy_limP_putL hl3 rfl) (tm_LK5 hLK2)
          refine zy_la rfl hLK2.1 (Or.inl ⟨_, rfl⟩) ?_
          refine zy_get rfl k0 k2 ?_
          refine zy_get rfl g0 g11 ?_
          refine zy_la rfl hLK2.1 (Or.inl ⟨_, rfl⟩) ?_
          refine zy_get rfl k0 k2 ?_
          refine zy_get rfl g0 g8 ?_
          refine zy_al rfl hgp rfl ?_
          refine zy_ci (n := 2) (c := 8) rfl ?_
          refine zy_div (by decide) rfl ?_
          refine zy_jt rfl (fun _ => ?_) (fun _ => ?_)
          · refine zy_lj rfl hLK2.2.2.2.2.1 ?_
            exact h353 _
          · refine zy_lj rfl hLK2.2.2.2.1 ?_
            refine zy_lj rfl hLK2.2.2.2.2.1 ?_
            refine zy_cj (n := 3) (c := 2) rfl ?_
            refine zy_bj rfl ?_
            refine zy_mnl rfl (Nat.le_of_ble_eq_true rfl) c1 c2 ?_
            refine zy_goto rfl ?_
            exact h353 _
        -- the sums of the stretch merged
        have h205 : ∀ (Ψ' : List Nat) (w' : List zx_E) (mc ms : Nat) (ls : List (Nat × zx_V)) (x : Int32) (sp dn wd : Int64), J Ψ' w' mc ms → zx_limP w'.length ls = true → tm_LK q m sa lo sp dn i wd ls → 2147483647 ≤ zx_b x → zx_b x ≤ 2147549184 → WP (205, ls, [(.inl x), (.inr (.inr (.inl su)))], w', mc, ms) := by
          intro Ψ' w' mc ms ls x sp dn wd hJ hls hLK x1 x2
          obtain ⟨gs, g0, gl, g8, g10, g11, g13⟩ := hU hJ
          refine zy_put rfl g0 (by rw [gl]; decide) rfl ?_
          have hJ2 := hSet2 hJ g0 u11 (v := (.inl x)) ⟨x, rfl, x1, x2⟩ (by decide +kernel)
          have hl2 : zx_limP (w'.set su (.inl (9, (gs.set 11 (.inl x))))).length ls = true := by rw [List.length_set]; exact hls
          show WP (208, ls, [], w'.set su (.inl (9, (gs.set 11 (.inl x)))), mc, ms)
          generalize w'.set su (.inl (9, (gs.set 11 (.inl x)))) = w2 at hJ2 hl2 ⊢
          clear g0 gl g8 g10 g11 g13 hJ hls
          clear gs
          obtain ⟨fs', k0, kl, k1, k2, k11, k9, kf, k4, k6, ⟨sl, k13⟩, k15⟩ := hS hJ2
          obtain ⟨gs, g0, gl, g8, g10, ⟨sc, g11⟩, g13⟩ := hU hJ2
          obtain ⟨c1, c2⟩ := hcap hJ2
          refine zy_la rfl hLK.1 (Or.inl ⟨_, rfl⟩) ?_
          refine zy_get rfl k0 k2 ?_
          refine zy_get rfl g0 g11 ?_
          refine zy_ci (n := 1) (c := 4294967295) rfl ?_
          refine zy_jt rfl (fun _ => ?_) (fun _ => ?_)
          · refine zy_la rfl hLK.1 (Or.inl ⟨_, rfl⟩) ?_
            refine zy_ci (n := 1) (c := 0) rfl ?_
            refine zy_put rfl k0 (by rw [kl]; decide) rfl ?_
            have hJ3 := hSet hJ2 k0 t14 (v := (.inl (Int32.ofNat 0))) ⟨_, rfl, by decide, by decide⟩ (by decide +kernel)
            have hl3 : zx_limP (w2.set q (.inl (6, (fs'.set 14 (.inl (Int32.ofNat 0)))))).length ls = true := by rw [List.length_set]; exact hl2
            show WP (239, ls, [], w2.set q (.inl (6, (fs'.set 14 (.inl (Int32.ofNat 0))))), mc, ms)
            generalize w2.set q (.inl (6, (fs'.set 14 (.inl (Int32.ofNat 0))))) = w3 at hJ3 hl3 ⊢
            clear k0 kl k1 k2 k11 k9 kf k4 k6 k13 k15 g0 gl g8 g10 g11 g13 hJ2 hl2
            clear fs' gs
            obtain ⟨fs', k0, kl, k1, k2, k11, k9, kf, k4, k6, ⟨sl, k13⟩, k15⟩ := hS hJ3
            refine zy_la rfl hLK.1 (Or.inl ⟨_, rfl⟩) ?_
            refine zy_get rfl k0 k2 ?_
            refine zy_lj rfl hLK.2.2.2.2.2.2.2 ?_
            refine zy_la rfl hLK.1 (Or.inl ⟨_, rfl⟩) ?_
            refine zy_get rfl k0 k13 ?_
            have ty : tj_typed Ψ' [(.inr (.inr (.inl su))), (.inr (.inl wd)), (.inr (.inl sl))] [(1, 93, 0), (3, 0, 0), (3, 0, 0)] := ⟨⟨su, rfl, (hq' hJ3).2.1⟩, ⟨wd, rfl⟩, ⟨sl, rfl⟩, trivial⟩
            refine zy_call (tj_KS1_le (by decide) tg_p124) (n := 3) (av := [(.inr (.inr (.inl su))), (.inr (.inl wd)), (.inr (.inl sl))]) (st := []) rfl rfl (by decide) hl3 rfl hJ3 ty (zy_nopre ty) (by decide +kernel) (by decide +kernel) ?_
            intro r cy Ψ1 o hW1 hle1 hfr1 hls1 ho hto hro hho
            rw [zy_retN (by decide +kernel) ho hro]
            refine zy_ci (n := 1) (c := 0) rfl ?_
            refine zy_si (k := 13) rfl ?_
            exact hLb 100 _ Ψ1 r.2 _ _ _ sa lo sp dn i wd (by decide) (by decide) hW1 (zy_limP_put hls1 rfl) (tm_LK13 hLK) zy_look_put (fun Ψ' w' mc ms ls a1 a2 a3 => h283 Ψ' w' mc ms ls sp dn wd a1 a2 a3)
          · refine zy_cj (n := 1) (c := 1) rfl ?_
            refine zy_lj rfl hLK.2.2.2.2.1 ?_
            refine zy_cj (n := 3) (c := 2) rfl ?_
            refine zy_dj (by decide) rfl ?_
            refine zy_mxl rfl (Nat.le_of_ble_eq_true rfl) c1 c2 ?_
            refine zy_sj (k := 5) rfl ?_
            refine zy_goto rfl ?_
            exact hnext Ψ' w2 mc ms _ _ dn wd hJ2 (zy_limP_putL hl2 rfl) (tm_LK5 hLK)
        have h179 : ∀ (Ψ' : List Nat) (w' : List zx_E) (mc ms : Nat) (ls : List (Nat × zx_V)) (sp dn wd : Int64), J Ψ' w' mc ms → zx_limP w'.length ls = true → tm_LK q m sa lo sp dn i wd ls → WP (179, ls, [], w', mc, ms) := by
          intro Ψ' w' mc ms ls sp dn wd hJ hls hLK
          obtain ⟨fs', k0, kl, k1, k2, k11, k9, kf, k4, k6, k13, k15⟩ := hS hJ
          obtain ⟨gs, g0, gl, g8, ⟨ss, g10⟩, g11, g13⟩ := hU hJ
          have hlsu : su < w'.length := (List.getElem?_eq_some_iff.mp g0).1
          have hst : zx_limL w'.length [(.inr (.inr (.inl su)))] = true := by
            show (Nat.blt su w'.length && true) = true
            rw [show Nat.blt su w'.length = true from Nat.ble_eq_true_of_le hlsu]
            rfl
          refine zy_la rfl hLK.1 (Or.inl ⟨_, rfl⟩) ?_
          refine zy_get rfl k0 k2 ?_
          refine zy_la rfl hLK.1 (Or.inl ⟨_, rfl⟩) ?_
          refine zy_get rfl k0 k2 ?_
          refine zy_la rfl hLK.1 (Or.inl ⟨_, rfl⟩) ?_
          refine zy_get rfl k0 k11 ?_
          refine zy_li rfl hLK.2.1 ?_
          refine zy_la rfl hLK.1 (Or.inl ⟨_, rfl⟩) ?_
          refine zy_get rfl k0 k2 ?_
          refine zy_get rfl g0 g10 ?_
          refine zy_lj rfl hLK.2.2.2.2.2.2.2 ?_
          refine zy_ci (n := 1) (c := 0) rfl ?_
          obtain ⟨k, hk⟩ : ∃ k, zx_b md = 2147483648 + k := ⟨zx_b md - 2147483648, by omega⟩
          have ty : ∀ b, b = zx_b md → tj_typed Ψ' [(.inr (.inr (.inl su))), (.inl md), (.inl m), (.inl ss), (.inr (.inl wd)), (.inl (Int32.ofNat 0))] [(1, 93, 0), (0, b, b), (0, 0, 4294967295), (0, 0, 4294967295), (3, 0, 0), (0, 2147483648, 2147549184)] := fun b hb => ⟨⟨su, rfl, (hq' hJ).2.1⟩, ⟨md, rfl, by omega, by omega⟩, ⟨m, rfl, Nat.zero_le _, by have := tj_b_lt m; omega⟩, ⟨ss, rfl, Nat.zero_le _, by have := tj_b_lt ss; omega⟩, ⟨wd, rfl⟩, ⟨_, rfl, by decide, by decide⟩, trivial⟩
          by_cases hk20 : k ≤ 19
          · refine zy_call (tj_KS1_le (by decide) (tg_up1 k hk20)) (n := 6) (av := [(.inr (.inr (.inl su))), (.inl md), (.inl m), (.inl ss), (.inr (.inl wd)), (.inl (Int32.ofNat 0))]) (st := [(.inr (.inr (.inl su)))]) rfl rfl (Nat.le_of_ble_eq_true rfl) hls hst hJ (ty (2147483648 + k) hk.symm) (zy_pre (vs := []) (us := []) (ty (2147483648 + k) hk.symm) trivial (fun f hf => ?_)) rfl rfl ?_
            · have e := List.mem_singleton.mp hf
              subst e
              exact h3 hJ
            intro r cy Ψ1 o hW1 hle1 hfr1 hls1 ho hto hro hho
            have hr : ∃ x, r.1 = some (.inl x) ∧ 2147483647 ≤ zx_b x ∧ zx_b x ≤ 2147549184 := by
              rcases List.mem_cons.mp ho with e | ho
              · subst e
                obtain ⟨v, e1, x, e2, b1, b2⟩ := hro
                subst e2
                exact ⟨x, e1, b1, Nat.le_trans b2 (by decide)⟩
              · have e := List.mem_singleton.mp ho
                subst e
                obtain ⟨v, e1, x, e2, b1, b2⟩ := hro
                subst e2
                exact ⟨x, e1, Nat.le_trans (by decide) b1, b2⟩
            obtain ⟨x, hr, x1, x2⟩ := hr
            rw [hr]
            exact h205 Ψ1 r.2 _ _ ls x sp dn wd hW1 hls1 hLK x1 x2
          · refine zy_call (tj_KS1_le (by decide) tg_p65) (n := 6) (av := [(.inr (.inr (.inl su))), (.inl md), (.inl m), (.inl ss), (.inr (.inl wd)), (.inl (Int32.ofNat 0))]) (st := [(.inr (.inr (.inl su)))]) rfl rfl (Nat.le_of_ble_eq_true rfl) hls hst hJ (ty 2147483668 (by omega)) (zy_pre (vs := []) (us := []) (ty 2147483668 (by omega)) trivial (fun f hf => ?_)) (by decide +kernel) (by decide +kernel) ?_
            · have e := List.mem_singleton.mp hf
              subst e
              exact h3 hJ
            intro r cy Ψ1 o hW1 hle1 hfr1 hls1 ho hto hro hho
            have hr : ∃ x, r.1 = some (.inl x) ∧ 2147483647 ≤ zx_b x ∧ zx_b x ≤ 2147549184 := by
              rcases List.mem_cons.mp ho with e | ho
              · subst e
                obtain ⟨v, e1, x, e2, b1, b2⟩ := hro
                subst e2
                exact ⟨x, e1, b1, Nat.le_trans b2 (by decide)⟩
              · have e := List.mem_singleton.mp ho
                subst e
                obtain ⟨v, e1, x, e2, b1, b2⟩ := hro
                subst e2
                exact ⟨x, e1, Nat.le_trans (by decide) b1, b2⟩
            obtain ⟨x, hr, x1, x2⟩ := hr
            rw [hr]
            exact h205 Ψ1 r.2 _ _ ls x sp dn wd hW1 hls1 hLK x1 x2
        obtain ⟨fs', k0, kl, k1, k2, k11, k9, kf, ⟨fc, k4⟩, k6, k13, k15⟩ := hS hJ
        obtain ⟨gs, g0, gl, g8, g10, g11, g13⟩ := hU hJ
        obtain ⟨c1, c2⟩ := hcap hJ
        refine zy_lj rfl l9 ?_
        refine zy_cj (n := 3) (c := 4294967296) rfl ?_
        refine zy_lcmp rfl ?_
        refine zy_j0 rfl (fun _ => hend Ψ' w' mc ms ls hJ) (fun _ => ?_)
        refine zy_lj rfl l7 ?_
        refine zy_cj (n := 3) (c := 4294967296) rfl ?_
        refine zy_lcmp rfl ?_
        refine zy_j0 rfl (fun _ => hend Ψ' w' mc ms ls hJ) (fun _ => ?_)
        refine zy_la rfl l0 (Or.inl ⟨_, rfl⟩) ?_
        refine zy_get rfl k0 k4 ?_
        refine zy_j0 rfl (fun _ => hend Ψ' w' mc ms ls hJ) (fun _ => ?_)
        refine zy_lj rfl l5 ?_
        refine zy_cj (n := 3) (c := 4294967296) rfl ?_
        refine zy_lj rfl l7 ?_
        refine zy_bj rfl ?_
        refine zy_mnl rfl (Nat.le_of_ble_eq_true rfl) c1 c2 ?_
        generalize (if (_ : Int64) < _ then (_ : Int64) else _) = wd
        refine zy_sj (k := 11) rfl ?_
        have hLK : tm_LK q m sa lo sp dn i wd (zx_putL 11 (.inr (.inl wd)) ls) := ⟨zy_lookL_ni (by decide) (by decide) rfl l0, zy_lookL_ni (by decide) (by decide) rfl l1, zy_lookL_ni (by decide) (by decide) rfl l2, zy_lookL_ne (by decide) (by decide) (by decide) l3, zy_lookL_ne (by decide) (by decide) (by decide) l5, zy_lookL_ne (by decide) (by decide) (by decide) l7, zy_lookL_ne (by decide) (by decide) (by decide) l9, zy_lookL_put⟩
        have hl1 : zx_limP w'.length (zx_putL 11 (.inr (.inl wd)) ls) = true := zy_limP_putL hls rfl
        generalize zx_putL 11 (.inr (.inl wd)) ls = ls1 at hLK hl1 ⊢
        refine zy_la rfl hLK.1 (Or.inl ⟨_, rfl⟩) ?_
        refine zy_get rfl k0 k2 ?_
        refine zy_li rfl hLK.2.2.1 ?_
        refine zy_lj rfl hLK.2.2.2.2.2.1 ?_
        refine zy_l2i rfl ?_
        refine zy_add rfl ?_
        generalize (sa + _ : Int32) = z
        refine zy_put rfl g0 (by rw [gl]; decide) rfl ?_
        have hJ2 := hSet2 hJ g0 u10 (v := (.inl z)) ⟨z, rfl, Nat.zero_le _, by have := tj_b_lt z; omega⟩ (by decide +kernel)
        have hl2 : zx_limP (w'.set su (.inl (9, (gs.set 10 (.inl z))))).length ls1 = true := by rw [List.length_set]; exact hl1
        show WP (130, ls1, [], w'.set su (.inl (9, (gs.set 10 (.inl z)))), mc, ms)
        generalize w'.set su (.inl (9, (gs.set 10 (.inl z)))) = w2 at hJ2 hl2 ⊢
        clear k0 kl k1 k2 k11 k9 kf k4 k6 k13 k15 g0 gl g8 g10 g11 g13 hJ hls hl1
        clear fs' gs
        obtain ⟨fs', k0, kl, k1, k2, k11, k9, kf, k4, k6, ⟨sl, k13⟩, k15⟩ := hS hJ2
        refine zy_la rfl hLK.1 (Or.inl ⟨_, rfl⟩) ?_
        refine zy_get rfl k0 k2 ?_
        refine zy_lj rfl hLK.2.2.2.2.2.2.2 ?_
        refine zy_la rfl hLK.1 (Or.inl ⟨_, rfl⟩) ?_
        refine zy_get rfl k0 k13 ?_
        have ty : tj_typed Ψ' [(.inr (.inr (.inl su))), (.inr (.inl wd)), (.inr (.inl sl))] [(1, 93, 0), (3, 0, 0), (3, 0, 0)] := ⟨⟨su, rfl, (hq' hJ2).2.1⟩, ⟨wd, rfl⟩, ⟨sl, rfl⟩, trivial⟩
        refine zy_call (tj_KS1_le (by decide) tg_hh2) (n := 3) (av := [(.inr (.inr (.inl su))), (.inr (.inl wd)), (.inr (.inl sl))]) (st := []) rfl rfl (by decide) hl2 rfl hJ2 ty (zy_nopre ty) (by decide +kernel) (by decide +kernel) ?_
        intro r cy Ψ1 o hW1 hle1 hfr1 hls1 ho hto hro hho
        rw [zy_retN (by decide +kernel) ho hro]
        have hJ3 : J Ψ1 r.2 (mc + cy.1) (ms + cy.2) := hW1
        clear hto hro hho ho hW1 hfr1 hJ2 k0 kl k1 k2 k11 k9 kf k4 k6 k13 k15 hl2
        clear fs'
        generalize r.2 = w3 at hJ3 hls1 ⊢
        generalize mc + cy.1 = mc1 at hJ3 ⊢
        generalize ms + cy.2 = ms1 at hJ3 ⊢
        show WP (143, ls1, [], w3, mc1, ms1)
        obtain ⟨fs', k0, kl, k1, k2, k11, k9, kf, k4, k6, k13, k15⟩ := hS hJ3
        refine zy_la rfl hLK.1 (Or.inl ⟨_, rfl⟩) ?_
        refine zy_ci (n := 1) (c := 1) rfl ?_
        refine zy_put rfl k0 (by rw [kl]; decide) rfl ?_
        have hJ4 := hSet hJ3 k0 t14 (v := (.inl (Int32.ofNat 1))) ⟨_, rfl, by decide, by decide⟩ (by decide +kernel)
        have hl4 : zx_limP (w3.set q (.inl (6, (fs'.set 14 (.inl (Int32.ofNat 1)))))).length ls1 = true := by rw [List.length_set]; exact hls1
        refine zy_ci (n := 1) (c := 0) rfl ?_
        refine zy_si (k := 13) rfl ?_
        exact hLa 100 _ Ψ1 _ mc1 ms1 _ sa lo sp dn i wd (by decide) (by decide) hJ4 (zy_limP_put hl4 rfl) (tm_LK13 hLK) zy_look_put (fun Ψ' w' mc ms ls a1 a2 a3 => h179 Ψ' w' mc ms ls sp dn wd a1 a2 a3)
    have hW0 := tm_W0 (E := tg_h5.2.2.1) hw
    have hls0 : zx_limP w.length [(0, (.inr (.inr (.inl q)))), (1, (.inl m))] = true := tm_lim (hQ hf) rfl
    have ty298 : tj_typed Ψ [(.inr (.inr (.inl q))), (.inl m)] [(1, 99, 0), (0, 2147483648, 2147483747)] := ⟨⟨q, rfl, hq⟩, ⟨m, rfl, m1, m2⟩, trivial⟩
    show WP (0, [(0, (.inr (.inr (.inl q)))), (1, (.inl m))], [], w, 0, 0)
    refine zy_la (k := 0) rfl rfl (Or.inl ⟨_, rfl⟩) ?_
    refine zy_li (k := 1) rfl rfl ?_
    refine zy_call (tj_KS1_le (by decide) tg_p143) (n := 2) (av := [(.inr (.inr (.inl q))), (.inl m)]) (st := []) rfl rfl (by decide) hls0 rfl hW0 ty298 (zy_nopre ty298) (by decide +kernel) (by decide +kernel) ?_
    intro r cy Ψ1 o hW1 hle1 hfr1 hls1 ho hto hro hho
    rw [zy_retN (by decide +kernel) ho hro]
    have hJ1 : J Ψ1 r.2 (0 + cy.1) (0 + cy.2) := hW1
    clear hto hro hho ho hW1 hfr1
    generalize r.2 = w1 at hJ1 hls1 ⊢
    generalize 0 + cy.1 = mc1 at hJ1 ⊢
    generalize 0 + cy.2 = ms1 at hJ1 ⊢
    show WP (5, [(0, (.inr (.inr (.inl q)))), (1, (.inl m))], [], w1, mc1, ms1)
    obtain ⟨fs', k0, kl, k1, k2, k11, k9, kf, k4, k6, k13, ⟨be, k15⟩⟩ := hS hJ1
    refine zy_la (k := 0) rfl rfl (Or.inl ⟨_, rfl⟩) ?_
    refine zy_cj (n := 3) (c := 2147483647) rfl ?_
    refine zy_la (k := 0) rfl rfl (Or.inl ⟨_, rfl⟩) ?_
    refine zy_get rfl k0 k15 ?_
    refine zy_i2l rfl ?_
    refine zy_bj rfl ?_
    generalize (_ - _ : Int64) = sl0
    refine zy_put rfl k0 (by rw [kl]; decide) rfl ?_
    have hJ2 := hSet hJ1 k0 t13 (v := (.inr (.inl sl0))) ⟨sl0, rfl⟩ (by decide +kernel)
    have hl2 : zx_limP (w1.set q (.inl (6, (fs'.set 13 (.inr (.inl sl0)))))).length [(0, (.inr (.inr (.inl q)))), (1, (.inl m))] = true := by rw [List.length_set]; exact hls1
    show WP (18, [(0, (.inr (.inr (.inl q)))), (1, (.inl m))], [], w1.set q (.inl (6, (fs'.set 13 (.inr (.inl sl0))))), mc1, ms1)
    generalize w1.set q (.inl (6, (fs'.set 13 (.inr (.inl sl0))))) = w2 at hJ2 hl2 ⊢
    clear k0 kl k1 k2 k11 k9 kf k4 k6 k13 k15 hJ1 hls1
    clear fs'
    obtain ⟨fs', k0, kl, k1, k2, k11, k9, kf, k4, k6, k13, k15⟩ := hS hJ2
    refine zy_la (k := 0) rfl rfl (Or.inl ⟨_, rfl⟩) ?_
    refine zy_get rfl k0 k1 ?_
    refine zy_la (k := 0) rfl rfl (Or.inl ⟨_, rfl⟩) ?_
    refine zy_get rfl k0 k11 ?_
    refine zy_li (k := 1) rfl rfl ?_
    have ty225 : tj_typed Ψ1 [(.inr (.inr (.inl ga))), (.inl md), (.inl m)] [(1, 61, 0), (0, 2147483648, 2147483668), (0, 0, 4294967295)] := ⟨⟨ga, rfl, (hq' hJ2).2.2⟩, ⟨md, rfl, md1, md2⟩, ⟨m, rfl, Nat.zero_le _, by have := tj_b_lt m; omega⟩, trivial⟩
    refine zy_call (tj_KS1_le (by decide) te_p531) (n := 3) (av := [(.inr (.inr (.inl ga))), (.inl md), (.inl m)]) (st := []) rfl rfl (by decide) hl2 rfl hJ2 ty225 (zy_nopre ty225) (by decide +kernel) (by decide +kernel) ?_
    intro r cy Ψ2 o hW3 hle2 hfr2 hls3 ho hto hro hho
    have hr : ∃ x, r.1 = some (.inr (.inl x)) := by
      have e := List.mem_singleton.mp ho
      subst e
      obtain ⟨v, e1, x, e2⟩ := hro
      exact ⟨x, by rw [e1, e2]⟩
    obtain ⟨x, hr⟩ := hr
    rw [hr]
    have hJ3 : J Ψ2 r.2 (mc1 + cy.1) (ms1 + cy.2) := hW3
    clear hto hro hho ho hr hW3 hfr2 hJ2 k0 kl k1 k2 k11 k9 kf k4 k6 k13 k15 hl2
    clear fs'
    generalize r.2 = w3 at hJ3 hls3 ⊢
    generalize mc1 + cy.1 = mc2 at hJ3 ⊢
    generalize ms1 + cy.2 = ms2 at hJ3 ⊢
    obtain ⟨fs', k0, kl, k1, k2, k11, k9, kf, k4, k6, k13, k15⟩ := hS hJ3
    obtain ⟨gs, g0, gl, g8, g10, g11, ⟨sv, g13, sg, hsg⟩⟩ := hU hJ3
    obtain ⟨c1, c2⟩ := hcap hJ3
    show WP (30, [(0, (.inr (.inr (.inl q)))), (1, (.inl m))], [(.inr (.inl x))], w3, mc2, ms2)
    refine zy_l2i rfl ?_
    generalize x.toInt32 = sa
    refine zy_si (k := 2) rfl ?_
    show WP (32, [(2, (.inl sa)), (0, (.inr (.inr (.inl q)))), (1, (.inl m))], [], w3, mc2, ms2)
    refine zy_cj (n := 1) (c := 1) rfl ?_
    refine zy_cj (n := 3) (c := 4294967296) rfl ?_
    refine zy_cj (n := 1) (c := 1) rfl ?_
    refine zy_la (k := 0) rfl rfl (Or.inl ⟨_, rfl⟩) ?_
    refine zy_get rfl k0 k9 ?_
    refine zy_li (k := 1) rfl rfl ?_
    obtain ⟨hin, hiv⟩ := tj_in (x := m) (n := 100) (by omega) (by omega)
    refine zy_ldj rfl kf hin ?_
    have hpos : 0 ≤ (fg m.toNatClampNeg).toInt := by
      have e : m.toNatClampNeg = m.toInt.toNat := rfl
      rw [e]
      omega
    refine zy_cj (n := 3) (c := 4) rfl ?_
    refine zy_dj (by decide) rfl ?_
    refine zy_la (k := 0) rfl rfl (Or.inl ⟨_, rfl⟩) ?_
    refine zy_get rfl k0 k2 ?_
    refine zy_get rfl g0 g13 ?_
    refine zy_al rfl hsg rfl ?_
    refine zy_i2l rfl ?_
    refine zy_dj (by decide) rfl ?_
    refine zy_bj rfl ?_
    refine zy_dj (tm_div0 hpos (by decide) (by decide) (by decide)) rfl ?_
    refine zy_mxl rfl (Nat.le_of_ble_eq_true rfl) c1 c2 ?_
    generalize (if (_ : Int64) < _ then (_ : Int64) else _) = lo
    refine zy_sj (k := 3) rfl ?_
    show WP (63, [(3, (.inr (.inl lo))), (2, (.inl sa)), (0, (.inr (.inr (.inl q)))), (1, (.inl m))], [], w3, mc2, ms2)
    refine zy_lj (k := 3) rfl rfl ?_
    refine zy_sj (k := 5) rfl ?_
    refine zy_cj (n := 1) (c := 0) rfl ?_
    refine zy_sj (k := 7) rfl ?_
    show WP (69, [(7, (.inr (.inl (Int64.ofNat 0)))), (5, (.inr (.inl lo))), (3, (.inr (.inl lo))), (2, (.inl sa)), (0, (.inr (.inr (.inl q)))), (1, (.inl m))], [], w3, mc2, ms2)
    refine zy_la (k := 0) rfl rfl (Or.inl ⟨_, rfl⟩) ?_
    refine zy_get rfl k0 k2 ?_
    refine zy_li (k := 2) rfl rfl ?_
    refine zy_put rfl g0 (by rw [gl]; decide) rfl ?_
    have hJ4 := hSet2 hJ3 g0 u12 (v := (.inl sa)) ⟨sa, rfl, Nat.zero_le _, by have := tj_b_lt sa; omega⟩ (by decide +kernel)
    refine zy_cj (n := 1) (c := 0) rfl ?_
    refine zy_sj (k := 9) rfl ?_
    exact h80 4294967296 (Int64.ofNat 0) Ψ2 _ mc2 ms2 [(9, (.inr (.inl (Int64.ofNat 0)))), (7, (.inr (.inl (Int64.ofNat 0)))), (5, (.inr (.inl lo))), (3, (.inr (.inl lo))), (2, (.inl sa)), (0, (.inr (.inr (.inl q)))), (1, (.inl m))] sa lo lo (Int64.ofNat 0) (by decide) (by decide) hJ4 (by rw [List.length_set]; exact tm_lim (hQ k0) rfl) rfl rfl rfl rfl rfl rfl rfl
