/-! by hand: who is in; what the reference was told, put together -/
/-- what the reference q was told, of the bank that counts -/
def tr_R (w : List zx_E) (q : Nat) (bk : Int32) (hv pv dv tm ho pe cd rf rt : Nat → Int32) : Prop := tj_fi w q 12 39 bk ∧ tj_fa w q 12 11 2 hv ∧ tj_fa w q 12 13 2 pv ∧ tj_fa w q 12 14 2 dv ∧ tj_fa w q 12 24 8 tm ∧ tj_fa w q 12 23 24 ho ∧ tj_fa w q 12 19 16 pe ∧ tj_fa w q 12 34 1280 cd ∧ tj_fa w q 12 26 24 rf ∧ tj_fa w q 12 27 24 rt ∧ (bk.toInt = 0 ∨ bk.toInt = 1) ∧ tj_ro bk.toInt.toNat hv pv dv tm ho pe cd rf rt
theorem tr_sm7 {a : zx_V} {w : List zx_E} {q : Nat} (ha : a = (.inr (.inr (.inl q)))) (h : tj_sm7 a w) : ∃ bk hv pv dv tm ho pe cd rf rt, tr_R w q bk hv pv dv tm ho pe cd rf rt := by
  obtain ⟨q', bk, hv, pv, dv, tm, ho, pe, cd, rf, rt, h1, h2⟩ := h
  rw [ha] at h1
  cases h1
  exact ⟨bk, hv, pv, dv, tm, ho, pe, cd, rf, rt, h2⟩
theorem tr_cnt {ρ : Nat → zx_V} {w : List zx_E} {q k n a b c : Nat} {bk : Int32} {g : Nat → Int32} (e0 : ρ 0 = (.inr (.inr (.inl q)))) (hg : tj_fa w q 12 k n g) (h39 : tj_fi w q 12 39 bk) (F1 : tj_fd ρ w (0, .inr 0, .inl k, .inr a)) (F2 : tj_fd ρ w (0, .inr 0, .inl 39, .inr b)) (F3 : tj_fd ρ w (1, .inr a, .inr b, .inr c)) : ρ c = (.inl (g bk.toInt.toNat)) := by
  obtain ⟨q1, c1, fs1, a1, a2, a3⟩ := F1
  obtain ⟨q2, c2, fs2, b1, b2, b3⟩ := F2
  obtain ⟨q3, x, d1, d2, d3⟩ := F3
  obtain ⟨fs, p, g1, g2, g3⟩ := hg
  obtain ⟨fs', f1, f2⟩ := h39
  have a1 : ρ 0 = (.inr (.inr (.inl q1))) := a1
  have b1 : ρ 0 = (.inr (.inr (.inl q2))) := b1
  rw [e0] at a1 b1
  cases a1
  cases b1
  rw [g1] at a2 b2 f1
  cases a2
  cases b2
  cases f1
  have a3 : some (.inr (.inr (.inl p))) = some (ρ a) := g2.symm.trans a3
  have b3 : some (.inl bk) = some (ρ b) := f2.symm.trans b3
  have d1 : ρ a = (.inr (.inr (.inl q3))) := d1
  have d2 : ρ b = (.inl x) := d2
  rw [← Option.some.inj a3] at d1
  rw [← Option.some.inj b3] at d2
  cases d1
  cases d2
  rcases d3 with ⟨kd, m, g', u1, u2⟩ | ⟨m, l, o, u1, u2, u3⟩
  · rw [g3] at u1
    cases u1
    exact u2
  · rw [g3] at u1
    cases u1
/-- p is a person -/
theorem tr_lp {ρ : Nat → zx_V} {w : List zx_E} {q a b c j : Nat} {p : Int32} (e0 : ρ 0 = (.inr (.inr (.inl q)))) (ej : ρ j = (.inl p)) (F1 : tj_fd ρ w (0, .inr 0, .inl 13, .inr a)) (F2 : tj_fd ρ w (0, .inr 0, .inl 39, .inr b)) (F3 : tj_fd ρ w (1, .inr a, .inr b, .inr c)) (F7 : tj_sm7 (ρ 0) w) (FL : tj_fd ρ w (9932525098444199596950291534, .inr j, .inr c, .inl 0)) : ∃ bk hv pv dv tm ho pe cd rf rt, tr_R w q bk hv pv dv tm ho pe cd rf rt ∧ p.toInt < (pv bk.toInt.toNat).toInt := by
  obtain ⟨bk, hv, pv, dv, tm, ho, pe, cd, rf, rt, hR⟩ := tr_sm7 e0 F7
  refine ⟨bk, hv, pv, dv, tm, ho, pe, cd, rf, rt, hR, ?_⟩
  have ec := tr_cnt e0 hR.2.2.1 hR.1 F1 F2 F3
  obtain ⟨x, y, z, h1, h2, h3, h4⟩ := tl_lin_fd (n := 9932525098444199596950290431) (by decide +kernel) FL
  have h1 : ρ j = (.inl x) := h1
  have h2 : ρ c = (.inl y) := h2
  rw [ej] at h1
  cases h1
  rw [ec] at h2
  cases h2
  obtain ⟨c1, c2, c3, c4⟩ := tl_k1
  rw [c1, c2, c3, c4] at h4
  omega
/-- who is in, exactly -/
theorem tr_whoK {Ψ : List Nat} {w : List zx_E} {q : Nat} {bk p d : Int32} {al tm ho : Nat → Int32} (hw : tj_wt tj_Lam Ψ w) (hq : Ψ[q]? = some 149) (h39 : tj_fi w q 12 39 bk) (h24 : tj_fa w q 12 24 8 tm) (h23 : tj_fa w q 12 23 24 ho) (h49 : tj_fa w q 12 49 119 al) (hb : bk.toInt = 0 ∨ bk.toInt = 1) (hp : 0 ≤ p.toInt ∧ p.toInt ≤ 3) (hd : 0 ≤ d.toInt) (ht : 1 ≤ (tm (4 * bk.toInt.toNat + p.toInt.toNat)).toInt ∧ (tm (4 * bk.toInt.toNat + p.toInt.toNat)).toInt ≤ 14) : ∃ v, zx_Cl zx_mt zx_rc zx_mx' 3 212 [(.inr (.inr (.inl q))), (.inl p), (.inl d)] w (0, 0) (some (.inl v), w) ∧ ((v = tj_who bk al tm ho p d ∧ tj_alv al v ∧ 0 ≤ v.toInt ∧ v.toInt ≤ 7 ∧ tj_sm10 (.inr (.inr (.inl q))) (.inl p) (.inl v) w) ∨ (v = Int32.ofNat 4294967295 ∧ ¬ tj_alv al (tj_who bk al tm ho p d))) := by
  obtain ⟨fs, k0, k39⟩ := id h39
  obtain ⟨fs', a, k0', k49, ka⟩ := id h49
  rw [k0] at k0'
  cases k0'
  obtain ⟨fs', ht', k0', k23, kh⟩ := id h23
  rw [k0] at k0'
  cases k0'
  have hlw : q < w.length := (List.getElem?_eq_some_iff.mp k0).1
  have haw : a < w.length := (List.getElem?_eq_some_iff.mp ka).1
  -- types
  obtain ⟨fsT, f1, -, -, f3⟩ := tj_obj hw hq tr_hd
  rw [k0] at f1
  cases f1
  obtain ⟨v49, g49, p49, y49, hp49⟩ := f3 49 (1, 139, 0) rfl
  rw [k49] at g49
  cases g49
  cases y49
  obtain ⟨v23, g23, p23, y23, hp23⟩ := f3 23 (1, 115, 0) rfl
  rw [k23] at g23
  cases g23
  cases y23
  have hdA : ∃ s, tj_Lam[139]? = some (.inr (0, 119, s)) ∧ tj_rd s 7 62 = some (2147483648, 2147483650) := ⟨_, rfl, by decide +kernel⟩
  obtain ⟨sA, hdA, hrA⟩ := hdA
  obtain ⟨al', ka', bA⟩ := tj_iarr hw hp49 hdA (Or.inl rfl)
  rw [ka] at ka'
  cases ka'
  obtain ⟨ho', kh', bH⟩ := tj_iarr (kd := 0) (n := 24) (s := [(24, 2147483648, 2147483655)]) hw hp23 rfl (Or.inl rfl)
  rw [kh] at kh'
  cases kh'
  -- the turn
  have e4 := tr_p4 hb hp
  generalize htd : tm (Int32.ofNat 4 * bk + p).toNatClampNeg = t
  have eti : (Int32.ofNat 4 * bk + p).toNatClampNeg = 4 * bk.toInt.toNat + p.toInt.toNat := by
    show (Int32.ofNat 4 * bk + p).toInt.toNat = _
    omega
  rw [eti] at htd
  rw [htd] at ht
  have btt := zx_b_int t
  have hrem := tj_b_rem (x := d) (y := t) (by omega)
  have brem := zx_b_int (d - d / t * t)
  have bd := zx_b_int d
  have h14 : (Int32.ofNat 14 * p).toInt = 14 * p.toInt := tr_mul (c := 14) (by decide) rfl (by omega) (by omega)
  have h7 : (Int32.ofNat 7).toInt = 7 := by decide
  have e7 : (Int32.ofNat 7 + Int32.ofNat 14 * p).toInt = 7 + 14 * p.toInt := by rw [tr_add (by omega) (by omega), h7, h14]
  have hr1 := hrem.2 (by omega)
  have hr2 := hrem.1.1
  have eix : (Int32.ofNat 7 + Int32.ofNat 14 * p + (d - d / t * t)).toInt = 7 + 14 * p.toInt + (d - d / t * t).toInt := by rw [tr_add (by omega) (by omega), e7]
  generalize hixd : Int32.ofNat 7 + Int32.ofNat 14 * p + (d - d / t * t) = ix at eix
  have hixn : ix.toNatClampNeg = ix.toInt.toNat := rfl
  obtain ⟨A, B, s1, s2, s3⟩ := tj_rd_ok hrA ix.toNatClampNeg (by omega) (by omega)
  obtain ⟨l1, l2⟩ := bA ix.toNatClampNeg (by omega) A B s1
  generalize hkd : al ix.toNatClampNeg = k at l1 l2
  have bk' := zx_b_int k
  have e3 := tr_p3 (k := k) hb hp ⟨by omega, by omega⟩
  generalize hjd : Int32.ofNat 3 * (Int32.ofNat 4 * bk + p) + k = j at e3
  have hjn : j.toNatClampNeg = j.toInt.toNat := rfl
  have hbh := bH j.toNatClampNeg (by omega) 2147483648 2147483655 (by
    unfold tj_sel
    rw [show Nat.blt j.toNatClampNeg 24 = true from Nat.ble_eq_true_of_le (by omega)])
  have hwho : tj_who bk al tm ho p d = ho j.toNatClampNeg := by
    unfold tj_who
    rw [eti, htd, hixd, hkd, hjd]
  generalize hhd : ho j.toNatClampNeg = h at hbh hwho
  have bh := zx_b_int h
  have h10 : tj_sm10 (.inr (.inr (.inl q))) (.inl p) (.inl h) w := ⟨q, bk, p, h, ho, k.toInt.toNat, rfl, rfl, rfl, h39, h23, by omega, hp.1, hp.2, by
    rw [← hhd, show 3 * (4 * bk.toInt.toNat + p.toInt.toNat) + k.toInt.toNat = j.toNatClampNeg by omega]⟩
  obtain ⟨v, hvK, hv⟩ := tr_aliveK (q := q) (h := h) k0 k49 ka
  have hls : zx_limP w.length [(0, (.inr (.inr (.inl q)))), (1, (.inl p)), (2, (.inl d))] = true := tm_lim hlw rfl
  have hls2 : zx_limP w.length [(3, (.inl h)), (0, (.inr (.inr (.inl q)))), (1, (.inl p)), (2, (.inl d))] = true := tm_lim (k := 0) hlw rfl
  have hst : zx_limL w.length [(.inl d), (.inl (Int32.ofNat 7 + Int32.ofNat 14 * p)), (.inr (.inr (.inl a))), (.inl p), (.inr (.inr (.inl q)))] = true := by
    show (Nat.blt a w.length && (Nat.blt q w.length && true)) = true
    rw [show Nat.blt a w.length = true from Nat.ble_eq_true_of_le haw, show Nat.blt q w.length = true from Nat.ble_eq_true_of_le hlw]
    rfl
  have hturn := tr_turnK h39 h24 hb hp
  rw [eti, htd] at hturn
  have hhalf := tr_halfAtK (k := k) h39 h23 hb hp ⟨by omega, by omega⟩
  rw [hjd, hhd] at hhalf
  have key : ∀ x, zx_wp (zx_Cl zx_mt zx_rc zx_mx' 2) none (0, 0) (zx_find (zx_cT zx_d_X12_whoIs)) (fun σ => zx_ret (zx_find (zx_cT zx_d_X12_whoIs)) (0, 0) σ (some (.inl x), w)) (31, [(3, (.inl h)), (0, (.inr (.inr (.inl q)))), (1, (.inl p)), (2, (.inl d))], [(.inl v)], w, 0, 0) → zx_Cl zx_mt zx_rc zx_mx' 3 212 [(.inr (.inr (.inl q))), (.inl p), (.inl d)] w (0, 0) (some (.inl x), w) := by
    intro x hx
    refine zy_fun (d := 2) (dt := zx_d_X12_whoIs) (by rw [← zx_q_X12_whoIs]; rfl) (by rw [(by decide +kernel : zx_rc 212 = 13)]; exact ⟨q, _, fs, rfl, k0⟩) (by decide +kernel : 3 ≤ zx_mx' 212) ?_
    show zx_wp _ none _ _ _ (0, [(0, (.inr (.inr (.inl q)))), (1, (.inl p)), (2, (.inl d))], [], w, 0, 0)
    refine zy_la (k := 0) rfl rfl (Or.inl ⟨_, rfl⟩) ?_
    refine zy_li (k := 1) rfl rfl ?_
    refine zy_la (k := 0) rfl rfl (Or.inl ⟨_, rfl⟩) ?_
    refine zy_get rfl k0 k49 ?_
    refine zy_ci (n := 2) (c := 7) rfl ?_
    refine zy_ci (n := 2) (c := 14) rfl ?_
    refine zy_li (k := 1) rfl rfl ?_
    refine zy_mul rfl ?_
    refine zy_add rfl ?_
    refine zy_li (k := 2) rfl rfl ?_
    refine zy_la (k := 0) rfl rfl (Or.inl ⟨_, rfl⟩) ?_
    refine zy_li (k := 1) rfl rfl ?_
    refine zx_wp_call (a := 0) (n := 2) (y := 206) (g := zx_no) (av := [(.inr (.inr (.inl q))), (.inl p)]) (st' := [(.inl d), (.inl (Int32.ofNat 7 + Int32.ofNat 14 * p)), (.inr (.inr (.inl a))), (.inl p), (.inr (.inr (.inl q)))]) (cy := (0, 0)) (r := (some (.inl t), w)) rfl rfl (Nat.le_of_ble_eq_true rfl) hls hst (Nat.le_refl _) (Nat.le_refl _) (zx_Cl_le (by decide) hturn) ?_
    refine zy_rem rfl (fun e => by rw [e] at ht; exact absurd ht.1 (by decide)) ?_
    refine zy_add rfl ?_
    rw [hixd]
    refine zy_ld rfl ka (tr_in (by omega) (by omega)) ?_
    rw [hkd]
    refine zx_wp_call (a := 0) (n := 3) (y := 129) (g := zx_no) (av := [(.inr (.inr (.inl q))), (.inl p), (.inl k)]) (st' := []) (cy := (0, 0)) (r := (some (.inl h), w)) rfl rfl (Nat.le_of_ble_eq_true rfl) hls rfl (Nat.le_refl _) (Nat.le_refl _) (zx_Cl_le (by decide) hhalf) ?_
    refine zy_si (k := 3) rfl ?_
    show zx_wp _ none _ _ _ (26, [(3, (.inl h)), (0, (.inr (.inr (.inl q)))), (1, (.inl p)), (2, (.inl d))], [], w, 0, 0)
    refine zy_la (k := 0) rfl rfl (Or.inl ⟨_, rfl⟩) ?_
    refine zy_li (k := 3) rfl rfl ?_
    refine zx_wp_call (a := 0) (n := 2) (y := 137) (g := zx_no) (av := [(.inr (.inr (.inl q))), (.inl h)]) (st' := []) (cy := (0, 0)) (r := (some (.inl v), w)) rfl rfl (Nat.le_of_ble_eq_true rfl) hls2 rfl (Nat.le_refl _) (Nat.le_refl _) (zx_Cl_le (by decide) hvK) ?_
    exact hx
  rcases hv with ⟨hv, hA⟩ | ⟨hv, hA⟩
  · refine ⟨h, key h ?_, Or.inl ⟨hwho.symm, hA, by omega, by omega, h10⟩⟩
    subst hv
    refine zy_j0 rfl (fun e => absurd e (by decide : ¬ zx_b (Int32.ofNat 1) = 2147483648)) (fun _ => ?_)
    refine zy_li (k := 3) rfl rfl ?_
    refine zy_goto rfl ?_
    exact zx_wp_done ⟨Nat.le_refl _, Nat.le_refl _, rfl, ⟨_, rfl, rfl⟩⟩
  · refine ⟨Int32.ofNat 4294967295, key _ ?_, Or.inr ⟨rfl, by rw [hwho]; exact hA⟩⟩
    subst hv
    refine zy_j0 rfl (fun _ => ?_) (fun e => absurd (by decide : zx_b (Int32.ofNat 0) = 2147483648) e)
    refine zy_ci (n := 1) (c := 4294967295) rfl ?_
    exact zx_wp_done ⟨Nat.le_refl _, Nat.le_refl _, rfl, ⟨_, rfl, rfl⟩⟩
