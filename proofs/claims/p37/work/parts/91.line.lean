/-! by hand: readDeed, startAnew, readLine -/
def tr_Ed : tj_Ef := (tr_Ee.1, [107, 118, 119, 120, 121, 137, 138, 148, 106])
set_option maxRecDepth 20000 in
theorem tr_readDeed {Ψ : List Nat} {w : List zx_E} {q : Nat} {φ : Int} {fk bk rb : Int32} {Z : Nat → Nat → Int32} (hw : tj_wt tj_Lam Ψ w) (hq : Ψ[q]? = some 149) (hPS : tr_PS w q φ fk bk rb 0 Z) (hlt : ∀ dv, tj_fa w q 12 14 2 dv → (dv rb.toInt.toNat).toInt ≤ 5) : tr_Do 8 186 [(.inr (.inr (.inl q)))] tr_Ed Ψ w (fun a _ w' => a = none ∧ tr_PD q φ bk rb 0 Z w') := by
  obtain ⟨fs, k0, -, -⟩ := tr_ob hw hq
  have hlq : q < w.length := (List.getElem?_eq_some_iff.mp k0).1
  obtain ⟨h4, hT, h40, hbb⟩ := tr_PS_4 hPS
  have hb := hbb
  unfold tr_bb at hb
  obtain ⟨dv0, h14⟩ := tr_exA (k := 14) (l := 106) (n := 2) (s := [(2, 2147483648, 2147483654)]) hw hq rfl rfl
  have bdv := tr_bd1 (l := 106) (n := 2) (lo := 2147483648) (hi := 2147483654) hw hq rfl rfl h14 (j := rb.toInt.toNat) (by omega)
  have h5 := hlt dv0 h14
  have idv := zx_b_int (dv0 rb.toInt.toNat)
  have irb := zx_b_int rb
  have enb : rb.toNatClampNeg = rb.toInt.toNat := rfl
  have e6 : (Int32.ofNat 6 * rb).toInt = 6 * rb.toInt := tr_mul (c := 6) (by decide) rfl (by omega) (by omega)
  have ei : (Int32.ofNat 6 * rb + dv0 rb.toInt.toNat).toInt = 6 * rb.toInt + (dv0 rb.toInt.toNat).toInt := by rw [tr_add (by omega) (by omega), e6]
  have e2d : (Int32.ofNat 2 * dv0 rb.toInt.toNat).toInt = 2 * (dv0 rb.toInt.toNat).toInt := tr_mul (c := 2) (by decide) rfl (by omega) (by omega)
  have z1 : (Int32.ofNat 1).toInt = 1 := by decide
  have e2d1 : (Int32.ofNat 2 * dv0 rb.toInt.toNat + Int32.ofNat 1).toInt = 2 * (dv0 rb.toInt.toNat).toInt + 1 := by rw [tr_add (by omega) (by omega), e2d, z1]
  let P : Option zx_V → List Nat → List zx_E → Prop := fun a _ w' => a = none ∧ tr_PD q φ bk rb 0 Z w'
  refine tr_meth (P := P) (d := 7) (dt := zx_d_X12_readDeed) (by rw [← zx_q_X12_readDeed]; rfl) (by rw [(by decide +kernel : zx_rc 186 = 13)]; exact ⟨q, _, fs, rfl, k0⟩) (by decide +kernel : 1 ≤ zx_mx' 186) ?_
  let WP : zx_S → Prop := fun σ => zx_wp (zx_Cl zx_mt zx_rc zx_mx' 7) none (tj_P tj_c1 w, tj_P tj_c2 w) (zx_find (zx_cT zx_d_X12_readDeed)) (tr_end zx_d_X12_readDeed tr_Ed Ψ w P) σ
  let J : List Nat → List zx_E → Nat → Nat → Prop := fun Ψ' w' mc ms => tj_W tj_Lam (tj_P tj_c1 w, tj_P tj_c2 w) tr_Ed Ψ w Ψ' w' mc ms
  let K : Nat → List zx_E → Int → Int32 → Prop := fun j w' φ' fk' => tr_PS w' q φ' fk' bk rb j Z ∧ φ ≤ φ' ∧ tj_fa w' q 12 14 2 dv0
  -- the end
  have at120 : ∀ (Ψ' : List Nat) (w' : List zx_E) (mc ms : Nat) (φ' : Int) (fk' : Int32) (ls : List (Nat × zx_V)), J Ψ' w' mc ms → K 2 w' φ' fk' → zx_look 0 ls = some (.inr (.inr (.inl q))) → WP (120, ls, [], w', mc, ms) := by
    intro Ψ' w' mc ms φ' fk' ls hJ hK l0
    have hq1 := hJ.2.2.1 _ _ hq
    obtain ⟨⟨C, ua, hv, pv, dv, tm, ho, pe, cd, rf, rt, hR, -, hold, hnew⟩, hφ, h14'⟩ := hK
    have edv := tr_fa_eq h14' hR.1.2.2.2.2.1
    subst edv
    have e1 : (dv0 rb.toInt.toNat + Int32.ofNat 1).toInt = (dv0 rb.toInt.toNat).toInt + 1 := tm_inc tm_k1 (by omega)
    have i1' := zx_b_int (dv0 rb.toInt.toNat + Int32.ofNat 1)
    refine zy_la rfl l0 (Or.inl ⟨_, rfl⟩) ?_
    refine zy_gA rfl h14' (fun p hp hpt hlp => ?_)
    refine zy_la rfl l0 (Or.inl ⟨_, rfl⟩) ?_
    refine zy_gI rfl hR.1.2.1 ?_
    refine zy_dup2 rfl ?_
    refine zy_ld rfl hp (tr_in (by omega) (by omega)) ?_
    rw [enb]
    refine zy_ci (n := 1) (c := 1) rfl ?_
    refine zy_add rfl ?_
    refine zy_wA (k := 14) (n := 2) (lo := 2147483648) (hi := 2147483654) rfl hJ hq1 rfl rfl (by decide) hpt h14' (by omega) (by omega) (by omega) (by omega) (by decide +kernel) ?_
    intro w2 hJ2 hfr2 hl2 h142
    have hR2 := tr_RB_dv hJ.1 hfr2 hR h142
    refine tr_endN ⟨_, _, _, rfl⟩ hJ2 ⟨rfl, φ', fk', hφ, C, ua, hv, pv, _, tm, ho, pe, cd, rf, rt, hR2, hbb, ?_, fun h0 => ?_⟩
    · obtain ⟨o1, o2, o3, o4, o5, o6, o7, o8, o9⟩ := hold
      exact ⟨o1, o2, by rw [tg_upd_ne (by omega)]; exact o3, o4, o5, o6, o7, o8, o9⟩
    · obtain ⟨⟨n1, n2, n3, n4⟩, n5, n6⟩ := hnew h0
      refine ⟨⟨n1, n2, n3, fun r hr => n4 r ?_⟩, n5, n6⟩
      rw [tg_upd_eq, e1] at hr
      omega
  -- the second formula
  have at85 : ∀ (Ψ' : List Nat) (w' : List zx_E) (mc ms : Nat) (φ' : Int) (fk' : Int32) (ls : List (Nat × zx_V)), J Ψ' w' mc ms → K 1 w' φ' fk' → zx_limP w'.length ls = true → zx_look 0 ls = some (.inr (.inr (.inl q))) → WP (85, ls, [], w', mc, ms) := by
    intro Ψ' w' mc ms φ' fk' ls hJ hK hls l0
    have hq1 := hJ.2.2.1 _ _ hq
    obtain ⟨fs', k0', -, -⟩ := tr_ob hJ.1 hq1
    have hlq1 : q < w'.length := (List.getElem?_eq_some_iff.mp k0').1
    obtain ⟨x4, xT, x40, -⟩ := tr_PS_4 hK.1
    obtain ⟨tk, h8, -, -⟩ := tr_exI (k := 8) (lo := 0) (hi := 4294967295) hJ.1 hq1 rfl
    obtain ⟨nm, h10⟩ := tr_exJ (k := 10) (a := 0) (b := 0) hJ.1 hq1 rfl
    obtain ⟨y, hy, -⟩ := tr_isWordK (c := Int64.ofNat 1819238756) h8 h10
    refine zy_la rfl l0 (Or.inl ⟨_, rfl⟩) ?_
    refine zy_la rfl l0 (Or.inl ⟨_, rfl⟩) ?_
    refine zy_cj (n := 3) (c := 1819238756) rfl ?_
    refine zy_callK (a := 0) (n := 2) (st := [(.inr (.inr (.inl q)))]) (zx_Cl_le (by decide) hy) rfl rfl (Nat.le_of_ble_eq_true rfl) hls (tr_lim1 hlq1 rfl) (by have := hJ.2.1; omega) (by have := hJ.2.1; omega) ?_
    refine zy_callD (tr_Do_le (tr_must (b := y) hJ.1 hq1 xT x4) (by decide)) (n := 2) (st := []) rfl rfl (Nat.zero_le _) hls rfl hJ (by decide +kernel) (by decide +kernel) ?_
    intro a Ψ2 w2 mc2 ms2 hJ2 hle2 hfr2 hls2 hst2 hP
    obtain ⟨ea, hPT⟩ := hP
    subst ea
    obtain ⟨φ2, fk2, g1, g2, hPS2⟩ := tr_PS_tok hJ.1 hfr2 (by decide +kernel) hK.1 hPT
    have h142 := te_fa hJ.1 hfr2 (d := ([(149, 14)], [106])) (by decide +kernel) (by decide +kernel) hK.2.2
    have hq2 := hle2 _ _ hq1
    have hφ2 : φ ≤ φ2 := Int.le_trans hK.2.1 g1
    obtain ⟨y4, yT, y40, -⟩ := tr_PS_4 hPS2
    obtain ⟨gv, hgv, hgv'⟩ := tr_isGoodK y4
    refine zy_la rfl l0 (Or.inl ⟨_, rfl⟩) ?_
    refine zy_callK (a := 0) (n := 1) (st := []) (zx_Cl_le (by decide) hgv) rfl rfl (Nat.le_of_ble_eq_true rfl) hls2 rfl (by have := hJ2.2.1; omega) (by have := hJ2.2.1; omega) ?_
    rcases hgv' with ⟨ev, hz⟩ | ⟨ev, hz⟩
    rotate_left
    · subst ev
      exact zy_j0 rfl (fun _ => at120 Ψ2 w2 mc2 ms2 φ2 fk2 ls hJ2 ⟨tr_PS_bad hPS2 hz, hφ2, h142⟩ l0) (fun h => absurd tr_z0 h)
    subst ev
    refine zy_j0 rfl (fun h => absurd h tr_no1) (fun _ => ?_)
    refine zy_la rfl l0 (Or.inl ⟨_, rfl⟩) ?_
    refine zy_ci (n := 1) (c := 2) rfl ?_
    refine zy_la rfl l0 (Or.inl ⟨_, rfl⟩) ?_
    refine zy_gA rfl h142 (fun p hp hpt hlp => ?_)
    refine zy_la rfl l0 (Or.inl ⟨_, rfl⟩) ?_
    refine zy_gI rfl y40 ?_
    refine zy_ld rfl hp (tr_in (by omega) (by omega)) ?_
    rw [enb]
    refine zy_mul rfl ?_
    refine zy_ci (n := 1) (c := 1) rfl ?_
    refine zy_add rfl ?_
    refine zy_callD (tr_readRule (r := Int32.ofNat 2 * dv0 rb.toInt.toNat + Int32.ofNat 1) hJ2.1 hq2 hPS2 hz h142 (by rw [e2d1]; rfl) (by omega) (by omega)) (n := 2) (st := []) rfl rfl (Nat.zero_le _) hls2 rfl hJ2 (by decide +kernel) (by decide +kernel) ?_
    intro a Ψ3 w3 mc3 ms3 hJ3 hle3 hfr3 hls3 hst3 hP3
    obtain ⟨ea, φ3, fk3, g3, hPS3⟩ := hP3
    subst ea
    exact at120 Ψ3 w3 mc3 ms3 φ3 fk3 ls hJ3 ⟨hPS3, Int.le_trans hφ2 g3, te_fa hJ2.1 hfr3 (d := ([(149, 14)], [106])) (by decide +kernel) (by decide +kernel) h142⟩ l0
  refine zy_ci (n := 2) (c := 6) rfl ?_
  refine zy_la (k := 0) rfl rfl (Or.inl ⟨_, rfl⟩) ?_
  refine zy_gI rfl h40 ?_
  refine zy_mul rfl ?_
  refine zy_la (k := 0) rfl rfl (Or.inl ⟨_, rfl⟩) ?_
  refine zy_gA rfl h14 (fun p0 hp0 hpt0 hlp0 => ?_)
  refine zy_la (k := 0) rfl rfl (Or.inl ⟨_, rfl⟩) ?_
  refine zy_gI rfl h40 ?_
  refine zy_ld rfl hp0 (tr_in (by omega) (by omega)) ?_
  rw [enb]
  refine zy_add rfl ?_
  generalize Int32.ofNat 6 * rb + dv0 rb.toInt.toNat = i1 at ei ⊢
  have hi0 : 0 ≤ i1.toInt := by omega
  have hi12 : i1.toInt < (12 : Nat) := by omega
  refine zy_si (k := 1) rfl ?_
  have hls : zx_limP w.length [(1, (.inl i1)), (0, (.inr (.inr (.inl q))))] = true := tm_lim (k := 0) (ls := []) hlq rfl
  show WP (18, [(1, (.inl i1)), (0, (.inr (.inr (.inl q))))], [], w, 0, 0)
  have l0 : zx_look 0 [(1, (.inl i1)), (0, (.inr (.inr (.inl q))))] = some (.inr (.inr (.inl q))) := rfl
  have l1 : zx_look 1 [(1, (.inl i1)), (0, (.inr (.inr (.inl q))))] = some (.inl i1) := rfl
  generalize ([(1, (.inl i1)), (0, (.inr (.inr (.inl q))))] : List (Nat × zx_V)) = ls at hls l0 l1 ⊢
  have hL := tr_exL (k := 33) (l := 148) (n := 12) (s := []) hw hq rfl rfl
  obtain ⟨tk, h8, -, -⟩ := tr_exI (k := 8) (lo := 0) (hi := 4294967295) hw hq rfl
  obtain ⟨nm, h10⟩ := tr_exJ (k := 10) (a := 0) (b := 0) hw hq rfl
  refine zy_la rfl l0 (Or.inl ⟨_, rfl⟩) ?_
  refine zy_gL rfl hL (fun p g hp hpt hlp => ?_)
  refine zy_li rfl l1 ?_
  refine zy_la rfl l0 (Or.inl ⟨_, rfl⟩) ?_
  refine zy_la rfl l0 (Or.inl ⟨_, rfl⟩) ?_
  refine zy_la rfl l0 (Or.inl ⟨_, rfl⟩) ?_
  refine zy_gL rfl hL (fun p2 g2 hp2 hpt2 hlp2 => ?_)
  refine zy_ci (n := 2) (c := 6) rfl ?_
  refine zy_la rfl l0 (Or.inl ⟨_, rfl⟩) ?_
  refine zy_gI rfl h40 ?_
  refine zy_mul rfl ?_
  refine zy_la rfl l0 (Or.inl ⟨_, rfl⟩) ?_
  refine zy_gA rfl h14 (fun p3 hp3 hpt3 hlp3 => ?_)
  refine zy_la rfl l0 (Or.inl ⟨_, rfl⟩) ?_
  refine zy_gI rfl h40 ?_
  refine zy_ld rfl hp3 (tr_in (by omega) (by omega)) ?_
  rw [enb]
  obtain ⟨hh, hhK, -⟩ := tr_hereK (fi := Int32.ofNat 6 * rb) (n := dv0 rb.toInt.toNat) k0 h8 h10 hp2 (by omega) (by omega) (by omega) (by decide)
  refine zy_callK (a := 0) (n := 4) (st := [(.inr (.inr (.inl q))), (.inl i1), (.inr (.inr (.inl p)))]) (zx_Cl_le (by decide) hhK) rfl rfl (Nat.le_of_ble_eq_true rfl) hls (tr_lim1 hlq (tr_lim2 (tr_lim1 hlp rfl))) (Nat.zero_le _) (Nat.zero_le _) ?_
  refine zy_callD (tr_Do_le (tr_fresh (its := hh) hw hq hT h4) (by decide)) (n := 2) (st := [(.inl i1), (.inr (.inr (.inl p)))]) rfl rfl (Nat.le_of_ble_eq_true rfl) hls (tr_lim2 (tr_lim1 hlp rfl)) (tm_W0 (E := tr_Ed) hw) (by decide +kernel) (by decide +kernel) ?_
  intro a Ψ2 w2 mc2 ms2 hJ2 hle2 hfr2 hls2 hst2 hP
  obtain ⟨⟨v, ea⟩, hPT⟩ := hP
  subst ea
  obtain ⟨φ2, fk2, g3, g4, hPS2⟩ := tr_PS_tok hw hfr2 (by decide +kernel) hPS hPT
  have hq2 := hle2 _ _ hq
  have h142 := te_fa hw hfr2 (d := ([(149, 14)], [106])) (by decide +kernel) (by decide +kernel) h14
  refine zy_wL (k := 33) (n := 12) (l := 148) (s := []) rfl hJ2 hq2 rfl rfl (tr_pt_fr hw hfr2 (d := ([(149, 33)], [])) (by decide +kernel) (by decide +kernel) hpt) hi0 hi12 (by decide +kernel) ?_
  intro w3 hJ3 hfr3 hl3
  have hPS3 := tr_PS_fr hJ2.1 hfr3 (by decide +kernel) hPS2
  have h143 := te_fa hJ2.1 hfr3 (d := ([(149, 14)], [106])) (by decide +kernel) (by decide +kernel) h142
  have hls3 : zx_limP w3.length ls = true := by rw [hl3]; exact hls2
  obtain ⟨fs3, k03, -, -⟩ := tr_ob hJ3.1 hq2
  have hlq3 : q < w3.length := (List.getElem?_eq_some_iff.mp k03).1
  obtain ⟨x4, xT, x40, -⟩ := tr_PS_4 hPS3
  obtain ⟨tk3, h83, -, -⟩ := tr_exI (k := 8) (lo := 0) (hi := 4294967295) hJ3.1 hq2 rfl
  obtain ⟨nm3, h103⟩ := tr_exJ (k := 10) (a := 0) (b := 0) hJ3.1 hq2 rfl
  obtain ⟨y, hy, -⟩ := tr_isWordK (c := Int64.ofNat 6975353) h83 h103
  refine zy_la rfl l0 (Or.inl ⟨_, rfl⟩) ?_
  refine zy_la rfl l0 (Or.inl ⟨_, rfl⟩) ?_
  refine zy_cj (n := 3) (c := 6975353) rfl ?_
  refine zy_callK (a := 0) (n := 2) (st := [(.inr (.inr (.inl q)))]) (zx_Cl_le (by decide) hy) rfl rfl (Nat.le_of_ble_eq_true rfl) hls3 (tr_lim1 hlq3 rfl) (by have := hJ3.2.1; omega) (by have := hJ3.2.1; omega) ?_
  refine zy_callD (tr_Do_le (tr_must (b := y) hJ3.1 hq2 xT x4) (by decide)) (n := 2) (st := []) rfl rfl (Nat.zero_le _) hls3 rfl hJ3 (by decide +kernel) (by decide +kernel) ?_
  intro a Ψ4 w4 mc4 ms4 hJ4 hle4 hfr4 hls4 hst4 hP4
  obtain ⟨ea, hPT4⟩ := hP4
  subst ea
  obtain ⟨φ4, fk4, g5, g6, hPS4⟩ := tr_PS_tok hJ3.1 hfr4 (by decide +kernel) hPS3 hPT4
  have hq4 := hle4 _ _ hq2
  have h144 := te_fa hJ3.1 hfr4 (d := ([(149, 14)], [106])) (by decide +kernel) (by decide +kernel) h143
  have hφ4 : φ ≤ φ4 := Int.le_trans g3 g5
  obtain ⟨y4, yT, y40, -⟩ := tr_PS_4 hPS4
  obtain ⟨gv, hgv, hgv'⟩ := tr_isGoodK y4
  refine zy_la rfl l0 (Or.inl ⟨_, rfl⟩) ?_
  refine zy_callK (a := 0) (n := 1) (st := []) (zx_Cl_le (by decide) hgv) rfl rfl (Nat.le_of_ble_eq_true rfl) hls4 rfl (by have := hJ4.2.1; omega) (by have := hJ4.2.1; omega) ?_
  rcases hgv' with ⟨ev, hz⟩ | ⟨ev, hz⟩
  rotate_left
  · subst ev
    exact zy_j0 rfl (fun _ => at85 Ψ4 w4 mc4 ms4 φ4 fk4 ls hJ4 ⟨tr_PS_bad hPS4 hz, hφ4, h144⟩ hls4 l0) (fun h => absurd tr_z0 h)
  subst ev
  refine zy_j0 rfl (fun h => absurd h tr_no1) (fun _ => ?_)
  refine zy_la rfl l0 (Or.inl ⟨_, rfl⟩) ?_
  refine zy_ci (n := 1) (c := 2) rfl ?_
  refine zy_la rfl l0 (Or.inl ⟨_, rfl⟩) ?_
  refine zy_gA rfl h144 (fun p5 hp5 hpt5 hlp5 => ?_)
  refine zy_la rfl l0 (Or.inl ⟨_, rfl⟩) ?_
  refine zy_gI rfl y40 ?_
  refine zy_ld rfl hp5 (tr_in (by omega) (by omega)) ?_
  rw [enb]
  refine zy_mul rfl ?_
  refine zy_callD (tr_readRule (r := Int32.ofNat 2 * dv0 rb.toInt.toNat) hJ4.1 hq4 hPS4 hz h144 (by rw [e2d]; exact (Int.add_zero _).symm) (by omega) (by omega)) (n := 2) (st := []) rfl rfl (Nat.zero_le _) hls4 rfl hJ4 (by decide +kernel) (by decide +kernel) ?_
  intro a Ψ5 w5 mc5 ms5 hJ5 hle5 hfr5 hls5 hst5 hP5
  obtain ⟨ea, φ5, fk5, g7, hPS5⟩ := hP5
  subst ea
  exact at85 Ψ5 w5 mc5 ms5 φ5 fk5 ls hJ5 ⟨hPS5, Int.le_trans hφ4 g7, te_fa hJ4.1 hfr5 (d := ([(149, 14)], [106])) (by decide +kernel) (by decide +kernel) h144⟩ hls5 l0
theorem zy_shl {K : zx_K} {X : zx_X} {cap : Nat × Nat} {tab : Nat → Option zx_Q} {Q : zx_S → Prop} {pc mc ms : Nat} {ls : List (Nat × zx_V)} {st : List zx_V} {w : List zx_E} {x y : Int32} (ht : tab pc = some zx_o_ishl) (kk : zx_wp K X cap tab Q (pc + 1, ls, (.inl (x <<< (y &&& 31))) :: st, w, mc, ms)) : zx_wp K X cap tab Q (pc, ls, (.inl y) :: (.inl x) :: st, w, mc, ms) := zx_wp_pure (μ := (pc + 1, ls, (.inl (x <<< (y &&& 31))) :: st, w, mc, ms)) ht rfl kk
section zyS
variable {K : zx_K} {X : zx_X} {cap cap' : Nat × Nat} {tab : Nat → Option zx_Q} {Q : zx_S → Prop} {pc mc ms q k n : Nat} {ls : List (Nat × zx_V)} {st : List zx_V} {w w0 : List zx_E} {E : tj_Ef} {Ψ0 Ψ : List Nat}
theorem zy_wS {x i : Int32} {l p lo hi a b : Nat} {s : List tj_y} {g : Nat → Int32} (ht : tab pc = some zx_ai) (hJ : tj_W tj_Lam cap' E Ψ0 w0 Ψ w mc ms) (hq : Ψ[q]? = some 149) (hk : tr_fts[k]? = some (1, l, 0)) (hd : tj_Lam[l]? = some (.inr (0, n, s))) (hl : l ≠ 149) (hp : tr_pt w q k p) (ha : tj_fa w q 12 k n g) (i0 : 0 ≤ i.toInt) (i1 : i.toInt < n) (hwr : tj_wr a b s lo hi = true) (j0 : lo ≤ i.toInt.toNat) (j1 : i.toInt.toNat ≤ hi) (h1 : a ≤ zx_b x) (h2 : zx_b x ≤ b) (hE : tj_h1 l E.2 = true) (kk : ∀ w', tj_W tj_Lam cap' E Ψ0 w0 Ψ w' mc ms → tj_fr ([], [l]) Ψ w w' → w'.length = w.length → zx_wp K X cap tab Q (pc + 1, ls, st, w', mc, ms)) : zx_wp K X cap tab Q (pc, ls, (.inl x) :: (.inl i) :: (.inr (.inr (.inl p))) :: st, w, mc, ms) := by
  obtain ⟨fs, k0, hg⟩ := hp
  obtain ⟨fs', p', k0', hg', h3⟩ := ha
  rw [k0] at k0'
  cases k0'
  rw [hg] at hg'
  cases hg'
  obtain ⟨a1, a2, a3, a4, a5⟩ := tr_wA (i := i.toInt.toNat) (x := x) hJ hq k0 hk hd hl hg h3 (fun c d hs => by
    obtain ⟨e1, e2⟩ := tj_wr_ok hwr i.toInt.toNat j0 j1 c d hs
    omega) hE
  exact zy_ai ht h3 (tr_in i0 i1) (kk _ a1 a2 a3)
/-- acts or undone: none -/
theorem zy_w51 {x : Int32} (ht : tab pc = some (zx_pk 12 k 0)) (hk5 : k = 51 ∨ k = 52) (hJ : tj_W tj_Lam cap' E Ψ0 w0 Ψ w mc ms) (hq : Ψ[q]? = some 149) (hx : x = Int32.ofNat 0) (hE : tj_h2 149 k E.1 = true) (kk : ∀ w', tj_W tj_Lam cap' E Ψ0 w0 Ψ w' mc ms → tj_fr ([(149, k)], []) Ψ w w' → w'.length = w.length → zx_wp K X cap tab Q (pc + 3, ls, st, w', mc, ms)) : zx_wp K X cap tab Q (pc, ls, (.inl x) :: (.inr (.inr (.inl q))) :: st, w, mc, ms) := by
  obtain ⟨fs, k0, f2, f4⟩ := tr_ob hJ.1 hq
  obtain ⟨a, b, h1, h2, h3⟩ := f4
  subst hx
  have z0 : zx_b (Int32.ofNat 0) = 2147483648 := by decide
  obtain ⟨fsT, g1, -, -, g3⟩ := tj_obj hJ.1 hq tr_hd
  rw [k0] at g1
  cases g1
  obtain ⟨v51, m51, x51, y51, b51, c51⟩ := g3 51 (0, 2147483648, 2147483688) rfl
  rw [h1] at m51
  cases m51
  cases y51
  obtain ⟨v52, m52, x52, y52, b52, c52⟩ := g3 52 (0, 2147483648, 2147483688) rfl
  rw [h2] at m52
  cases m52
  cases y52
  have hi : tj_inv 3 (fs.set k (.inl (Int32.ofNat 0))) := by
    rcases hk5 with e | e
    · subst e
      exact ⟨Int32.ofNat 0, b, List.getElem?_set_self (by omega), by rw [List.getElem?_set_ne (by decide)]; exact h2, by omega⟩
    · subst e
      exact ⟨a, Int32.ofNat 0, by rw [List.getElem?_set_ne (by decide)]; exact h1, List.getElem?_set_self (by omega), by omega⟩
  have hkt : tr_fts[k]? = some (0, 2147483648, 2147483688) := by
    rcases hk5 with e | e
    · subst e
      rfl
    · subst e
      rfl
  have hv : tj_vt Ψ (0, 2147483648, 2147483688) (.inl (Int32.ofNat 0)) := ⟨_, rfl, by decide, by decide⟩
  have hkl : k < fs.length := by omega
  exact zy_put ht k0 hkl rfl (kk _ (tj_W_field hJ hq tr_hd k0 hkt hv hi rfl hE) (tj_W_field (tm_W0 (E := ([(149, k)], [])) hJ.1) hq tr_hd k0 hkt hv hi rfl tr_h2s).2.2.2 List.length_set)
end zyS
def tr_ES : tj_Ef := ([(149, 51), (149, 52), (149, 58), (149, 71), (149, 56)], [139, 145])
theorem tr_wr0 : tj_wr 2147483648 2147483648 (tr_seg 139) 0 118 = true := by decide +kernel
theorem tr_wr1 : tj_wr 2147483648 2147484647 (tr_seg 139) 1 1 = true := by decide +kernel
theorem tr_wr2 : tj_wr 0 4294967295 (tr_seg 139) 2 2 = true := by decide +kernel
theorem tr_wr7 : tj_wr 2147483648 2147483650 (tr_seg 139) 7 62 = true := by decide +kernel
set_option maxRecDepth 20000 in
theorem tr_startAnew {Ψ : List Nat} {w : List zx_E} {q : Nat} (hw : tj_wt tj_Lam Ψ w) (hq : Ψ[q]? = some 149) : tr_Do 1 200 [(.inr (.inr (.inl q)))] tr_ES Ψ w (fun a _ w' => a = none ∧ tj_fi w' q 12 58 (Int32.ofNat 0)) := by
  obtain ⟨fs, k0, -, -⟩ := tr_ob hw hq
  have hlq : q < w.length := (List.getElem?_eq_some_iff.mp k0).1
  let P : Option zx_V → List Nat → List zx_E → Prop := fun a _ w' => a = none ∧ tj_fi w' q 12 58 (Int32.ofNat 0)
  refine tr_meth (P := P) (d := 0) (dt := zx_d_X12_startAnew) (by rw [← zx_q_X12_startAnew]; rfl) (by rw [(by decide +kernel : zx_rc 200 = 13)]; exact ⟨q, _, fs, rfl, k0⟩) (by decide +kernel : 1 ≤ zx_mx' 200) ?_
  let WP : zx_S → Prop := fun σ => zx_wp (zx_Cl zx_mt zx_rc zx_mx' 0) none (tj_P tj_c1 w, tj_P tj_c2 w) (zx_find (zx_cT zx_d_X12_startAnew)) (tr_end zx_d_X12_startAnew tr_ES Ψ w P) σ
  let J : List zx_E → Prop := fun w' => tj_W tj_Lam (tj_P tj_c1 w, tj_P tj_c2 w) tr_ES Ψ w Ψ w' 0 0
  have z0 : (Int32.ofNat 0).toInt = 0 := by decide
  have z1 : (Int32.ofNat 1).toInt = 1 := by decide
  have z2 : (Int32.ofNat 2).toInt = 2 := by decide
  have z7 : (Int32.ofNat 7).toInt = 7 := by decide
  have box : ∀ (n : Nat) (k : Int32) (w' : List zx_E) (ls : List (Nat × zx_V)), k.toInt + n = 3 → 0 ≤ k.toInt → J w' → tj_fi w' q 12 58 (Int32.ofNat 0) → zx_look 0 ls = some (.inr (.inr (.inl q))) → zx_look 1 ls = some (.inl k) → WP (119, ls, [], w', 0, 0) := by
    intro n
    induction n with
    | zero =>
      intro k w' ls hn hk0 hJ h58 l0 l1
      have ik := zx_b_int k
      refine zy_li rfl l1 ?_
      refine zy_ci (n := 1) (c := 3) rfl ?_
      refine zy_jt rfl (fun _ => tr_endN ⟨_, _, _, rfl⟩ hJ ⟨rfl, h58⟩) (fun h => ?_)
      have h : zx_b k < zx_b (Int32.ofNat 3) := h
      rw [show zx_b (Int32.ofNat 3) = 2147483651 by decide] at h
      omega
    | succ n ih =>
      intro k w' ls hn hk0 hJ h58 l0 l1
      have ik := zx_b_int k
      obtain ⟨iz, h79⟩ := tr_exY (k := 79) (kd := 2) (l := 145) (n := 3) (s := [(3, 2147483648, 2147483649)]) hJ.1 hq rfl rfl (Or.inl rfl)
      refine zy_li rfl l1 ?_
      refine zy_ci (n := 1) (c := 3) rfl ?_
      refine zy_jt rfl (fun h => ?_) (fun _ => ?_)
      · have h : zx_b (Int32.ofNat 3) ≤ zx_b k := h
        rw [show zx_b (Int32.ofNat 3) = 2147483651 by decide] at h
        omega
      refine zy_la rfl l0 (Or.inl ⟨_, rfl⟩) ?_
      refine zy_gY rfl h79 (fun p hp hpt hlp => ?_)
      refine zy_li rfl l1 ?_
      refine zy_ci (n := 1) (c := 0) rfl ?_
      refine zy_wZ (k := 79) (n := 3) rfl hJ hq rfl rfl (by decide) hpt h79 hk0 (by omega) (by decide +kernel) ?_
      intro w2 hJ2 hfr2 hl2
      refine zy_ik (k := 1) (n := 1) rfl l1 ?_
      refine zy_goto rfl ?_
      have ek : (k + Int32.ofNat 1).toInt = k.toInt + 1 := tm_inc tm_k1 (by omega)
      exact ih (k + Int32.ofNat 1) w2 _ (by omega) (by omega) hJ2 (te_fi hJ.1 hfr2 (d := ([(149, 58)], [])) (by decide +kernel) (by decide +kernel) h58) (zy_look_ne (by decide) rfl l0) zy_look_put
  have at92 : ∀ (w' : List zx_E) (ls : List (Nat × zx_V)), J w' → zx_look 0 ls = some (.inr (.inr (.inl q))) → WP (92, ls, [], w', 0, 0) := by
    intro w' ls hJ l0
    refine zy_la rfl l0 (Or.inl ⟨_, rfl⟩) ?_
    refine zy_ci (n := 1) (c := 0) rfl ?_
    refine zy_w51 (k := 51) rfl (Or.inl rfl) hJ hq rfl (by decide +kernel) ?_
    intro w1 hJ1 _ _
    refine zy_la rfl l0 (Or.inl ⟨_, rfl⟩) ?_
    refine zy_ci (n := 1) (c := 0) rfl ?_
    refine zy_w51 (k := 52) rfl (Or.inr rfl) hJ1 hq rfl (by decide +kernel) ?_
    intro w2 hJ2 _ _
    refine zy_la rfl l0 (Or.inl ⟨_, rfl⟩) ?_
    refine zy_ci (n := 1) (c := 0) rfl ?_
    refine zy_wI (k := 58) (lo := 2147483648) (hi := 2147483662) rfl hJ2 hq rfl (by decide) (by decide) rfl (by decide +kernel) ?_
    intro w3 hJ3 hfr3 hl3 h583
    refine zy_la rfl l0 (Or.inl ⟨_, rfl⟩) ?_
    refine zy_ci (n := 1) (c := 0) rfl ?_
    refine zy_wI (k := 71) (lo := 2147483648) (hi := 2147483678) rfl hJ3 hq rfl (by decide) (by decide) rfl (by decide +kernel) ?_
    intro w4 hJ4 hfr4 hl4 _
    have h584 := te_fi hJ3.1 hfr4 (d := ([(149, 58)], [])) (by decide +kernel) (by decide +kernel) h583
    refine zy_la rfl l0 (Or.inl ⟨_, rfl⟩) ?_
    refine zy_ci (n := 1) (c := 0) rfl ?_
    refine zy_wI (k := 56) (lo := 2147483648) (hi := 2147483668) rfl hJ4 hq rfl (by decide) (by decide) rfl (by decide +kernel) ?_
    intro w5 hJ5 hfr5 hl5 _
    have h585 := te_fi hJ4.1 hfr5 (d := ([(149, 58)], [])) (by decide +kernel) (by decide +kernel) h584
    refine zy_ci (n := 1) (c := 0) rfl ?_
    refine zy_si (k := 1) rfl ?_
    exact box 3 (Int32.ofNat 0) w5 _ (by decide) (by decide) hJ5 h585 (zy_look_ne (by decide) rfl l0) zy_look_put
  have turns : ∀ (n : Nat) (k : Int32) (w' : List zx_E) (ls : List (Nat × zx_V)), k.toInt + n = 56 → 0 ≤ k.toInt → J w' → zx_look 0 ls = some (.inr (.inr (.inl q))) → zx_look 1 ls = some (.inl k) → WP (57, ls, [], w', 0, 0) := by
    intro n
    induction n with
    | zero =>
      intro k w' ls hn hk0 hJ l0 l1
      have ik := zx_b_int k
      refine zy_li rfl l1 ?_
      refine zy_ci (n := 2) (c := 56) rfl ?_
      refine zy_jt rfl (fun _ => at92 w' ls hJ l0) (fun h => ?_)
      have h : zx_b k < zx_b (Int32.ofNat 56) := h
      rw [show zx_b (Int32.ofNat 56) = 2147483704 by decide] at h
      omega
    | succ n ih =>
      intro k w' ls hn hk0 hJ l0 l1
      have ik := zx_b_int k
      obtain ⟨al, h49⟩ := tr_exA (k := 49) (l := 139) (n := 119) (s := tr_seg 139) hJ.1 hq rfl rfl
      obtain ⟨tn, h25⟩ := tr_exA (k := 25) (l := 117) (n := 112) (s := [(112, 2147483648, 2147483650)]) hJ.1 hq rfl rfl
      obtain ⟨bk, h39, b1, b2⟩ := tr_exI (k := 39) (lo := 2147483648) (hi := 2147483649) hJ.1 hq rfl
      have ibk := zx_b_int bk
      have e56 : (Int32.ofNat 56 * bk).toInt = 56 * bk.toInt := tr_mul (c := 56) (by decide) rfl (by omega) (by omega)
      have eix : (Int32.ofNat 56 * bk + k).toInt = 56 * bk.toInt + k.toInt := by rw [tr_add (by omega) (by omega), e56]
      have e7 : (Int32.ofNat 7 + k).toInt = 7 + k.toInt := by rw [tr_add (by omega) (by omega), z7]
      have eixn : (Int32.ofNat 56 * bk + k).toNatClampNeg = (Int32.ofNat 56 * bk + k).toInt.toNat := rfl
      have btn := tr_bd1 (l := 117) (n := 112) (lo := 2147483648) (hi := 2147483650) hJ.1 hq rfl rfl h25 (j := (Int32.ofNat 56 * bk + k).toInt.toNat) (by omega)
      refine zy_li rfl l1 ?_
      refine zy_ci (n := 2) (c := 56) rfl ?_
      refine zy_jt rfl (fun h => ?_) (fun _ => ?_)
      · have h : zx_b (Int32.ofNat 56) ≤ zx_b k := h
        rw [show zx_b (Int32.ofNat 56) = 2147483704 by decide] at h
        omega
      refine zy_la rfl l0 (Or.inl ⟨_, rfl⟩) ?_
      refine zy_gA rfl h49 (fun p hp hpt hlp => ?_)
      refine zy_ci (n := 2) (c := 7) rfl ?_
      refine zy_li rfl l1 ?_
      refine zy_add rfl ?_
      refine zy_la rfl l0 (Or.inl ⟨_, rfl⟩) ?_
      refine zy_gA rfl h25 (fun p2 hp2 hpt2 hlp2 => ?_)
      refine zy_ci (n := 2) (c := 56) rfl ?_
      refine zy_la rfl l0 (Or.inl ⟨_, rfl⟩) ?_
      refine zy_gI rfl h39 ?_
      refine zy_mul rfl ?_
      refine zy_li rfl l1 ?_
      refine zy_add rfl ?_
      refine zy_ld rfl hp2 (tr_in (by omega) (by omega)) ?_
      rw [eixn]
      refine zy_wS (k := 49) (n := 119) rfl hJ hq rfl tr_segA (by decide) hpt h49 (by omega) (by omega) tr_wr7 (by omega) (by omega) btn.1 btn.2 (by decide +kernel) ?_
      intro w2 hJ2 _ _
      refine zy_ik (k := 1) (n := 1) rfl l1 ?_
      refine zy_goto rfl ?_
      have ek : (k + Int32.ofNat 1).toInt = k.toInt + 1 := tm_inc tm_k1 (by omega)
      exact ih (k + Int32.ofNat 1) w2 _ (by omega) (by omega) hJ2 (zy_look_ne (by decide) rfl l0) zy_look_put
  have at21 : ∀ (w' : List zx_E) (ls : List (Nat × zx_V)), J w' → zx_look 0 ls = some (.inr (.inr (.inl q))) → WP (21, ls, [], w', 0, 0) := by
    intro w' ls hJ l0
    obtain ⟨al, h49⟩ := tr_exA (k := 49) (l := 139) (n := 119) (s := tr_seg 139) hJ.1 hq rfl rfl
    obtain ⟨dr, h16⟩ := tr_exA (k := 16) (l := 108) (n := 2) (s := [(2, 2147483648, 2147484647)]) hJ.1 hq rfl rfl
    obtain ⟨bk, h39, b1, b2⟩ := tr_exI (k := 39) (lo := 2147483648) (hi := 2147483649) hJ.1 hq rfl
    have ibk := zx_b_int bk
    have ebn : bk.toNatClampNeg = bk.toInt.toNat := rfl
    have bdr := tr_bd1 (l := 108) (n := 2) (lo := 2147483648) (hi := 2147484647) hJ.1 hq rfl rfl h16 (j := bk.toInt.toNat) (by omega)
    refine zy_la rfl l0 (Or.inl ⟨_, rfl⟩) ?_
    refine zy_gA rfl h49 (fun p hp hpt hlp => ?_)
    refine zy_ci (n := 1) (c := 1) rfl ?_
    refine zy_la rfl l0 (Or.inl ⟨_, rfl⟩) ?_
    refine zy_gA rfl h16 (fun p2 hp2 hpt2 hlp2 => ?_)
    refine zy_la rfl l0 (Or.inl ⟨_, rfl⟩) ?_
    refine zy_gI rfl h39 ?_
    refine zy_ld rfl hp2 (tr_in (by omega) (by omega)) ?_
    rw [ebn]
    refine zy_wS (k := 49) (n := 119) rfl hJ hq rfl tr_segA (by decide) hpt h49 (by decide) (by decide) tr_wr1 (by decide) (by decide) bdr.1 bdr.2 (by decide +kernel) ?_
    intro w2 hJ2 hfr2 _
    obtain ⟨al2, h492⟩ := tr_exA (k := 49) (l := 139) (n := 119) (s := tr_seg 139) hJ2.1 hq rfl rfl
    obtain ⟨hv, h11⟩ := tr_exA (k := 11) (l := 103) (n := 2) (s := [(2, 2147483648, 2147483656)]) hJ2.1 hq rfl rfl
    have h392 := te_fi hJ.1 hfr2 (d := ([(149, 39)], [])) (by decide +kernel) (by decide +kernel) h39
    refine zy_la rfl l0 (Or.inl ⟨_, rfl⟩) ?_
    refine zy_gA rfl h492 (fun p3 hp3 hpt3 hlp3 => ?_)
    refine zy_ci (n := 1) (c := 2) rfl ?_
    refine zy_ci (n := 1) (c := 1) rfl ?_
    refine zy_la rfl l0 (Or.inl ⟨_, rfl⟩) ?_
    refine zy_gA rfl h11 (fun p4 hp4 hpt4 hlp4 => ?_)
    refine zy_la rfl l0 (Or.inl ⟨_, rfl⟩) ?_
    refine zy_gI rfl h392 ?_
    refine zy_ld rfl hp4 (tr_in (by omega) (by omega)) ?_
    refine zy_shl rfl ?_
    refine zy_ci (n := 1) (c := 1) rfl ?_
    refine zy_sub rfl ?_
    generalize Int32.ofNat 1 <<< (hv bk.toNatClampNeg &&& 31) - Int32.ofNat 1 = x
    refine zy_wS (k := 49) (n := 119) rfl hJ2 hq rfl tr_segA (by decide) hpt3 h492 (by decide) (by decide) tr_wr2 (by decide) (by decide) (Nat.zero_le _) (by have := tj_b_lt x; omega) (by decide +kernel) ?_
    intro w3 hJ3 _ _
    refine zy_ci (n := 1) (c := 0) rfl ?_
    refine zy_si (k := 1) rfl ?_
    exact turns 56 (Int32.ofNat 0) w3 _ (by decide) (by decide) hJ3 (zy_look_ne (by decide) rfl l0) zy_look_put
  have clear : ∀ (n : Nat) (k : Int32) (w' : List zx_E) (ls : List (Nat × zx_V)), k.toInt + n = 119 → 0 ≤ k.toInt → J w' → zx_look 0 ls = some (.inr (.inr (.inl q))) → zx_look 1 ls = some (.inl k) → WP (2, ls, [], w', 0, 0) := by
    intro n
    induction n with
    | zero =>
      intro k w' ls hn hk0 hJ l0 l1
      have ik := zx_b_int k
      refine zy_li rfl l1 ?_
      refine zy_ci (n := 2) (c := 119) rfl ?_
      refine zy_jt rfl (fun _ => at21 w' ls hJ l0) (fun h => ?_)
      have h : zx_b k < zx_b (Int32.ofNat 119) := h
      rw [show zx_b (Int32.ofNat 119) = 2147483767 by decide] at h
      omega
    | succ n ih =>
      intro k w' ls hn hk0 hJ l0 l1
      have ik := zx_b_int k
      obtain ⟨al, h49⟩ := tr_exA (k := 49) (l := 139) (n := 119) (s := tr_seg 139) hJ.1 hq rfl rfl
      refine zy_li rfl l1 ?_
      refine zy_ci (n := 2) (c := 119) rfl ?_
      refine zy_jt rfl (fun h => ?_) (fun _ => ?_)
      · have h : zx_b (Int32.ofNat 119) ≤ zx_b k := h
        rw [show zx_b (Int32.ofNat 119) = 2147483767 by decide] at h
        omega
      refine zy_la rfl l0 (Or.inl ⟨_, rfl⟩) ?_
      refine zy_gA rfl h49 (fun p hp hpt hlp => ?_)
      refine zy_li rfl l1 ?_
      refine zy_ci (n := 1) (c := 0) rfl ?_
      refine zy_wS (k := 49) (n := 119) rfl hJ hq rfl tr_segA (by decide) hpt h49 hk0 (by omega) tr_wr0 (by omega) (by omega) (by decide) (by decide) (by decide +kernel) ?_
      intro w2 hJ2 _ _
      refine zy_ik (k := 1) (n := 1) rfl l1 ?_
      refine zy_goto rfl ?_
      have ek : (k + Int32.ofNat 1).toInt = k.toInt + 1 := tm_inc tm_k1 (by omega)
      exact ih (k + Int32.ofNat 1) w2 _ (by omega) (by omega) hJ2 (zy_look_ne (by decide) rfl l0) zy_look_put
  show WP (0, [(0, (.inr (.inr (.inl q))))], [], w, 0, 0)
  refine zy_ci (n := 1) (c := 0) rfl ?_
  refine zy_si (k := 1) rfl ?_
  exact clear 119 (Int32.ofNat 0) w _ (by decide) (by decide) (tm_W0 hw) rfl zy_look_put
