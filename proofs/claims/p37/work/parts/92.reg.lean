/-! by hand: readLine -/
def tr_Eln : tj_Ef := (tr_Ee.1, [146, 109, 110, 111, 112, 143, 103, 113, 144, 104, 147, 114, 115, 116, 117, 105, 107, 118, 119, 120, 121, 137, 138, 148, 106, 142, 108])
def tr_PL (q : Nat) (φ : Int) (bk rb : Int32) (Z : Nat → Nat → Int32) (w' : List zx_E) : Prop := ∃ (φ' : Int) (fk' : Int32), φ ≤ φ' ∧ (fk'.toInt = 0 → φ + 1 ≤ φ') ∧ tr_PS w' q φ' fk' bk rb 0 Z
set_option maxHeartbeats 4000000 in
set_option maxRecDepth 20000 in
theorem tr_readLine {Ψ : List Nat} {w : List zx_E} {q : Nat} {φ : Int} {fk bk rb : Int32} {Z : Nat → Nat → Int32} (hw : tj_wt tj_Lam Ψ w) (hq : Ψ[q]? = some 149) (hPS : tr_PS w q φ fk bk rb 0 Z) (hfk : fk.toInt = 0) : tr_Do 9 190 [(.inr (.inr (.inl q)))] tr_Eln Ψ w (fun a _ w' => a = none ∧ tr_PL q φ bk rb Z w') := by
  obtain ⟨fs, k0, -, -⟩ := tr_ob hw hq
  have hlq : q < w.length := (List.getElem?_eq_some_iff.mp k0).1
  obtain ⟨h4, hT, h40, hbb⟩ := tr_PS_4 hPS
  have hb := hbb
  unfold tr_bb at hb
  have irb := zx_b_int rb
  have enb : rb.toNatClampNeg = rb.toInt.toNat := rfl
  obtain ⟨tx, sz, en, at', tk, nm, hTV, eφ⟩ := hT
  obtain ⟨⟨t3, t7, t6, t8, t10, t1⟩, u1, u2, u3, u4, u5, u6, u7, u8⟩ := id hTV
  have itk := zx_b_int tk
  obtain ⟨hv, h11⟩ := tr_exA (k := 11) (l := 103) (n := 2) (s := [(2, 2147483648, 2147483656)]) hw hq rfl rfl
  obtain ⟨lk, h12⟩ := tr_exA (k := 12) (l := 104) (n := 2) (s := [(2, 2147483648, 2147483678)]) hw hq rfl rfl
  obtain ⟨pv, h13⟩ := tr_exA (k := 13) (l := 105) (n := 2) (s := [(2, 2147483648, 2147483652)]) hw hq rfl rfl
  obtain ⟨dv, h14⟩ := tr_exA (k := 14) (l := 106) (n := 2) (s := [(2, 2147483648, 2147483654)]) hw hq rfl rfl
  obtain ⟨bz, h28⟩ := tr_exY (k := 28) (kd := 2) (l := 142) (n := 2) (s := [(2, 2147483648, 2147483649)]) hw hq rfl rfl (Or.inl rfl)
  have b11 := tr_bd1 (l := 103) (n := 2) (lo := 2147483648) (hi := 2147483656) hw hq rfl rfl h11 (j := rb.toInt.toNat) (by omega)
  have b12 := tr_bd1 (l := 104) (n := 2) (lo := 2147483648) (hi := 2147483678) hw hq rfl rfl h12 (j := rb.toInt.toNat) (by omega)
  have b13 := tr_bd1 (l := 105) (n := 2) (lo := 2147483648) (hi := 2147483652) hw hq rfl rfl h13 (j := rb.toInt.toNat) (by omega)
  have b14 := tr_bd1 (l := 106) (n := 2) (lo := 2147483648) (hi := 2147483654) hw hq rfl rfl h14 (j := rb.toInt.toNat) (by omega)
  have i11 := zx_b_int (hv rb.toInt.toNat)
  have i12 := zx_b_int (lk rb.toInt.toNat)
  have i13 := zx_b_int (pv rb.toInt.toNat)
  have i14 := zx_b_int (dv rb.toInt.toNat)
  have z0 : (Int32.ofNat 0).toInt = 0 := by decide
  have z999 : (Int32.ofNat 999).toInt = 999 := by decide
  let P : Option zx_V → List Nat → List zx_E → Prop := fun a _ w' => a = none ∧ tr_PL q φ bk rb Z w'
  refine tr_meth (P := P) (d := 8) (dt := zx_d_X12_readLine) (by rw [← zx_q_X12_readLine]; rfl) (by rw [(by decide +kernel : zx_rc 190 = 13)]; exact ⟨q, _, fs, rfl, k0⟩) (by decide +kernel : 1 ≤ zx_mx' 190) ?_
  let WP : zx_S → Prop := fun σ => zx_wp (zx_Cl zx_mt zx_rc zx_mx' 8) none (tj_P tj_c1 w, tj_P tj_c2 w) (zx_find (zx_cT zx_d_X12_readLine)) (tr_end zx_d_X12_readLine tr_Eln Ψ w P) σ
  let J : List Nat → List zx_E → Nat → Nat → Prop := fun Ψ' w' mc ms => tj_W tj_Lam (tj_P tj_c1 w, tj_P tj_c2 w) tr_Eln Ψ w Ψ' w' mc ms
  have hls : zx_limP w.length (zx_putL 1 (.inr (.inl nm)) [(0, (.inr (.inr (.inl q))))]) = true := zy_limP_putL (tm_lim hlq rfl) rfl
  show WP (0, [(0, (.inr (.inr (.inl q))))], [], w, 0, 0)
  refine zy_la (k := 0) rfl rfl (Or.inl ⟨_, rfl⟩) ?_
  refine zy_gJ rfl t10 ?_
  refine zy_sj (k := 1) rfl ?_
  have l0 : zx_look 0 (zx_putL 1 (.inr (.inl nm)) [(0, (.inr (.inr (.inl q))))]) = some (.inr (.inr (.inl q))) := rfl
  have l1 : zx_look 1 (zx_putL 1 (.inr (.inl nm)) [(0, (.inr (.inr (.inl q))))]) = some (.inr (.inl nm)) := rfl
  generalize zx_putL 1 (.inr (.inl nm)) [(0, (.inr (.inr (.inl q))))] = ls at hls l0 l1 ⊢
  -- a fault
  have bad : WP (20, ls, [], w, 0, 0) := by
    refine zy_la rfl l0 (Or.inl ⟨_, rfl⟩) ?_
    refine zy_callD (tr_Do_le (tr_misplaced hw hq) (by decide)) (n := 1) (st := []) rfl rfl (Nat.zero_le _) hls rfl (tm_W0 (E := tr_Eln) hw) (by decide +kernel) (by decide +kernel) ?_
    intro a Ψ2 w2 mc2 ms2 hJ2 hle2 hfr2 hls2 hst2 hP
    obtain ⟨ea, fk2, h42', hne⟩ := hP
    subst ea
    obtain ⟨φ3, fk3, g1, g2, hPS3⟩ := tr_PS_tok hw hfr2 (by decide +kernel) hPS ⟨φ, fk2, tr_T_fr hw hfr2 (by decide +kernel) ⟨tx, sz, en, at', tk, nm, hTV, eφ⟩, Int.le_refl _, h42', fun h => absurd h hne⟩
    obtain ⟨x4, -, -, -⟩ := tr_PS_4 hPS3
    have e43 := tr_fi_eq x4 h42'
    obtain ⟨gv, hgv, hgv'⟩ := tr_isGoodK x4
    refine zy_la rfl l0 (Or.inl ⟨_, rfl⟩) ?_
    refine zy_callK (a := 0) (n := 1) (st := []) (zx_Cl_le (by decide) hgv) rfl rfl (Nat.le_of_ble_eq_true rfl) hls2 rfl (by have := hJ2.2.1; omega) (by have := hJ2.2.1; omega) ?_
    rcases hgv' with ⟨ev, hz⟩ | ⟨ev, hz⟩
    · exact absurd (by rw [← e43]; exact hz) hne
    · subst ev
      exact zy_j0 rfl (fun h => absurd tr_z0 h) (fun _ => tr_endN ⟨_, _, _, rfl⟩ hJ2 ⟨rfl, φ3, fk3, g1, fun h => absurd h hz, hPS3⟩)
  -- the end of the line
  have s7 : ∀ (Ψ' : List Nat) (w' : List zx_E) (mc ms : Nat) (φ' : Int) (fk' : Int32), J Ψ' w' mc ms → tr_PS w' q φ' fk' bk rb 0 Z → φ + 1 ≤ φ' → zx_limP w'.length ls = true → WP (131, ls, [], w', mc, ms) := by
    intro Ψ' w' mc ms φ' fk' hJ hPS' hφ hls'
    have hq1 := hJ.2.2.1 _ _ hq
    obtain ⟨fs', k0', -, -⟩ := tr_ob hJ.1 hq1
    have hlq1 : q < w'.length := (List.getElem?_eq_some_iff.mp k0').1
    obtain ⟨x4, xT, -, -⟩ := tr_PS_4 hPS'
    obtain ⟨tx', sz', en', at2, tk', nm', ⟨⟨s3, s7', s6, s8, s10, s1⟩, v1, v2, v3, v4, -⟩, -⟩ := id xT
    obtain ⟨y, hy, -⟩ := tr_isSignHereK (c := Int32.ofNat 59) s3 s1 s6 s8 v1 v4
    refine zy_la rfl l0 (Or.inl ⟨_, rfl⟩) ?_
    refine zy_la rfl l0 (Or.inl ⟨_, rfl⟩) ?_
    refine zy_ci (n := 2) (c := 59) rfl ?_
    refine zy_callK (a := 0) (n := 2) (st := [(.inr (.inr (.inl q)))]) (zx_Cl_le (by decide) hy) rfl rfl (Nat.le_of_ble_eq_true rfl) hls' (tr_lim1 hlq1 rfl) (by have := hJ.2.1; omega) (by have := hJ.2.1; omega) ?_
    refine zy_callD (tr_Do_le (tr_must (b := y) hJ.1 hq1 xT x4) (by decide)) (n := 2) (st := []) rfl rfl (Nat.zero_le _) hls' rfl hJ (by decide +kernel) (by decide +kernel) ?_
    intro a Ψ2 w2 mc2 ms2 hJ2 hle2 hfr2 hls2 hst2 hP
    obtain ⟨ea, hPT⟩ := hP
    subst ea
    obtain ⟨φ2, fk2, g1, g2, hPS2⟩ := tr_PS_tok hJ.1 hfr2 (by decide +kernel) hPS' hPT
    exact tr_endN ⟨_, _, _, rfl⟩ hJ2 ⟨rfl, φ2, fk2, by omega, fun _ => by omega, hPS2⟩
  have s6 : ∀ (Ψ' : List Nat) (w' : List zx_E) (mc ms : Nat) (φ' : Int) (fk' : Int32), J Ψ' w' mc ms → tr_PS w' q φ' fk' bk rb 0 Z → φ + 1 ≤ φ' → zx_limP w'.length ls = true → nm ≠ Int64.ofNat 1685217655 → WP (96, ls, [], w', mc, ms) := by
    intro Ψ' w' mc ms φ' fk' hJ hPS' hφ hls' n6
    refine zy_lj rfl l1 ?_
    refine zy_cj (n := 3) (c := 1685217655) rfl ?_
    refine zy_lcmp rfl ?_
    exact zy_j0 rfl (fun _ => s7 Ψ' w' mc ms φ' fk' hJ hPS' hφ hls' ) (fun h => absurd (tr_cmp_0 h) n6)
  have s5 : ∀ (Ψ' : List Nat) (w' : List zx_E) (mc ms : Nat) (φ' : Int) (fk' : Int32), J Ψ' w' mc ms → tr_PS w' q φ' fk' bk rb 0 Z → φ + 1 ≤ φ' → zx_limP w'.length ls = true → nm ≠ Int64.ofNat 112568784876914 → nm ≠ Int64.ofNat 1685217655 → WP (84, ls, [], w', mc, ms) := by
    intro Ψ' w' mc ms φ' fk' hJ hPS' hφ hls' n5 n6
    refine zy_lj rfl l1 ?_
    refine zy_cj (n := 3) (c := 112568784876914) rfl ?_
    refine zy_lcmp rfl ?_
    exact zy_j0 rfl (fun _ => s6 Ψ' w' mc ms φ' fk' hJ hPS' hφ hls' n6) (fun h => absurd (tr_cmp_0 h) n5)
  have s4 : ∀ (Ψ' : List Nat) (w' : List zx_E) (mc ms : Nat) (φ' : Int) (fk' : Int32), J Ψ' w' mc ms → tr_PS w' q φ' fk' bk rb 0 Z → φ + 1 ≤ φ' → zx_limP w'.length ls = true → nm ≠ Int64.ofNat 1684366692 → nm ≠ Int64.ofNat 112568784876914 → nm ≠ Int64.ofNat 1685217655 → WP (72, ls, [], w', mc, ms) := by
    intro Ψ' w' mc ms φ' fk' hJ hPS' hφ hls' n4 n5 n6
    refine zy_lj rfl l1 ?_
    refine zy_cj (n := 3) (c := 1684366692) rfl ?_
    refine zy_lcmp rfl ?_
    exact zy_j0 rfl (fun _ => s5 Ψ' w' mc ms φ' fk' hJ hPS' hφ hls' n5 n6) (fun h => absurd (tr_cmp_0 h) n4)
  have s3 : ∀ (Ψ' : List Nat) (w' : List zx_E) (mc ms : Nat) (φ' : Int) (fk' : Int32), J Ψ' w' mc ms → tr_PS w' q φ' fk' bk rb 0 Z → φ + 1 ≤ φ' → zx_limP w'.length ls = true → nm ≠ Int64.ofNat 123581014175598 → nm ≠ Int64.ofNat 1684366692 → nm ≠ Int64.ofNat 112568784876914 → nm ≠ Int64.ofNat 1685217655 → WP (60, ls, [], w', mc, ms) := by
    intro Ψ' w' mc ms φ' fk' hJ hPS' hφ hls' n3 n4 n5 n6
    refine zy_lj rfl l1 ?_
    refine zy_cj (n := 3) (c := 123581014175598) rfl ?_
    refine zy_lcmp rfl ?_
    exact zy_j0 rfl (fun _ => s4 Ψ' w' mc ms φ' fk' hJ hPS' hφ hls' n4 n5 n6) (fun h => absurd (tr_cmp_0 h) n3)
  have s2 : ∀ (Ψ' : List Nat) (w' : List zx_E) (mc ms : Nat) (φ' : Int) (fk' : Int32), J Ψ' w' mc ms → tr_PS w' q φ' fk' bk rb 0 Z → φ + 1 ≤ φ' → zx_limP w'.length ls = true → nm ≠ Int64.ofNat 1818848101 → nm ≠ Int64.ofNat 123581014175598 → nm ≠ Int64.ofNat 1684366692 → nm ≠ Int64.ofNat 112568784876914 → nm ≠ Int64.ofNat 1685217655 → WP (48, ls, [], w', mc, ms) := by
    intro Ψ' w' mc ms φ' fk' hJ hPS' hφ hls' n2 n3 n4 n5 n6
    refine zy_lj rfl l1 ?_
    refine zy_cj (n := 3) (c := 1818848101) rfl ?_
    refine zy_lcmp rfl ?_
    exact zy_j0 rfl (fun _ => s3 Ψ' w' mc ms φ' fk' hJ hPS' hφ hls' n3 n4 n5 n6) (fun h => absurd (tr_cmp_0 h) n2)
  have s1 : ∀ (Ψ' : List Nat) (w' : List zx_E) (mc ms : Nat) (φ' : Int) (fk' : Int32), J Ψ' w' mc ms → tr_PS w' q φ' fk' bk rb 0 Z → φ + 1 ≤ φ' → zx_limP w'.length ls = true → nm ≠ Int64.ofNat 1751215206 → nm ≠ Int64.ofNat 1818848101 → nm ≠ Int64.ofNat 123581014175598 → nm ≠ Int64.ofNat 1684366692 → nm ≠ Int64.ofNat 112568784876914 → nm ≠ Int64.ofNat 1685217655 → WP (36, ls, [], w', mc, ms) := by
    intro Ψ' w' mc ms φ' fk' hJ hPS' hφ hls' n1 n2 n3 n4 n5 n6
    refine zy_lj rfl l1 ?_
    refine zy_cj (n := 3) (c := 1751215206) rfl ?_
    refine zy_lcmp rfl ?_
    exact zy_j0 rfl (fun _ => s2 Ψ' w' mc ms φ' fk' hJ hPS' hφ hls' n2 n3 n4 n5 n6) (fun h => absurd (tr_cmp_0 h) n1)
  -- behind the first word
  have main : ∀ (Ψ1 : List Nat) (w1 : List zx_E) (mc1 ms1 : Nat) (φ1 : Int) (fk1 : Int32), J Ψ1 w1 mc1 ms1 → tr_PS w1 q φ1 fk1 bk rb 0 Z → φ + 1 ≤ φ1 → zx_limP w1.length ls = true → (nm = Int64.ofNat 1751215206 → ∀ hv, tj_fa w1 q 12 11 2 hv → (hv rb.toInt.toNat).toInt ≤ 7) → (nm = Int64.ofNat 1818848101 → ∀ hv, tj_fa w1 q 12 12 2 hv → (hv rb.toInt.toNat).toInt ≤ 29) → (nm = Int64.ofNat 123581014175598 → ∀ hv, tj_fa w1 q 12 13 2 hv → (hv rb.toInt.toNat).toInt ≤ 3) → (nm = Int64.ofNat 1684366692 → ∀ hv, tj_fa w1 q 12 14 2 hv → (hv rb.toInt.toNat).toInt ≤ 5) → WP (36, ls, [], w1, mc1, ms1) := by
    intro Ψ1 w1 mc1 ms1 φ1 fk1 hJ1 hPS1 hφ1 hls1 c1 c2 c3 c4
    have hq1 := hJ1.2.2.1 _ _ hq
    refine zy_lj rfl l1 ?_
    refine zy_cj (n := 3) (c := 1751215206) rfl ?_
    refine zy_lcmp rfl ?_
    refine zy_j0 rfl (fun _ => ?_) (fun h1 => ?_)
    rotate_left
    · have en1 : nm = Int64.ofNat 1751215206 := tr_cmp_0 h1
      refine zy_la rfl l0 (Or.inl ⟨_, rfl⟩) ?_
      refine zy_callD (tr_Do_le (tr_readHalf hJ1.1 hq1 hPS1 (c1 en1)) (by decide)) (n := 1) (st := []) rfl rfl (Nat.zero_le _) hls1 rfl hJ1 (by decide +kernel) (by decide +kernel) ?_
      intro a Ψ2 w2 mc2 ms2 hJ2 hle2 hfr2 hls2 hst2 hP
      obtain ⟨ea, φ2, fk2, g1, hPS2⟩ := hP
      subst ea
      exact s2 Ψ2 w2 mc2 ms2 φ2 fk2 hJ2 hPS2 (by omega) hls2 (by rw [en1]; decide) (by rw [en1]; decide) (by rw [en1]; decide) (by rw [en1]; decide) (by rw [en1]; decide)
    refine zy_lj rfl l1 ?_
    refine zy_cj (n := 3) (c := 1818848101) rfl ?_
    refine zy_lcmp rfl ?_
    refine zy_j0 rfl (fun _ => ?_) (fun h2 => ?_)
    rotate_left
    · have en2 : nm = Int64.ofNat 1818848101 := tr_cmp_0 h2
      refine zy_la rfl l0 (Or.inl ⟨_, rfl⟩) ?_
      refine zy_callD (tr_Do_le (tr_readLike hJ1.1 hq1 hPS1 (c2 en2)) (by decide)) (n := 1) (st := []) rfl rfl (Nat.zero_le _) hls1 rfl hJ1 (by decide +kernel) (by decide +kernel) ?_
      intro a Ψ2 w2 mc2 ms2 hJ2 hle2 hfr2 hls2 hst2 hP
      obtain ⟨ea, φ2, fk2, g1, hPS2⟩ := hP
      subst ea
      exact s3 Ψ2 w2 mc2 ms2 φ2 fk2 hJ2 hPS2 (by omega) hls2 (by rw [en2]; decide) (by rw [en2]; decide) (by rw [en2]; decide) (by rw [en2]; decide)
    refine zy_lj rfl l1 ?_
    refine zy_cj (n := 3) (c := 123581014175598) rfl ?_
    refine zy_lcmp rfl ?_
    refine zy_j0 rfl (fun _ => ?_) (fun h3 => ?_)
    rotate_left
    · have en3 : nm = Int64.ofNat 123581014175598 := tr_cmp_0 h3
      refine zy_la rfl l0 (Or.inl ⟨_, rfl⟩) ?_
      refine zy_callD (tr_Do_le (tr_readPerson hJ1.1 hq1 hPS1 (c3 en3)) (by decide)) (n := 1) (st := []) rfl rfl (Nat.zero_le _) hls1 rfl hJ1 (by decide +kernel) (by decide +kernel) ?_
      intro a Ψ2 w2 mc2 ms2 hJ2 hle2 hfr2 hls2 hst2 hP
      obtain ⟨ea, φ2, fk2, g1, hPS2⟩ := hP
      subst ea
      exact s4 Ψ2 w2 mc2 ms2 φ2 fk2 hJ2 hPS2 (by omega) hls2 (by rw [en3]; decide) (by rw [en3]; decide) (by rw [en3]; decide)
    refine zy_lj rfl l1 ?_
    refine zy_cj (n := 3) (c := 1684366692) rfl ?_
    refine zy_lcmp rfl ?_
    refine zy_j0 rfl (fun _ => ?_) (fun h4 => ?_)
    rotate_left
    · have en4 : nm = Int64.ofNat 1684366692 := tr_cmp_0 h4
      refine zy_la rfl l0 (Or.inl ⟨_, rfl⟩) ?_
      refine zy_callD (tr_Do_le (tr_readDeed hJ1.1 hq1 hPS1 (c4 en4)) (by decide)) (n := 1) (st := []) rfl rfl (Nat.zero_le _) hls1 rfl hJ1 (by decide +kernel) (by decide +kernel) ?_
      intro a Ψ2 w2 mc2 ms2 hJ2 hle2 hfr2 hls2 hst2 hP
      obtain ⟨ea, φ2, fk2, g1, hPS2⟩ := hP
      subst ea
      exact s5 Ψ2 w2 mc2 ms2 φ2 fk2 hJ2 hPS2 (by omega) hls2 (by rw [en4]; decide) (by rw [en4]; decide)
    refine zy_lj rfl l1 ?_
    refine zy_cj (n := 3) (c := 112568784876914) rfl ?_
    refine zy_lcmp rfl ?_
    refine zy_j0 rfl (fun _ => ?_) (fun h5 => ?_)
    rotate_left
    · have en5 : nm = Int64.ofNat 112568784876914 := tr_cmp_0 h5
      refine zy_la rfl l0 (Or.inl ⟨_, rfl⟩) ?_
      refine zy_callD (tr_Do_le (tr_readFavour hJ1.1 hq1 hPS1) (by decide)) (n := 1) (st := []) rfl rfl (Nat.zero_le _) hls1 rfl hJ1 (by decide +kernel) (by decide +kernel) ?_
      intro a Ψ2 w2 mc2 ms2 hJ2 hle2 hfr2 hls2 hst2 hP
      obtain ⟨ea, φ2, fk2, g1, hPS2⟩ := hP
      subst ea
      exact s6 Ψ2 w2 mc2 ms2 φ2 fk2 hJ2 hPS2 (by omega) hls2 (by rw [en5]; decide)
    refine zy_lj rfl l1 ?_
    refine zy_cj (n := 3) (c := 1685217655) rfl ?_
    refine zy_lcmp rfl ?_
    refine zy_j0 rfl (fun _ => ?_) (fun h6 => ?_)
    rotate_left
    · have en6 : nm = Int64.ofNat 1685217655 := tr_cmp_0 h6
      obtain ⟨x4, xT, x40, -⟩ := tr_PS_4 hPS1
      obtain ⟨bz1, h281⟩ := tr_exY (k := 28) (kd := 2) (l := 142) (n := 2) (s := [(2, 2147483648, 2147483649)]) hJ1.1 hq1 rfl rfl (Or.inl rfl)
      refine zy_la rfl l0 (Or.inl ⟨_, rfl⟩) ?_
      refine zy_gY rfl h281 (fun p hp hpt hlp => ?_)
      refine zy_la rfl l0 (Or.inl ⟨_, rfl⟩) ?_
      refine zy_gI rfl x40 ?_
      refine zy_ci (n := 1) (c := 1) rfl ?_
      refine zy_wZ (k := 28) (n := 2) rfl hJ1 hq1 rfl rfl (by decide) hpt h281 (by omega) (by omega) (by decide +kernel) ?_
      intro w2 hJ2 hfr2 hl2
      have hPS2 := tr_PS_fr hJ1.1 hfr2 (by decide +kernel) hPS1
      obtain ⟨y4, yT, y40, -⟩ := tr_PS_4 hPS2
      obtain ⟨dr, h16⟩ := tr_exA (k := 16) (l := 108) (n := 2) (s := [(2, 2147483648, 2147484647)]) hJ2.1 hq1 rfl rfl
      have hls2 : zx_limP w2.length ls = true := by rw [hl2]; exact hls1
      refine zy_la rfl l0 (Or.inl ⟨_, rfl⟩) ?_
      refine zy_gA rfl h16 (fun p2 hp2 hpt2 hlp2 => ?_)
      refine zy_la rfl l0 (Or.inl ⟨_, rfl⟩) ?_
      refine zy_gI rfl y40 ?_
      refine zy_la rfl l0 (Or.inl ⟨_, rfl⟩) ?_
      refine zy_ci (n := 1) (c := 0) rfl ?_
      refine zy_ci (n := 3) (c := 999) rfl ?_
      refine zy_callD (tr_Do_le (tr_numeral (lo := Int32.ofNat 0) (hi := Int32.ofNat 999) hJ2.1 hq1 yT y4) (by decide)) (n := 3) (st := [(.inl rb), (.inr (.inr (.inl p2)))]) rfl rfl (Nat.le_of_ble_eq_true rfl) hls2 (tr_lim2 (tr_lim1 hlp2 rfl)) hJ2 (by decide +kernel) (by decide +kernel) ?_
      intro a Ψ3 w3 mc3 ms3 hJ3 hle3 hfr3 hls3 hst3 hP
      obtain ⟨⟨v, ea, hv'⟩, hPT⟩ := hP
      subst ea
      obtain ⟨φ3, fk3, g1, g2, hPS3⟩ := tr_PS_tok hJ2.1 hfr3 (by decide +kernel) hPS2 hPT
      have hv9 := tr_09 (a := 0) (b := 999) hv' (by omega) (by omega) (by omega)
      have iv := zx_b_int v
      have hq3 := hle3 _ _ hq1
      have h163 := te_fa hJ2.1 hfr3 (d := ([(149, 16)], [108])) (by decide +kernel) (by decide +kernel) h16
      refine zy_wA (k := 16) (n := 2) (lo := 2147483648) (hi := 2147484647) rfl hJ3 hq3 rfl rfl (by decide) (tr_pt_fr hJ2.1 hfr3 (d := ([(149, 16)], [])) (by decide +kernel) (by decide +kernel) hpt2) h163 (by omega) (by omega) (by omega) (by omega) (by decide +kernel) ?_
      intro w4 hJ4 hfr4 hl4 _
      exact s7 Ψ3 w4 mc3 ms3 φ3 fk3 hJ4 (tr_PS_fr hJ3.1 hfr4 (by decide +kernel) hPS3) (by omega) (by rw [hl4]; exact hls3)
    exact s7 Ψ1 w1 mc1 ms1 φ1 fk1 hJ1 hPS1 hφ1 hls1
  refine zy_la rfl l0 (Or.inl ⟨_, rfl⟩) ?_
  refine zy_gI rfl t8 ?_
  refine zy_ci (n := 1) (c := 3) rfl ?_
  refine zy_jt rfl (fun _ => bad) (fun htk => ?_)
  have htk : zx_b tk = zx_b (Int32.ofNat 3) := htk
  rw [show zx_b (Int32.ofNat 3) = 2147483651 by decide] at htk
  have hLW : tr_LW tk := Or.inr (by omega)
  obtain ⟨fu, hfu, hfu'⟩ := tr_isFullK t8 t10 h40 h11 h12 h13 h14 h28 (by omega)
  refine zy_la rfl l0 (Or.inl ⟨_, rfl⟩) ?_
  refine zy_callK (a := 0) (n := 1) (st := []) (zx_Cl_le (by decide) hfu) rfl rfl (Nat.le_of_ble_eq_true rfl) hls rfl (Nat.zero_le _) (Nat.zero_le _) ?_
  rcases hfu' with ⟨efu, -, f1, f2, f3, f4⟩ | efu
  rotate_left
  · subst efu
    exact zy_j0 rfl (fun h => absurd h tr_no1) (fun _ => bad)
  subst efu
  refine zy_j0 rfl (fun _ => ?_) (fun h => absurd tr_z0 h)
  obtain ⟨gv, hgv, hgv'⟩ := tr_isGoodK h4
  refine zy_la rfl l0 (Or.inl ⟨_, rfl⟩) ?_
  refine zy_callK (a := 0) (n := 1) (st := []) (zx_Cl_le (by decide) hgv) rfl rfl (Nat.le_of_ble_eq_true rfl) hls rfl (Nat.zero_le _) (Nat.zero_le _) ?_
  rcases hgv' with ⟨ev, hz⟩ | ⟨ev, hz⟩
  rotate_left
  · exact absurd hfk hz
  subst ev
  refine zy_j0 rfl (fun _ => ?_) (fun h => absurd h tr_no1)
  refine zy_la rfl l0 (Or.inl ⟨_, rfl⟩) ?_
  refine zy_callD (tr_Do_le (tr_goOnV hw hq hTV) (by decide)) (n := 1) (st := []) rfl rfl (Nat.zero_le _) hls rfl (tm_W0 (E := tr_Eln) hw) (by decide +kernel) (by decide +kernel) ?_
  intro a Ψ1 w1 mc1 ms1 hJ1 hle1 hfr1 hls1 hst1 hP
  obtain ⟨ea, en', at2, tk', nm', hV, hle, hlw, -⟩ := hP
  subst ea
  have hlw' := hlw hLW
  obtain ⟨φ1, fk1, g1, g2, hPS1⟩ := tr_PS_tok hw hfr1 (by decide +kernel) hPS ⟨tr_ph at2 tk', fk, ⟨tx, sz, en', at2, tk', nm', hV, rfl⟩, by omega, te_fi hw hfr1 (d := ([(149, 4)], [])) (by decide +kernel) (by decide +kernel) h4, fun h => h⟩
  obtain ⟨-, ⟨tx5, sz5, en5, at5, tk5, nm5, hTV5, e5⟩, -, -⟩ := tr_PS_4 hPS1
  have e6 : φ1 = tr_ph at2 tk' := by
    rw [e5]
    have a1 := tr_fi_eq hTV5.1.2.2.1 hV.1.2.2.1
    have a2 := tr_fi_eq hTV5.1.2.2.2.1 hV.1.2.2.2.1
    rw [a1, a2]
  refine main Ψ1 w1 mc1 ms1 φ1 fk1 hJ1 hPS1 (by omega) hls1 (fun e x hx => ?_) (fun e x hx => ?_) (fun e x hx => ?_) (fun e x hx => ?_)
  · rw [tr_fa_eq hx (te_fa hw hfr1 (d := ([(149, 11)], [103])) (by decide +kernel) (by decide +kernel) h11)]
    have := f1 e
    omega
  · rw [tr_fa_eq hx (te_fa hw hfr1 (d := ([(149, 12)], [104])) (by decide +kernel) (by decide +kernel) h12)]
    have := f2 e
    omega
  · rw [tr_fa_eq hx (te_fa hw hfr1 (d := ([(149, 13)], [105])) (by decide +kernel) (by decide +kernel) h13)]
    have := f3 e
    omega
  · rw [tr_fa_eq hx (te_fa hw hfr1 (d := ([(149, 14)], [106])) (by decide +kernel) (by decide +kernel) h14)]
    have := f4 e
    omega
