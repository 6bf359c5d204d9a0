/-! by hand: goOn, must, numeral, after, fresh, known -/
def tr_LW (tk : Int32) : Prop := tk.toInt = 2 ∨ tk.toInt = 3
/-- what is known of a token -/
def tr_ti (tx : Nat → Int32) (sz en at' tk : Int32) (nm : Int64) : Prop := 0 ≤ at'.toInt ∧ at'.toInt ≤ en.toInt ∧ en.toInt ≤ sz.toInt ∧ sz.toInt ≤ 1600 ∧ (tk.toInt ≠ 0 → at'.toInt < en.toInt) ∧ (tr_LW tk → ¬ tr_lt (tr_sg tx sz en)) ∧ (tk.toInt = 3 → nm = Int64.ofNat 7237492 → at'.toInt + 3 ≤ en.toInt) ∧ (tk.toInt = 0 → at'.toInt = sz.toInt)
def tr_V (w : List zx_E) (q : Nat) (tx : Nat → Int32) (sz en at' tk : Int32) (nm : Int64) : Prop := tj_fi w q 12 3 sz ∧ tj_fi w q 12 7 en ∧ tj_fi w q 12 6 at' ∧ tj_fi w q 12 8 tk ∧ tr_fj w q 10 nm ∧ tr_fy 3 w q 1 1600 tx
def tr_EG : tj_Ef := ([(149, 6), (149, 7), (149, 8), (149, 9), (149, 10)], [])
theorem tr_nm0 {v : Int64} {c : Int32} {j : Nat} (hv : v.toBitVec.toNat < 2 ^ (8 * j)) (hc : 0 ≤ c.toInt ∧ c.toInt ≤ 255) (hj : j ≤ 1) : ((v <<< ((Int32.ofNat 8).toInt64 &&& 63)) ||| c.toInt64).toBitVec.toNat < 2 ^ (8 * (j + 1)) := by
  have e : ((Int32.ofNat 8).toInt64 &&& 63) = (8 : Int64) := by decide
  rw [e]
  have e2 : ((v <<< (8 : Int64)) ||| c.toInt64).toBitVec = (v.toBitVec <<< (8 : Nat)) ||| c.toInt64.toBitVec := rfl
  rw [e2, BitVec.toNat_or, BitVec.toNat_shiftLeft]
  have hc2 : c.toInt64.toBitVec.toNat = c.toInt.toNat := by
    have h1 : c.toInt64.toInt = c.toInt := Int32.toInt_toInt64 c
    have h2 : c.toInt64.toInt = c.toInt64.toBitVec.toInt := rfl
    rw [h2, BitVec.toInt_eq_toNat_cond] at h1
    have hlt := c.toInt64.toBitVec.isLt
    split at h1 <;> omega
  refine Nat.or_lt_two_pow ?_ ?_
  · rw [Nat.shiftLeft_eq]
    refine Nat.lt_of_le_of_lt (Nat.mod_le _ _) ?_
    rw [show 8 * (j + 1) = 8 * j + 8 by omega, Nat.pow_add]
    exact Nat.mul_lt_mul_of_pos_right hv (by decide)
  · rw [hc2]
    have : 2 ^ 8 ≤ 2 ^ (8 * (j + 1)) := Nat.pow_le_pow_right (by decide) (by omega)
    have e8 : (2 : Nat) ^ 8 = 256 := by decide
    omega
theorem zy_lor {K : zx_K} {X : zx_X} {cap : Nat × Nat} {tab : Nat → Option zx_Q} {Q : zx_S → Prop} {pc mc ms : Nat} {ls : List (Nat × zx_V)} {st : List zx_V} {w : List zx_E} {x y : Int64} (ht : tab pc = some zx_o_lor) (kk : zx_wp K X cap tab Q (pc + 1, ls, (.inr (.inl (x ||| y))) :: st, w, mc, ms)) : zx_wp K X cap tab Q (pc, ls, (.inr (.inl y)) :: (.inr (.inl x)) :: st, w, mc, ms) := zx_wp_pure (μ := (pc + 1, ls, (.inr (.inl (x ||| y))) :: st, w, mc, ms)) ht rfl kk
theorem zy_lshl {K : zx_K} {X : zx_X} {cap : Nat × Nat} {tab : Nat → Option zx_Q} {Q : zx_S → Prop} {pc mc ms : Nat} {ls : List (Nat × zx_V)} {st : List zx_V} {w : List zx_E} {x : Int64} {y : Int32} (ht : tab pc = some zx_o_lshl) (kk : zx_wp K X cap tab Q (pc + 1, ls, (.inr (.inl (x <<< (y.toInt64 &&& 63)))) :: st, w, mc, ms)) : zx_wp K X cap tab Q (pc, ls, (.inl y) :: (.inr (.inl x)) :: st, w, mc, ms) := zx_wp_pure (μ := (pc + 1, ls, (.inr (.inl (x <<< (y.toInt64 &&& 63)))) :: st, w, mc, ms)) ht rfl kk
set_option maxRecDepth 20000 in
theorem tr_goOn {Ψ : List Nat} {w : List zx_E} {q : Nat} {sz en : Int32} {tx : Nat → Int32} (hw : tj_wt tj_Lam Ψ w) (hq : Ψ[q]? = some 149) (h3 : tj_fi w q 12 3 sz) (h7 : tj_fi w q 12 7 en) (h1 : tr_fy 3 w q 1 1600 tx) (he : en.toInt ≤ sz.toInt) : tr_Do 3 123 [(.inr (.inr (.inl q)))] tr_EG Ψ w (fun a _ w' => a = none ∧ ∃ (en' at' tk' : Int32) (nm' : Int64), tr_V w' q tx sz en' at' tk' nm' ∧ tr_ti tx sz en' at' tk' nm' ∧ en.toInt ≤ at'.toInt ∧ (tr_LW tk' → ¬ tr_lt (tr_sg tx sz en) → en.toInt + 1 ≤ at'.toInt)) := by
  obtain ⟨fs, k0, -, -⟩ := tr_ob hw hq
  have hlq : q < w.length := (List.getElem?_eq_some_iff.mp k0).1
  have bsz := tr_bdI (lo := 2147483648) (hi := 2147485248) hw hq rfl h3
  have ben := tr_bdI (lo := 2147483648) (hi := 2147485249) hw hq rfl h7
  have isz := zx_b_int sz
  have ien := zx_b_int en
  have hs : sz.toInt ≤ 1600 := by omega
  have e1 : (Int32.ofNat 1).toInt = 1 := by decide
  have e8 : (Int32.ofNat 8).toInt = 8 := by decide
  let P : Option zx_V → List Nat → List zx_E → Prop := fun a _ w' => a = none ∧ ∃ (en' at' tk' : Int32) (nm' : Int64), tr_V w' q tx sz en' at' tk' nm' ∧ tr_ti tx sz en' at' tk' nm' ∧ en.toInt ≤ at'.toInt ∧ (tr_LW tk' → ¬ tr_lt (tr_sg tx sz en) → en.toInt + 1 ≤ at'.toInt)
  refine tr_meth (P := P) (d := 2) (dt := zx_d_X12_goOn) (by rw [← zx_q_X12_goOn]; rfl) (by rw [(by decide +kernel : zx_rc 123 = 13)]; exact ⟨q, _, fs, rfl, k0⟩) (by decide +kernel : 1 ≤ zx_mx' 123) ?_
  let WP : zx_S → Prop := fun σ => zx_wp (zx_Cl zx_mt zx_rc zx_mx' 2) none (tj_P tj_c1 w, tj_P tj_c2 w) (zx_find (zx_cT zx_d_X12_goOn)) (tr_end zx_d_X12_goOn tr_EG Ψ w P) σ
  let J : List zx_E → Prop := fun w' => tj_W tj_Lam (tj_P tj_c1 w, tj_P tj_c2 w) tr_EG Ψ w Ψ w' 0 0
  let S : List zx_E → Int32 → Int32 → Prop := fun w' a e => tj_fi w' q 12 3 sz ∧ tr_fy 3 w' q 1 1600 tx ∧ tj_fi w' q 12 6 a ∧ tj_fi w' q 12 7 e ∧ w'.length = w.length
  have Sfr : ∀ {w1 w2 : List zx_E} {a e : Int32} {f : tj_Ef}, J w1 → tj_fr f Ψ w1 w2 → w2.length = w1.length → tj_dj ([(149, 3), (149, 1), (149, 6), (149, 7)], [102]) f = true → S w1 a e → S w2 a e := fun hJ hfr hl hd h => ⟨te_fi hJ.1 hfr hd (by decide +kernel) h.1, tr_fy_fr hJ.1 hfr hd (by decide +kernel) h.2.1, te_fi hJ.1 hfr hd (by decide +kernel) h.2.2.1, te_fi hJ.1 hfr hd (by decide +kernel) h.2.2.2.1, hl.trans h.2.2.2.2⟩
  have Sat : ∀ {w1 w2 : List zx_E} {a a' e : Int32}, J w1 → tj_fr ([(149, 6)], []) Ψ w1 w2 → w2.length = w1.length → tj_fi w2 q 12 6 a' → S w1 a e → S w2 a' e := fun hJ hfr hl hx h => ⟨te_fi hJ.1 hfr (d := ([(149, 3)], [])) (by decide +kernel) (by decide +kernel) h.1, tr_fy_fr hJ.1 hfr (d := ([(149, 1)], [102])) (by decide +kernel) (by decide +kernel) h.2.1, hx, te_fi hJ.1 hfr (d := ([(149, 7)], [])) (by decide +kernel) (by decide +kernel) h.2.2.2.1, hl.trans h.2.2.2.2⟩
  have Sen : ∀ {w1 w2 : List zx_E} {a e e' : Int32}, J w1 → tj_fr ([(149, 7)], []) Ψ w1 w2 → w2.length = w1.length → tj_fi w2 q 12 7 e' → S w1 a e → S w2 a e' := fun hJ hfr hl hx h => ⟨te_fi hJ.1 hfr (d := ([(149, 3)], [])) (by decide +kernel) (by decide +kernel) h.1, tr_fy_fr hJ.1 hfr (d := ([(149, 1)], [102])) (by decide +kernel) (by decide +kernel) h.2.1, te_fi hJ.1 hfr (d := ([(149, 6)], [])) (by decide +kernel) (by decide +kernel) h.2.2.1, hx, hl.trans h.2.2.2.2⟩
  have hsgsz : ∀ {e : Int32}, sz.toInt ≤ e.toInt → tr_sg tx sz e = Int32.ofNat 0 := fun {e} h => by
    unfold tr_sg
    rw [if_neg (by omega)]
  -- the end
  have fin : ∀ (w' : List zx_E) (a e tk : Int32) (nm : Int64) (ls : List (Nat × zx_V)), J w' → S w' a e → tj_fi w' q 12 8 tk → tr_fj w' q 10 nm → tr_ti tx sz e a tk nm → en.toInt ≤ a.toInt → (tr_LW tk → ¬ tr_lt (tr_sg tx sz en) → en.toInt + 1 ≤ a.toInt) → WP (377, ls, [], w', 0, 0) := by
    intro w' a e tk nm ls hJ hS h8 h10 hti ha hlw
    exact tr_endN ⟨_, _, _, rfl⟩ hJ ⟨rfl, e, a, tk, nm, ⟨hS.1, hS.2.2.2.1, hS.2.2.1, h8, h10, hS.2.1⟩, hti, ha, hlw⟩
  -- a token laid down
  have tok : ∀ (pc : Nat) (w' : List zx_E) (a e tk : Int32) (nm : Int64) (ls : List (Nat × zx_V)), zx_find (zx_cT zx_d_X12_goOn) pc = some (zx_pk 12 8 0) → (∀ ls' w'', J w'' → S w'' a e → tj_fi w'' q 12 8 tk → tr_fj w'' q 10 nm → WP (pc + 3, ls', [], w'', 0, 0)) → J w' → S w' a e → tr_fj w' q 10 nm → WP (pc, ls, [(.inl tk), (.inr (.inr (.inl q)))], w', 0, 0) := by
    intro pc w' a e tk nm ls ht hk hJ hS h10
    refine zy_wI (lo := 0) (hi := 4294967295) ht hJ hq rfl (Nat.zero_le _) (by have := tj_b_lt tk; omega) rfl (by decide +kernel) ?_
    intro w2 hJ2 hfr hl h8
    exact hk ls w2 hJ2 (Sfr hJ hfr hl (by decide +kernel) hS) h8 (tr_fj_fr hJ.1 hfr (d := ([(149, 10)], [])) (by decide +kernel) (by decide +kernel) h10)
  -- the end of the text
  have tok0 : ∀ (w1 : List zx_E) (a e : Int32) (nm : Int64) (ls : List (Nat × zx_V)), a = sz → en.toInt ≤ a.toInt → J w1 → S w1 a e → tr_fj w1 q 10 nm → zx_look 0 ls = some (.inr (.inr (.inl q))) → WP (90, ls, [(.inl (Int32.ofNat 0)), (.inr (.inr (.inl q)))], w1, 0, 0) := by
    intro w1 a e nm ls hasz ha hJ1 hS1 h10 m0
    refine zy_wI (k := 8) (lo := 0) (hi := 4294967295) rfl hJ1 hq rfl (Nat.zero_le _) (by decide) rfl (by decide +kernel) ?_
    intro w2 hJ2 hfr2 hl2 h82
    have hS2 := Sfr hJ1 hfr2 hl2 (by decide +kernel) hS1
    have h102 := tr_fj_fr hJ1.1 hfr2 (d := ([(149, 10)], [])) (by decide +kernel) (by decide +kernel) h10
    refine zy_la rfl m0 (Or.inl ⟨_, rfl⟩) ?_
    refine zy_la rfl m0 (Or.inl ⟨_, rfl⟩) ?_
    refine zy_gI rfl hS2.1 ?_
    refine zy_wI (k := 6) (lo := 2147483648) (hi := 2147485248) rfl hJ2 hq rfl (by omega) (by omega) rfl (by decide +kernel) ?_
    intro w3 hJ3 hfr3 hl3 h63
    have hS3 := Sat hJ2 hfr3 hl3 h63 hS2
    have h103 := tr_fj_fr hJ2.1 hfr3 (d := ([(149, 10)], [])) (by decide +kernel) (by decide +kernel) h102
    have h83 := te_fi hJ2.1 hfr3 (d := ([(149, 8)], [])) (by decide +kernel) (by decide +kernel) h82
    refine zy_la rfl m0 (Or.inl ⟨_, rfl⟩) ?_
    refine zy_la rfl m0 (Or.inl ⟨_, rfl⟩) ?_
    refine zy_gI rfl hS3.1 ?_
    refine zy_wI (k := 7) (lo := 2147483648) (hi := 2147485249) rfl hJ3 hq rfl (by omega) (by omega) rfl (by decide +kernel) ?_
    intro w4 hJ4 hfr4 hl4 h74
    have hS4 := Sen hJ3 hfr4 hl4 h74 hS3
    have h104 := tr_fj_fr hJ3.1 hfr4 (d := ([(149, 10)], [])) (by decide +kernel) (by decide +kernel) h103
    have h84 := te_fi hJ3.1 hfr4 (d := ([(149, 8)], [])) (by decide +kernel) (by decide +kernel) h83
    have z0 : (Int32.ofNat 0).toInt = 0 := by decide
    refine zy_goto rfl ?_
    exact fin w4 sz sz (Int32.ofNat 0) nm ls hJ4 hS4 h84 h104 ⟨by omega, Int.le_refl _, Int.le_refl _, hs, fun h => absurd z0 h, fun h => by unfold tr_LW at h; omega, fun h => by omega, fun _ => rfl⟩ (by omega) (fun h => by unfold tr_LW at h; omega)
  -- behind the letters
  have at199 : ∀ (w' : List zx_E) (a e : Int32) (nm : Int64) (ls : List (Nat × zx_V)), a.toInt + 1 ≤ e.toInt → e.toInt ≤ sz.toInt → en.toInt ≤ a.toInt → (¬ tr_lt (tr_sg tx sz en) → en.toInt + 1 ≤ a.toInt) → ¬ tr_lt (tr_sg tx sz e) → (e.toInt ≤ a.toInt + 2 → nm.toBitVec.toNat < 65536) → J w' → S w' a e → tr_fj w' q 10 nm → zx_limP w.length ls = true → zx_look 0 ls = some (.inr (.inr (.inl q))) → WP (199, ls, [], w', 0, 0) := by
    intro w' a e nm ls hae hes ha hno hnl hnm hJ hS h10 hls l0
    have hls' : zx_limP w'.length ls = true := by rw [hS.2.2.2.2]; exact hls
    have hlq1 : q < w'.length := by rw [hS.2.2.2.2]; exact hlq
    have last : ∀ tk : Int32, tk.toInt = 1 ∨ tk.toInt = 2 ∨ tk.toInt = 3 → WP (233, ls, [(.inl tk), (.inr (.inr (.inl q)))], w', 0, 0) := fun tk htk => tok 233 w' a e tk nm ls rfl (fun ls2 w2 hJ2 hS2 h82 h102 => by
      refine zy_goto rfl ?_
      refine fin w2 a e tk nm ls2 hJ2 hS2 h82 h102 ⟨by omega, by omega, by omega, hs, fun _ => by omega, fun _ => hnl, fun _ hN => ?_, fun h => by omega⟩ ha (fun _ h => hno h)
      refine Classical.byContradiction (fun hn => ?_)
      have h5 := hnm (by omega)
      rw [hN] at h5
      exact absurd h5 (by decide)) hJ hS h10
    refine zy_la rfl l0 (Or.inl ⟨_, rfl⟩) ?_
    refine zy_la rfl l0 (Or.inl ⟨_, rfl⟩) ?_
    refine zy_gI rfl hS.2.2.2.1 ?_
    refine zy_la rfl l0 (Or.inl ⟨_, rfl⟩) ?_
    refine zy_gI rfl hS.2.2.1 ?_
    refine zy_sub rfl ?_
    refine zy_ci (n := 2) (c := 8) rfl ?_
    refine zy_jt rfl (fun _ => ?_) (fun _ => ?_)
    · obtain ⟨u, hu, hu'⟩ := tr_isKeptK (w := w') (x := nm)
      refine zy_la rfl l0 (Or.inl ⟨_, rfl⟩) ?_
      refine zy_gJ rfl h10 ?_
      refine zy_callK (a := 0) (n := 1) (st := [(.inr (.inr (.inl q)))]) (zx_Cl_le (by decide) hu) rfl rfl (Nat.le_of_ble_eq_true rfl) hls' (tr_lim1 hlq1 rfl) (Nat.zero_le _) (Nat.zero_le _) ?_
      refine zy_j0 rfl (fun _ => ?_) (fun _ => ?_)
      · refine zy_ci (n := 1) (c := 2) rfl ?_
        exact last _ (Or.inr (Or.inl (by decide)))
      · refine zy_ci (n := 1) (c := 3) rfl ?_
        refine zy_goto rfl ?_
        exact last _ (Or.inr (Or.inr (by decide)))
    · refine zy_ci (n := 1) (c := 1) rfl ?_
      refine zy_goto rfl ?_
      exact last _ (Or.inl (by decide))
  -- the name put together
  have names : ∀ (n : Nat) (k a e : Int32) (nm : Int64) (w' : List zx_E) (ls : List (Nat × zx_V)), k.toInt + n = a.toInt + 8 → a.toInt ≤ k.toInt → k.toInt ≤ e.toInt → (k.toInt ≤ a.toInt + 2 → nm.toBitVec.toNat < 2 ^ (8 * (k.toInt - a.toInt).toNat)) → a.toInt + 1 ≤ e.toInt → e.toInt ≤ sz.toInt → en.toInt ≤ a.toInt → (¬ tr_lt (tr_sg tx sz en) → en.toInt + 1 ≤ a.toInt) → ¬ tr_lt (tr_sg tx sz e) → J w' → S w' a e → tr_fj w' q 10 nm → zx_limP w.length ls = true → zx_look 0 ls = some (.inr (.inr (.inl q))) → zx_look 2 ls = some (.inl k) → WP (156, ls, [], w', 0, 0) := by
    intro n
    have out : ∀ (k a e : Int32) (nm : Int64) (w' : List zx_E) (ls : List (Nat × zx_V)), (k.toInt = e.toInt ∨ k.toInt = a.toInt + 8) → a.toInt ≤ k.toInt → k.toInt ≤ e.toInt → (k.toInt ≤ a.toInt + 2 → nm.toBitVec.toNat < 2 ^ (8 * (k.toInt - a.toInt).toNat)) → a.toInt + 1 ≤ e.toInt → e.toInt ≤ sz.toInt → en.toInt ≤ a.toInt → (¬ tr_lt (tr_sg tx sz en) → en.toInt + 1 ≤ a.toInt) → ¬ tr_lt (tr_sg tx sz e) → J w' → S w' a e → tr_fj w' q 10 nm → zx_limP w.length ls = true → zx_look 0 ls = some (.inr (.inr (.inl q))) → WP (199, ls, [], w', 0, 0) := by
      intro k a e nm w' ls hk hak hke hnm hae hes ha hno hnl hJ hS h10 hls l0
      refine at199 w' a e nm ls hae hes ha hno hnl (fun h => ?_) hJ hS h10 hls l0
      have h1 := hnm (by omega)
      have h2 : 2 ^ (8 * (k.toInt - a.toInt).toNat) ≤ 2 ^ 16 := Nat.pow_le_pow_right (by decide) (by omega)
      have h3 : (2 : Nat) ^ 16 = 65536 := by decide
      omega
    induction n with
    | zero =>
      intro k a e nm w' ls hn hak hke hnm hae hes ha hno hnl hJ hS h10 hls l0 l2
      have ik := zx_b_int k
      have ia := zx_b_int a
      have ie := zx_b_int e
      have ea8 : (a + Int32.ofNat 8).toInt = a.toInt + 8 := by rw [tr_add (by omega) (by omega), e8]
      have ia8 := zx_b_int (a + Int32.ofNat 8)
      refine zy_li rfl l2 ?_
      refine zy_la rfl l0 (Or.inl ⟨_, rfl⟩) ?_
      refine zy_gI rfl hS.2.2.2.1 ?_
      refine zy_jt rfl (fun _ => out k a e nm w' ls (Or.inr (by omega)) hak hke hnm hae hes ha hno hnl hJ hS h10 hls l0) (fun _ => ?_)
      refine zy_li rfl l2 ?_
      refine zy_la rfl l0 (Or.inl ⟨_, rfl⟩) ?_
      refine zy_gI rfl hS.2.2.1 ?_
      refine zy_ci (n := 2) (c := 8) rfl ?_
      refine zy_add rfl ?_
      refine zy_jt rfl (fun _ => out k a e nm w' ls (Or.inr (by omega)) hak hke hnm hae hes ha hno hnl hJ hS h10 hls l0) (fun h => ?_)
      have h : zx_b k < zx_b (a + Int32.ofNat 8) := h
      omega
    | succ n ih =>
      intro k a e nm w' ls hn hak hke hnm hae hes ha hno hnl hJ hS h10 hls l0 l2
      have ik := zx_b_int k
      have ia := zx_b_int a
      have ie := zx_b_int e
      have ea8 : (a + Int32.ofNat 8).toInt = a.toInt + 8 := by rw [tr_add (by omega) (by omega), e8]
      have ia8 := zx_b_int (a + Int32.ofNat 8)
      have hls' : zx_limP w'.length ls = true := by rw [hS.2.2.2.2]; exact hls
      have hlq1 : q < w'.length := by rw [hS.2.2.2.2]; exact hlq
      refine zy_li rfl l2 ?_
      refine zy_la rfl l0 (Or.inl ⟨_, rfl⟩) ?_
      refine zy_gI rfl hS.2.2.2.1 ?_
      refine zy_jt rfl (fun h => ?_) (fun h => ?_)
      · have h : zx_b e ≤ zx_b k := h
        exact out k a e nm w' ls (Or.inl (by omega)) hak hke hnm hae hes ha hno hnl hJ hS h10 hls l0
      have h : zx_b k < zx_b e := h
      refine zy_li rfl l2 ?_
      refine zy_la rfl l0 (Or.inl ⟨_, rfl⟩) ?_
      refine zy_gI rfl hS.2.2.1 ?_
      refine zy_ci (n := 2) (c := 8) rfl ?_
      refine zy_add rfl ?_
      refine zy_jt rfl (fun h2 => ?_) (fun _ => ?_)
      · have h2 : zx_b (a + Int32.ofNat 8) ≤ zx_b k := h2
        omega
      obtain ⟨c, hc, ec⟩ := tr_signK (k := k) hS.1 hS.2.1 (by omega) hs
      have hcb := tr_sg_b (tx := tx) (sz := sz) (k := k)
      rw [← ec] at hcb
      refine zy_la rfl l0 (Or.inl ⟨_, rfl⟩) ?_
      refine zy_la rfl l0 (Or.inl ⟨_, rfl⟩) ?_
      refine zy_gJ rfl h10 ?_
      refine zy_ci (n := 2) (c := 8) rfl ?_
      refine zy_lshl rfl ?_
      refine zy_la rfl l0 (Or.inl ⟨_, rfl⟩) ?_
      refine zy_li rfl l2 ?_
      refine zy_callK (a := 0) (n := 2) (st := [(.inr (.inl (nm <<< ((Int32.ofNat 8).toInt64 &&& 63)))), (.inr (.inr (.inl q)))]) (zx_Cl_le (by decide) hc) rfl rfl (Nat.le_of_ble_eq_true rfl) hls' (tr_lim1 hlq1 rfl) (Nat.zero_le _) (Nat.zero_le _) ?_
      refine zy_i2l rfl ?_
      refine zy_lor rfl ?_
      have hnm2 : k.toInt + 1 ≤ a.toInt + 2 → ((nm <<< ((Int32.ofNat 8).toInt64 &&& 63)) ||| c.toInt64).toBitVec.toNat < 2 ^ (8 * (k.toInt + 1 - a.toInt).toNat) := by
        intro hk
        rw [show (k.toInt + 1 - a.toInt).toNat = (k.toInt - a.toInt).toNat + 1 by omega]
        exact tr_nm0 (hnm (by omega)) hcb (by omega)
      generalize (nm <<< ((Int32.ofNat 8).toInt64 &&& 63)) ||| c.toInt64 = nm2 at hnm2 ⊢
      refine zy_wJ (k := 10) (a := 0) (b := 0) rfl hJ hq rfl rfl (by decide +kernel) ?_
      intro w2 hJ2 hfr2 hl2 h102
      have hS2 := Sfr hJ hfr2 hl2 (by decide +kernel) hS
      refine zy_ik (k := 2) (n := 1) rfl l2 ?_
      refine zy_goto rfl ?_
      have ek : (k + Int32.ofNat 1).toInt = k.toInt + 1 := tm_inc tm_k1 (by omega)
      exact ih (k + Int32.ofNat 1) a e nm2 w2 _ (by omega) (by omega) (by omega) (fun hk => by rw [ek]; exact hnm2 (by omega)) hae hes ha hno hnl hJ2 hS2 h102 (zy_limP_put hls rfl) (zy_look_ne (by decide) rfl l0) zy_look_put
  -- letters
  have letters : ∀ (n : Nat) (a e : Int32) (w' : List zx_E) (ls : List (Nat × zx_V)), e.toInt + n = sz.toInt → 0 ≤ a.toInt → a.toInt + 1 ≤ e.toInt → en.toInt ≤ a.toInt → (¬ tr_lt (tr_sg tx sz en) → en.toInt + 1 ≤ a.toInt) → J w' → S w' a e → zx_limP w.length ls = true → zx_look 0 ls = some (.inr (.inr (.inl q))) → WP (119, ls, [], w', 0, 0) := by
    intro n
    have out : ∀ (a e : Int32) (w' : List zx_E) (ls : List (Nat × zx_V)), e.toInt ≤ sz.toInt → 0 ≤ a.toInt → a.toInt + 1 ≤ e.toInt → en.toInt ≤ a.toInt → (¬ tr_lt (tr_sg tx sz en) → en.toInt + 1 ≤ a.toInt) → ¬ tr_lt (tr_sg tx sz e) → J w' → S w' a e → zx_limP w.length ls = true → zx_look 0 ls = some (.inr (.inr (.inl q))) → WP (146, ls, [], w', 0, 0) := by
      intro a e w' ls hes ha0 hae ha hno hnl hJ hS hls l0
      refine zy_la rfl l0 (Or.inl ⟨_, rfl⟩) ?_
      refine zy_cj (n := 1) (c := 0) rfl ?_
      refine zy_wJ (k := 10) (a := 0) (b := 0) rfl hJ hq rfl rfl (by decide +kernel) ?_
      intro w2 hJ2 hfr2 hl2 h102
      have hS2 := Sfr hJ hfr2 hl2 (by decide +kernel) hS
      refine zy_la rfl l0 (Or.inl ⟨_, rfl⟩) ?_
      refine zy_gI rfl hS2.2.2.1 ?_
      refine zy_si (k := 2) rfl ?_
      exact names 8 a a e _ w2 _ (by omega) (Int.le_refl _) (by omega) (fun _ => by rw [Int.sub_self]; decide) hae hes ha hno hnl hJ2 hS2 h102 (zy_limP_put hls rfl) (zy_look_ne (by decide) rfl l0) zy_look_put
    induction n with
    | zero =>
      intro a e w' ls hn ha0 hae ha hno hJ hS hls l0
      have ie := zx_b_int e
      obtain ⟨c, hc, ec⟩ := tr_signK (k := e) hS.1 hS.2.1 (by omega) hs
      obtain ⟨v, hv, hv'⟩ := tr_isLetterK (w := w') (x := c)
      have hls' : zx_limP w'.length ls = true := by rw [hS.2.2.2.2]; exact hls
      refine zy_la rfl l0 (Or.inl ⟨_, rfl⟩) ?_
      refine zy_la rfl l0 (Or.inl ⟨_, rfl⟩) ?_
      refine zy_gI rfl hS.2.2.2.1 ?_
      refine zy_callK (a := 0) (n := 2) (st := []) (zx_Cl_le (by decide) hc) rfl rfl (Nat.le_of_ble_eq_true rfl) hls' rfl (Nat.zero_le _) (Nat.zero_le _) ?_
      refine zy_callK (a := 0) (n := 1) (st := []) (zx_Cl_le (by decide) hv) rfl rfl (Nat.le_of_ble_eq_true rfl) hls' rfl (Nat.zero_le _) (Nat.zero_le _) ?_
      rw [hsgsz (by omega)] at ec
      subst ec
      rcases hv' with ⟨ev, hL⟩ | ⟨ev, hL⟩
      · exact absurd hL (by decide)
      · subst ev
        exact zy_j0 rfl (fun _ => out a e w' ls (by omega) ha0 hae ha hno (by rw [hsgsz (by omega)]; exact hL) hJ hS hls l0) (fun h => absurd tr_z0 h)
    | succ n ih =>
      intro a e w' ls hn ha0 hae ha hno hJ hS hls l0
      have ie := zx_b_int e
      obtain ⟨c, hc, ec⟩ := tr_signK (k := e) hS.1 hS.2.1 (by omega) hs
      obtain ⟨v, hv, hv'⟩ := tr_isLetterK (w := w') (x := c)
      have hls' : zx_limP w'.length ls = true := by rw [hS.2.2.2.2]; exact hls
      refine zy_la rfl l0 (Or.inl ⟨_, rfl⟩) ?_
      refine zy_la rfl l0 (Or.inl ⟨_, rfl⟩) ?_
      refine zy_gI rfl hS.2.2.2.1 ?_
      refine zy_callK (a := 0) (n := 2) (st := []) (zx_Cl_le (by decide) hc) rfl rfl (Nat.le_of_ble_eq_true rfl) hls' rfl (Nat.zero_le _) (Nat.zero_le _) ?_
      refine zy_callK (a := 0) (n := 1) (st := []) (zx_Cl_le (by decide) hv) rfl rfl (Nat.le_of_ble_eq_true rfl) hls' rfl (Nat.zero_le _) (Nat.zero_le _) ?_
      rcases hv' with ⟨ev, hL⟩ | ⟨ev, hL⟩
      · subst ev
        refine zy_j0 rfl (fun h => absurd h tr_no1) (fun _ => ?_)
        have ee1 : (e + Int32.ofNat 1).toInt = e.toInt + 1 := tm_inc tm_k1 (by omega)
        have ie1 := zx_b_int (e + Int32.ofNat 1)
        refine zy_la rfl l0 (Or.inl ⟨_, rfl⟩) ?_
        refine zy_dup rfl ?_
        refine zy_gI rfl hS.2.2.2.1 ?_
        refine zy_ci (n := 1) (c := 1) rfl ?_
        refine zy_add rfl ?_
        refine zy_wI (k := 7) (lo := 2147483648) (hi := 2147485249) rfl hJ hq rfl (by omega) (by omega) rfl (by decide +kernel) ?_
        intro w2 hJ2 hfr2 hl2 h72
        refine zy_goto rfl ?_
        exact ih a (e + Int32.ofNat 1) w2 ls (by omega) ha0 (by omega) ha hno hJ2 (Sen hJ hfr2 hl2 h72 hS) hls l0
      · subst ev
        exact zy_j0 rfl (fun _ => out a e w' ls (by omega) ha0 hae ha hno (by rw [← ec]; exact hL) hJ hS hls l0) (fun h => absurd tr_z0 h)
  -- digits
  have digits : ∀ (n : Nat) (a e : Int32) (nm : Int64) (w' : List zx_E) (ls : List (Nat × zx_V)), e.toInt + n = sz.toInt → 0 ≤ a.toInt → a.toInt ≤ e.toInt → a.toInt < sz.toInt → en.toInt ≤ a.toInt → (48 ≤ (tr_sg tx sz a).toInt ∧ (tr_sg tx sz a).toInt ≤ 57) → J w' → S w' a e → tr_fj w' q 10 nm → zx_limP w.length ls = true → zx_look 0 ls = some (.inr (.inr (.inl q))) → WP (259, ls, [], w', 0, 0) := by
    intro n
    have out : ∀ (a e : Int32) (nm : Int64) (w' : List zx_E) (ls : List (Nat × zx_V)), e.toInt ≤ sz.toInt → 0 ≤ a.toInt → a.toInt + 1 ≤ e.toInt → en.toInt ≤ a.toInt → J w' → S w' a e → tr_fj w' q 10 nm → zx_limP w.length ls = true → zx_look 0 ls = some (.inr (.inr (.inl q))) → WP (322, ls, [], w', 0, 0) := by
      intro a e nm w' ls hes ha0 hae ha hJ hS h10 hls l0
      have ie := zx_b_int e
      have hls' : zx_limP w'.length ls = true := by rw [hS.2.2.2.2]; exact hls
      have hlq1 : q < w'.length := by rw [hS.2.2.2.2]; exact hlq
      have last : ∀ tk : Int32, tk.toInt = 1 ∨ tk.toInt = 4 → WP (355, ls, [(.inl tk), (.inr (.inr (.inl q)))], w', 0, 0) := fun tk htk => tok 355 w' a e tk nm ls rfl (fun ls2 w2 hJ2 hS2 h82 h102 => by
        refine zy_goto rfl ?_
        exact fin w2 a e tk nm ls2 hJ2 hS2 h82 h102 ⟨by omega, by omega, by omega, hs, fun _ => by omega, fun h => by unfold tr_LW at h; omega, fun h => by omega, fun h => by omega⟩ ha (fun h => by unfold tr_LW at h; omega)) hJ hS h10
      refine zy_la rfl l0 (Or.inl ⟨_, rfl⟩) ?_
      refine zy_la rfl l0 (Or.inl ⟨_, rfl⟩) ?_
      refine zy_gI rfl hS.2.2.2.1 ?_
      refine zy_la rfl l0 (Or.inl ⟨_, rfl⟩) ?_
      refine zy_gI rfl hS.2.2.1 ?_
      refine zy_sub rfl ?_
      refine zy_ci (n := 1) (c := 4) rfl ?_
      refine zy_jt rfl (fun _ => ?_) (fun _ => ?_)
      · refine zy_ci (n := 1) (c := 1) rfl ?_
        refine zy_goto rfl ?_
        exact last _ (Or.inl (by decide))
      obtain ⟨c, hc, ec⟩ := tr_signK (k := e) hS.1 hS.2.1 (by omega) hs
      obtain ⟨v, hv, hv'⟩ := tr_isLetterK (w := w') (x := c)
      refine zy_la rfl l0 (Or.inl ⟨_, rfl⟩) ?_
      refine zy_la rfl l0 (Or.inl ⟨_, rfl⟩) ?_
      refine zy_gI rfl hS.2.2.2.1 ?_
      refine zy_callK (a := 0) (n := 2) (st := [(.inr (.inr (.inl q)))]) (zx_Cl_le (by decide) hc) rfl rfl (Nat.le_of_ble_eq_true rfl) hls' (tr_lim1 hlq1 rfl) (Nat.zero_le _) (Nat.zero_le _) ?_
      refine zy_callK (a := 0) (n := 1) (st := [(.inr (.inr (.inl q)))]) (zx_Cl_le (by decide) hv) rfl rfl (Nat.le_of_ble_eq_true rfl) hls' (tr_lim1 hlq1 rfl) (Nat.zero_le _) (Nat.zero_le _) ?_
      refine zy_j0 rfl (fun _ => ?_) (fun _ => ?_)
      · refine zy_ci (n := 1) (c := 4) rfl ?_
        exact last _ (Or.inr (by decide))
      · refine zy_ci (n := 1) (c := 1) rfl ?_
        refine zy_goto rfl ?_
        exact last _ (Or.inl (by decide))
    induction n with
    | zero =>
      intro a e nm w' ls hn ha0 hae has ha hD hJ hS h10 hls l0
      have ie := zx_b_int e
      obtain ⟨c, hc, ec⟩ := tr_signK (k := e) hS.1 hS.2.1 (by omega) hs
      obtain ⟨v, hv, hv'⟩ := tr_isDigitK (w := w') (x := c)
      have hls' : zx_limP w'.length ls = true := by rw [hS.2.2.2.2]; exact hls
      refine zy_la rfl l0 (Or.inl ⟨_, rfl⟩) ?_
      refine zy_la rfl l0 (Or.inl ⟨_, rfl⟩) ?_
      refine zy_gI rfl hS.2.2.2.1 ?_
      refine zy_callK (a := 0) (n := 2) (st := []) (zx_Cl_le (by decide) hc) rfl rfl (Nat.le_of_ble_eq_true rfl) hls' rfl (Nat.zero_le _) (Nat.zero_le _) ?_
      refine zy_callK (a := 0) (n := 1) (st := []) (zx_Cl_le (by decide) hv) rfl rfl (Nat.le_of_ble_eq_true rfl) hls' rfl (Nat.zero_le _) (Nat.zero_le _) ?_
      rw [hsgsz (by omega)] at ec
      subst ec
      rcases hv' with ⟨ev, hL⟩ | ⟨ev, hL⟩
      · exact absurd hL (by decide)
      · subst ev
        exact zy_j0 rfl (fun _ => out a e nm w' ls (by omega) ha0 (by omega) ha hJ hS h10 hls l0) (fun h => absurd tr_z0 h)
    | succ n ih =>
      intro a e nm w' ls hn ha0 hae has ha hD hJ hS h10 hls l0
      have ie := zx_b_int e
      obtain ⟨c, hc, ec⟩ := tr_signK (k := e) hS.1 hS.2.1 (by omega) hs
      obtain ⟨v, hv, hv'⟩ := tr_isDigitK (w := w') (x := c)
      have hls' : zx_limP w'.length ls = true := by rw [hS.2.2.2.2]; exact hls
      have hlq1 : q < w'.length := by rw [hS.2.2.2.2]; exact hlq
      refine zy_la rfl l0 (Or.inl ⟨_, rfl⟩) ?_
      refine zy_la rfl l0 (Or.inl ⟨_, rfl⟩) ?_
      refine zy_gI rfl hS.2.2.2.1 ?_
      refine zy_callK (a := 0) (n := 2) (st := []) (zx_Cl_le (by decide) hc) rfl rfl (Nat.le_of_ble_eq_true rfl) hls' rfl (Nat.zero_le _) (Nat.zero_le _) ?_
      refine zy_callK (a := 0) (n := 1) (st := []) (zx_Cl_le (by decide) hv) rfl rfl (Nat.le_of_ble_eq_true rfl) hls' rfl (Nat.zero_le _) (Nat.zero_le _) ?_
      rcases hv' with ⟨ev, hL⟩ | ⟨ev, hL⟩
      rotate_left
      · subst ev
        refine zy_j0 rfl (fun _ => out a e nm w' ls (by omega) ha0 ?_ ha hJ hS h10 hls l0) (fun h => absurd tr_z0 h)
        refine Classical.byContradiction (fun hn2 => ?_)
        have e2 : e = a := Int32.toInt_inj.mp (by omega)
        rw [e2] at ec
        rw [ec] at hL
        exact hL hD
      subst ev
      refine zy_j0 rfl (fun h => absurd h tr_no1) (fun _ => ?_)
      have ee1 : (e + Int32.ofNat 1).toInt = e.toInt + 1 := tm_inc tm_k1 (by omega)
      have ie1 := zx_b_int (e + Int32.ofNat 1)
      have more : ∀ w2 : List zx_E, J w2 → S w2 a e → tr_fj w2 q 10 nm → WP (309, ls, [], w2, 0, 0) := by
        intro w2 hJ2 hS2 h102
        refine zy_la rfl l0 (Or.inl ⟨_, rfl⟩) ?_
        refine zy_dup rfl ?_
        refine zy_gI rfl hS2.2.2.2.1 ?_
        refine zy_ci (n := 1) (c := 1) rfl ?_
        refine zy_add rfl ?_
        refine zy_wI (k := 7) (lo := 2147483648) (hi := 2147485249) rfl hJ2 hq rfl (by omega) (by omega) rfl (by decide +kernel) ?_
        intro w3 hJ3 hfr3 hl3 h73
        refine zy_goto rfl ?_
        exact ih a (e + Int32.ofNat 1) nm w3 ls (by omega) ha0 (by omega) has ha hD hJ3 (Sen hJ2 hfr3 hl3 h73 hS2) (tr_fj_fr hJ2.1 hfr3 (d := ([(149, 10)], [])) (by decide +kernel) (by decide +kernel) h102) hls l0
      refine zy_la rfl l0 (Or.inl ⟨_, rfl⟩) ?_
      refine zy_gI rfl hS.2.2.2.1 ?_
      refine zy_la rfl l0 (Or.inl ⟨_, rfl⟩) ?_
      refine zy_gI rfl hS.2.2.1 ?_
      refine zy_sub rfl ?_
      refine zy_ci (n := 1) (c := 4) rfl ?_
      refine zy_jt rfl (fun _ => more w' hJ hS h10) (fun _ => ?_)
      obtain ⟨nu, h9, -, -⟩ := tr_exI (k := 9) (lo := 0) (hi := 4294967295) hJ.1 hq rfl
      refine zy_la rfl l0 (Or.inl ⟨_, rfl⟩) ?_
      refine zy_ci (n := 2) (c := 10) rfl ?_
      refine zy_la rfl l0 (Or.inl ⟨_, rfl⟩) ?_
      refine zy_gI rfl h9 ?_
      refine zy_mul rfl ?_
      refine zy_la rfl l0 (Or.inl ⟨_, rfl⟩) ?_
      refine zy_la rfl l0 (Or.inl ⟨_, rfl⟩) ?_
      refine zy_gI rfl hS.2.2.2.1 ?_
      refine zy_callK (a := 0) (n := 2) (st := [(.inl (Int32.ofNat 10 * nu)), (.inr (.inr (.inl q)))]) (zx_Cl_le (by decide) hc) rfl rfl (Nat.le_of_ble_eq_true rfl) hls' (tr_lim2 (tr_lim1 hlq1 rfl)) (Nat.zero_le _) (Nat.zero_le _) ?_
      refine zy_add rfl ?_
      refine zy_ci (n := 2) (c := 48) rfl ?_
      refine zy_sub rfl ?_
      refine zy_wI (k := 9) (lo := 0) (hi := 4294967295) rfl hJ hq rfl (Nat.zero_le _) (by have := tj_b_lt (Int32.ofNat 10 * nu + c - Int32.ofNat 48); omega) rfl (by decide +kernel) ?_
      intro w2 hJ2 hfr2 hl2 _
      exact more w2 hJ2 (Sfr hJ hfr2 hl2 (by decide +kernel) hS) (tr_fj_fr hJ.1 hfr2 (d := ([(149, 10)], [])) (by decide +kernel) (by decide +kernel) h10)
  -- behind the blanks
  have at58 : ∀ (w' : List zx_E) (a : Int32) (ls : List (Nat × zx_V)), J w' → S w' a en → en.toInt ≤ a.toInt → a.toInt ≤ sz.toInt → zx_limP w.length ls = true → zx_look 0 ls = some (.inr (.inr (.inl q))) → WP (58, ls, [], w', 0, 0) := by
    intro w' a ls hJ hS ha1 ha2 hls l0
    have ia := zx_b_int a
    obtain ⟨c, hc, ec⟩ := tr_signK (k := a) hS.1 hS.2.1 (by omega) hs
    have hls' : zx_limP w'.length ls = true := by rw [hS.2.2.2.2]; exact hls
    refine zy_la rfl l0 (Or.inl ⟨_, rfl⟩) ?_
    refine zy_la rfl l0 (Or.inl ⟨_, rfl⟩) ?_
    refine zy_gI rfl hS.2.2.1 ?_
    refine zy_callK (a := 0) (n := 2) (st := []) (zx_Cl_le (by decide) hc) rfl rfl (Nat.le_of_ble_eq_true rfl) hls' rfl (Nat.zero_le _) (Nat.zero_le _) ?_
    refine zy_si (k := 1) rfl ?_
    have hls1 : zx_limP w.length (zx_put 1 (.inl c) ls) = true := zy_limP_put hls rfl
    have m0 : zx_look 0 (zx_put 1 (.inl c) ls) = some (.inr (.inr (.inl q))) := zy_look_ne (by decide) rfl l0
    have m1 : zx_look 1 (zx_put 1 (.inl c) ls) = some (.inl c) := zy_look_put
    generalize zx_put 1 (.inl c) ls = ls1 at hls1 m0 m1 ⊢
    have ea1 : (a + Int32.ofNat 1).toInt = a.toInt + 1 := tm_inc tm_k1 (by omega)
    have ia1 := zx_b_int (a + Int32.ofNat 1)
    refine zy_la rfl m0 (Or.inl ⟨_, rfl⟩) ?_
    refine zy_la rfl m0 (Or.inl ⟨_, rfl⟩) ?_
    refine zy_gI rfl hS.2.2.1 ?_
    refine zy_ci (n := 1) (c := 1) rfl ?_
    refine zy_add rfl ?_
    refine zy_wI (k := 7) (lo := 2147483648) (hi := 2147485249) rfl hJ hq rfl (by omega) (by omega) rfl (by decide +kernel) ?_
    intro w1 hJ1 hfr1 hl1 h71
    have hS1 := Sen hJ hfr1 hl1 h71 hS
    clear hfr1 hl1 h71 hS hJ hls'
    obtain ⟨nm, h10⟩ := tr_exJ (k := 10) (a := 0) (b := 0) hJ1.1 hq rfl
    refine zy_la rfl m0 (Or.inl ⟨_, rfl⟩) ?_
    refine zy_gI rfl hS1.2.2.1 ?_
    refine zy_la rfl m0 (Or.inl ⟨_, rfl⟩) ?_
    refine zy_gI rfl hS1.1 ?_
    refine zy_jt rfl (fun hlt => ?_) (fun hge => ?_)
    rotate_left
    · -- the end of the text
      have hge : zx_b sz ≤ zx_b a := hge
      have hasz : a = sz := Int32.toInt_inj.mp (by omega)
      refine zy_la rfl m0 (Or.inl ⟨_, rfl⟩) ?_
      refine zy_ci (n := 1) (c := 0) rfl ?_
      exact tok0 w1 a _ nm ls1 hasz (by omega) hJ1 hS1 h10 m0
    have hlt : zx_b a < zx_b sz := hlt
    have hno : tr_lt c → en.toInt ≤ a.toInt → ¬ tr_lt (tr_sg tx sz en) → en.toInt + 1 ≤ a.toInt := by
      intro hL h1 h2
      refine Classical.byContradiction (fun hn => ?_)
      have e : a = en := Int32.toInt_inj.mp (by omega)
      rw [e] at ec
      rw [ec] at hL
      exact h2 hL
    obtain ⟨v, hv, hv'⟩ := tr_isLetterK (w := w1) (x := c)
    have hls1' : zx_limP w1.length ls1 = true := by rw [hS1.2.2.2.2]; exact hls1
    refine zy_li rfl m1 ?_
    refine zy_callK (a := 0) (n := 1) (st := []) (zx_Cl_le (by decide) hv) rfl rfl (Nat.le_of_ble_eq_true rfl) hls1' rfl (Nat.zero_le _) (Nat.zero_le _) ?_
    rcases hv' with ⟨ev, hL⟩ | ⟨ev, hL⟩
    · subst ev
      refine zy_j0 rfl (fun h => absurd h tr_no1) (fun _ => ?_)
      exact letters (sz.toInt - (a.toInt + 1)).toNat a (a + Int32.ofNat 1) w1 ls1 (by omega) (by omega) (by omega) ha1 (hno hL ha1) hJ1 hS1 hls1 m0
    subst ev
    refine zy_j0 rfl (fun _ => ?_) (fun h => absurd tr_z0 h)
    obtain ⟨u, hu, hu'⟩ := tr_isDigitK (w := w1) (x := c)
    refine zy_li rfl m1 ?_
    refine zy_callK (a := 0) (n := 1) (st := []) (zx_Cl_le (by decide) hu) rfl rfl (Nat.le_of_ble_eq_true rfl) hls1' rfl (Nat.zero_le _) (Nat.zero_le _) ?_
    rcases hu' with ⟨eu, hD⟩ | ⟨eu, hD⟩
    · subst eu
      refine zy_j0 rfl (fun h => absurd h tr_no1) (fun _ => ?_)
      refine zy_la rfl m0 (Or.inl ⟨_, rfl⟩) ?_
      refine zy_ci (n := 1) (c := 0) rfl ?_
      refine zy_wI (k := 9) (lo := 0) (hi := 4294967295) rfl hJ1 hq rfl (Nat.zero_le _) (by decide) rfl (by decide +kernel) ?_
      intro w2 hJ2 hfr2 hl2 _
      have hS2 := Sfr hJ1 hfr2 hl2 (by decide +kernel) hS1
      have h102 := tr_fj_fr hJ1.1 hfr2 (d := ([(149, 10)], [])) (by decide +kernel) (by decide +kernel) h10
      refine zy_la rfl m0 (Or.inl ⟨_, rfl⟩) ?_
      refine zy_la rfl m0 (Or.inl ⟨_, rfl⟩) ?_
      refine zy_gI rfl hS2.2.2.1 ?_
      refine zy_wI (k := 7) (lo := 2147483648) (hi := 2147485249) rfl hJ2 hq rfl (by omega) (by omega) rfl (by decide +kernel) ?_
      intro w3 hJ3 hfr3 hl3 h73
      have hS3 := Sen hJ2 hfr3 hl3 h73 hS2
      have h103 := tr_fj_fr hJ2.1 hfr3 (d := ([(149, 10)], [])) (by decide +kernel) (by decide +kernel) h102
      exact digits (sz.toInt - a.toInt).toNat a a nm w3 ls1 (by omega) (by omega) (Int.le_refl _) (by omega) ha1 (by rw [← ec]; exact hD) hJ3 hS3 h103 hls1 m0
    subst eu
    refine zy_j0 rfl (fun _ => ?_) (fun h => absurd tr_z0 h)
    obtain ⟨z, hz, hz'⟩ := tr_isSignK (w := w1) (x := c)
    have hlq1 : q < w1.length := by rw [hS1.2.2.2.2]; exact hlq
    refine zy_la rfl m0 (Or.inl ⟨_, rfl⟩) ?_
    refine zy_li rfl m1 ?_
    refine zy_callK (a := 0) (n := 1) (st := [(.inr (.inr (.inl q)))]) (zx_Cl_le (by decide) hz) rfl rfl (Nat.le_of_ble_eq_true rfl) hls1' (tr_lim1 hlq1 rfl) (Nat.zero_le _) (Nat.zero_le _) ?_
    have last : ∀ tk : Int32, tk.toInt = 5 ∨ tk.toInt = 1 → WP (374, ls1, [(.inl tk), (.inr (.inr (.inl q)))], w1, 0, 0) := fun tk htk => tok 374 w1 a _ tk nm ls1 rfl (fun ls2 w2 hJ2 hS2 h82 h102 => fin w2 a _ tk nm ls2 hJ2 hS2 h82 h102 ⟨by omega, by omega, by omega, hs, fun _ => by omega, fun h => by unfold tr_LW at h; omega, fun h => by omega, fun h => by omega⟩ ha1 (fun h => by unfold tr_LW at h; omega)) hJ1 hS1 h10
    rcases hz' with ez | ez
    · subst ez
      refine zy_j0 rfl (fun _ => ?_) (fun h => absurd tr_z0 h)
      refine zy_ci (n := 1) (c := 1) rfl ?_
      exact last _ (Or.inr (by decide))
    · subst ez
      refine zy_j0 rfl (fun h => absurd h tr_no1) (fun _ => ?_)
      refine zy_ci (n := 1) (c := 5) rfl ?_
      refine zy_goto rfl ?_
      exact last _ (Or.inl (by decide))
  -- the blanks
  have blanks : ∀ (n : Nat) (a : Int32) (w' : List zx_E) (ls : List (Nat × zx_V)), a.toInt + n = sz.toInt → en.toInt ≤ a.toInt → J w' → S w' a en → zx_limP w.length ls = true → zx_look 0 ls = some (.inr (.inr (.inl q))) → WP (8, ls, [], w', 0, 0) := by
    intro n
    induction n with
    | zero =>
      intro a w' ls hn ha hJ hS hls l0
      have ia := zx_b_int a
      refine zy_la rfl l0 (Or.inl ⟨_, rfl⟩) ?_
      refine zy_gI rfl hS.2.2.1 ?_
      refine zy_la rfl l0 (Or.inl ⟨_, rfl⟩) ?_
      refine zy_gI rfl hS.1 ?_
      refine zy_jt rfl (fun _ => at58 w' a ls hJ hS ha (by omega) hls l0) (fun h => ?_)
      have h : zx_b a < zx_b sz := h
      omega
    | succ n ih =>
      intro a w' ls hn ha hJ hS hls l0
      have ia := zx_b_int a
      have ea1 : (a + Int32.ofNat 1).toInt = a.toInt + 1 := tm_inc tm_k1 (by omega)
      have ia1 := zx_b_int (a + Int32.ofNat 1)
      obtain ⟨c, hc, ec⟩ := tr_signK (k := a) hS.1 hS.2.1 (by omega) hs
      have hls' : zx_limP w'.length ls = true := by rw [hS.2.2.2.2]; exact hls
      have hlq1 : q < w'.length := by rw [hS.2.2.2.2]; exact hlq
      have next : WP (45, ls, [], w', 0, 0) := by
        refine zy_la rfl l0 (Or.inl ⟨_, rfl⟩) ?_
        refine zy_dup rfl ?_
        refine zy_gI rfl hS.2.2.1 ?_
        refine zy_ci (n := 1) (c := 1) rfl ?_
        refine zy_add rfl ?_
        refine zy_wI (k := 6) (lo := 2147483648) (hi := 2147485248) rfl hJ hq rfl (by omega) (by omega) rfl (by decide +kernel) ?_
        intro w2 hJ2 hfr2 hl2 h62
        refine zy_goto rfl ?_
        exact ih (a + Int32.ofNat 1) w2 ls (by omega) (by omega) hJ2 (Sat hJ hfr2 hl2 h62 hS) hls l0
      refine zy_la rfl l0 (Or.inl ⟨_, rfl⟩) ?_
      refine zy_gI rfl hS.2.2.1 ?_
      refine zy_la rfl l0 (Or.inl ⟨_, rfl⟩) ?_
      refine zy_gI rfl hS.1 ?_
      refine zy_jt rfl (fun _ => at58 w' a ls hJ hS ha (by omega) hls l0) (fun _ => ?_)
      refine zy_la rfl l0 (Or.inl ⟨_, rfl⟩) ?_
      refine zy_la rfl l0 (Or.inl ⟨_, rfl⟩) ?_
      refine zy_gI rfl hS.2.2.1 ?_
      refine zy_callK (a := 0) (n := 2) (st := []) (zx_Cl_le (by decide) hc) rfl rfl (Nat.le_of_ble_eq_true rfl) hls' rfl (Nat.zero_le _) (Nat.zero_le _) ?_
      refine zy_ci (n := 2) (c := 32) rfl ?_
      refine zy_jt rfl (fun _ => next) (fun _ => ?_)
      refine zy_la rfl l0 (Or.inl ⟨_, rfl⟩) ?_
      refine zy_la rfl l0 (Or.inl ⟨_, rfl⟩) ?_
      refine zy_gI rfl hS.2.2.1 ?_
      refine zy_callK (a := 0) (n := 2) (st := []) (zx_Cl_le (by decide) hc) rfl rfl (Nat.le_of_ble_eq_true rfl) hls' rfl (Nat.zero_le _) (Nat.zero_le _) ?_
      refine zy_ci (n := 2) (c := 10) rfl ?_
      exact zy_jt rfl (fun _ => at58 w' a ls hJ hS ha (by omega) hls l0) (fun _ => next)
  have hJ0 : J w := tm_W0 hw
  show WP (0, [(0, (.inr (.inr (.inl q))))], [], w, 0, 0)
  refine zy_la (k := 0) rfl rfl (Or.inl ⟨_, rfl⟩) ?_
  refine zy_la (k := 0) rfl rfl (Or.inl ⟨_, rfl⟩) ?_
  refine zy_gI rfl h7 ?_
  refine zy_wI (k := 6) (lo := 2147483648) (hi := 2147485248) rfl hJ0 hq rfl (by omega) (by omega) rfl (by decide +kernel) ?_
  intro w2 hJ2 hfr2 hl2 h62
  have hS2 : S w2 en en := ⟨te_fi hw hfr2 (d := ([(149, 3)], [])) (by decide +kernel) (by decide +kernel) h3, tr_fy_fr hw hfr2 (d := ([(149, 1)], [102])) (by decide +kernel) (by decide +kernel) h1, h62, te_fi hw hfr2 (d := ([(149, 7)], [])) (by decide +kernel) (by decide +kernel) h7, hl2⟩
  exact blanks (sz.toInt - en.toInt).toNat en w2 _ (by omega) (Int.le_refl _) hJ2 hS2 (tm_lim hlq rfl) rfl
