/-! by hand: the banks; emit, pushE, clearBank, startAnew -/
/-- what lies in the banks -/
def tr_B (w : List zx_E) (q : Nat) (bk rb : Int32) (hv pv dv tm ho pe cd rf rt : Nat → Int32) : Prop := tj_fi w q 12 39 bk ∧ tj_fi w q 12 40 rb ∧ tj_fa w q 12 11 2 hv ∧ tj_fa w q 12 13 2 pv ∧ tj_fa w q 12 14 2 dv ∧ tj_fa w q 12 24 8 tm ∧ tj_fa w q 12 23 24 ho ∧ tj_fa w q 12 19 16 pe ∧ tj_fa w q 12 34 1280 cd ∧ tj_fa w q 12 26 24 rf ∧ tj_fa w q 12 27 24 rt
def tr_dB : tj_Ef := ([(149, 39), (149, 40), (149, 11), (149, 13), (149, 14), (149, 24), (149, 23), (149, 19), (149, 34), (149, 26), (149, 27)], [103, 105, 106, 116, 115, 111, 118, 137, 138])
section trB
variable {Ψ : List Nat} {w w' : List zx_E} {q : Nat} {e : tj_Ef} {bk rb : Int32} {hv pv dv tm ho pe cd rf rt : Nat → Int32}
theorem tr_B_fr (hw : tj_wt tj_Lam Ψ w) (hfr : tj_fr e Ψ w w') (hd : tj_dj tr_dB e = true) (h : tr_B w q bk rb hv pv dv tm ho pe cd rf rt) : tr_B w' q bk rb hv pv dv tm ho pe cd rf rt := by
  obtain ⟨h39, h40, h11, h13, h14, h24, h23, h19, h34, h26, h27⟩ := h
  exact ⟨te_fi hw hfr hd (by decide +kernel) h39, te_fi hw hfr hd (by decide +kernel) h40, te_fa hw hfr hd (by decide +kernel) h11, te_fa hw hfr hd (by decide +kernel) h13, te_fa hw hfr hd (by decide +kernel) h14, te_fa hw hfr hd (by decide +kernel) h24, te_fa hw hfr hd (by decide +kernel) h23, te_fa hw hfr hd (by decide +kernel) h19, te_fa hw hfr hd (by decide +kernel) h34, te_fa hw hfr hd (by decide +kernel) h26, te_fa hw hfr hd (by decide +kernel) h27⟩
theorem tr_B_hv {x : Nat → Int32} (hw : tj_wt tj_Lam Ψ w) (hfr : tj_fr ([], [103]) Ψ w w') (h : tr_B w q bk rb hv pv dv tm ho pe cd rf rt) (hx : tj_fa w' q 12 11 2 x) : tr_B w' q bk rb x pv dv tm ho pe cd rf rt := by
  obtain ⟨h39, h40, h11, h13, h14, h24, h23, h19, h34, h26, h27⟩ := h
  exact ⟨te_fi hw hfr (d := ([(149, 39)], [])) (by decide +kernel) (by decide +kernel) h39, te_fi hw hfr (d := ([(149, 40)], [])) (by decide +kernel) (by decide +kernel) h40, hx, te_fa hw hfr (d := ([(149, 13)], [105])) (by decide +kernel) (by decide +kernel) h13, te_fa hw hfr (d := ([(149, 14)], [106])) (by decide +kernel) (by decide +kernel) h14, te_fa hw hfr (d := ([(149, 24)], [116])) (by decide +kernel) (by decide +kernel) h24, te_fa hw hfr (d := ([(149, 23)], [115])) (by decide +kernel) (by decide +kernel) h23, te_fa hw hfr (d := ([(149, 19)], [111])) (by decide +kernel) (by decide +kernel) h19, te_fa hw hfr (d := ([(149, 34)], [118])) (by decide +kernel) (by decide +kernel) h34, te_fa hw hfr (d := ([(149, 26)], [137])) (by decide +kernel) (by decide +kernel) h26, te_fa hw hfr (d := ([(149, 27)], [138])) (by decide +kernel) (by decide +kernel) h27⟩
theorem tr_B_pv {x : Nat → Int32} (hw : tj_wt tj_Lam Ψ w) (hfr : tj_fr ([], [105]) Ψ w w') (h : tr_B w q bk rb hv pv dv tm ho pe cd rf rt) (hx : tj_fa w' q 12 13 2 x) : tr_B w' q bk rb hv x dv tm ho pe cd rf rt := by
  obtain ⟨h39, h40, h11, h13, h14, h24, h23, h19, h34, h26, h27⟩ := h
  exact ⟨te_fi hw hfr (d := ([(149, 39)], [])) (by decide +kernel) (by decide +kernel) h39, te_fi hw hfr (d := ([(149, 40)], [])) (by decide +kernel) (by decide +kernel) h40, te_fa hw hfr (d := ([(149, 11)], [103])) (by decide +kernel) (by decide +kernel) h11, hx, te_fa hw hfr (d := ([(149, 14)], [106])) (by decide +kernel) (by decide +kernel) h14, te_fa hw hfr (d := ([(149, 24)], [116])) (by decide +kernel) (by decide +kernel) h24, te_fa hw hfr (d := ([(149, 23)], [115])) (by decide +kernel) (by decide +kernel) h23, te_fa hw hfr (d := ([(149, 19)], [111])) (by decide +kernel) (by decide +kernel) h19, te_fa hw hfr (d := ([(149, 34)], [118])) (by decide +kernel) (by decide +kernel) h34, te_fa hw hfr (d := ([(149, 26)], [137])) (by decide +kernel) (by decide +kernel) h26, te_fa hw hfr (d := ([(149, 27)], [138])) (by decide +kernel) (by decide +kernel) h27⟩
theorem tr_B_dv {x : Nat → Int32} (hw : tj_wt tj_Lam Ψ w) (hfr : tj_fr ([], [106]) Ψ w w') (h : tr_B w q bk rb hv pv dv tm ho pe cd rf rt) (hx : tj_fa w' q 12 14 2 x) : tr_B w' q bk rb hv pv x tm ho pe cd rf rt := by
  obtain ⟨h39, h40, h11, h13, h14, h24, h23, h19, h34, h26, h27⟩ := h
  exact ⟨te_fi hw hfr (d := ([(149, 39)], [])) (by decide +kernel) (by decide +kernel) h39, te_fi hw hfr (d := ([(149, 40)], [])) (by decide +kernel) (by decide +kernel) h40, te_fa hw hfr (d := ([(149, 11)], [103])) (by decide +kernel) (by decide +kernel) h11, te_fa hw hfr (d := ([(149, 13)], [105])) (by decide +kernel) (by decide +kernel) h13, hx, te_fa hw hfr (d := ([(149, 24)], [116])) (by decide +kernel) (by decide +kernel) h24, te_fa hw hfr (d := ([(149, 23)], [115])) (by decide +kernel) (by decide +kernel) h23, te_fa hw hfr (d := ([(149, 19)], [111])) (by decide +kernel) (by decide +kernel) h19, te_fa hw hfr (d := ([(149, 34)], [118])) (by decide +kernel) (by decide +kernel) h34, te_fa hw hfr (d := ([(149, 26)], [137])) (by decide +kernel) (by decide +kernel) h26, te_fa hw hfr (d := ([(149, 27)], [138])) (by decide +kernel) (by decide +kernel) h27⟩
theorem tr_B_tm {x : Nat → Int32} (hw : tj_wt tj_Lam Ψ w) (hfr : tj_fr ([], [116]) Ψ w w') (h : tr_B w q bk rb hv pv dv tm ho pe cd rf rt) (hx : tj_fa w' q 12 24 8 x) : tr_B w' q bk rb hv pv dv x ho pe cd rf rt := by
  obtain ⟨h39, h40, h11, h13, h14, h24, h23, h19, h34, h26, h27⟩ := h
  exact ⟨te_fi hw hfr (d := ([(149, 39)], [])) (by decide +kernel) (by decide +kernel) h39, te_fi hw hfr (d := ([(149, 40)], [])) (by decide +kernel) (by decide +kernel) h40, te_fa hw hfr (d := ([(149, 11)], [103])) (by decide +kernel) (by decide +kernel) h11, te_fa hw hfr (d := ([(149, 13)], [105])) (by decide +kernel) (by decide +kernel) h13, te_fa hw hfr (d := ([(149, 14)], [106])) (by decide +kernel) (by decide +kernel) h14, hx, te_fa hw hfr (d := ([(149, 23)], [115])) (by decide +kernel) (by decide +kernel) h23, te_fa hw hfr (d := ([(149, 19)], [111])) (by decide +kernel) (by decide +kernel) h19, te_fa hw hfr (d := ([(149, 34)], [118])) (by decide +kernel) (by decide +kernel) h34, te_fa hw hfr (d := ([(149, 26)], [137])) (by decide +kernel) (by decide +kernel) h26, te_fa hw hfr (d := ([(149, 27)], [138])) (by decide +kernel) (by decide +kernel) h27⟩
theorem tr_B_ho {x : Nat → Int32} (hw : tj_wt tj_Lam Ψ w) (hfr : tj_fr ([], [115]) Ψ w w') (h : tr_B w q bk rb hv pv dv tm ho pe cd rf rt) (hx : tj_fa w' q 12 23 24 x) : tr_B w' q bk rb hv pv dv tm x pe cd rf rt := by
  obtain ⟨h39, h40, h11, h13, h14, h24, h23, h19, h34, h26, h27⟩ := h
  exact ⟨te_fi hw hfr (d := ([(149, 39)], [])) (by decide +kernel) (by decide +kernel) h39, te_fi hw hfr (d := ([(149, 40)], [])) (by decide +kernel) (by decide +kernel) h40, te_fa hw hfr (d := ([(149, 11)], [103])) (by decide +kernel) (by decide +kernel) h11, te_fa hw hfr (d := ([(149, 13)], [105])) (by decide +kernel) (by decide +kernel) h13, te_fa hw hfr (d := ([(149, 14)], [106])) (by decide +kernel) (by decide +kernel) h14, te_fa hw hfr (d := ([(149, 24)], [116])) (by decide +kernel) (by decide +kernel) h24, hx, te_fa hw hfr (d := ([(149, 19)], [111])) (by decide +kernel) (by decide +kernel) h19, te_fa hw hfr (d := ([(149, 34)], [118])) (by decide +kernel) (by decide +kernel) h34, te_fa hw hfr (d := ([(149, 26)], [137])) (by decide +kernel) (by decide +kernel) h26, te_fa hw hfr (d := ([(149, 27)], [138])) (by decide +kernel) (by decide +kernel) h27⟩
theorem tr_B_pe {x : Nat → Int32} (hw : tj_wt tj_Lam Ψ w) (hfr : tj_fr ([], [111]) Ψ w w') (h : tr_B w q bk rb hv pv dv tm ho pe cd rf rt) (hx : tj_fa w' q 12 19 16 x) : tr_B w' q bk rb hv pv dv tm ho x cd rf rt := by
  obtain ⟨h39, h40, h11, h13, h14, h24, h23, h19, h34, h26, h27⟩ := h
  exact ⟨te_fi hw hfr (d := ([(149, 39)], [])) (by decide +kernel) (by decide +kernel) h39, te_fi hw hfr (d := ([(149, 40)], [])) (by decide +kernel) (by decide +kernel) h40, te_fa hw hfr (d := ([(149, 11)], [103])) (by decide +kernel) (by decide +kernel) h11, te_fa hw hfr (d := ([(149, 13)], [105])) (by decide +kernel) (by decide +kernel) h13, te_fa hw hfr (d := ([(149, 14)], [106])) (by decide +kernel) (by decide +kernel) h14, te_fa hw hfr (d := ([(149, 24)], [116])) (by decide +kernel) (by decide +kernel) h24, te_fa hw hfr (d := ([(149, 23)], [115])) (by decide +kernel) (by decide +kernel) h23, hx, te_fa hw hfr (d := ([(149, 34)], [118])) (by decide +kernel) (by decide +kernel) h34, te_fa hw hfr (d := ([(149, 26)], [137])) (by decide +kernel) (by decide +kernel) h26, te_fa hw hfr (d := ([(149, 27)], [138])) (by decide +kernel) (by decide +kernel) h27⟩
theorem tr_B_cd {x : Nat → Int32} (hw : tj_wt tj_Lam Ψ w) (hfr : tj_fr ([], [118]) Ψ w w') (h : tr_B w q bk rb hv pv dv tm ho pe cd rf rt) (hx : tj_fa w' q 12 34 1280 x) : tr_B w' q bk rb hv pv dv tm ho pe x rf rt := by
  obtain ⟨h39, h40, h11, h13, h14, h24, h23, h19, h34, h26, h27⟩ := h
  exact ⟨te_fi hw hfr (d := ([(149, 39)], [])) (by decide +kernel) (by decide +kernel) h39, te_fi hw hfr (d := ([(149, 40)], [])) (by decide +kernel) (by decide +kernel) h40, te_fa hw hfr (d := ([(149, 11)], [103])) (by decide +kernel) (by decide +kernel) h11, te_fa hw hfr (d := ([(149, 13)], [105])) (by decide +kernel) (by decide +kernel) h13, te_fa hw hfr (d := ([(149, 14)], [106])) (by decide +kernel) (by decide +kernel) h14, te_fa hw hfr (d := ([(149, 24)], [116])) (by decide +kernel) (by decide +kernel) h24, te_fa hw hfr (d := ([(149, 23)], [115])) (by decide +kernel) (by decide +kernel) h23, te_fa hw hfr (d := ([(149, 19)], [111])) (by decide +kernel) (by decide +kernel) h19, hx, te_fa hw hfr (d := ([(149, 26)], [137])) (by decide +kernel) (by decide +kernel) h26, te_fa hw hfr (d := ([(149, 27)], [138])) (by decide +kernel) (by decide +kernel) h27⟩
theorem tr_B_rf {x : Nat → Int32} (hw : tj_wt tj_Lam Ψ w) (hfr : tj_fr ([], [137]) Ψ w w') (h : tr_B w q bk rb hv pv dv tm ho pe cd rf rt) (hx : tj_fa w' q 12 26 24 x) : tr_B w' q bk rb hv pv dv tm ho pe cd x rt := by
  obtain ⟨h39, h40, h11, h13, h14, h24, h23, h19, h34, h26, h27⟩ := h
  exact ⟨te_fi hw hfr (d := ([(149, 39)], [])) (by decide +kernel) (by decide +kernel) h39, te_fi hw hfr (d := ([(149, 40)], [])) (by decide +kernel) (by decide +kernel) h40, te_fa hw hfr (d := ([(149, 11)], [103])) (by decide +kernel) (by decide +kernel) h11, te_fa hw hfr (d := ([(149, 13)], [105])) (by decide +kernel) (by decide +kernel) h13, te_fa hw hfr (d := ([(149, 14)], [106])) (by decide +kernel) (by decide +kernel) h14, te_fa hw hfr (d := ([(149, 24)], [116])) (by decide +kernel) (by decide +kernel) h24, te_fa hw hfr (d := ([(149, 23)], [115])) (by decide +kernel) (by decide +kernel) h23, te_fa hw hfr (d := ([(149, 19)], [111])) (by decide +kernel) (by decide +kernel) h19, te_fa hw hfr (d := ([(149, 34)], [118])) (by decide +kernel) (by decide +kernel) h34, hx, te_fa hw hfr (d := ([(149, 27)], [138])) (by decide +kernel) (by decide +kernel) h27⟩
theorem tr_B_rt {x : Nat → Int32} (hw : tj_wt tj_Lam Ψ w) (hfr : tj_fr ([], [138]) Ψ w w') (h : tr_B w q bk rb hv pv dv tm ho pe cd rf rt) (hx : tj_fa w' q 12 27 24 x) : tr_B w' q bk rb hv pv dv tm ho pe cd rf x := by
  obtain ⟨h39, h40, h11, h13, h14, h24, h23, h19, h34, h26, h27⟩ := h
  exact ⟨te_fi hw hfr (d := ([(149, 39)], [])) (by decide +kernel) (by decide +kernel) h39, te_fi hw hfr (d := ([(149, 40)], [])) (by decide +kernel) (by decide +kernel) h40, te_fa hw hfr (d := ([(149, 11)], [103])) (by decide +kernel) (by decide +kernel) h11, te_fa hw hfr (d := ([(149, 13)], [105])) (by decide +kernel) (by decide +kernel) h13, te_fa hw hfr (d := ([(149, 14)], [106])) (by decide +kernel) (by decide +kernel) h14, te_fa hw hfr (d := ([(149, 24)], [116])) (by decide +kernel) (by decide +kernel) h24, te_fa hw hfr (d := ([(149, 23)], [115])) (by decide +kernel) (by decide +kernel) h23, te_fa hw hfr (d := ([(149, 19)], [111])) (by decide +kernel) (by decide +kernel) h19, te_fa hw hfr (d := ([(149, 34)], [118])) (by decide +kernel) (by decide +kernel) h34, te_fa hw hfr (d := ([(149, 26)], [137])) (by decide +kernel) (by decide +kernel) h26, hx⟩
end trB
/-- the bank that counts stays -/
def tr_old (b : Nat) (hv pv dv tm ho pe cd rf rt hv0 pv0 dv0 tm0 ho0 pe0 cd0 rf0 rt0 : Nat → Int32) : Prop := hv b = hv0 b ∧ pv b = pv0 b ∧ dv b = dv0 b ∧ (∀ i, i < 4 → tm (4 * b + i) = tm0 (4 * b + i)) ∧ (∀ i, i < 12 → ho (12 * b + i) = ho0 (12 * b + i)) ∧ (∀ i, i < 8 → pe (8 * b + i) = pe0 (8 * b + i)) ∧ (∀ i, i < 640 → cd (640 * b + i) = cd0 (640 * b + i)) ∧ (∀ i, i < 12 → rf (12 * b + i) = rf0 (12 * b + i)) ∧ (∀ i, i < 12 → rt (12 * b + i) = rt0 (12 * b + i))
/-- what holds of the bank that is being told: nr formulas, their codes below C -/
def tr_new (b nr : Nat) (C : Int) (hv pv dv tm ho pe cd rf rt : Nat → Int32) : Prop := (∀ p : Nat, (p : Int) < (pv b).toInt → 1 ≤ (tm (4 * b + p)).toInt ∧ (tm (4 * b + p)).toInt ≤ 14) ∧ (∀ h p : Nat, (h : Int) < (hv b).toInt → (p : Int) < (pv b).toInt → (pe (8 * b + h)).toInt = p → ∃ k, k < 3 ∧ (ho (3 * (4 * b + p) + k)).toInt = h) ∧ (∀ h : Nat, h < 8 → (h : Int) < (hv b).toInt → (pe (8 * b + h)).toInt < (pv b).toInt) ∧ (∀ r : Nat, r < nr → 640 * (b : Int) ≤ (rf (12 * b + r)).toInt ∧ (rf (12 * b + r)).toInt ≤ (rt (12 * b + r)).toInt ∧ (rt (12 * b + r)).toInt ≤ C ∧ tj_cd cd ((rt (12 * b + r)).toInt - (rf (12 * b + r)).toInt).toNat (rf (12 * b + r)).toInt.toNat 0)
theorem tr_cd_eq {g g' : Nat → Int32} : ∀ {n k d : Nat}, (∀ i, k ≤ i → i < k + n → g i = g' i) → tj_cd g n k d → tj_cd g' n k d
  | 0, _, _, _, _ => trivial
  | n + 1, k, d, h, hc => by
    have hk := h k (Nat.le_refl _) (by omega)
    have hr : ∀ {d'}, tj_cd g n (k + 1) d' → tj_cd g' n (k + 1) d' := fun hc => tr_cd_eq (fun i h1 h2 => h i (by omega) (by omega)) hc
    show ((g' k).toInt = 126 ∧ _) ∨ _
    rcases hc with ⟨h1, h2, h3⟩ | ⟨h1, h2, h3, h4, h5⟩ | ⟨h1, h2, h3, h4⟩
    · rw [hk] at h1
      exact Or.inl ⟨h1, h2, hr h3⟩
    · rw [hk] at h1 h2 h3
      exact Or.inr (Or.inl ⟨h1, h2, h3, h4, hr h5⟩)
    · rw [hk] at h1 h2
      exact Or.inr (Or.inr ⟨h1, h2, h3, hr h4⟩)
/-- one code done with D0 values gives D -/
def tr_stp (c : Int32) (D0 D : Nat) : Prop := (c.toInt = 126 ∧ 1 ≤ D0 ∧ D = D0) ∨ (c.toInt ≠ 126 ∧ 97 ≤ c.toInt ∧ c.toInt ≤ 122 ∧ D0 < 60 ∧ D = D0 + 1) ∨ (c.toInt ≠ 126 ∧ (c.toInt < 97 ∨ 122 < c.toInt) ∧ 2 ≤ D0 ∧ D = D0 - 1)
def tr_run (g : Nat → Int32) (fm : Nat) : Nat → Nat → Prop
  | 0, D => D = 0
  | n + 1, D => ∃ D0, tr_run g fm n D0 ∧ tr_stp (g (fm + n)) D0 D
theorem tr_run_cd {g : Nat → Int32} {fm : Nat} : ∀ {n D : Nat}, tr_run g fm n D → ∀ m, tj_cd g m (fm + n) D → tj_cd g (n + m) fm 0
  | 0, D, h, m, hc => by
    have h : D = 0 := h
    subst h
    rw [Nat.zero_add]
    exact hc
  | n + 1, D, ⟨D0, h1, h2⟩, m, hc => by
    rw [show n + 1 + m = n + (m + 1) by omega]
    refine tr_run_cd h1 (m + 1) ?_
    have hc : tj_cd g m (fm + n + 1) D := hc
    show ((g (fm + n)).toInt = 126 ∧ _) ∨ _
    rcases h2 with ⟨u1, u2, u3⟩ | ⟨u1, u2, u3, u4, u5⟩ | ⟨u1, u2, u3, u4⟩
    · subst u3
      exact Or.inl ⟨u1, u2, hc⟩
    · subst u5
      exact Or.inr (Or.inl ⟨u1, u2, u3, u4, hc⟩)
    · subst u4
      exact Or.inr (Or.inr ⟨u1, u2, u3, hc⟩)
theorem tr_run_eq {g g' : Nat → Int32} {fm : Nat} : ∀ {n D : Nat}, (∀ i, fm ≤ i → i < fm + n → g i = g' i) → tr_run g fm n D → tr_run g' fm n D
  | 0, _, _, h => h
  | n + 1, D, h, ⟨D0, h1, h2⟩ => ⟨D0, tr_run_eq (fun i a b => h i a (by omega)) h1, by rw [← h (fm + n) (by omega) (by omega)]; exact h2⟩
set_option maxRecDepth 20000 in
theorem tr_emit {Ψ : List Nat} {w : List zx_E} {q : Nat} {C c n : Int32} {cd : Nat → Int32} (hw : tj_wt tj_Lam Ψ w) (hq : Ψ[q]? = some 149) (h41 : tj_fi w q 12 41 C) (h34 : tj_fa w q 12 34 1280 cd) (hC : 0 ≤ C.toInt ∧ C.toInt < 1280) : tr_Do 1 112 [(.inr (.inr (.inl q))), (.inl c), (.inl n)] ([(149, 41)], [118, 119]) Ψ w (fun a _ w' => a = none ∧ tj_fi w' q 12 41 (C + Int32.ofNat 1) ∧ tj_fa w' q 12 34 1280 (upd cd C.toInt.toNat c)) := by
  obtain ⟨fs, k0, -, -⟩ := tr_ob hw hq
  obtain ⟨cn, h35⟩ := tr_exA (k := 35) (l := 119) (n := 1280) (s := [(1280, 0, 4294967295)]) hw hq rfl rfl
  have iC := zx_b_int C
  have eC : (C + Int32.ofNat 1).toInt = C.toInt + 1 := tm_inc tm_k1 (by omega)
  have iC1 := zx_b_int (C + Int32.ofNat 1)
  have bc := tj_b_lt c
  have bn := tj_b_lt n
  refine tr_meth (d := 0) (dt := zx_d_X12_emit) (by rw [← zx_q_X12_emit]; rfl) (by rw [(by decide +kernel : zx_rc 112 = 13)]; exact ⟨q, _, fs, rfl, k0⟩) (by decide +kernel : 3 ≤ zx_mx' 112) ?_
  refine zy_la (k := 0) rfl rfl (Or.inl ⟨_, rfl⟩) ?_
  refine zy_gA rfl h34 (fun p hp hpt hlp => ?_)
  refine zy_la (k := 0) rfl rfl (Or.inl ⟨_, rfl⟩) ?_
  refine zy_gI rfl h41 ?_
  refine zy_li (k := 1) rfl rfl ?_
  refine zy_wA (k := 34) (n := 1280) (lo := 0) (hi := 4294967295) rfl (tm_W0 (E := ([(149, 41)], [118, 119])) hw) hq rfl rfl (by decide) hpt h34 hC.1 hC.2 (Nat.zero_le _) (by omega) (by decide +kernel) ?_
  intro w1 hJ1 hfr1 hl1 h341
  have h411 := te_fi hw hfr1 (d := ([(149, 41)], [])) (by decide +kernel) (by decide +kernel) h41
  have h351 := te_fa hw hfr1 (d := ([(149, 35)], [119])) (by decide +kernel) (by decide +kernel) h35
  refine zy_la (k := 0) rfl rfl (Or.inl ⟨_, rfl⟩) ?_
  refine zy_gA rfl h351 (fun p2 hp2 hpt2 hlp2 => ?_)
  refine zy_la (k := 0) rfl rfl (Or.inl ⟨_, rfl⟩) ?_
  refine zy_gI rfl h411 ?_
  refine zy_li (k := 2) rfl rfl ?_
  refine zy_wA (k := 35) (n := 1280) (lo := 0) (hi := 4294967295) rfl hJ1 hq rfl rfl (by decide) hpt2 h351 hC.1 hC.2 (Nat.zero_le _) (by omega) (by decide +kernel) ?_
  intro w2 hJ2 hfr2 hl2 _
  have h412 := te_fi hJ1.1 hfr2 (d := ([(149, 41)], [])) (by decide +kernel) (by decide +kernel) h411
  have h342 := te_fa hJ1.1 hfr2 (d := ([(149, 34)], [118])) (by decide +kernel) (by decide +kernel) h341
  refine zy_la (k := 0) rfl rfl (Or.inl ⟨_, rfl⟩) ?_
  refine zy_dup rfl ?_
  refine zy_gI rfl h412 ?_
  refine zy_ci (n := 1) (c := 1) rfl ?_
  refine zy_add rfl ?_
  refine zy_wI (k := 41) (lo := 2147483648) (hi := 2147484928) rfl hJ2 hq rfl (by omega) (by omega) rfl (by decide +kernel) ?_
  intro w3 hJ3 hfr3 hl3 h413
  exact tr_endN ⟨_, _, _, rfl⟩ hJ3 ⟨rfl, h413, te_fa hJ2.1 hfr3 (d := ([(149, 34)], [118])) (by decide +kernel) (by decide +kernel) h342⟩
set_option maxRecDepth 20000 in
theorem tr_pushE {Ψ : List Nat} {w : List zx_E} {q : Nat} {pd c n : Int32} {E S : Nat → Int32} (hw : tj_wt tj_Lam Ψ w) (hq : Ψ[q]? = some 149) (h43 : tj_fi w q 12 43 pd) (h36 : tj_fa w q 12 36 90 E) (h37 : tj_fa w q 12 37 90 S) (hp0 : 0 ≤ pd.toInt ∧ pd.toInt < 90) (hc : 0 ≤ c.toInt ∧ c.toInt ≤ 8) : tr_Do 1 184 [(.inr (.inr (.inl q))), (.inl c), (.inl n)] ([(149, 43)], [120, 121]) Ψ w (fun a _ w' => a = none ∧ tj_fi w' q 12 43 (pd + Int32.ofNat 1) ∧ tj_fa w' q 12 36 90 (upd E pd.toInt.toNat c) ∧ tj_fa w' q 12 37 90 (upd S pd.toInt.toNat n)) := by
  obtain ⟨fs, k0, -, -⟩ := tr_ob hw hq
  have ipd := zx_b_int pd
  have ep : (pd + Int32.ofNat 1).toInt = pd.toInt + 1 := tm_inc tm_k1 (by omega)
  have ip1 := zx_b_int (pd + Int32.ofNat 1)
  have ic := zx_b_int c
  have bn := tj_b_lt n
  refine tr_meth (d := 0) (dt := zx_d_X12_pushE) (by rw [← zx_q_X12_pushE]; rfl) (by rw [(by decide +kernel : zx_rc 184 = 13)]; exact ⟨q, _, fs, rfl, k0⟩) (by decide +kernel : 3 ≤ zx_mx' 184) ?_
  refine zy_la (k := 0) rfl rfl (Or.inl ⟨_, rfl⟩) ?_
  refine zy_gA rfl h36 (fun p hp hpt hlp => ?_)
  refine zy_la (k := 0) rfl rfl (Or.inl ⟨_, rfl⟩) ?_
  refine zy_gI rfl h43 ?_
  refine zy_li (k := 1) rfl rfl ?_
  refine zy_wA (k := 36) (n := 90) (lo := 2147483648) (hi := 2147483656) rfl (tm_W0 (E := ([(149, 43)], [120, 121])) hw) hq rfl rfl (by decide) hpt h36 hp0.1 hp0.2 (by omega) (by omega) (by decide +kernel) ?_
  intro w1 hJ1 hfr1 hl1 h361
  have h431 := te_fi hw hfr1 (d := ([(149, 43)], [])) (by decide +kernel) (by decide +kernel) h43
  have h371 := te_fa hw hfr1 (d := ([(149, 37)], [121])) (by decide +kernel) (by decide +kernel) h37
  refine zy_la (k := 0) rfl rfl (Or.inl ⟨_, rfl⟩) ?_
  refine zy_gA rfl h371 (fun p2 hp2 hpt2 hlp2 => ?_)
  refine zy_la (k := 0) rfl rfl (Or.inl ⟨_, rfl⟩) ?_
  refine zy_gI rfl h431 ?_
  refine zy_li (k := 2) rfl rfl ?_
  refine zy_wA (k := 37) (n := 90) (lo := 0) (hi := 4294967295) rfl hJ1 hq rfl rfl (by decide) hpt2 h371 hp0.1 hp0.2 (Nat.zero_le _) (by omega) (by decide +kernel) ?_
  intro w2 hJ2 hfr2 hl2 h372
  have h432 := te_fi hJ1.1 hfr2 (d := ([(149, 43)], [])) (by decide +kernel) (by decide +kernel) h431
  have h362 := te_fa hJ1.1 hfr2 (d := ([(149, 36)], [120])) (by decide +kernel) (by decide +kernel) h361
  refine zy_la (k := 0) rfl rfl (Or.inl ⟨_, rfl⟩) ?_
  refine zy_dup rfl ?_
  refine zy_gI rfl h432 ?_
  refine zy_ci (n := 1) (c := 1) rfl ?_
  refine zy_add rfl ?_
  refine zy_wI (k := 43) (lo := 2147483648) (hi := 2147483738) rfl hJ2 hq rfl (by omega) (by omega) rfl (by decide +kernel) ?_
  intro w3 hJ3 hfr3 hl3 h433
  exact tr_endN ⟨_, _, _, rfl⟩ hJ3 ⟨rfl, h433, te_fa hJ2.1 hfr3 (d := ([(149, 36)], [120])) (by decide +kernel) (by decide +kernel) h362, te_fa hJ2.1 hfr3 (d := ([(149, 37)], [121])) (by decide +kernel) (by decide +kernel) h372⟩
def tr_EC : tj_Ef := ([(149, 41)], [103, 104, 105, 106, 107, 108, 142, 113, 144])
set_option maxRecDepth 20000 in
theorem tr_clearBank {Ψ : List Nat} {w : List zx_E} {q : Nat} {rb : Int32} {hv pv dv ua : Nat → Int32} (hw : tj_wt tj_Lam Ψ w) (hq : Ψ[q]? = some 149) (h40 : tj_fi w q 12 40 rb) (h11 : tj_fa w q 12 11 2 hv) (h13 : tj_fa w q 12 13 2 pv) (h14 : tj_fa w q 12 14 2 dv) (h15 : tj_fa w q 12 15 2 ua) : tr_Do 1 98 [(.inr (.inr (.inl q)))] tr_EC Ψ w (fun a _ w' => a = none ∧ (∃ C : Int32, tj_fi w' q 12 41 C ∧ C.toInt = 640 * rb.toInt) ∧ tj_fa w' q 12 11 2 (upd hv rb.toInt.toNat (Int32.ofNat 0)) ∧ tj_fa w' q 12 13 2 (upd pv rb.toInt.toNat (Int32.ofNat 0)) ∧ tj_fa w' q 12 14 2 (upd dv rb.toInt.toNat (Int32.ofNat 0)) ∧ tj_fa w' q 12 15 2 (upd ua rb.toInt.toNat (Int32.ofNat 0))) := by
  obtain ⟨fs, k0, -, -⟩ := tr_ob hw hq
  obtain ⟨lk, h12⟩ := tr_exA (k := 12) (l := 104) (n := 2) (s := [(2, 2147483648, 2147483678)]) hw hq rfl rfl
  obtain ⟨dr, h16⟩ := tr_exA (k := 16) (l := 108) (n := 2) (s := [(2, 2147483648, 2147484647)]) hw hq rfl rfl
  have brb := tr_bdI (lo := 2147483648) (hi := 2147483649) hw hq rfl h40
  have irb := zx_b_int rb
  have hb0 : 0 ≤ rb.toInt := by omega
  have hb2 : rb.toInt < (2 : Nat) := by omega
  have z0 : (Int32.ofNat 0).toInt = 0 := by decide
  have e64 : (Int32.ofNat 64 * rb).toInt = 64 * rb.toInt := tr_mul (c := 64) (by decide) rfl (by omega) (by omega)
  have e640 : (Int32.ofNat 640 * rb).toInt = 640 * rb.toInt := tr_mul (c := 640) (by decide) rfl (by omega) (by omega)
  have i640 := zx_b_int (Int32.ofNat 640 * rb)
  have c64 : (Int32.ofNat 64).toInt = 64 := by decide
  have e128 : (Int32.ofNat 64 * rb + Int32.ofNat 64).toInt = 64 * rb.toInt + 64 := by rw [tr_add (by omega) (by omega), e64, c64]
  have i128 := zx_b_int (Int32.ofNat 64 * rb + Int32.ofNat 64)
  let P : Option zx_V → List Nat → List zx_E → Prop := fun a _ w' => a = none ∧ (∃ C : Int32, tj_fi w' q 12 41 C ∧ C.toInt = 640 * rb.toInt) ∧ tj_fa w' q 12 11 2 (upd hv rb.toInt.toNat (Int32.ofNat 0)) ∧ tj_fa w' q 12 13 2 (upd pv rb.toInt.toNat (Int32.ofNat 0)) ∧ tj_fa w' q 12 14 2 (upd dv rb.toInt.toNat (Int32.ofNat 0)) ∧ tj_fa w' q 12 15 2 (upd ua rb.toInt.toNat (Int32.ofNat 0))
  refine tr_meth (P := P) (d := 0) (dt := zx_d_X12_clearBank) (by rw [← zx_q_X12_clearBank]; rfl) (by rw [(by decide +kernel : zx_rc 98 = 13)]; exact ⟨q, _, fs, rfl, k0⟩) (by decide +kernel : 1 ≤ zx_mx' 98) ?_
  let WP : zx_S → Prop := fun σ => zx_wp (zx_Cl zx_mt zx_rc zx_mx' 0) none (tj_P tj_c1 w, tj_P tj_c2 w) (zx_find (zx_cT zx_d_X12_clearBank)) (tr_end zx_d_X12_clearBank tr_EC Ψ w P) σ
  let J : List zx_E → Prop := fun w' => tj_W tj_Lam (tj_P tj_c1 w, tj_P tj_c2 w) tr_EC Ψ w Ψ w' 0 0
  let S : List zx_E → Prop := fun w' => tj_fi w' q 12 40 rb ∧ (∃ C : Int32, tj_fi w' q 12 41 C ∧ C.toInt = 640 * rb.toInt) ∧ tj_fa w' q 12 11 2 (upd hv rb.toInt.toNat (Int32.ofNat 0)) ∧ tj_fa w' q 12 13 2 (upd pv rb.toInt.toNat (Int32.ofNat 0)) ∧ tj_fa w' q 12 14 2 (upd dv rb.toInt.toNat (Int32.ofNat 0)) ∧ tj_fa w' q 12 15 2 (upd ua rb.toInt.toNat (Int32.ofNat 0))
  have Sfr : ∀ {w1 w2 : List zx_E} {e : tj_Ef}, J w1 → tj_fr e Ψ w1 w2 → tj_dj ([(149, 40), (149, 41), (149, 11), (149, 13), (149, 14), (149, 15)], [103, 105, 106, 107]) e = true → S w1 → S w2 := by
    intro w1 w2 e hJ hfr hd hS
    obtain ⟨s1, ⟨C, s2, s3⟩, s4, s5, s6, s7⟩ := hS
    exact ⟨te_fi hJ.1 hfr hd (by decide +kernel) s1, ⟨C, te_fi hJ.1 hfr hd (by decide +kernel) s2, s3⟩, te_fa hJ.1 hfr hd (by decide +kernel) s4, te_fa hJ.1 hfr hd (by decide +kernel) s5, te_fa hJ.1 hfr hd (by decide +kernel) s6, te_fa hJ.1 hfr hd (by decide +kernel) s7⟩
  have loop : ∀ (m : Nat) (k : Int32) (w' : List zx_E) (ls : List (Nat × zx_V)), k.toInt + m = 64 * rb.toInt + 64 → 0 ≤ k.toInt → J w' → S w' → zx_look 0 ls = some (.inr (.inr (.inl q))) → zx_look 1 ls = some (.inl k) → WP (90, ls, [], w', 0, 0) := by
    intro m
    induction m with
    | zero =>
      intro k w' ls hm hk0 hJ hS l0 l1
      have ik := zx_b_int k
      refine zy_li rfl l1 ?_
      refine zy_ci (n := 2) (c := 64) rfl ?_
      refine zy_la rfl l0 (Or.inl ⟨_, rfl⟩) ?_
      refine zy_gI rfl hS.1 ?_
      refine zy_mul rfl ?_
      refine zy_ci (n := 2) (c := 64) rfl ?_
      refine zy_add rfl ?_
      refine zy_jt rfl (fun _ => tr_endN ⟨_, _, _, rfl⟩ hJ ⟨rfl, hS.2⟩) (fun h => ?_)
      have h : zx_b k < zx_b (Int32.ofNat 64 * rb + Int32.ofNat 64) := h
      omega
    | succ m ih =>
      intro k w' ls hm hk0 hJ hS l0 l1
      have ik := zx_b_int k
      refine zy_li rfl l1 ?_
      refine zy_ci (n := 2) (c := 64) rfl ?_
      refine zy_la rfl l0 (Or.inl ⟨_, rfl⟩) ?_
      refine zy_gI rfl hS.1 ?_
      refine zy_mul rfl ?_
      refine zy_ci (n := 2) (c := 64) rfl ?_
      refine zy_add rfl ?_
      refine zy_jt rfl (fun h => ?_) (fun _ => ?_)
      · have h : zx_b (Int32.ofNat 64 * rb + Int32.ofNat 64) ≤ zx_b k := h
        omega
      obtain ⟨li, h21⟩ := tr_exA (k := 21) (l := 113) (n := 128) (s := [(128, 2147483648, 2147483657)]) hJ.1 hq rfl rfl
      refine zy_la rfl l0 (Or.inl ⟨_, rfl⟩) ?_
      refine zy_gA rfl h21 (fun p hp hpt hlp => ?_)
      refine zy_li rfl l1 ?_
      refine zy_ci (n := 1) (c := 0) rfl ?_
      refine zy_wA (k := 21) (n := 128) (lo := 2147483648) (hi := 2147483657) rfl hJ hq rfl rfl (by decide) hpt h21 hk0 (by omega) (by decide) (by decide) (by decide +kernel) ?_
      intro w1 hJ1 hfr1 hl1 _
      have hS1 := Sfr hJ hfr1 (by decide +kernel) hS
      obtain ⟨iz, h30⟩ := tr_exY (k := 30) (kd := 2) (l := 144) (n := 128) (s := [(128, 2147483648, 2147483649)]) hJ1.1 hq rfl rfl (Or.inl rfl)
      refine zy_la rfl l0 (Or.inl ⟨_, rfl⟩) ?_
      refine zy_gY rfl h30 (fun p2 hp2 hpt2 hlp2 => ?_)
      refine zy_li rfl l1 ?_
      refine zy_ci (n := 1) (c := 0) rfl ?_
      refine zy_wZ (k := 30) (n := 128) rfl hJ1 hq rfl rfl (by decide) hpt2 h30 hk0 (by omega) (by decide +kernel) ?_
      intro w2 hJ2 hfr2 hl2
      have hS2 := Sfr hJ1 hfr2 (by decide +kernel) hS1
      refine zy_ik (k := 1) (n := 1) rfl l1 ?_
      refine zy_goto rfl ?_
      have ek : (k + Int32.ofNat 1).toInt = k.toInt + 1 := tm_inc tm_k1 (by omega)
      exact ih (k + Int32.ofNat 1) w2 _ (by omega) (by omega) hJ2 hS2 (zy_look_ne (by decide) rfl l0) zy_look_put
  have hJ0 : J w := tm_W0 hw
  show WP (0, [(0, (.inr (.inr (.inl q))))], [], w, 0, 0)
  refine zy_la (k := 0) rfl rfl (Or.inl ⟨_, rfl⟩) ?_
  refine zy_gA rfl h11 (fun p0 hp0 hpt0 hlp0 => ?_)
  refine zy_la (k := 0) rfl rfl (Or.inl ⟨_, rfl⟩) ?_
  refine zy_gI rfl h40 ?_
  refine zy_ci (n := 1) (c := 0) rfl ?_
  refine zy_wA (k := 11) (n := 2) (lo := 2147483648) (hi := 2147483656) rfl hJ0 hq rfl rfl (by decide) hpt0 h11 hb0 hb2 (by decide) (by decide) (by decide +kernel) ?_
  intro w1 hJ1 hfr1 hl1 h11_1
  have h40_1 := te_fi hw hfr1 (d := ([(149, 40)], [])) (by decide +kernel) (by decide +kernel) h40
  have h12_1 := te_fa hw hfr1 (d := ([(149, 12)], [104])) (by decide +kernel) (by decide +kernel) h12
  have h13_1 := te_fa hw hfr1 (d := ([(149, 13)], [105])) (by decide +kernel) (by decide +kernel) h13
  have h14_1 := te_fa hw hfr1 (d := ([(149, 14)], [106])) (by decide +kernel) (by decide +kernel) h14
  have h15_1 := te_fa hw hfr1 (d := ([(149, 15)], [107])) (by decide +kernel) (by decide +kernel) h15
  have h16_1 := te_fa hw hfr1 (d := ([(149, 16)], [108])) (by decide +kernel) (by decide +kernel) h16
  refine zy_la (k := 0) rfl rfl (Or.inl ⟨_, rfl⟩) ?_
  refine zy_gA rfl h12_1 (fun p1 hp1 hpt1 hlp1 => ?_)
  refine zy_la (k := 0) rfl rfl (Or.inl ⟨_, rfl⟩) ?_
  refine zy_gI rfl h40_1 ?_
  refine zy_ci (n := 1) (c := 0) rfl ?_
  refine zy_wA (k := 12) (n := 2) (lo := 2147483648) (hi := 2147483678) rfl hJ1 hq rfl rfl (by decide) hpt1 h12_1 hb0 hb2 (by decide) (by decide) (by decide +kernel) ?_
  intro w2 hJ2 hfr2 hl2 h12_2
  have h40_2 := te_fi hJ1.1 hfr2 (d := ([(149, 40)], [])) (by decide +kernel) (by decide +kernel) h40_1
  have h11_2 := te_fa hJ1.1 hfr2 (d := ([(149, 11)], [103])) (by decide +kernel) (by decide +kernel) h11_1
  have h13_2 := te_fa hJ1.1 hfr2 (d := ([(149, 13)], [105])) (by decide +kernel) (by decide +kernel) h13_1
  have h14_2 := te_fa hJ1.1 hfr2 (d := ([(149, 14)], [106])) (by decide +kernel) (by decide +kernel) h14_1
  have h15_2 := te_fa hJ1.1 hfr2 (d := ([(149, 15)], [107])) (by decide +kernel) (by decide +kernel) h15_1
  have h16_2 := te_fa hJ1.1 hfr2 (d := ([(149, 16)], [108])) (by decide +kernel) (by decide +kernel) h16_1
  refine zy_la (k := 0) rfl rfl (Or.inl ⟨_, rfl⟩) ?_
  refine zy_gA rfl h13_2 (fun p2 hp2 hpt2 hlp2 => ?_)
  refine zy_la (k := 0) rfl rfl (Or.inl ⟨_, rfl⟩) ?_
  refine zy_gI rfl h40_2 ?_
  refine zy_ci (n := 1) (c := 0) rfl ?_
  refine zy_wA (k := 13) (n := 2) (lo := 2147483648) (hi := 2147483652) rfl hJ2 hq rfl rfl (by decide) hpt2 h13_2 hb0 hb2 (by decide) (by decide) (by decide +kernel) ?_
  intro w3 hJ3 hfr3 hl3 h13_3
  have h40_3 := te_fi hJ2.1 hfr3 (d := ([(149, 40)], [])) (by decide +kernel) (by decide +kernel) h40_2
  have h11_3 := te_fa hJ2.1 hfr3 (d := ([(149, 11)], [103])) (by decide +kernel) (by decide +kernel) h11_2
  have h12_3 := te_fa hJ2.1 hfr3 (d := ([(149, 12)], [104])) (by decide +kernel) (by decide +kernel) h12_2
  have h14_3 := te_fa hJ2.1 hfr3 (d := ([(149, 14)], [106])) (by decide +kernel) (by decide +kernel) h14_2
  have h15_3 := te_fa hJ2.1 hfr3 (d := ([(149, 15)], [107])) (by decide +kernel) (by decide +kernel) h15_2
  have h16_3 := te_fa hJ2.1 hfr3 (d := ([(149, 16)], [108])) (by decide +kernel) (by decide +kernel) h16_2
  refine zy_la (k := 0) rfl rfl (Or.inl ⟨_, rfl⟩) ?_
  refine zy_gA rfl h14_3 (fun p3 hp3 hpt3 hlp3 => ?_)
  refine zy_la (k := 0) rfl rfl (Or.inl ⟨_, rfl⟩) ?_
  refine zy_gI rfl h40_3 ?_
  refine zy_ci (n := 1) (c := 0) rfl ?_
  refine zy_wA (k := 14) (n := 2) (lo := 2147483648) (hi := 2147483654) rfl hJ3 hq rfl rfl (by decide) hpt3 h14_3 hb0 hb2 (by decide) (by decide) (by decide +kernel) ?_
  intro w4 hJ4 hfr4 hl4 h14_4
  have h40_4 := te_fi hJ3.1 hfr4 (d := ([(149, 40)], [])) (by decide +kernel) (by decide +kernel) h40_3
  have h11_4 := te_fa hJ3.1 hfr4 (d := ([(149, 11)], [103])) (by decide +kernel) (by decide +kernel) h11_3
  have h12_4 := te_fa hJ3.1 hfr4 (d := ([(149, 12)], [104])) (by decide +kernel) (by decide +kernel) h12_3
  have h13_4 := te_fa hJ3.1 hfr4 (d := ([(149, 13)], [105])) (by decide +kernel) (by decide +kernel) h13_3
  have h15_4 := te_fa hJ3.1 hfr4 (d := ([(149, 15)], [107])) (by decide +kernel) (by decide +kernel) h15_3
  have h16_4 := te_fa hJ3.1 hfr4 (d := ([(149, 16)], [108])) (by decide +kernel) (by decide +kernel) h16_3
  refine zy_la (k := 0) rfl rfl (Or.inl ⟨_, rfl⟩) ?_
  refine zy_gA rfl h15_4 (fun p4 hp4 hpt4 hlp4 => ?_)
  refine zy_la (k := 0) rfl rfl (Or.inl ⟨_, rfl⟩) ?_
  refine zy_gI rfl h40_4 ?_
  refine zy_ci (n := 1) (c := 0) rfl ?_
  refine zy_wA (k := 15) (n := 2) (lo := 2147483648) (hi := 2147483738) rfl hJ4 hq rfl rfl (by decide) hpt4 h15_4 hb0 hb2 (by decide) (by decide) (by decide +kernel) ?_
  intro w5 hJ5 hfr5 hl5 h15_5
  have h40_5 := te_fi hJ4.1 hfr5 (d := ([(149, 40)], [])) (by decide +kernel) (by decide +kernel) h40_4
  have h11_5 := te_fa hJ4.1 hfr5 (d := ([(149, 11)], [103])) (by decide +kernel) (by decide +kernel) h11_4
  have h12_5 := te_fa hJ4.1 hfr5 (d := ([(149, 12)], [104])) (by decide +kernel) (by decide +kernel) h12_4
  have h13_5 := te_fa hJ4.1 hfr5 (d := ([(149, 13)], [105])) (by decide +kernel) (by decide +kernel) h13_4
  have h14_5 := te_fa hJ4.1 hfr5 (d := ([(149, 14)], [106])) (by decide +kernel) (by decide +kernel) h14_4
  have h16_5 := te_fa hJ4.1 hfr5 (d := ([(149, 16)], [108])) (by decide +kernel) (by decide +kernel) h16_4
  refine zy_la (k := 0) rfl rfl (Or.inl ⟨_, rfl⟩) ?_
  refine zy_gA rfl h16_5 (fun p5 hp5 hpt5 hlp5 => ?_)
  refine zy_la (k := 0) rfl rfl (Or.inl ⟨_, rfl⟩) ?_
  refine zy_gI rfl h40_5 ?_
  refine zy_ci (n := 1) (c := 0) rfl ?_
  refine zy_wA (k := 16) (n := 2) (lo := 2147483648) (hi := 2147484647) rfl hJ5 hq rfl rfl (by decide) hpt5 h16_5 hb0 hb2 (by decide) (by decide) (by decide +kernel) ?_
  intro w6 hJ6 hfr6 hl6 h16_6
  have h40_6 := te_fi hJ5.1 hfr6 (d := ([(149, 40)], [])) (by decide +kernel) (by decide +kernel) h40_5
  have h11_6 := te_fa hJ5.1 hfr6 (d := ([(149, 11)], [103])) (by decide +kernel) (by decide +kernel) h11_5
  have h12_6 := te_fa hJ5.1 hfr6 (d := ([(149, 12)], [104])) (by decide +kernel) (by decide +kernel) h12_5
  have h13_6 := te_fa hJ5.1 hfr6 (d := ([(149, 13)], [105])) (by decide +kernel) (by decide +kernel) h13_5
  have h14_6 := te_fa hJ5.1 hfr6 (d := ([(149, 14)], [106])) (by decide +kernel) (by decide +kernel) h14_5
  have h15_6 := te_fa hJ5.1 hfr6 (d := ([(149, 15)], [107])) (by decide +kernel) (by decide +kernel) h15_5
  obtain ⟨bz, h28⟩ := tr_exY (k := 28) (kd := 2) (l := 142) (n := 2) (s := [(2, 2147483648, 2147483649)]) hJ6.1 hq rfl rfl (Or.inl rfl)
  refine zy_la (k := 0) rfl rfl (Or.inl ⟨_, rfl⟩) ?_
  refine zy_gY rfl h28 (fun p6 hp6 hpt6 hlp6 => ?_)
  refine zy_la (k := 0) rfl rfl (Or.inl ⟨_, rfl⟩) ?_
  refine zy_gI rfl h40_6 ?_
  refine zy_ci (n := 1) (c := 0) rfl ?_
  refine zy_wZ (k := 28) (n := 2) rfl hJ6 hq rfl rfl (by decide) hpt6 h28 hb0 hb2 (by decide +kernel) ?_
  intro w7 hJ7 hfr7 hl7
  refine zy_la (k := 0) rfl rfl (Or.inl ⟨_, rfl⟩) ?_
  refine zy_ci (n := 3) (c := 640) rfl ?_
  refine zy_la (k := 0) rfl rfl (Or.inl ⟨_, rfl⟩) ?_
  refine zy_gI rfl (te_fi hJ6.1 hfr7 (d := ([(149, 40)], [])) (by decide +kernel) (by decide +kernel) h40_6) ?_
  refine zy_mul rfl ?_
  refine zy_wI (k := 41) (lo := 2147483648) (hi := 2147484928) rfl hJ7 hq rfl (by omega) (by omega) rfl (by decide +kernel) ?_
  intro w8 hJ8 hfr8 hl8 h41
  have T40 := te_fi hJ7.1 hfr8 (d := ([(149, 40)], [])) (by decide +kernel) (by decide +kernel) (te_fi hJ6.1 hfr7 (d := ([(149, 40)], [])) (by decide +kernel) (by decide +kernel) h40_6)
  have T11 := te_fa hJ7.1 hfr8 (d := ([(149, 11)], [103])) (by decide +kernel) (by decide +kernel) (te_fa hJ6.1 hfr7 (d := ([(149, 11)], [103])) (by decide +kernel) (by decide +kernel) h11_6)
  have T13 := te_fa hJ7.1 hfr8 (d := ([(149, 13)], [105])) (by decide +kernel) (by decide +kernel) (te_fa hJ6.1 hfr7 (d := ([(149, 13)], [105])) (by decide +kernel) (by decide +kernel) h13_6)
  have T14 := te_fa hJ7.1 hfr8 (d := ([(149, 14)], [106])) (by decide +kernel) (by decide +kernel) (te_fa hJ6.1 hfr7 (d := ([(149, 14)], [106])) (by decide +kernel) (by decide +kernel) h14_6)
  have T15 := te_fa hJ7.1 hfr8 (d := ([(149, 15)], [107])) (by decide +kernel) (by decide +kernel) (te_fa hJ6.1 hfr7 (d := ([(149, 15)], [107])) (by decide +kernel) (by decide +kernel) h15_6)
  refine zy_ci (n := 2) (c := 64) rfl ?_
  refine zy_la (k := 0) rfl rfl (Or.inl ⟨_, rfl⟩) ?_
  refine zy_gI rfl T40 ?_
  refine zy_mul rfl ?_
  refine zy_si (k := 1) rfl ?_
  exact loop 64 (Int32.ofNat 64 * rb) w8 _ (by omega) (by omega) hJ8 ⟨T40, ⟨_, h41, e640⟩, T11, T13, T14, T15⟩ rfl zy_look_put
