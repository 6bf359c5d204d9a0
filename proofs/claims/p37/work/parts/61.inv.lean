/-! by hand: what holds of the class between calls: its sums know their game, stretches lie within their room -/
def tm_INS (room : Nat) (s ga : Nat) (w : List zx_E) : Prop := (∃ fs, w[s]? = some (.inl (9, fs)) ∧ fs[1]? = some (.inr (.inr (.inl ga)))) ∧ tj_sm3 (.inr (.inr (.inl s))) (.inl (Int32.ofNat room)) w
def tm_IN (x : Nat) (w : List zx_E) : Prop := ∃ fs ga, w[x]? = some (.inl (11, fs)) ∧ fs[8]? = some (.inr (.inr (.inl ga))) ∧ (∀ s, fs[9]? = some (.inr (.inr (.inl s))) → tm_INS 32768 s ga w) ∧ (∀ z, fs[10]? = some (.inr (.inr (.inl z))) → ∃ zs su, w[z]? = some (.inl (6, zs)) ∧ zs[0]? = some (.inr (.inr (.inl ga))) ∧ zs[1]? = some (.inr (.inr (.inl su))) ∧ tm_INS 262144 su ga w)
theorem tm_INS_fr {lS lt lc room s ga : Nat} {Ψ : List Nat} {w w' : List zx_E} {e : tj_Ef} {fts : List tj_y} (hd : tj_Lam[lS]? = some (.inl (9, 0, fts))) (t5 : fts[5]? = some (1, lt, 0)) (t6 : fts[6]? = some (1, lc, 0)) (hw : tj_wt tj_Lam Ψ w) (hs : Ψ[s]? = some lS) (h : tm_INS room s ga w) (hfr : tj_fr e Ψ w w') (z1 : tj_h2 lS 1 e.1 = false) (z5 : tj_h2 lS 5 e.1 = false) (z6 : tj_h2 lS 6 e.1 = false) (zt : tj_h1 lt e.2 = false) (zc : tj_h1 lc e.2 = false) : tm_INS room s ga w' := by
  obtain ⟨⟨fs, h0, h1⟩, q, n, sF, cF, e1, e2, ⟨fs1, p, a1, a2, a3⟩, ⟨fs2, c, b1, b2, b3⟩, hS⟩ := h
  cases e1
  rw [h0] at a1 b1
  cases a1
  cases b1
  obtain ⟨fs0, k0, -, -, kt⟩ := tj_obj hw hs hd
  rw [h0] at k0
  cases k0
  obtain ⟨v5, g5, p5, y5, hp⟩ := kt 5 _ t5
  rw [a2] at g5
  cases g5
  cases y5
  obtain ⟨v6, g6, p6, y6, hc⟩ := kt 6 _ t6
  rw [b2] at g6
  cases g6
  cases y6
  obtain ⟨fs', m0, mm⟩ := (hfr s lS hs).1 9 fs h0
  obtain ⟨s', n0, nn⟩ := (hfr p lt hp).2 0 2100 _ a3
  obtain ⟨c', o0, oo⟩ := (hfr c lc hc).2 0 2100 _ b3
  rw [nn zt] at n0
  rw [oo zc] at o0
  exact ⟨⟨fs', m0, (mm 1 z1).trans h1⟩, s, n, sF, cF, rfl, e2, ⟨fs', p, m0, (mm 5 z5).trans a2, n0⟩, ⟨fs', c, m0, (mm 6 z6).trans b2, o0⟩, hS⟩
theorem tm_djn {d e : tj_Ef} (h : tj_dj d e = true) : (∀ l k, tj_h2 l k d.1 = true → tj_h2 l k e.1 = false) ∧ ∀ l, tj_h1 l d.2 = true → tj_h1 l e.2 = false := by
  unfold tj_dj at h
  rw [Bool.and_eq_true] at h
  refine ⟨fun l k hd => ?_, fun l hd => ?_⟩
  · cases he : tj_h2 l k e.1 with
    | false => rfl
    | true =>
      have h1 := List.all_eq_true.mp h.1 (l, k) (tj_h2_mem he)
      have h1 : (!(tj_h2 l k d.1)) = true := h1
      rw [hd] at h1
      cases h1
  · cases he : tj_h1 l e.2 with
    | false => rfl
    | true =>
      have h1 := List.all_eq_true.mp h.2 l (tj_h1_mem he)
      have h1 : (!(tj_h1 l d.2)) = true := h1
      rw [hd] at h1
      cases h1
theorem tm_djs {d d' e : tj_Ef} (h : tj_dj d e = true) (h2 : tj_sub2 d'.1 d.1 = true) (h1 : tj_sub1 d'.2 d.2 = true) : tj_dj d' e = true := by
  unfold tj_dj at h ⊢
  rw [Bool.and_eq_true] at h ⊢
  refine ⟨List.all_eq_true.mpr (fun q hq => ?_), List.all_eq_true.mpr (fun l hl => ?_)⟩
  · have h3 := List.all_eq_true.mp h.1 q hq
    have h3 : (!(tj_h2 q.1 q.2 d.1)) = true := h3
    rw [Bool.not_eq_true'] at h3
    show (!(tj_h2 q.1 q.2 d'.1)) = true
    rw [tj_sub2_f h2 h3]
    rfl
  · have h3 := List.all_eq_true.mp h.2 l hl
    have h3 : (!(tj_h1 l d.2)) = true := h3
    rw [Bool.not_eq_true'] at h3
    show (!(tj_h1 l d'.2)) = true
    rw [tj_sub1_f h1 h3]
    rfl
theorem tm_INSF {s ga : Nat} {Ψ : List Nat} {w w' : List zx_E} {e : tj_Ef} (hw : tj_wt tj_Lam Ψ w) (hs : Ψ[s]? = some 83) (h : tm_INS 32768 s ga w) (hfr : tj_fr e Ψ w w') (hz : tj_dj ([(83, 1), (83, 5), (83, 6)], [77, 78]) e = true) : tm_INS 32768 s ga w' := by
  have hd : ∃ fts, tj_Lam[83]? = some (.inl (9, 0, fts)) ∧ fts[5]? = some (1, 77, 0) ∧ fts[6]? = some (1, 78, 0) := ⟨_, rfl, rfl, rfl⟩
  obtain ⟨fts, hd, t5, t6⟩ := hd
  obtain ⟨z1, z2⟩ := tm_djn hz
  exact tm_INS_fr hd t5 t6 hw hs h hfr (z1 83 1 (by decide)) (z1 83 5 (by decide)) (z1 83 6 (by decide)) (z2 77 (by decide)) (z2 78 (by decide))
theorem tm_INSM {s ga : Nat} {Ψ : List Nat} {w w' : List zx_E} {e : tj_Ef} (hw : tj_wt tj_Lam Ψ w) (hs : Ψ[s]? = some 93) (h : tm_INS 262144 s ga w) (hfr : tj_fr e Ψ w w') (hz : tj_dj ([(93, 1), (93, 5), (93, 6)], [87, 88]) e = true) : tm_INS 262144 s ga w' := by
  have hd : ∃ fts, tj_Lam[93]? = some (.inl (9, 0, fts)) ∧ fts[5]? = some (1, 87, 0) ∧ fts[6]? = some (1, 88, 0) := ⟨_, rfl, rfl, rfl⟩
  obtain ⟨fts, hd, t5, t6⟩ := hd
  obtain ⟨z1, z2⟩ := tm_djn hz
  exact tm_INS_fr hd t5 t6 hw hs h hfr (z1 93 1 (by decide)) (z1 93 5 (by decide)) (z1 93 6 (by decide)) (z2 87 (by decide)) (z2 88 (by decide))
/-- the search's part -/
def tm_INZ (z ga : Nat) (w : List zx_E) : Prop := ∃ zs su, w[z]? = some (.inl (6, zs)) ∧ zs[0]? = some (.inr (.inr (.inl ga))) ∧ zs[1]? = some (.inr (.inr (.inl su))) ∧ tm_INS 262144 su ga w
theorem tm_INZ_su {z ga su : Nat} {Ψ : List Nat} {w : List zx_E} {zs : List zx_V} (hw : tj_wt tj_Lam Ψ w) (hz : Ψ[z]? = some 99) (h0 : w[z]? = some (.inl (6, zs))) (h1 : zs[1]? = some (.inr (.inr (.inl su)))) : Ψ[su]? = some 93 := by
  have hd : ∃ fts, tj_Lam[99]? = some (.inl (6, 0, fts)) ∧ fts[1]? = some (1, 93, 0) := ⟨_, rfl, rfl⟩
  obtain ⟨fts, hd, t1⟩ := hd
  obtain ⟨fs0, k0, -, -, kt⟩ := tj_obj hw hz hd
  rw [h0] at k0
  cases k0
  obtain ⟨v1, g1, p1, y1, hp⟩ := kt 1 _ t1
  rw [h1] at g1
  cases g1
  cases y1
  exact hp
theorem tm_INZ_fr {z ga : Nat} {Ψ : List Nat} {w w' : List zx_E} {e : tj_Ef} (hw : tj_wt tj_Lam Ψ w) (hz : Ψ[z]? = some 99) (h : tm_INZ z ga w) (hfr : tj_fr e Ψ w w') (hc : tj_dj ([(99, 0), (99, 1), (93, 1), (93, 5), (93, 6)], [87, 88]) e = true) : tm_INZ z ga w' := by
  obtain ⟨zs, su, h0, h1, h2, h3⟩ := h
  have hsu := tm_INZ_su (ga := ga) hw hz h0 h2
  obtain ⟨fs', m0, mm⟩ := (hfr z 99 hz).1 6 zs h0
  obtain ⟨z1, z2⟩ := tm_djn hc
  have hc2 : tj_dj ([(93, 1), (93, 5), (93, 6)], [87, 88]) e = true := tm_djs hc (by decide) (by decide)
  exact ⟨fs', su, m0, (mm 0 (z1 99 0 (by decide))).trans h1, (mm 1 (z1 99 1 (by decide))).trans h2, tm_INSM hw hsu h3 hfr hc2⟩
def tm_INd : tj_Ef := ([(100, 8), (100, 9), (100, 10), (99, 0), (99, 1), (93, 1), (93, 5), (93, 6), (83, 1), (83, 5), (83, 6)], [87, 88, 77, 78])
/-- a call that touches nothing of it -/
theorem tm_IN_fr {x : Nat} {Ψ : List Nat} {w w' : List zx_E} {e : tj_Ef} (hw : tj_wt tj_Lam Ψ w) (hx : Ψ[x]? = some 100) (h : tm_IN x w) (hfr : tj_fr e Ψ w w') (hc : tj_dj tm_INd e = true) : tm_IN x w' := by
  obtain ⟨fs, ga, h0, h8, h9, h10⟩ := h
  obtain ⟨z1, z2⟩ := tm_djn hc
  obtain ⟨fs', m0, mm⟩ := (hfr x 100 hx).1 11 fs h0
  have e8 := mm 8 (z1 100 8 (by decide))
  have e9 := mm 9 (z1 100 9 (by decide))
  have e10 := mm 10 (z1 100 10 (by decide))
  have hd : ∃ fts, tj_Lam[100]? = some (.inl (11, 0, fts)) ∧ fts[9]? = some (2, 83, 0) ∧ fts[10]? = some (2, 99, 0) := ⟨_, rfl, rfl, rfl⟩
  obtain ⟨fts, hd, t9, t10⟩ := hd
  obtain ⟨fs0, k0, -, -, kt⟩ := tj_obj hw hx hd
  rw [h0] at k0
  cases k0
  refine ⟨fs', ga, m0, e8.trans h8, fun s hs => ?_, fun z hz => ?_⟩
  · rw [e9] at hs
    obtain ⟨v, g, hv⟩ := kt 9 _ t9
    rw [hs] at g
    cases g
    rcases hv with hv | ⟨p, hv, hp⟩
    · cases hv
    · cases hv
      exact tm_INSF hw hp (h9 s hs) hfr (tm_djs hc (by decide) (by decide))
  · rw [e10] at hz
    obtain ⟨v, g, hv⟩ := kt 10 _ t10
    rw [hz] at g
    cases g
    rcases hv with hv | ⟨p, hv, hp⟩
    · cases hv
    · cases hv
      exact tm_INZ_fr hw hp (h10 z hz) hfr (tm_djs hc (by decide) (by decide))
/-- a world where one of the two comes to be -/
theorem tm_newX {cap : Nat × Nat} {E : tj_Ef} {Ψ0 Ψ Δ : List Nat} {w0 w e : List zx_E} {mc ms x k lk p1 p2 : Nat} {fs : List zx_V} {fts : List tj_y} (hW : tj_W tj_Lam cap E Ψ0 w0 Ψ w mc ms) (hx : Ψ[x]? = some 100) (hf : w[x]? = some (.inl (11, fs))) (hd : tj_Lam[100]? = some (.inl (11, 0, fts))) (ht : fts[k]? = some (2, lk, 0)) (hp1 : tj_p tj_c1 (.inl (11, (fs.set k (.inr (.inr (.inl w.length)))))) + p1 = tj_p tj_c1 (.inl (11, fs))) (hp2 : tj_p tj_c2 (.inl (11, (fs.set k (.inr (.inr (.inl w.length)))))) + p2 = tj_p tj_c2 (.inl (11, fs))) (hwt : tj_wt tj_Lam (Ψ ++ Δ) (w ++ e)) (hn : Δ[0]? = some lk) (he1 : tj_P tj_c1 e = 0) (he2 : tj_P tj_c2 e = 0) (hE : tj_h2 100 k E.1 = true) : (mc + p1 ≤ cap.1 ∧ ms + p2 ≤ cap.2) ∧ ∀ a b, a ≤ p1 → b ≤ p2 → tj_W tj_Lam cap E Ψ0 w0 (Ψ ++ Δ) ((w ++ e).set x (.inl (11, (fs.set k (.inr (.inr (.inl w.length))))))) (mc + a) (ms + b) := by
  have hlt : x < w.length := (List.getElem?_eq_some_iff.mp hf).1
  have hfa : (w ++ e)[x]? = some (.inl (11, fs)) := by rw [List.getElem?_append_left hlt]; exact hf
  have q1 := tj_P_set2 hp1 hfa
  have q2 := tj_P_set2 hp2 hfa
  rw [tj_P_app, he1, Nat.add_zero] at q1
  rw [tj_P_app, he2, Nat.add_zero] at q2
  have hroom := hW.2.1
  have hnl : (Ψ ++ Δ)[w.length]? = some lk := by
    rw [List.getElem?_append_right (by rw [hW.1.1]; exact Nat.le_refl _), hW.1.1, Nat.sub_self]
    exact hn
  refine ⟨⟨by omega, by omega⟩, fun a b ha hb => ⟨tj_setf hwt (tj_le_app _ _ hx) hd hfa ht (Or.inr ⟨_, rfl, hnl⟩) trivial, ⟨by omega, by omega⟩, tj_le_tr hW.2.2.1 tj_le_app, fun q' l' hq' => ?_⟩⟩
  obtain ⟨a1, a2⟩ := hW.2.2.2 q' l' hq'
  by_cases e0 : x = q'
  · subst e0
    have el : l' = 100 := by
      have := hW.2.2.1 x l' hq'
      rw [hx] at this
      cases this
      rfl
    subst el
    refine ⟨fun c fs0 h0 => ?_, fun kd n f h0 => ?_⟩
    · obtain ⟨fs1, e1, g1⟩ := a1 c fs0 h0
      rw [hf] at e1
      cases e1
      refine ⟨fs.set k (.inr (.inr (.inl w.length))), List.getElem?_set_self (by rw [List.length_append]; omega), fun k' hk' => ?_⟩
      have hne : k ≠ k' := fun e => by rw [e, hk'] at hE; cases hE
      rw [List.getElem?_set_ne hne]
      exact g1 k' hk'
    · obtain ⟨f1, e1, -⟩ := a2 kd n f h0
      rw [hf] at e1
      cases e1
  · refine ⟨fun c fs0 h0 => ?_, fun kd n f h0 => ?_⟩
    · obtain ⟨fs1, e1, g1⟩ := a1 c fs0 h0
      exact ⟨fs1, by rw [List.getElem?_set_ne e0, List.getElem?_append_left (List.getElem?_eq_some_iff.mp e1).1]; exact e1, g1⟩
    · obtain ⟨f1, e1, g1⟩ := a2 kd n f h0
      exact ⟨f1, by rw [List.getElem?_set_ne e0, List.getElem?_append_left (List.getElem?_eq_some_iff.mp e1).1]; exact e1, g1⟩
theorem tm_INS_mono {room s ga : Nat} {w w' : List zx_E} (hm : ∀ (j : Nat) (e : zx_E), (∀ fs, e ≠ .inl (11, fs)) → w[j]? = some e → w'[j]? = some e) (h : tm_INS room s ga w) : tm_INS room s ga w' := by
  obtain ⟨⟨fs, h0, h1⟩, q, n, sF, cF, e1, e2, ⟨fs1, p, a1, a2, a3⟩, ⟨fs2, c, b1, b2, b3⟩, hS⟩ := h
  exact ⟨⟨fs, hm _ _ (fun _ e => by cases e) h0, h1⟩, q, n, sF, cF, e1, e2, ⟨fs1, p, hm _ _ (fun _ e => by cases e) a1, a2, hm _ _ (fun _ e => by cases e) a3⟩, ⟨fs2, c, hm _ _ (fun _ e => by cases e) b1, b2, hm _ _ (fun _ e => by cases e) b3⟩, hS⟩
