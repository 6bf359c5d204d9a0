/-! proofs by hand over the exact machine: steps, calls by summaries, ends -/
section zyStep
variable {K : zx_K} {X : zx_X} {cap : Nat × Nat} {tab : Nat → Option zx_Q} {Q : zx_S → Prop} {pc mc ms : Nat} {ls : List (Nat × zx_V)} {st : List zx_V} {w : List zx_E}
theorem zy_f {f : zx_S → Option zx_S} {σ μ : zx_S} (ht : tab σ.1 = some (zx_q f)) (h : f σ = some μ) (k : zx_wp K X cap tab Q μ) : zx_wp K X cap tab Q σ := zx_wp_pure ht h k
theorem zy_la {n k : Nat} {v : zx_V} (ht : tab pc = some (zx_la n k)) (hv : zx_look k ls = some v) (hk : (∃ q, v = (.inr (.inr (.inl q)))) ∨ v = (.inr (.inr (.inr 0)))) (kk : zx_wp K X cap tab Q (pc + n, ls, v :: st, w, mc, ms)) : zx_wp K X cap tab Q (pc, ls, st, w, mc, ms) := by
  refine zy_f (μ := (pc + n, ls, v :: st, w, mc, ms)) ht ?_ kk
  rcases hk with ⟨q, rfl⟩ | rfl
  · simp only [zx_ldA, hv, zx_push]
  · simp only [zx_ldA, hv, zx_push]
theorem zy_li {n k : Nat} {x : Int32} (ht : tab pc = some (zx_li n k)) (hv : zx_look k ls = some (.inl x)) (kk : zx_wp K X cap tab Q (pc + n, ls, (.inl x) :: st, w, mc, ms)) : zx_wp K X cap tab Q (pc, ls, st, w, mc, ms) := by
  refine zy_f (μ := (pc + n, ls, (.inl x) :: st, w, mc, ms)) ht ?_ kk
  simp only [zx_ldI, hv, zx_push]
theorem zy_get {ci k q : Nat} {fs : List zx_V} {v : zx_V} (ht : tab pc = some (zx_gk ci k)) (hq : w[q]? = some (.inl (ci, fs))) (hv : fs[k]? = some v) (kk : zx_wp K X cap tab Q (pc + 3, ls, v :: st, w, mc, ms)) : zx_wp K X cap tab Q (pc, ls, (.inr (.inr (.inl q))) :: st, w, mc, ms) := by
  refine zy_f (μ := (pc + 3, ls, v :: st, w, mc, ms)) ht ?_ kk
  simp only [zx_gf, hq, hv, zx_beqT (rfl : ci = ci)]
theorem zy_put {ci k fit q : Nat} {fs : List zx_V} {v : zx_V} (ht : tab pc = some (zx_pk ci k fit)) (hq : w[q]? = some (.inl (ci, fs))) (hk : k < fs.length) (hf : zx_fit fit v = true) (kk : zx_wp K X cap tab Q (pc + 3, ls, st, w.set q (.inl (ci, (fs.set k v))), mc, ms)) : zx_wp K X cap tab Q (pc, ls, v :: (.inr (.inr (.inl q))) :: st, w, mc, ms) := by
  refine zy_f (μ := (pc + 3, ls, st, w.set q (.inl (ci, (fs.set k v))), mc, ms)) ht ?_ kk
  have hb : Nat.blt k fs.length = true := Nat.ble_eq_true_of_le hk
  simp only [zx_pf, hq, zx_beqT (rfl : ci = ci), hb, hf, Bool.and_self]
theorem zy_j0 {o : ClassFile.Cond} {t : Nat} {x : Int32} (ht : tab pc = some (zx_jz o t)) (k1 : tj_rel o (zx_b x) 2147483648 → zx_wp K X cap tab Q (t, ls, st, w, mc, ms)) (k2 : tj_rel (tj_neg o) (zx_b x) 2147483648 → zx_wp K X cap tab Q (pc + 3, ls, st, w, mc, ms)) : zx_wp K X cap tab Q (pc, ls, (.inl x) :: st, w, mc, ms) := by
  obtain ⟨c1, c2⟩ := tj_cmp_rel o x 0
  have h0 : zx_b 0 = 2147483648 := by decide
  rw [h0] at c1 c2
  refine zy_f (μ := (zx_pick (zx_cmp o x 0) t (pc + 3), ls, st, w, mc, ms)) ht rfl ?_
  cases hc : zx_cmp o x 0 with
  | true => exact k1 (c1 hc)
  | false => exact k2 (c2 hc)
theorem zy_jt {o : ClassFile.Cond} {t : Nat} {x y : Int32} (ht : tab pc = some (zx_jj o t)) (k1 : tj_rel o (zx_b x) (zx_b y) → zx_wp K X cap tab Q (t, ls, st, w, mc, ms)) (k2 : tj_rel (tj_neg o) (zx_b x) (zx_b y) → zx_wp K X cap tab Q (pc + 3, ls, st, w, mc, ms)) : zx_wp K X cap tab Q (pc, ls, (.inl y) :: (.inl x) :: st, w, mc, ms) := by
  obtain ⟨c1, c2⟩ := tj_cmp_rel o x y
  refine zy_f (μ := (zx_pick (zx_cmp o x y) t (pc + 3), ls, st, w, mc, ms)) ht rfl ?_
  cases hc : zx_cmp o x y with
  | true => exact k1 (c1 hc)
  | false => exact k2 (c2 hc)
end zyStep
section zyMeth
variable {Λ : List tj_D}
/-- a method by hand -/
theorem zy_method {mt : Nat → Option (Nat → Option zx_Q)} {rc ml : Nat → Nat} {d y : Nat} {dt : List (List (Nat × zx_I))} {ts : List tj_y} {E : tj_Ef} {outs : List tj_O} {pre : tj_Fg} (hmt : mt y = some (zx_find (zx_cT dt))) (hrc : tj_rcOk Λ (rc y) ts = true) (hml : Nat.ble (tj_words ts) (ml y) = true)
    (body : ∀ (Ψ : List Nat) (av : List zx_V) (w : List zx_E), tj_wt Λ Ψ w → tj_typed Ψ av ts → (∃ ρ : Nat → zx_V, (∀ i v, av[i]? = some v → ρ i = v) ∧ tj_env Ψ (ts ++ pre.2.1) ρ ∧ ∀ f ∈ pre.2.2, tj_fd ρ w f) → zx_wp (zx_Cl mt rc ml d) none (tj_P tj_c1 w, tj_P tj_c2 w) (zx_find (zx_cT dt)) (tj_Post Λ E Ψ w dt outs av) (0, zx_args 0 av, [], w, 0, 0)) : tj_KS1 (zx_Cl mt rc ml (d + 1)) Λ (y, ts, E, outs, pre) := by
  intro Ψ av w hw hty hp
  have hty : tj_typed Ψ av ts := hty
  obtain ⟨m, σ, hst, r, Ψ', o, p1, p2, p3, p4, p5, p6, p7, p8, p9, p10⟩ := body Ψ av w hw hty hp
  exact ⟨r, σ.2.2.2.2, Ψ', o, ⟨_, hmt, tj_rcOk_ok hrc hw hty, by rw [tj_words_ok av ts hty]; exact Nat.le_of_ble_eq_true hml, m, σ, (zx_star_shr hst).2 _ (Nat.le_refl _) (Nat.le_refl _), p1⟩, p2, p3, p4, p5, p6, p7, p8, p9, p10⟩
/-- a call by its summary, within a proof by hand -/
theorem zy_call {K : zx_K} {C : tj_C} (hC : tj_KS1 K Λ C) {cap : Nat × Nat} {tab : Nat → Option zx_Q} {Q : zx_S → Prop} {E : tj_Ef} {Ψ0 Ψ : List Nat} {w0 w : List zx_E} {pc mc ms n : Nat} {g : zx_F} {ls : List (Nat × zx_V)} {st0 av st : List zx_V} (ht : tab pc = some (3, C.1, n, g)) (htk : zx_take n [] st0 = some (av, st)) (h8 : zx_words st ≤ 8) (hls : zx_limP w.length ls = true) (hst : zx_limL w.length st = true) (hW : tj_W Λ cap E Ψ0 w0 Ψ w mc ms) (hty : tj_typed Ψ av C.2.1) (hp : ∃ ρ : Nat → zx_V, (∀ i v, av[i]? = some v → ρ i = v) ∧ tj_env Ψ (C.2.1 ++ C.2.2.2.2.2.1) ρ ∧ ∀ f ∈ C.2.2.2.2.2.2, tj_fd ρ w f) (h2 : tj_sub2 C.2.2.1.1 E.1 = true) (h1 : tj_sub1 C.2.2.1.2 E.2 = true)
    (k : ∀ (r : zx_R) (cy : Nat × Nat) (Ψ' : List Nat) (o : tj_O), tj_W Λ cap E Ψ0 w0 Ψ' r.2 (mc + cy.1) (ms + cy.2) → tj_le Ψ Ψ' → tj_fr C.2.2.1 Ψ w r.2 → zx_limP r.2.length ls = true → o ∈ C.2.2.2.1 → tj_typed Ψ' av o.1 → tj_retT Ψ' o.2.1 r.1 → tj_Ho Ψ' r.2 av r.1 o → zx_wp K none cap tab Q (pc + 3, ls, r.1.toList ++ st, r.2, mc + cy.1, ms + cy.2)) : zx_wp K none cap tab Q (pc, ls, st0, w, mc, ms) := by
  obtain ⟨r, cy, Ψ', o, hK, c1, c2, hle, hw', hfr, ho, hto, hro, hfo⟩ := hC Ψ av w hW.1 hty hp
  have hlen : w.length ≤ r.2.length := by
    rw [← hW.1.1, ← hw'.1]
    exact tj_len_le hle
  refine zx_wp_call (a := 0) (g := g) (y := C.1) (n := n) ht htk h8 hls hst (cy := cy) (by have := hW.2.1; omega) (by have := hW.2.1; omega) hK ?_
  exact k r cy Ψ' o ⟨hw', by have := hW.2.1; omega, tj_le_tr hW.2.2.1 hle, tj_fr_tr hW.2.2.2 hfr hW.2.2.1 h2 h1⟩ hle hfr (tj_limP_le hlen hls) ho hto hro hfo
theorem zy_nopre {Ψ : List Nat} {av : List zx_V} {w : List zx_E} {ts : List tj_y} (h : tj_typed Ψ av ts) : ∃ ρ : Nat → zx_V, (∀ i v, av[i]? = some v → ρ i = v) ∧ tj_env Ψ (ts ++ []) ρ ∧ ∀ f ∈ ([] : List tj_f), tj_fd ρ w f := by
  refine ⟨fun k => (av[k]?).getD (.inr (.inr (.inr 0))), fun i v hi => ?_, fun k t hk => ?_, fun f hf => absurd hf List.not_mem_nil⟩
  · show (av[i]?).getD _ = v
    rw [hi]
    rfl
  · rw [List.append_nil] at hk
    obtain ⟨v, h1, h2⟩ := tj_typed_at h k t hk
    show tj_vt Ψ t ((av[k]?).getD _)
    rw [h1]
    exact h2
/-- an end with nothing known behind it but types -/
theorem zy_noout {Ψ : List Nat} {w : List zx_E} {av : List zx_V} {r : Option zx_V} {ats : List tj_y} {rt : Option tj_y} (hr : tj_retT Ψ rt r) : tj_Ho Ψ w av r (ats, rt, ([], [], [])) := by
  refine ⟨fun k => ((av ++ r.toList)[k]?).getD (.inr (.inr (.inr 0))), fun i v hi => ?_, fun j t hj => ?_, fun f hf => absurd hf List.not_mem_nil⟩
  · show ((av ++ r.toList)[i]?).getD _ = v
    rw [hi]
    rfl
  · have hj : (rt.toList ++ [])[j]? = some t := hj
    rw [List.append_nil] at hj
    cases rt with
    | none => cases hj
    | some t' =>
      obtain ⟨v, e1, e2⟩ := hr
      cases j with
      | zero =>
        cases hj
        show tj_vt Ψ t (((av ++ r.toList)[av.length + 0]?).getD _)
        rw [e1, List.getElem?_append_right (by omega), Nat.add_zero, Nat.sub_self]
        exact e2
      | succ j => cases hj
end zyMeth
