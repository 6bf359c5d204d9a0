/-! methods by the executor with linear facts and hints -/
/-- what a branch says of two names -/
def tl_br (o : ClassFile.Cond) (a b : tj_a) : List tj_f := match a, b with
  | .inr i, .inr j => (match o with
    | .lt => [(9932525098444199596950291534, .inr i, .inr j, .inl 0)]
    | .le => [(9932525098444199596950291535, .inr i, .inr j, .inl 0)]
    | .gt => [(9932525098444199596950291534, .inr j, .inr i, .inl 0)]
    | .ge => [(9932525098444199596950291535, .inr j, .inr i, .inl 0)]
    | .eq => [(9932525098444199596950291535, .inr i, .inr j, .inl 0), (9932525098444199596950291535, .inr j, .inr i, .inl 0)]
    | .ne => [])
  | _, _ => []
theorem tl_br0 {ρ : Nat → zx_V} {w : List zx_E} {i j : Nat} {x y : Int32} (hx : ρ i = (.inl x)) (hy : ρ j = (.inl y)) (h : zx_b x ≤ zx_b y) : tj_fd ρ w (9932525098444199596950291535, .inr i, .inr j, .inl 0) := by
  obtain ⟨k1, k2, k3, k4⟩ := tl_k0
  refine tl_fd_lin (n := 9932525098444199596950290432) (by decide +kernel) ⟨x, y, Int32.ofNat 0, hx, hy, rfl, ?_⟩
  rw [k1, k2, k3, k4]
  have := zx_b_int x
  have := zx_b_int y
  omega
theorem tl_br1 {ρ : Nat → zx_V} {w : List zx_E} {i j : Nat} {x y : Int32} (hx : ρ i = (.inl x)) (hy : ρ j = (.inl y)) (h : zx_b x < zx_b y) : tj_fd ρ w (9932525098444199596950291534, .inr i, .inr j, .inl 0) := by
  obtain ⟨k1, k2, k3, k4⟩ := tl_k1
  refine tl_fd_lin (n := 9932525098444199596950290431) (by decide +kernel) ⟨x, y, Int32.ofNat 0, hx, hy, rfl, ?_⟩
  rw [k1, k2, k3, k4]
  have := zx_b_int x
  have := zx_b_int y
  omega
theorem tl_br_ok {o : ClassFile.Cond} {ρ : Nat → zx_V} {w : List zx_E} {a b : tj_a} {x y : Int32} (hx : tj_v ρ a = (.inl x)) (hy : tj_v ρ b = (.inl y)) (hr : tj_rel o (zx_b x) (zx_b y)) : ∀ g ∈ tl_br o a b, tj_fd ρ w g := by
  intro g hg
  unfold tl_br at hg
  split at hg
  next i j =>
    have hx : ρ i = (.inl x) := hx
    have hy : ρ j = (.inl y) := hy
    cases o with
    | lt =>
      rw [List.mem_singleton.mp hg]
      exact tl_br1 hx hy hr
    | le =>
      rw [List.mem_singleton.mp hg]
      exact tl_br0 hx hy hr
    | gt =>
      rw [List.mem_singleton.mp hg]
      exact tl_br1 hy hx hr
    | ge =>
      rw [List.mem_singleton.mp hg]
      exact tl_br0 hy hx hr
    | eq =>
      have hr : zx_b x = zx_b y := hr
      rcases List.mem_cons.mp hg with e | e
      · rw [e]
        exact tl_br0 hx hy (Nat.le_of_eq hr)
      · rw [List.mem_singleton.mp e]
        exact tl_br0 hy hx (Nat.le_of_eq hr.symm)
    | ne => exact absurd hg List.not_mem_nil
  next => exact absurd hg List.not_mem_nil
/-- what is above 0, where it tells how a flow and the long 0 lie -/
def tl_gt0 (a : tj_a) (F : List tj_f) : List tj_f := match tl_nth (fun f => Nat.beq f.1 116 && tj_eqa f.2.2.2 a) 0 F with
  | some (_, x, y, _) => (match tl_sem 118 y F, tl_nth (fun f => Nat.beq f.1 117 && tj_eqa f.2.2.2 x) 0 F with
    | some _, some (_, r, i, _) => [(109, r, i, .inl 0)]
    | _, _ => [])
  | none => []
theorem tl_gt0_ok {ρ : Nat → zx_V} {w : List zx_E} {F : List tj_f} (hF : ∀ g ∈ F, tj_fd ρ w g) {a : tj_a} {x : Int32} (hx : tj_v ρ a = (.inl x)) (h : 2147483648 < zx_b x) : ∀ g ∈ tl_gt0 a F, tj_fd ρ w g := by
  intro g hg
  unfold tl_gt0 at hg
  split at hg
  next k u y v h1 =>
    split at hg
    next q k' r i v' h2 h3 =>
      obtain ⟨m1, m2⟩ := tl_nth_mem h1
      obtain ⟨m3, m4⟩ := tl_nth_mem h3
      simp only [Bool.and_eq_true] at m2 m4
      have ek : k = 116 := Nat.eq_of_beq_eq_true m2.1
      have ev : v = a := tj_eqa_ok m2.2
      have ek' : k' = 117 := Nat.eq_of_beq_eq_true m4.1
      have ev' : v' = u := tj_eqa_ok m4.2
      subst ek
      subst ev
      subst ek'
      subst ev'
      have f1 : tj_sm13 (tj_v ρ v') (tj_v ρ y) (tj_v ρ v) := hF _ m1
      have f2 : tj_sm15 (tj_v ρ y) := hF _ (tl_sem_mem (b := q.1) (c := q.2) h2)
      have f3 : tj_sm14 (tj_v ρ r) (tj_v ρ i) (tj_v ρ v') w := hF _ m3
      obtain ⟨a1, a2, a3, b1, b2, b3, b4⟩ := f1
      obtain ⟨q3, g3, x3, c1, c2, c3, c4, c5⟩ := f3
      have f2 : tj_v ρ y = (.inr (.inl 0)) := f2
      rw [hx] at b3
      cases b3
      rw [f2] at b2
      cases b2
      rw [c5] at b1
      cases b1
      have hb := zx_b_int x
      have hp := b4 (by omega)
      rw [List.mem_singleton.mp hg]
      show tj_sm6 (tj_v ρ r) (tj_v ρ i) w
      exact ⟨q3, g3, x3, c1, c2, c3, c4, hp⟩
    next => exact absurd hg List.not_mem_nil
  next => exact absurd hg List.not_mem_nil
def tl_br2 (o : ClassFile.Cond) (a b : tj_a) (F : List tj_f) : List tj_f := match o, b with
  | .gt, .inl 0 => tl_gt0 a F
  | _, _ => []
theorem tl_br2_ok {o : ClassFile.Cond} {ρ : Nat → zx_V} {w : List zx_E} {F : List tj_f} (hF : ∀ g ∈ F, tj_fd ρ w g) {a b : tj_a} {x y : Int32} (hx : tj_v ρ a = (.inl x)) (hy : tj_v ρ b = (.inl y)) (hr : tj_rel o (zx_b x) (zx_b y)) : ∀ g ∈ tl_br2 o a b F, tj_fd ρ w g := by
  intro g hg
  unfold tl_br2 at hg
  split at hg
  next =>
    have hy : (Sum.inl (Int32.ofNat 0) : zx_V) = Sum.inl y := hy
    cases hy
    have hr : zx_b (Int32.ofNat 0) < zx_b x := hr
    have h0 : zx_b (Int32.ofNat 0) = 2147483648 := by decide
    exact tl_gt0_ok hF hx (by omega) g hg
  next => exact absurd hg List.not_mem_nil
def tl_bb (o : ClassFile.Cond) (a b : tj_a) (F : List tj_f) : List tj_f := tl_br o a b ++ tl_br2 o a b F
theorem tl_bb_ok {o : ClassFile.Cond} {ρ : Nat → zx_V} {w : List zx_E} {F : List tj_f} (hF : ∀ g ∈ F, tj_fd ρ w g) {a b : tj_a} {x y : Int32} (hx : tj_v ρ a = (.inl x)) (hy : tj_v ρ b = (.inl y)) (hr : tj_rel o (zx_b x) (zx_b y)) : ∀ g ∈ tl_bb o a b F, tj_fd ρ w g := by
  intro g hg
  rcases List.mem_append.mp hg with e | e
  · exact tl_br_ok hx hy hr g e
  · exact tl_br2_ok hF hx hy hr g e
def tl_side (o : ClassFile.Cond) (pc : Nat) (L : List (Nat × tj_a)) (st : List tj_a) (env : List tj_y) (F : List tj_f) (a b : tj_a) : Option (List tj_S) := match tj_side o pc L st env F a b with
  | some As => some (As.map (fun A => (A.1, A.2.1, A.2.2.1, A.2.2.2.1, tl_bb o a b F ++ A.2.2.2.2)))
  | none => none
theorem tl_side_inv {o : ClassFile.Cond} {pc : Nat} {L : List (Nat × tj_a)} {st : List tj_a} {env : List tj_y} {F : List tj_f} {a b : tj_a} {As : List tj_S} (h : tl_side o pc L st env F a b = some As) : ∃ As0, tj_side o pc L st env F a b = some As0 ∧ As = As0.map (fun A => (A.1, A.2.1, A.2.2.1, A.2.2.2.1, tl_bb o a b F ++ A.2.2.2.2)) := by
  unfold tl_side at h
  split at h
  next As0 h0 => cases h; exact ⟨As0, h0, rfl⟩
  next => cases h
section tlJump
variable {Λ : List tj_D} {cap : Nat × Nat} {E : tj_Ef} {Ψ0 : List Nat} {w0 : List zx_E}
theorem tl_brx {f : zx_S → Option zx_S} {o : ClassFile.Cond} {pc t n : Nat} {L : List (Nat × tj_a)} {st0 st : List tj_a} {env : List tj_y} {F : List tj_f} {a b : tj_a} {As : List tj_S} (h : tj_two (tl_side o t L st env F a b) (tl_side (tj_neg o) (pc + n) L st env F a b) = some As)
    (hf : ∀ (ρ : Nat → zx_V) (ls : List (Nat × zx_V)) (w : List zx_E) (mc ms : Nat) (x y : Int32), tj_v ρ a = (.inl x) → tj_v ρ b = (.inl y) → f (pc, ls, st0.map (tj_v ρ), w, mc, ms) = some (zx_pick (zx_cmp o x y) t (pc + n), ls, st.map (tj_v ρ), w, mc, ms)) : tj_sim Λ cap E Ψ0 w0 (tj_fn f) (pc, L, st0, env, F) As := by
  obtain ⟨As1, As2, h1, h2, rfl⟩ := tj_two_inv h
  obtain ⟨B1, g1, rfl⟩ := tl_side_inv h1
  obtain ⟨B2, g2, rfl⟩ := tl_side_inv h2
  clear h1 h2
  intro Ψ ρ σ ⟨ls, w, mc, ms, hσ, hW, hL, hls, he, hF⟩
  subst hσ
  obtain ⟨p, q, hia, hib⟩ := tj_side_iv g1
  obtain ⟨x, hx, -⟩ := tj_iv_ok he hia
  obtain ⟨y, hy, -⟩ := tj_iv_ok he hib
  obtain ⟨c1, c2⟩ := tj_cmp_rel o x y
  have hs := hf ρ ls w mc ms x y hx hy
  cases hc : zx_cmp o x y with
  | true =>
    rw [hc] at hs
    obtain ⟨env', m1, m2, m3⟩ := tj_side_ok g1 he hF hx hy (c1 hc)
    refine ⟨_, Ψ, ρ, _, hs, List.mem_append_left _ (List.mem_map.mpr ⟨_, m1, rfl⟩), ⟨ls, w, mc, ms, rfl, hW, hL, hls, m3, fun g hg => ?_⟩, by show env.length ≤ env'.length; rw [m2]; exact Nat.le_refl _, fun _ _ => rfl⟩
    rcases List.mem_append.mp hg with e | e
    · exact tl_bb_ok hF hx hy (c1 hc) g e
    · exact tj_nef_ok hF hx hy (c1 hc) g e
  | false =>
    rw [hc] at hs
    obtain ⟨env', m1, m2, m3⟩ := tj_side_ok g2 he hF hx hy (c2 hc)
    refine ⟨_, Ψ, ρ, _, hs, List.mem_append_right _ (List.mem_map.mpr ⟨_, m1, rfl⟩), ⟨ls, w, mc, ms, rfl, hW, hL, hls, m3, fun g hg => ?_⟩, by show env.length ≤ env'.length; rw [m2]; exact Nat.le_refl _, fun _ _ => rfl⟩
    rcases List.mem_append.mp hg with e | e
    · exact tl_bb_ok hF hx hy (c2 hc) g e
    · exact tj_nef_ok hF hx hy (c2 hc) g e
def tl_jt (o : ClassFile.Cond) (t : Nat) (A : tj_S) : Option (List tj_S) := match A with
  | (pc, L, b :: a :: st, env, F) => tj_two (tl_side o t L st env F a b) (tl_side (tj_neg o) (pc + 3) L st env F a b)
  | _ => none
theorem tl_jt_ok {o : ClassFile.Cond} {t : Nat} {A : tj_S} {As : List tj_S} (h : tl_jt o t A = some As) : tj_sim Λ cap E Ψ0 w0 (tj_fn (zx_jt o t)) A As := by
  unfold tl_jt at h
  split at h
  next pc L b a st env F =>
    refine tl_brx h (fun ρ ls w mc ms x y hx hy => ?_)
    show zx_jt o t (pc, ls, tj_v ρ b :: tj_v ρ a :: st.map (tj_v ρ), w, mc, ms) = _
    rw [hx, hy]
    rfl
  next => cases h
def tl_j0 (o : ClassFile.Cond) (t : Nat) (A : tj_S) : Option (List tj_S) := match A with
  | (pc, L, a :: st, env, F) => tj_two (tl_side o t L st env F a (.inl 0)) (tl_side (tj_neg o) (pc + 3) L st env F a (.inl 0))
  | _ => none
theorem tl_j0_ok {o : ClassFile.Cond} {t : Nat} {A : tj_S} {As : List tj_S} (h : tl_j0 o t A = some As) : tj_sim Λ cap E Ψ0 w0 (tj_fn (zx_j0 o t)) A As := by
  unfold tl_j0 at h
  split at h
  next pc L a st env F =>
    refine tl_brx h (fun ρ ls w mc ms x y hx hy => ?_)
    have hy : (Sum.inl (Int32.ofNat 0) : zx_V) = Sum.inl y := hy
    cases hy
    show zx_j0 o t (pc, ls, tj_v ρ a :: st.map (tj_v ρ), w, mc, ms) = _
    rw [hx]
    rfl
  next => cases h
/-- two values are together at most m -/
def tl_sumle (a b : tj_a) (m n k : Nat) (F : List tj_f) : Bool := Nat.beq k (n + 1103) && (tl_good n 1 1 0 m && tl_has k a b (.inl 0) F)
theorem tl_sumle_ok {a b : tj_a} {m n k : Nat} {F : List tj_f} {ρ : Nat → zx_V} {w : List zx_E} (hF : ∀ g ∈ F, tj_fd ρ w g) (h : tl_sumle a b m n k F = true) {x y : Int32} (hx : tj_v ρ a = (.inl x)) (hy : tj_v ρ b = (.inl y)) : x.toInt + y.toInt ≤ m := by
  simp only [tl_sumle, tl_good, Bool.and_eq_true] at h
  obtain ⟨hk, ⟨g1, g2, g3, g4⟩, h5⟩ := h
  obtain ⟨a1, a2, a3, l1, l2, l3, l4⟩ := tl_lin_fd (Nat.eq_of_beq_eq_true hk) (hF _ (tl_has_mem h5))
  rw [hx] at l1
  cases l1
  rw [hy] at l2
  cases l2
  rw [of_decide_eq_true g1, of_decide_eq_true g2, of_decide_eq_true g3, of_decide_eq_true g4] at l4
  omega
def tl_cpS (p n : tj_a) (vp vn : Nat × Nat) (m : Nat) (F : List tj_f) : Bool := Nat.ble (vp.2 + vn.2) (m + 4294967296) || tl_sumle p n m (tl_code 1 1 0 m) (tl_code 1 1 0 m + 1103) F
theorem tl_cpS_ok {p n : tj_a} {vp vn : Nat × Nat} {m : Nat} {F : List tj_f} {ρ : Nat → zx_V} {w : List zx_E} (hF : ∀ g ∈ F, tj_fd ρ w g) {x y : Int32} (hx : tj_v ρ p = (.inl x)) (hy : tj_v ρ n = (.inl y)) (hx2 : x.toNatClampNeg + 2147483648 = zx_b x) (hy2 : y.toNatClampNeg + 2147483648 = zx_b y) (h1 : zx_b x ≤ vp.2) (h2 : zx_b y ≤ vn.2) (h : tl_cpS p n vp vn m F = true) : x.toNatClampNeg + y.toNatClampNeg ≤ m := by
  unfold tl_cpS at h
  rw [Bool.or_eq_true] at h
  rcases h with h | h
  · have := Nat.le_of_ble_eq_true h
    omega
  · have h3 := tl_sumle_ok hF h hx hy
    have h4 := zx_b_int x
    have h5 := zx_b_int y
    omega
def tl_copy (Λ : List tj_D) (E : tj_Ef) (A : tj_S) : Option (List tj_S) := match A with
  | (pc, L, n :: dp :: q :: sp :: p :: st, env, F) => match tj_cpR p q Λ env with
    | some (lp, np, s, lq, nq, s') => match tj_iv env n, tj_iv env dp, tj_iv env sp with
      | some vn, some vd, some vs => match tj_rd s 0 (np - 1) with
        | some (a, b) => match (((Nat.ble 2147483648 vn.1 && (Nat.ble 2147483648 vd.1 && Nat.ble 2147483648 vs.1)) && (tl_cpS sp n vs vn np F && tl_cpS dp n vd vn nq F)) && tj_wr a b s' 0 (nq - 1)) && ((!(Nat.beq lp lq) && tj_h1 lq E.2) && Nat.ble st.length 4) with
          | true => some [(pc + 3, L, st, env, F.filter (tj_keepA env lq))]
          | false => none
        | none => none
      | _, _, _ => none
    | none => none
  | _ => none
theorem tl_copy_ok (hso : tj_SO Λ) {A : tj_S} {As : List tj_S} (h : tl_copy Λ E A = some As) : tj_sim Λ cap E Ψ0 w0 (tj_fn zx_copy) A As := by
  unfold tl_copy at h
  split at h
  next pc L n dp q sp p st env F =>
    split at h
    next lp np s lq nq s' hR =>
      split at h
      next vn vd vs hn hdp hsp =>
        split at h
        next a b hrd =>
          split at h
          next hz =>
            cases h
            simp only [Bool.and_eq_true] at hz
            obtain ⟨⟨⟨⟨z1, z2, z3⟩, z4, z5⟩, z6⟩, ⟨z7, z8⟩, z9⟩ := hz
            have z1 := Nat.le_of_ble_eq_true z1
            have z2 := Nat.le_of_ble_eq_true z2
            have z3 := Nat.le_of_ble_eq_true z3
            intro Ψ ρ σ ⟨ls, w, mc, ms, hσ, hW, hL, hls, he, hF⟩
            subst hσ
            obtain ⟨pp, qq, e1, e2, e3, e4, e5, e6⟩ := tj_cpR_ok hR he
            obtain ⟨f, hf, hft⟩ := tj_iarr hW.1 e2 e3 (Or.inl rfl)
            obtain ⟨g, hg, hgt⟩ := tj_iarr hW.1 e5 e6 (Or.inl rfl)
            obtain ⟨xn, hxn, n1, n2⟩ := tj_iv_ok (lo := vn.1) (hi := vn.2) he hn
            obtain ⟨xd, hxd, d1, d2⟩ := tj_iv_ok (lo := vd.1) (hi := vd.2) he hdp
            obtain ⟨xs, hxs, s1, s2⟩ := tj_iv_ok (lo := vs.1) (hi := vs.2) he hsp
            obtain ⟨tn1, tn2⟩ := tj_nat (x := xn) (by omega)
            obtain ⟨td1, td2⟩ := tj_nat (x := xd) (by omega)
            obtain ⟨ts1, ts2⟩ := tj_nat (x := xs) (by omega)
            have l1 : xs.toNatClampNeg + xn.toNatClampNeg ≤ np := tl_cpS_ok hF hxs hxn (by omega) (by omega) s2 n2 z4
            have l2 : xd.toNatClampNeg + xn.toNatClampNeg ≤ nq := tl_cpS_ok hF hxd hxn (by omega) (by omega) d2 n2 z5
            have hne : pp ≠ qq := fun e => by
              subst e
              rw [e2] at e5
              cases e5
              rw [Nat.beq_refl] at z7
              cases z7
            have hbn : Nat.beq pp qq = false := by
              cases hb : Nat.beq pp qq with
              | false => rfl
              | true => exact absurd (Nat.eq_of_beq_eq_true hb) hne
            have hw' : tj_wt Λ Ψ (w.set qq (.inr (0, nq, .inl (va_cpy f g xs.toNatClampNeg xd.toNatClampNeg xn.toNatClampNeg)))) := by
              refine tj_set hW.1 e5 e6 ⟨rfl, rfl, Or.inl rfl, fun j hj a' b' hs => ?_⟩
              unfold va_cpy
              split
              next hc =>
                obtain ⟨a2, b2, r1, r2, r3⟩ := tj_rd_ok hrd (xs.toNatClampNeg + (j - xd.toNatClampNeg)) (Nat.zero_le _) (by omega)
                obtain ⟨t1, t2⟩ := hft (xs.toNatClampNeg + (j - xd.toNatClampNeg)) (by omega) a2 b2 r1
                obtain ⟨u1, u2⟩ := tj_wr_ok z6 j (Nat.zero_le _) (by omega) a' b' hs
                omega
              next => exact hgt j hj a' b' hs
            refine ⟨(pc + 3, ls, st.map (tj_v ρ), w.set qq (.inr (0, nq, .inl (va_cpy f g xs.toNatClampNeg xd.toNatClampNeg xn.toNatClampNeg))), mc, ms), Ψ, ρ, _, ?_, List.mem_cons_self, ⟨ls, _, mc, ms, rfl, tj_W_arr hW e5 hg hw' (by decide) z8, hL, by rw [List.length_set]; exact hls, he, fun f' hf' => ?_⟩, Nat.le_refl _, fun _ _ => rfl⟩
            · show zx_copy (pc, ls, tj_v ρ n :: tj_v ρ dp :: tj_v ρ q :: tj_v ρ sp :: tj_v ρ p :: st.map (tj_v ρ), w, mc, ms) = _
              rw [hxn, hxd, e4, hxs, e1]
              have b1 : Nat.ble (xs.toNatClampNeg + xn.toNatClampNeg) np = true := Nat.ble_eq_true_of_le l1
              have b2 : Nat.ble (xd.toNatClampNeg + xn.toNatClampNeg) nq = true := Nat.ble_eq_true_of_le l2
              simp only [zx_copy, hf, hg, tn1, td1, ts1, b1, b2, hbn, List.length_map, z9, Bool.not_false, Bool.and_self]
            · obtain ⟨k1, k2⟩ := List.mem_filter.mp hf'
              exact tj_keepA_ok hso he hW.1 (tj_fr1 hW e5 hg hw' (by decide)) e5 hg k2 (hF f' k1)
          next => cases h
        next => cases h
      next => cases h
    next => cases h
  next => cases h
/-! longs that are not 0, what is divided by them -/
def tl_i2l (A : tj_S) : Option (List tj_S) := match A with
  | (pc, L, .inl c :: st, env, F) => (match tj_limS env.length L st F && !(decide (tl_c c = 0)) with
    | true => some [(pc + 1, L, .inr env.length :: st, env ++ [(3, 0, 0)], [(104, .inr env.length, .inl 0, .inl 0)] ++ F)]
    | false => tj_any 1 (3, 0, 0) [0] (pc, L, .inl c :: st, env, F))
  | _ => tj_any 1 (3, 0, 0) [0] A
theorem tl_sm1_fd {ρ : Nat → zx_V} {w : List zx_E} {a : tj_a} {x : Int64} (h : tj_v ρ a = (.inr (.inl x))) (hx : x ≠ 0) : tj_fd ρ w (104, a, .inl 0, .inl 0) := by
  show tj_of 101 (tj_v ρ a) (tj_v ρ (.inl 0)) (tj_v ρ (.inl 0)) w
  rw [h]
  exact ⟨x, rfl, hx⟩
theorem tl_i2l_ok {A : tj_S} {As : List tj_S} (h : tl_i2l A = some As) : tj_sim Λ cap E Ψ0 w0 (tj_fn zx_i2l) A As := by
  unfold tl_i2l at h
  split at h
  next pc L c st env F =>
    split at h
    next hz =>
      cases h
      rw [Bool.and_eq_true] at hz
      have hne : (Int32.ofNat c).toInt64 ≠ 0 := fun e => by
        have h1 : (Int32.ofNat c).toInt64.toInt = (Int32.ofNat c).toInt := Int32.toInt_toInt64 _
        rw [e] at h1
        have h2 : tl_c c = 0 := by
          rw [← tl_c_ok (ρ := fun _ => (.inr (.inr (.inr 0))))]
          exact h1.symm
        have h3 := hz.2
        rw [Bool.not_eq_true'] at h3
        exact absurd h2 (of_decide_eq_false h3)
      refine tj_val (st0 := .inl c :: st) hz.1 (fun Ψ ρ ls w mc ms hW he hF hL => ⟨(.inr (.inl (Int32.ofNat c).toInt64)), rfl, ⟨_, rfl⟩, fun ρ' _ hn g hg => ?_⟩)
      rw [List.mem_singleton.mp hg]
      exact tl_sm1_fd (a := .inr env.length) hn hne
    next => exact tj_i2l_ok h
  next => exact tj_i2l_ok h
def tl_pushJ (n v : Nat) (A : tj_S) : Option (List tj_S) := match A with
  | (pc, L, st, env, F) => (match tj_limS env.length L st F with
    | true => (match decide (Int64.ofNat v = 0) with
      | false => some [(pc + n, L, .inr env.length :: st, env ++ [(3, 0, 0)], [(104, .inr env.length, .inl 0, .inl 0)] ++ F)]
      | true => some [(pc + n, L, .inr env.length :: st, env ++ [(3, 0, 0)], [(118, .inr env.length, .inl 0, .inl 0)] ++ F)])
    | false => tj_pushJ n A)
theorem tl_pushJ_ok {n v : Nat} {A : tj_S} {As : List tj_S} (h : tl_pushJ n v A = some As) : tj_sim Λ cap E Ψ0 w0 (tj_fn (zx_push n (.inr (.inl (Int64.ofNat v))))) A As := by
  obtain ⟨pc, L, st, env, F⟩ := A
  simp only [tl_pushJ] at h
  split at h
  next hz =>
    split at h
    next hd =>
      cases h
      have hne : Int64.ofNat v ≠ 0 := of_decide_eq_false hd
      refine tj_val (st0 := st) hz (fun Ψ ρ ls w mc ms hW he hF hL => ⟨(.inr (.inl (Int64.ofNat v))), rfl, ⟨_, rfl⟩, fun ρ' _ hn g hg => ?_⟩)
      rw [List.mem_singleton.mp hg]
      exact tl_sm1_fd (a := .inr env.length) hn hne
    next hd =>
      cases h
      have h0 : Int64.ofNat v = 0 := of_decide_eq_true hd
      refine tj_val (st0 := st) hz (fun Ψ ρ ls w mc ms hW he hF hL => ⟨(.inr (.inl (Int64.ofNat v))), rfl, ⟨_, rfl⟩, fun ρ' _ hn g hg => ?_⟩)
      rw [List.mem_singleton.mp hg]
      show tj_sm15 (ρ' env.length)
      rw [hn, h0]
      rfl
  next => exact tj_pushJ_ok h
/-- longs compared, the search's flows read -/
def tl_lcmp (A : tj_S) : Option (List tj_S) := match A with
  | (pc, L, b :: a :: st, env, F) => (match (Nat.beq (tj_k env a) 3 && Nat.beq (tj_k env b) 3) && (tj_limS env.length L st F && (tj_lim env.length a && tj_lim env.length b)) with
    | true => some [(pc + 1, L, .inr env.length :: st, env ++ [(0, 2147483647, 2147483649)], [(116, a, b, .inr env.length)] ++ F)]
    | false => none)
  | _ => none
theorem tl_lg {x y : Int64} : (2147483647 ≤ zx_b (lg_cmp x y) ∧ zx_b (lg_cmp x y) ≤ 2147483649) ∧ (0 < (lg_cmp x y).toInt → y.toInt < x.toInt) := by
  unfold lg_cmp
  split
  next h => exact ⟨by decide, fun _ => Int64.lt_iff_toInt_lt.mp h⟩
  next =>
    split
    · exact ⟨by decide, fun h => absurd h (by decide)⟩
    · exact ⟨by decide, fun h => absurd h (by decide)⟩
theorem tl_lcmp_ok {A : tj_S} {As : List tj_S} (h : tl_lcmp A = some As) : tj_sim Λ cap E Ψ0 w0 (tj_fn zx_lcmp) A As := by
  unfold tl_lcmp at h
  split at h
  next pc L b a st env F =>
    split at h
    next hz =>
      cases h
      simp only [Bool.and_eq_true] at hz
      obtain ⟨⟨k1, k2⟩, k3, k4, k5⟩ := hz
      refine tj_val (st0 := b :: a :: st) k3 (fun Ψ ρ ls w mc ms hW he hF hL => ?_)
      obtain ⟨x, hx⟩ := tj_k3 he (Nat.eq_of_beq_eq_true k1)
      obtain ⟨y, hy⟩ := tj_k3 he (Nat.eq_of_beq_eq_true k2)
      refine ⟨(.inl (lg_cmp x y)), ?_, ⟨_, rfl, tl_lg.1.1, tl_lg.1.2⟩, fun ρ' hr hn g hg => ?_⟩
      · show zx_lcmp (pc, ls, tj_v ρ b :: tj_v ρ a :: st.map (tj_v ρ), w, mc, ms) = _
        rw [hx, hy]
        rfl
      · rw [List.mem_singleton.mp hg]
        show tj_sm13 (tj_v ρ' a) (tj_v ρ' b) (ρ' env.length)
        rw [tj_lim_v hr k4, tj_lim_v hr k5, hx, hy, hn]
        exact ⟨x, y, _, rfl, rfl, rfl, tl_lg.2⟩
    next => cases h
  next => cases h
def tl_cls (Λ : List tj_D) (t : Nat) (env : List tj_y) : Bool := match env[t]? with
  | some (1, l, _) => (match Λ[l]? with
    | some (.inl (6, _, _)) => true
    | _ => false)
  | _ => false
theorem tl_cls_ok {t : Nat} {env : List tj_y} (h : tl_cls Λ t env = true) : ∃ l x rr fts, env[t]? = some (1, l, x) ∧ Λ[l]? = some (.inl (6, rr, fts)) := by
  unfold tl_cls at h
  split at h
  next l x h1 =>
    split at h
    next rr fts h2 => exact ⟨l, x, rr, fts, h1, h2⟩
    next => cases h
  next => cases h
def tl_laload (Λ : List tj_D) (A : tj_S) : Option (List tj_S) := match A with
  | (pc, L, i :: .inr r :: st, env, F) => (match tj_ix Λ env i r with
    | some (_, kd, n, _, _, _) => (match Nat.beq kd 1 && (Nat.beq n 100 && tj_limS env.length L st F) with
      | true => (match tl_nth (fun f => Nat.beq f.1 0 && (tj_eqa f.2.2.1 (.inl 9) && tj_eqa f.2.2.2 (.inr r))) 0 F with
        | some (_, .inr t, _, _) => (match tl_cls Λ t env with
          | true => some [(pc + 1, L, .inr env.length :: st, env ++ [(3, 0, 0)], [(117, .inr t, i, .inr env.length)] ++ F)]
          | false => tj_lald Λ (pc, L, i :: .inr r :: st, env, F))
        | _ => tj_lald Λ (pc, L, i :: .inr r :: st, env, F))
      | false => tj_lald Λ (pc, L, i :: .inr r :: st, env, F))
    | none => none)
  | _ => none
theorem tl_laload_ok {A : tj_S} {As : List tj_S} (h : tl_laload Λ A = some As) : tj_sim Λ cap E Ψ0 w0 (tj_fn zx_lald) A As := by
  unfold tl_laload at h
  split at h
  next pc L i r st env F =>
    split at h
    next l0 kd n s a b hix =>
      split at h
      next hz =>
        split at h
        next k0 t c0 v0 hnf =>
          split at h
          next hc =>
            cases h
            simp only [Bool.and_eq_true] at hz
            obtain ⟨z1, z2, z3⟩ := hz
            have ek := Nat.eq_of_beq_eq_true z1
            have en := Nat.eq_of_beq_eq_true z2
            subst ek
            subst en
            obtain ⟨m1, m2⟩ := tl_nth_mem hnf
            simp only [Bool.and_eq_true] at m2
            obtain ⟨n1, n2, n3⟩ := m2
            have e1 : k0 = 0 := Nat.eq_of_beq_eq_true n1
            have e2 : c0 = .inl 9 := tj_eqa_ok n2
            have e3 : v0 = .inr r := tj_eqa_ok n3
            subst e1
            subst e2
            subst e3
            obtain ⟨l, x0, rr, fts, c1, c2⟩ := tl_cls_ok hc
            refine tj_val z3 (fun Ψ ρ ls w mc ms hW he hF hL => ?_)
            obtain ⟨q, x, hq, hΨ, hd, hx, hin, hlt, h1, h2⟩ := tj_ix_ok hix he
            obtain ⟨g, hg⟩ := tj_larr hW.1 hΨ hd
            obtain ⟨qt, t1, t2⟩ : ∃ qt, ρ t = (.inr (.inr (.inl qt))) ∧ Ψ[qt]? = some l := he t _ c1
            obtain ⟨fs, o1, -, -, -⟩ := tj_obj hW.1 t2 c2
            obtain ⟨q', ci', fs', a1, a2, a3⟩ := hF _ m1
            have a1 : ρ t = (.inr (.inr (.inl q'))) := a1
            rw [t1] at a1
            cases a1
            rw [o1] at a2
            cases a2
            have a3 : fs[9]? = some (ρ r) := a3
            rw [hq] at a3
            have hnn : 0 ≤ x.toInt := by
              unfold zx_in at hin
              rw [Bool.not_eq_true', Bool.or_eq_false_iff] at hin
              have h0 := of_decide_eq_false hin.1
              have h00 : ¬ x.toInt < (0 : Int32).toInt := fun e => h0 (Int32.lt_iff_toInt_lt.mpr e)
              have : (0 : Int32).toInt = 0 := by decide
              omega
            refine ⟨(.inr (.inl (g x.toNatClampNeg))), ?_, ⟨_, rfl⟩, fun ρ' hr hn g' hg' => ?_⟩
            · show zx_lald (pc, ls, tj_v ρ i :: ρ r :: st.map (tj_v ρ), w, mc, ms) = _
              rw [hx, hq]
              simp only [zx_lald, hg, zx_beqT (rfl : (1 : Nat) = 1), hin, Bool.and_self]
            · rw [List.mem_singleton.mp hg']
              show tj_sm14 (ρ' t) (tj_v ρ' i) (ρ' env.length) w
              rw [hr t (List.getElem?_eq_some_iff.mp c1).1, tj_lim_v hr (tj_ix_r hix).2, t1, hx, hn]
              exact ⟨qt, g, x, rfl, ⟨fs, q, o1, a3, hg⟩, rfl, hnn, rfl⟩
          next => exact tj_lald_ok h
        next => exact tj_lald_ok h
      next => exact tj_lald_ok h
    next => cases h
  next => cases h
def tl_ldiv (A : tj_S) : Option (List tj_S) := match A with
  | (pc, L, b :: a :: st, env, F) => (match (Nat.beq (tj_k env a) 3 && Nat.beq (tj_k env b) 3) && ((tl_sem 104 b F).isSome && tj_limS env.length L st F) with
    | true => some [(pc + 1, L, .inr env.length :: st, env ++ [(3, 0, 0)], [] ++ F)]
    | false => none)
  | _ => none
theorem tl_ldiv_ok {A : tj_S} {As : List tj_S} (h : tl_ldiv A = some As) : tj_sim Λ cap E Ψ0 w0 (tj_fn zx_dj) A As := by
  unfold tl_ldiv at h
  split at h
  next pc L b a st env F =>
    split at h
    next hz =>
      cases h
      simp only [Bool.and_eq_true] at hz
      obtain ⟨⟨k1, k2⟩, k3, k4⟩ := hz
      refine tj_val (st0 := b :: a :: st) k4 (fun Ψ ρ ls w mc ms hW he hF hL => ?_)
      obtain ⟨x, hx⟩ := tj_k3 he (Nat.eq_of_beq_eq_true k1)
      obtain ⟨y, hy⟩ := tj_k3 he (Nat.eq_of_beq_eq_true k2)
      cases hs : tl_sem 104 b F with
      | none => rw [hs] at k3; cases k3
      | some q =>
        obtain ⟨c, d⟩ := q
        have hf := hF _ (tl_sem_mem hs)
        have hf : tj_of 101 (tj_v ρ b) (tj_v ρ c) (tj_v ρ d) w := hf
        have hf : tj_sm1 (tj_v ρ b) := hf
        obtain ⟨y', e, hne⟩ := hf
        rw [hy] at e
        cases e
        refine ⟨(.inr (.inl (x / y))), ?_, ⟨_, rfl⟩, fun ρ' _ hn g hg => absurd hg List.not_mem_nil⟩
        show zx_dj (pc, ls, tj_v ρ b :: tj_v ρ a :: st.map (tj_v ρ), w, mc, ms) = _
        rw [hx, hy]
        simp only [zx_dj, hne, decide_false]
    next => cases h
  next => cases h
def tl_step (Λ : List tj_D) (E : tj_Ef) (CS : List tj_C) (dt : List (List (Nat × zx_I))) (A : tj_S) : Option (List tj_S) := match zx_find dt A.1 with
  | some (.if_icmp o _, _, ex) => tl_jt o (zx_hd ex) A
  | some (.invokestatic _, _, 1 :: _) => tl_copy Λ E A
  | some (.i2l, _, _) => tl_i2l A
  | some (.lconst _, _, ex) => tl_pushJ 1 (zx_hd ex) A
  | some (.ldc2_w _, _, ex) => tl_pushJ 3 (zx_hd ex) A
  | some (.ldiv, _, _) => tl_ldiv A
  | some (.ifCond o _, _, ex) => tl_j0 o (zx_hd ex) A
  | some (.lcmp, _, _) => tl_lcmp A
  | some (.laload, _, _) => tl_laload Λ A
  | _ => tj_step Λ E CS dt A
theorem tl_step_ok (hso : tj_SO Λ) {K : zx_K} {X : zx_X} {CS : List tj_C} (hKS : tj_KS K Λ CS) {dt : List (List (Nat × zx_I))} {A : tj_S} {As : List tj_S} (h : tl_step Λ E CS dt A = some As) : tj_sim Λ cap E Ψ0 w0 (zx_step K X cap (zx_find (zx_cT dt))) A As := by
  unfold tl_step at h
  split at h
  next o off len ex hf =>
    intro Ψ ρ σ hG
    obtain ⟨μ, Ψ', ρ', A', h1, h2, h3, h4, h5⟩ := tl_jt_ok h Ψ ρ σ hG
    refine ⟨μ, Ψ', ρ', A', ?_, h2, h3, h4, h5⟩
    have ht := tj_find_cT hf
    have hpc : σ.1 = A.1 := by
      obtain ⟨ls, w, mc, ms, hσ, _⟩ := hG
      rw [hσ]
    unfold zx_step
    rw [hpc, ht]
    exact h1
  next i len ex hf =>
    intro Ψ ρ σ hG
    obtain ⟨μ, Ψ', ρ', A', h1, h2, h3, h4, h5⟩ := tl_copy_ok hso h Ψ ρ σ hG
    refine ⟨μ, Ψ', ρ', A', ?_, h2, h3, h4, h5⟩
    have ht := tj_find_cT hf
    have hpc : σ.1 = A.1 := by
      obtain ⟨ls, w, mc, ms, hσ, _⟩ := hG
      rw [hσ]
    unfold zx_step
    rw [hpc, ht]
    exact h1
  next len ex hf =>
    intro Ψ ρ σ hG
    obtain ⟨μ, Ψ', ρ', A', h1, h2, h3, h4, h5⟩ := tl_i2l_ok h Ψ ρ σ hG
    refine ⟨μ, Ψ', ρ', A', ?_, h2, h3, h4, h5⟩
    have ht := tj_find_cT hf
    have hpc : σ.1 = A.1 := by
      obtain ⟨ls, w, mc, ms, hσ, _⟩ := hG
      rw [hσ]
    unfold zx_step
    rw [hpc, ht]
    exact h1
  next n len ex hf =>
    intro Ψ ρ σ hG
    obtain ⟨μ, Ψ', ρ', A', h1, h2, h3, h4, h5⟩ := tl_pushJ_ok h Ψ ρ σ hG
    refine ⟨μ, Ψ', ρ', A', ?_, h2, h3, h4, h5⟩
    have ht := tj_find_cT hf
    have hpc : σ.1 = A.1 := by
      obtain ⟨ls, w, mc, ms, hσ, _⟩ := hG
      rw [hσ]
    unfold zx_step
    rw [hpc, ht]
    exact h1
  next i len ex hf =>
    intro Ψ ρ σ hG
    obtain ⟨μ, Ψ', ρ', A', h1, h2, h3, h4, h5⟩ := tl_pushJ_ok h Ψ ρ σ hG
    refine ⟨μ, Ψ', ρ', A', ?_, h2, h3, h4, h5⟩
    have ht := tj_find_cT hf
    have hpc : σ.1 = A.1 := by
      obtain ⟨ls, w, mc, ms, hσ, _⟩ := hG
      rw [hσ]
    unfold zx_step
    rw [hpc, ht]
    exact h1
  next len ex hf =>
    intro Ψ ρ σ hG
    obtain ⟨μ, Ψ', ρ', A', h1, h2, h3, h4, h5⟩ := tl_ldiv_ok h Ψ ρ σ hG
    refine ⟨μ, Ψ', ρ', A', ?_, h2, h3, h4, h5⟩
    have ht := tj_find_cT hf
    have hpc : σ.1 = A.1 := by
      obtain ⟨ls, w, mc, ms, hσ, _⟩ := hG
      rw [hσ]
    unfold zx_step
    rw [hpc, ht]
    exact h1
  next o off len ex hf =>
    intro Ψ ρ σ hG
    obtain ⟨μ, Ψ', ρ', A', h1, h2, h3, h4, h5⟩ := tl_j0_ok h Ψ ρ σ hG
    refine ⟨μ, Ψ', ρ', A', ?_, h2, h3, h4, h5⟩
    have ht := tj_find_cT hf
    have hpc : σ.1 = A.1 := by
      obtain ⟨ls, w, mc, ms, hσ, _⟩ := hG
      rw [hσ]
    unfold zx_step
    rw [hpc, ht]
    exact h1
  next len ex hf =>
    intro Ψ ρ σ hG
    obtain ⟨μ, Ψ', ρ', A', h1, h2, h3, h4, h5⟩ := tl_lcmp_ok h Ψ ρ σ hG
    refine ⟨μ, Ψ', ρ', A', ?_, h2, h3, h4, h5⟩
    have ht := tj_find_cT hf
    have hpc : σ.1 = A.1 := by
      obtain ⟨ls, w, mc, ms, hσ, _⟩ := hG
      rw [hσ]
    unfold zx_step
    rw [hpc, ht]
    exact h1
  next len ex hf =>
    intro Ψ ρ σ hG
    obtain ⟨μ, Ψ', ρ', A', h1, h2, h3, h4, h5⟩ := tl_laload_ok h Ψ ρ σ hG
    refine ⟨μ, Ψ', ρ', A', ?_, h2, h3, h4, h5⟩
    have ht := tj_find_cT hf
    have hpc : σ.1 = A.1 := by
      obtain ⟨ls, w, mc, ms, hσ, _⟩ := hG
      rw [hσ]
    unfold zx_step
    rw [hpc, ht]
    exact h1
  next => exact tj_step_ok hso hKS h
def tl_at (pc : Nat) : List (Nat × List tl_H) → List tl_H
  | [] => []
  | (k, l) :: r => match Nat.beq k pc with
    | true => l
    | false => tl_at pc r
def tl_stepH (Λ : List tj_D) (E : tj_Ef) (CS : List tj_C) (dt : List (List (Nat × zx_I))) (hs : List (Nat × List tl_H)) (A : tj_S) : Option (List tj_S) := tj_bind (tl_step Λ E CS dt) (tl_all Λ (tl_at A.1 hs) A)
theorem tl_stepH_ok (hso : tj_SO Λ) {K : zx_K} {X : zx_X} {CS : List tj_C} (hKS : tj_KS K Λ CS) {dt : List (List (Nat × zx_I))} {hs : List (Nat × List tl_H)} {A : tj_S} {As : List tj_S} (h : tl_stepH Λ E CS dt hs A = some As) : tj_sim Λ cap E Ψ0 w0 (zx_step K X cap (zx_find (zx_cT dt))) A As := by
  intro Ψ ρ σ hG
  obtain ⟨B, b1, ρ1, b2, b4, b5⟩ := tl_all_ok (hs := tl_at A.1 hs) hG
  obtain ⟨r, r1, r2⟩ := tj_bind_mem h B b1
  obtain ⟨μ, Ψ', ρ', A', h1, h2, h3, h4, h5⟩ := tl_step_ok hso (X := X) hKS r1 Ψ ρ1 σ b2
  exact ⟨μ, Ψ', ρ', A', h1, r2 A' h2, h3, Nat.le_trans b4 h4, fun k hk => (h5 k (Nat.lt_of_lt_of_le hk b4)).trans (b5 k hk)⟩
end tlJump
def tl_fall (Λ : List tj_D) (dt : List (List (Nat × zx_I))) (na : Nat) (outs : List tj_O) (cuts : List tj_cut) (old : Option (List (Nat × Nat))) (hs : List (Nat × List tl_H)) (r : Option (List tj_S)) : Bool := match r with
  | some As => As.all (fun A => (tl_all Λ (tl_at (A.1 + 100000) hs) A).all (tj_fin Λ dt na outs cuts old))
  | none => false
def tl_chk (Λ : List tj_D) (E : tj_Ef) (CS : List tj_C) (dt : List (List (Nat × zx_I))) (hs : List (Nat × List tl_H)) (ts : List tj_y) (outs : List tj_O) (pre : tj_Fg) (cuts : List tj_cut) (ps : List Nat) (n : Nat) : Bool := tl_fall Λ dt ts.length outs cuts none hs (tj_run (tl_stepH Λ E CS dt hs) (tj_stop dt ps) n (0, tj_args 0 0 ts, [], ts ++ pre.2.1, pre.2.2)) && cuts.all (fun c => tj_okc ts.length c && tl_fall Λ dt ts.length outs cuts (some c.2.2) hs (tj_from (tl_stepH Λ E CS dt hs) (tj_stop dt ps) n c.1))
section tlMeth
variable {Λ : List tj_D} {E : tj_Ef} {Ψ0 : List Nat} {w0 : List zx_E}
theorem tl_method (hso : tj_SO Λ) {mt : Nat → Option (Nat → Option zx_Q)} {rc ml : Nat → Nat} {d y n : Nat} {CS : List tj_C} {dt : List (List (Nat × zx_I))} {ts : List tj_y} {outs : List tj_O} {pre : tj_Fg} {cuts : List tj_cut} {ps : List Nat} {hs : List (Nat × List tl_H)} (hmt : mt y = some (zx_find (zx_cT dt))) (hKS : tj_KS (zx_Cl mt rc ml d) Λ CS) (hrc : tj_rcOk Λ (rc y) ts = true) (hml : Nat.ble (tj_words ts) (ml y) = true) (hc : tl_chk Λ E CS dt hs ts outs pre cuts ps n = true) : tj_KS1 (zx_Cl mt rc ml (d + 1)) Λ (y, ts, E, outs, pre) := by
  intro Ψ av w hw hty ⟨ρ0, hρ0, hp2, hp3⟩
  have hp2 : tj_env Ψ (ts ++ pre.2.1) ρ0 := hp2
  have hp3 : ∀ f ∈ pre.2.2, tj_fd ρ0 w f := hp3
  have hty : tj_typed Ψ av ts := hty
  unfold tl_chk at hc
  rw [Bool.and_eq_true] at hc
  obtain ⟨hc1, hc2⟩ := hc
  have hlen : ts.length = av.length := tj_typed_len hty
  rw [hlen] at hc1 hc2
  have hst : ∀ A As, tl_stepH Λ E CS dt hs A = some As → tj_sim Λ (tj_P tj_c1 w, tj_P tj_c2 w) E Ψ w (zx_step (zx_Cl mt rc ml d) none (tj_P tj_c1 w, tj_P tj_c2 w) (zx_find (zx_cT dt))) A As := fun A As h => tl_stepH_ok hso hKS h
  have key : ∀ (m : Nat) (c : tj_cut), c ∈ cuts → ∀ (Ψ' : List Nat) (ρ : Nat → zx_V) (σ : zx_S), tj_G Λ (tj_P tj_c1 w, tj_P tj_c2 w) E Ψ w c.1 Ψ' ρ σ → (∀ i v, av[i]? = some v → ρ i = v) → tj_enc (c.2.2.map (tj_mvl ρ)) = m → zx_wp (zx_Cl mt rc ml d) none (tj_P tj_c1 w, tj_P tj_c2 w) (zx_find (zx_cT dt)) (tj_Post Λ E Ψ w dt outs av) σ := by
    intro m
    induction m using Nat.strongRecOn with
    | _ m ih =>
      intro c hcm Ψ' ρ σ hG hav hm
      have hcc := List.all_eq_true.mp hc2 c hcm
      rw [Bool.and_eq_true] at hcc
      obtain ⟨hok, hall⟩ := hcc
      unfold tj_okc at hok
      rw [Bool.and_eq_true] at hok
      have hna := Nat.le_of_ble_eq_true hok.1
      unfold tl_fall at hall
      split at hall
      next As hAs =>
        refine zx_wp_seq (zx_wp_mono ?_ (tj_from_ok hst hAs hG))
        intro τ ⟨Ψ2, ρ2, A3, k1, k2, k3, k4⟩
        have hfin3 := List.all_eq_true.mp hall A3 k1
        obtain ⟨A2, b1, ρ4, b2, b4, b5⟩ := tl_all_ok (hs := tl_at (A3.1 + 100000) hs) k2
        have hfin := List.all_eq_true.mp hfin3 A2 b1
        have k4 : ∀ k, k < c.1.2.2.2.1.length → ρ4 k = ρ k := fun k hk => (b5 k (Nat.lt_of_lt_of_le hk k3)).trans (k4 k hk)
        have k3 := Nat.le_trans k3 b4
        have k2 := b2
        clear b5
        revert k2 k4
        generalize ρ4 = ρ2
        intro k4 k2
        have hav2 : ∀ i v, av[i]? = some v → ρ2 i = v := fun i v hv => by
          have hi : i < av.length := (List.getElem?_eq_some_iff.mp hv).1
          rw [k4 i (by omega)]
          exact hav i v hv
        rcases tj_fin_ok hfin k2 hav2 (by omega) with hp | ⟨c', hc', ρ', g1, g2, g3⟩
        · exact zx_wp_done hp
        · have hlt := g3 c.2.2 rfl (fun q hq => by
            have := List.all_eq_true.mp hok.2 q hq
            rw [Bool.or_eq_true] at this
            rcases this with e | e
            · exact Or.inl (Nat.eq_of_beq_eq_true e)
            · have := tj_blt_t e
              exact Or.inr (by omega))
          have e : c.2.2.map (tj_mvl ρ2) = c.2.2.map (tj_mvl ρ) := List.map_congr_left (fun q hq => by
            have := List.all_eq_true.mp hok.2 q hq
            rw [Bool.or_eq_true] at this
            rcases this with e | e
            · simp only [tj_mvl, Nat.eq_of_beq_eq_true e]
            · simp only [tj_mvl, k4 q.2 (tj_blt_t e)])
          rw [e, hm] at hlt
          exact ih _ hlt c' hc' Ψ2 ρ' τ g1 g2 rfl
      next => cases hall
  have hG0 : tj_G Λ (tj_P tj_c1 w, tj_P tj_c2 w) E Ψ w (0, tj_args 0 0 ts, [], ts ++ pre.2.1, pre.2.2) Ψ ρ0 (0, zx_args 0 av, [], w, 0, 0) := by
    refine ⟨zx_args 0 av, w, 0, 0, rfl, ⟨hw, ⟨by show 0 + _ ≤ _; omega, by show 0 + _ ≤ _; omega⟩, tj_le_rf, tj_fr_rf⟩, fun q hq => (tj_args_ok av ts 0 0 hty (fun i v h => by rw [Nat.zero_add]; exact hρ0 i v h) q hq).1, tj_args_lim hw av ts 0 hty, hp2, hp3⟩
  have hrun : zx_wp (zx_Cl mt rc ml d) none (tj_P tj_c1 w, tj_P tj_c2 w) (zx_find (zx_cT dt)) (tj_Post Λ E Ψ w dt outs av) (0, zx_args 0 av, [], w, 0, 0) := by
    unfold tl_fall at hc1
    split at hc1
    next As hAs =>
      refine zx_wp_seq (zx_wp_mono ?_ (tj_run_ok hst hAs hG0))
      intro τ ⟨Ψ2, ρ2, A3, k1, k2, k3, k4⟩
      have hfin3 := List.all_eq_true.mp hc1 A3 k1
      obtain ⟨A2, b1, ρ4, b2, b4, b5⟩ := tl_all_ok (hs := tl_at (A3.1 + 100000) hs) k2
      have hfin := List.all_eq_true.mp hfin3 A2 b1
      have k4 : ∀ k, k < (ts ++ pre.2.1).length → ρ4 k = ρ0 k := fun k hk => (b5 k (Nat.lt_of_lt_of_le hk k3)).trans (k4 k hk)
      have k3 := Nat.le_trans k3 b4
      have k2 := b2
      clear b5
      revert k2 k4
      generalize ρ4 = ρ2
      intro k4 k2
      have k3 : (ts ++ pre.2.1).length ≤ A2.2.2.2.1.length := k3
      have k4 : ∀ k, k < (ts ++ pre.2.1).length → ρ2 k = ρ0 k := k4
      rw [List.length_append] at k3
      simp only [List.length_append] at k4
      have hav2 : ∀ i v, av[i]? = some v → ρ2 i = v := fun i v hv => by
        have hi : i < av.length := (List.getElem?_eq_some_iff.mp hv).1
        rw [k4 i (by omega)]
        exact hρ0 i v hv
      rcases tj_fin_ok hfin k2 hav2 (by omega) with hp | ⟨c', hc', ρ', g1, g2, g3⟩
      · exact zx_wp_done hp
      · exact key _ c' hc' Ψ2 ρ' τ g1 g2 rfl
    next => cases hc1
  obtain ⟨m, σ, hst, r, Ψ', o, p1, p2, p3, p4, p5, p6, p7, p8, p9, p10⟩ := hrun
  refine ⟨r, σ.2.2.2.2, Ψ', o, ⟨_, hmt, tj_rcOk_ok hrc hw hty, by rw [tj_words_ok av ts hty]; exact Nat.le_of_ble_eq_true hml, m, σ, (zx_star_shr hst).2 _ (Nat.le_refl _) (Nat.le_refl _), p1⟩, p2, p3, p4, p5, p6, p7, p8, p9, p10⟩
end tlMeth
