/-! comparisons -/
theorem sx_bltT {a b : Nat} (h : a < b) : Nat.blt a b = true := Nat.ble_eq_true_of_le h
theorem sx_bltF {a b : Nat} (h : b ≤ a) : Nat.blt a b = false := by
  cases hb : Nat.blt a b with
  | false => rfl
  | true => exact absurd (Nat.le_of_ble_eq_true hb) (by omega)
theorem sx_bleT {a b : Nat} (h : a ≤ b) : Nat.ble a b = true := Nat.ble_eq_true_of_le h
theorem sx_bleF {a b : Nat} (h : b < a) : Nat.ble a b = false := by
  cases hb : Nat.ble a b with
  | false => rfl
  | true => exact absurd (Nat.le_of_ble_eq_true hb) (by omega)
theorem sx_beqT {a b : Nat} (h : a = b) : Nat.beq a b = true := by rw [h]; exact Nat.beq_refl b
theorem sx_beqF {a b : Nat} (h : a ≠ b) : Nat.beq a b = false := by
  cases hb : Nat.beq a b with
  | false => rfl
  | true => exact absurd (Nat.eq_of_beq_eq_true hb) h
theorem sx_minI {x a b : Nat} (h1 : x ≤ a) (h2 : x ≤ b) : x ≤ Nat.min a b := Nat.le_min.mpr ⟨h1, h2⟩
theorem sx_maxI {x a b : Nat} (h1 : a ≤ x) (h2 : b ≤ x) : Nat.max a b ≤ x := Nat.max_le.mpr ⟨h1, h2⟩
theorem sx_parts_ok (o : ClassFile.Cond) {lo hi n x : Nat} (h1 : lo ≤ x) (h2 : x ≤ hi) : ∃ q ∈ sx_parts o lo hi n, q.1 ≤ x ∧ x ≤ q.2.1 ∧ sx_tru o x n = q.2.2 := by
  cases o with
  | lt =>
    by_cases h : x < n
    · exact ⟨_, List.mem_cons_self, h1, sx_minI h2 (by omega), (sx_bltT h).trans (sx_bltT (by omega)).symm⟩
    · exact ⟨_, List.mem_cons_of_mem _ List.mem_cons_self, sx_maxI h1 (by omega), h2, sx_bltF (by omega)⟩
  | ge =>
    by_cases h : x < n
    · exact ⟨_, List.mem_cons_self, h1, sx_minI h2 (by omega), (sx_bleF h).trans (by show false = !(Nat.blt 0 n); rw [sx_bltT (show 0 < n by omega)]; rfl)⟩
    · exact ⟨_, List.mem_cons_of_mem _ List.mem_cons_self, sx_maxI h1 (by omega), h2, sx_bleT (by omega)⟩
  | le =>
    by_cases h : x ≤ n
    · exact ⟨_, List.mem_cons_self, h1, sx_minI h2 h, sx_bleT h⟩
    · exact ⟨_, List.mem_cons_of_mem _ List.mem_cons_self, sx_maxI h1 (by omega), h2, sx_bleF (by omega)⟩
  | gt =>
    by_cases h : x ≤ n
    · exact ⟨_, List.mem_cons_self, h1, sx_minI h2 h, sx_bltF h⟩
    · exact ⟨_, List.mem_cons_of_mem _ List.mem_cons_self, sx_maxI h1 (by omega), h2, sx_bltT (by omega)⟩
  | eq =>
    by_cases h : x < n
    · exact ⟨_, List.mem_cons_self, h1, sx_minI h2 (by omega), (sx_beqF (by omega)).trans (by show false = !(Nat.blt 0 n); rw [sx_bltT (show 0 < n by omega)]; rfl)⟩
    · by_cases h' : x = n
      · exact ⟨_, List.mem_cons_of_mem _ List.mem_cons_self, sx_maxI h1 (by omega), sx_minI h2 (by omega), sx_beqT h'⟩
      · exact ⟨_, List.mem_cons_of_mem _ (List.mem_cons_of_mem _ List.mem_cons_self), sx_maxI h1 (by omega), h2, sx_beqF h'⟩
  | ne =>
    by_cases h : x < n
    · exact ⟨_, List.mem_cons_self, h1, sx_minI h2 (by omega), (by show (!(Nat.beq x n)) = Nat.blt 0 n; rw [sx_bltT (show 0 < n by omega), sx_beqF (by omega)]; rfl)⟩
    · by_cases h' : x = n
      · exact ⟨_, List.mem_cons_of_mem _ List.mem_cons_self, sx_maxI h1 (by omega), sx_minI h2 (by omega), by show (!(Nat.beq x n)) = false; rw [sx_beqT h']; rfl⟩
      · exact ⟨_, List.mem_cons_of_mem _ (List.mem_cons_of_mem _ List.mem_cons_self), sx_maxI h1 (by omega), h2, by show (!(Nat.beq x n)) = true; rw [sx_beqF h']; rfl⟩
theorem sx_tru_flip (o : ClassFile.Cond) (x y : Nat) : sx_tru (sx_flip o) y x = sx_tru o x y := by
  cases o with
  | eq => show Nat.beq y x = Nat.beq x y; rw [← sx_beq, ← sx_beq]; exact BEq.comm
  | ne => show (!(Nat.beq y x)) = !(Nat.beq x y); rw [← sx_beq, ← sx_beq, BEq.comm]
  | lt => rfl
  | ge => rfl
  | gt => rfl
  | le => rfl
theorem sx_fork_mem {σ : sx_S} {k t f : Nat} {q : Nat × Nat × Bool} (hq : q.1 ≤ q.2.1) : ∀ {ps : List (Nat × Nat × Bool)}, q ∈ ps → sx_nar σ k (sx_pick q.2.2 t f) q.1 q.2.1 ∈ sx_fork σ k t f ps
  | [], h => by cases h
  | (lo, hi, b) :: l, h => by
    unfold sx_fork
    rcases List.mem_cons.mp h with rfl | h
    · rw [show Nat.ble lo hi = true from sx_bleT hq]
      exact List.mem_cons_self
    · split
      · exact List.mem_cons_of_mem _ (sx_fork_mem hq h)
      · exact sx_fork_mem hq h
section sxBranch
variable {p : Program} {l : Launch} {e : Env} {R : Room} {s : State} {m : MethodId} {args : Array Value} {below : List Frame} {meth : Method} {c : Code} {Q : State → Prop} {D : va_G} {cA : Nat → ClassId} {A : Nat → Prop} {b nL : Nat} {ρ0 : Nat → Int32} {ad0 : Nat → Nat} {n0 m0 : Nat} {cc : ByteArray}
/-- a variable narrowed to an interval in which it lies -/
theorem sx_narrow {pc0 pc mc ms k lo hi : Nat} {L : List (Nat × sx_V)} {st : List sx_V} {w : List sx_E} {iv : sx_Iv} (K : sx_Ok p l e R s m args below meth c Q D cA A b nL ρ0 ad0 n0 m0 (sx_nar (pc0, L, st, w, iv, mc, ms) k pc lo hi))
    {ρ : Nat → Int32} {ad : Nat → Nat} {H : Heap} {locs : List Loc} {ls : Array Slot} (hlo : lo ≤ sx_b (ρ k)) (hhi : sx_b (ρ k) ≤ hi) (h1 : sx_ivOk ρ iv) (h2 : ∀ k, k < n0 → ρ k = ρ0 k) (h3 : ∀ k, k < m0 → ad k = ad0 k) (h4 : n0 ≤ iv.length) (h5 : m0 ≤ w.length)
    (hP : va_P D sx_clL (sx_cW ρ ad b cA w) H) (hD : va_D A (sx_cW ρ ad b cA w)) (hS : va_S A s.heap H locs) (hl : lv_has ls nL (sx_cL ρ ad b L)) : W p l e R s m args below meth c H locs mc ms Q (F0 m pc ls (st.map (sx_cv ρ ad b))) := by
  simp only [sx_nar, sx_setk_eq] at K
  refine K ρ ad H locs ls (fun j lo' hi' hj => ?_) h2 h3 (by show n0 ≤ (iv.set k (lo, hi)).length; rw [List.length_set]; exact h4) h5 hP hD hS hl
  have hj' : (iv.set k (lo, hi))[j]? = some (lo', hi') := hj
  by_cases hk : k = j
  · subst hk
    rw [List.getElem?_set_self'] at hj'
    cases hv : iv[k]? with
    | none => rw [hv] at hj'; cases hj'
    | some q =>
      rw [hv] at hj'
      cases hj'
      exact ⟨hlo, hhi⟩
  · rw [List.getElem?_set_ne hk] at hj'
    exact h1 j lo' hi' hj'
/-- a comparison of two values: where it goes -/
theorem sx_s_cmpG {o : ClassFile.Cond} {pc mc ms t f : Nat} {L : List (Nat × sx_V)} {st : List sx_V} {w : List sx_E} {iv : sx_Iv} {u v : sx_V} {ss : List sx_S} (h : sx_cmp (pc, L, st, w, iv, mc, ms) iv o (sx_nm iv u) (sx_nm iv v) t f = some ss) (K : ∀ τ ∈ ss, sx_Ok p l e R s m args below meth c Q D cA A b nL ρ0 ad0 n0 m0 τ)
    {ρ : Nat → Int32} {ad : Nat → Nat} {H : Heap} {locs : List Loc} {ls : Array Slot} (h1 : sx_ivOk ρ iv) (h2 : ∀ k, k < n0 → ρ k = ρ0 k) (h3 : ∀ k, k < m0 → ad k = ad0 k) (h4 : n0 ≤ iv.length) (h5 : m0 ≤ w.length)
    (hP : va_P D sx_clL (sx_cW ρ ad b cA w) H) (hD : va_D A (sx_cW ρ ad b cA w)) (hS : va_S A s.heap H locs) (hl : lv_has ls nL (sx_cL ρ ad b L)) :
    ∃ x y : Int32, sx_cv ρ ad b u = .int x ∧ sx_cv ρ ad b v = .int y ∧ W p l e R s m args below meth c H locs mc ms Q (F0 m (sx_pick (sx_tru o (sx_b x) (sx_b y)) t f) ls (st.map (sx_cv ρ ad b))) := by
  unfold sx_cmp at h
  split at h
  next x y ha hb =>
    cases h
    refine ⟨_, _, sx_nm_c h1 ad b ha, sx_nm_c h1 ad b hb, ?_⟩
    rw [sx_b_of, sx_b_of]
    exact K _ List.mem_cons_self ρ ad H locs ls h1 h2 h3 h4 h5 hP hD hS hl
  next k y ha hb =>
    split at h
    next lo hi hk =>
      cases h
      rw [sx_nth_eq] at hk
      refine ⟨_, _, sx_nm_v h1 ad b ha, sx_nm_c h1 ad b hb, ?_⟩
      rw [sx_b_of]
      obtain ⟨q, hq, g1, g2, g3⟩ := sx_parts_ok o (n := sx_bias y) (h1 k lo hi hk).1 (h1 k lo hi hk).2
      rw [g3]
      exact sx_narrow (K _ (sx_fork_mem (by omega) hq)) g1 g2 h1 h2 h3 h4 h5 hP hD hS hl
    next => cases h
  next x k ha hb =>
    split at h
    next lo hi hk =>
      cases h
      rw [sx_nth_eq] at hk
      refine ⟨_, _, sx_nm_c h1 ad b ha, sx_nm_v h1 ad b hb, ?_⟩
      rw [sx_b_of]
      obtain ⟨q, hq, g1, g2, g3⟩ := sx_parts_ok (sx_flip o) (n := sx_bias x) (h1 k lo hi hk).1 (h1 k lo hi hk).2
      rw [sx_tru_flip] at g3
      rw [g3]
      exact sx_narrow (K _ (sx_fork_mem (by omega) hq)) g1 g2 h1 h2 h3 h4 h5 hP hD hS hl
    next => cases h
  next j k ha hb =>
    refine ⟨_, _, sx_nm_v h1 ad b ha, sx_nm_v h1 ad b hb, ?_⟩
    split at h
    next hjk =>
      cases h
      rw [Nat.eq_of_beq_eq_true hjk]
      have e : ∀ n : Nat, sx_tru o n n = sx_tru o 0 0 := by
        intro n
        cases o with
        | eq => exact (sx_beqT rfl).trans (sx_beqT rfl).symm
        | ne => show (!(Nat.beq n n)) = !(Nat.beq 0 0); rw [sx_beqT rfl]; rfl
        | lt => exact (sx_bltF (Nat.le_refl _)).trans (sx_bltF (Nat.le_refl _)).symm
        | ge => exact (sx_bleT (Nat.le_refl _)).trans (sx_bleT (Nat.le_refl _)).symm
        | gt => exact (sx_bltF (Nat.le_refl _)).trans (sx_bltF (Nat.le_refl _)).symm
        | le => exact (sx_bleT (Nat.le_refl _)).trans (sx_bleT (Nat.le_refl _)).symm
      rw [e]
      exact K _ List.mem_cons_self ρ ad H locs ls h1 h2 h3 h4 h5 hP hD hS hl
    next =>
      cases h
      cases sx_tru o (sx_b (ρ j)) (sx_b (ρ k)) with
      | true => exact K _ List.mem_cons_self ρ ad H locs ls h1 h2 h3 h4 h5 hP hD hS hl
      | false => exact K _ (List.mem_cons_of_mem _ List.mem_cons_self) ρ ad H locs ls h1 h2 h3 h4 h5 hP hD hS hl
  next => cases h
/-- the machine's comparison, by the executor's truth -/
theorem sx_icmp (hx : p.tables.exec = Jvm.exec) (hb : c.code = cc) {H : Heap} {locs : List Loc} {mc ms pc t : Nat} {ls : Array Slot} {rest : List Value} {x y : Int32} {off : Int} (o : ClassFile.Cond) (hdg : decode cc pc = .ok (.if_icmp o off, 3)) (ht : (pc : Int) + off = (t : Int)) (k : W p l e R s m args below meth c H locs mc ms Q (F0 m (sx_pick (sx_tru o (sx_b x) (sx_b y)) t (pc + 3)) ls rest)) : W p l e R s m args below meth c H locs mc ms Q (F0 m pc ls (.int y :: .int x :: rest)) := by
  cases o with
  | eq => exact lv_icmp_eq hx hb hdg ht (fun h => by rw [show sx_tru .eq (sx_b x) (sx_b y) = true from sx_beqT ((sx_i_eq x y).mp h)] at k; exact k) (fun h => by rw [show sx_tru .eq (sx_b x) (sx_b y) = false from sx_beqF (fun q => h ((sx_i_eq x y).mpr q))] at k; exact k)
  | ne => exact lv_icmp_ne hx hb hdg ht (fun h => by rw [show sx_tru .ne (sx_b x) (sx_b y) = true from (by show (!(Nat.beq _ _)) = true; rw [sx_beqF (fun q => h ((sx_i_eq x y).mpr q))]; rfl)] at k; exact k) (fun h => by rw [show sx_tru .ne (sx_b x) (sx_b y) = false from (by show (!(Nat.beq _ _)) = false; rw [sx_beqT ((sx_i_eq x y).mp h)]; rfl)] at k; exact k)
  | lt => exact lv_icmp_lt hx hb hdg ht (fun h => by rw [show sx_tru .lt (sx_b x) (sx_b y) = true from sx_bltT ((sx_i_lt x y).mp h)] at k; exact k) (fun h => by rw [show sx_tru .lt (sx_b x) (sx_b y) = false from sx_bltF (Nat.not_lt.mp (fun q => h ((sx_i_lt x y).mpr q)))] at k; exact k)
  | ge => exact lv_icmp_ge hx hb hdg ht (fun h => by rw [show sx_tru .ge (sx_b x) (sx_b y) = true from sx_bleT ((sx_i_le y x).mp h)] at k; exact k) (fun h => by rw [show sx_tru .ge (sx_b x) (sx_b y) = false from sx_bleF (Nat.not_le.mp (fun q => h ((sx_i_le y x).mpr q)))] at k; exact k)
  | gt => exact lv_icmp_gt hx hb hdg ht (fun h => by rw [show sx_tru .gt (sx_b x) (sx_b y) = true from sx_bltT ((sx_i_lt y x).mp h)] at k; exact k) (fun h => by rw [show sx_tru .gt (sx_b x) (sx_b y) = false from sx_bltF (Nat.not_lt.mp (fun q => h ((sx_i_lt y x).mpr q)))] at k; exact k)
  | le => exact lv_icmp_le hx hb hdg ht (fun h => by rw [show sx_tru .le (sx_b x) (sx_b y) = true from sx_bleT ((sx_i_le x y).mp h)] at k; exact k) (fun h => by rw [show sx_tru .le (sx_b x) (sx_b y) = false from sx_bleF (Nat.not_le.mp (fun q => h ((sx_i_le x y).mpr q)))] at k; exact k)
theorem sx_if0 (hx : p.tables.exec = Jvm.exec) (hb : c.code = cc) {H : Heap} {locs : List Loc} {mc ms pc t : Nat} {ls : Array Slot} {rest : List Value} {x : Int32} {off : Int} (o : ClassFile.Cond) (hdg : decode cc pc = .ok (.ifCond o off, 3)) (ht : (pc : Int) + off = (t : Int)) (k : W p l e R s m args below meth c H locs mc ms Q (F0 m (sx_pick (sx_tru o (sx_b x) (sx_b 0)) t (pc + 3)) ls rest)) : W p l e R s m args below meth c H locs mc ms Q (F0 m pc ls (.int x :: rest)) := by
  cases o with
  | eq => exact lv_if_eq hx hb hdg ht (fun h => by rw [show sx_tru .eq (sx_b x) (sx_b 0) = true from sx_beqT ((sx_i_eq x 0).mp h)] at k; exact k) (fun h => by rw [show sx_tru .eq (sx_b x) (sx_b 0) = false from sx_beqF (fun q => h ((sx_i_eq x 0).mpr q))] at k; exact k)
  | ne => exact lv_if_ne hx hb hdg ht (fun h => by rw [show sx_tru .ne (sx_b x) (sx_b 0) = true from (by show (!(Nat.beq _ _)) = true; rw [sx_beqF (fun q => h ((sx_i_eq x 0).mpr q))]; rfl)] at k; exact k) (fun h => by rw [show sx_tru .ne (sx_b x) (sx_b 0) = false from (by show (!(Nat.beq _ _)) = false; rw [sx_beqT ((sx_i_eq x 0).mp h)]; rfl)] at k; exact k)
  | lt => exact lv_if_lt hx hb hdg ht (fun h => by rw [show sx_tru .lt (sx_b x) (sx_b 0) = true from sx_bltT ((sx_i_lt x 0).mp h)] at k; exact k) (fun h => by rw [show sx_tru .lt (sx_b x) (sx_b 0) = false from sx_bltF (Nat.not_lt.mp (fun q => h ((sx_i_lt x 0).mpr q)))] at k; exact k)
  | ge => exact lv_if_ge hx hb hdg ht (fun h => by rw [show sx_tru .ge (sx_b x) (sx_b 0) = true from sx_bleT ((sx_i_le 0 x).mp h)] at k; exact k) (fun h => by rw [show sx_tru .ge (sx_b x) (sx_b 0) = false from sx_bleF (Nat.not_le.mp (fun q => h ((sx_i_le 0 x).mpr q)))] at k; exact k)
  | gt => exact lv_if_gt hx hb hdg ht (fun h => by rw [show sx_tru .gt (sx_b x) (sx_b 0) = true from sx_bltT ((sx_i_lt 0 x).mp h)] at k; exact k) (fun h => by rw [show sx_tru .gt (sx_b x) (sx_b 0) = false from sx_bltF (Nat.not_lt.mp (fun q => h ((sx_i_lt 0 x).mpr q)))] at k; exact k)
  | le => exact lv_if_le hx hb hdg ht (fun h => by rw [show sx_tru .le (sx_b x) (sx_b 0) = true from sx_bleT ((sx_i_le x 0).mp h)] at k; exact k) (fun h => by rw [show sx_tru .le (sx_b x) (sx_b 0) = false from sx_bleF (Nat.not_le.mp (fun q => h ((sx_i_le x 0).mpr q)))] at k; exact k)
theorem sx_s_jmp (hx : p.tables.exec = Jvm.exec) (hb : c.code = cc) {σ : sx_S} {o : ClassFile.Cond} {off : Int} {t : Nat} {ss : List sx_S} (hdg : decode cc σ.1 = .ok (.if_icmp o off, 3)) (ht : (σ.1 : Int) + off = (t : Int)) (h : sx_jmp σ o t = some ss) (K : ∀ τ ∈ ss, sx_Ok p l e R s m args below meth c Q D cA A b nL ρ0 ad0 n0 m0 τ) : sx_Ok p l e R s m args below meth c Q D cA A b nL ρ0 ad0 n0 m0 σ := by
  obtain ⟨pc, L, st, w, iv, mc, ms⟩ := σ
  unfold sx_jmp at h
  split at h
  next pc' L' y x st' w' iv' mc' ms' heq =>
    cases heq
    intro ρ ad H locs ls h1 h2 h3 h4 h5 hP hD hS hl
    obtain ⟨x', y', e1, e2, k⟩ := sx_s_cmpG h K h1 h2 h3 h4 h5 hP hD hS hl
    show W p l e R s m args below meth c H locs mc ms Q (F0 m pc ls (sx_cv ρ ad b y :: sx_cv ρ ad b x :: st'.map (sx_cv ρ ad b)))
    rw [e1, e2]
    exact sx_icmp hx hb o hdg ht k
  next => cases h
theorem sx_s_jmp0 (hx : p.tables.exec = Jvm.exec) (hb : c.code = cc) {σ : sx_S} {o : ClassFile.Cond} {off : Int} {t : Nat} {ss : List sx_S} (hdg : decode cc σ.1 = .ok (.ifCond o off, 3)) (ht : (σ.1 : Int) + off = (t : Int)) (h : sx_jmp0 σ o t = some ss) (K : ∀ τ ∈ ss, sx_Ok p l e R s m args below meth c Q D cA A b nL ρ0 ad0 n0 m0 τ) : sx_Ok p l e R s m args below meth c Q D cA A b nL ρ0 ad0 n0 m0 σ := by
  obtain ⟨pc, L, st, w, iv, mc, ms⟩ := σ
  unfold sx_jmp0 at h
  split at h
  next pc' L' x st' w' iv' mc' ms' heq =>
    cases heq
    intro ρ ad H locs ls h1 h2 h3 h4 h5 hP hD hS hl
    obtain ⟨x', y', e1, e2, k⟩ := sx_s_cmpG (v := (.inl 0)) h K h1 h2 h3 h4 h5 hP hD hS hl
    cases e2
    show W p l e R s m args below meth c H locs mc ms Q (F0 m pc ls (sx_cv ρ ad b x :: st'.map (sx_cv ρ ad b)))
    rw [e1]
    exact sx_if0 hx hb o hdg ht k
  next => cases h
end sxBranch
