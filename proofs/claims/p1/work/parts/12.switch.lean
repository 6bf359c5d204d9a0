/-! switches -/
theorem sx_swc_no {x d : Nat} : ∀ {l : List (Nat × Nat)}, (∀ q ∈ l, q.1 ≠ x) → sx_swc x d l = d
  | [], _ => rfl
  | (n, t) :: l, h => by
    unfold sx_swc
    rw [sx_beqF (h (n, t) List.mem_cons_self)]
    exact sx_swc_no (fun q hq => h q (List.mem_cons_of_mem _ hq))
theorem sx_sw_ok {σ : sx_S} {k d x hi : Nat} (h2 : x ≤ hi) : ∀ {l : List (Nat × Nat)} {lo : Nat}, l.Pairwise (fun a b => a.1 < b.1) → lo ≤ x → ∃ lo' hi', lo' ≤ x ∧ x ≤ hi' ∧ sx_nar σ k (sx_swc x d l) lo' hi' ∈ sx_sw σ k d lo hi l
  | [], lo, _, h1 => by
    unfold sx_sw
    rw [sx_bleT (show lo ≤ hi by omega)]
    exact ⟨lo, hi, h1, h2, List.mem_cons_self⟩
  | (n, t) :: l, lo, hp, h1 => by
    have hp' := List.pairwise_cons.mp hp
    by_cases hlt : x < n
    · have e : sx_swc x d ((n, t) :: l) = d := sx_swc_no (fun q hq => by
        rcases List.mem_cons.mp hq with rfl | hq
        · exact fun z => by have z' : n = x := z; omega
        · have := hp'.1 q hq
          exact fun z => by have z' : n < q.1 := this; omega)
      refine ⟨lo, Nat.min hi (n - 1), h1, sx_minI h2 (by omega), ?_⟩
      rw [e]
      unfold sx_sw
      rw [show (Nat.blt lo n && Nat.ble lo hi) = true by rw [sx_bltT (by omega), sx_bleT (by omega)]; rfl]
      exact List.mem_cons_self
    · by_cases heq : x = n
      · subst heq
        refine ⟨x, x, Nat.le_refl _, Nat.le_refl _, ?_⟩
        have e : sx_swc x d ((x, t) :: l) = t := by
          unfold sx_swc
          rw [sx_beqT rfl]
        rw [e]
        unfold sx_sw
        rw [show (Nat.ble lo x && Nat.ble x hi) = true by rw [sx_bleT h1, sx_bleT h2]; rfl]
        split
        · exact List.mem_cons_of_mem _ List.mem_cons_self
        · exact List.mem_cons_self
      · obtain ⟨lo', hi', g1, g2, g3⟩ := sx_sw_ok h2 (l := l) (lo := Nat.max lo (n + 1)) hp'.2 (sx_maxI h1 (by omega))
        refine ⟨lo', hi', g1, g2, ?_⟩
        have e : sx_swc x d ((n, t) :: l) = sx_swc x d l := by
          conv => lhs; unfold sx_swc
          rw [sx_beqF (fun z => heq z.symm)]
        rw [e]
        unfold sx_sw
        split <;> split <;> first | exact List.mem_cons_of_mem _ (List.mem_cons_of_mem _ g3) | exact List.mem_cons_of_mem _ g3 | exact g3
section sxSwitch
variable {p : Program} {l : Launch} {e : Env} {R : Room} {s : State} {m : MethodId} {args : Array Value} {below : List Frame} {meth : Method} {c : Code} {Q : State → Prop} {D : va_G} {cA : Nat → ClassId} {A : Nat → Prop} {b nL : Nat} {ρ0 : Nat → Int32} {ad0 : Nat → Nat} {n0 m0 : Nat} {cc : ByteArray}
theorem sx_s_switchG {pc mc ms d : Nat} {L : List (Nat × sx_V)} {st : List sx_V} {w : List sx_E} {iv : sx_Iv} {u : sx_V} {ts : List (Nat × Nat)} {ss : List sx_S} (hp : ts.Pairwise (fun a b => a.1 < b.1)) (h : sx_switch (pc, L, st, w, iv, mc, ms) iv (sx_nm iv u) d ts = some ss) (K : ∀ τ ∈ ss, sx_Ok p l e R s m args below meth c Q D cA A b nL ρ0 ad0 n0 m0 τ)
    {ρ : Nat → Int32} {ad : Nat → Nat} {H : Heap} {locs : List Loc} {ls : Array Slot} (h1 : sx_ivOk ρ iv) (h2 : ∀ k, k < n0 → ρ k = ρ0 k) (h3 : ∀ k, k < m0 → ad k = ad0 k) (h4 : n0 ≤ iv.length) (h5 : m0 ≤ w.length)
    (hP : va_P D sx_clL (sx_cW ρ ad b cA w) H) (hD : va_D A (sx_cW ρ ad b cA w)) (hS : va_S A s.heap H locs) (hl : lv_has ls nL (sx_cL ρ ad b L)) :
    ∃ x : Int32, sx_cv ρ ad b u = .int x ∧ W p l e R s m args below meth c H locs mc ms Q (F0 m (sx_swc (sx_b x) d ts) ls (st.map (sx_cv ρ ad b))) := by
  unfold sx_switch at h
  split at h
  next x ha =>
    cases h
    refine ⟨_, sx_nm_c h1 ad b ha, ?_⟩
    rw [sx_b_of]
    exact K _ List.mem_cons_self ρ ad H locs ls h1 h2 h3 h4 h5 hP hD hS hl
  next k ha =>
    split at h
    next lo hi hk =>
      cases h
      rw [sx_nth_eq] at hk
      refine ⟨_, sx_nm_v h1 ad b ha, ?_⟩
      obtain ⟨lo', hi', g1, g2, g3⟩ := sx_sw_ok (σ := (pc, L, st, w, iv, mc, ms)) (k := k) (d := d) (h1 k lo hi hk).2 hp (h1 k lo hi hk).1
      exact sx_narrow (K _ g3) g1 g2 h1 h2 h3 h4 h5 hP hD hS hl
    next => cases h
  next => cases h
theorem sx_s_swi {σ : sx_S} {d : Nat} {ts : List (Nat × Nat)} {ss : List sx_S} (hp : ts.Pairwise (fun a b => a.1 < b.1))
    (hrow : ∀ (H : Heap) (locs : List Loc) (mc ms : Nat) (ls : Array Slot) (rest : List Value) (x : Int32), W p l e R s m args below meth c H locs mc ms Q (F0 m (sx_swc (sx_b x) d ts) ls rest) → W p l e R s m args below meth c H locs mc ms Q (F0 m σ.1 ls (.int x :: rest)))
    (h : sx_swi σ d ts = some ss) (K : ∀ τ ∈ ss, sx_Ok p l e R s m args below meth c Q D cA A b nL ρ0 ad0 n0 m0 τ) : sx_Ok p l e R s m args below meth c Q D cA A b nL ρ0 ad0 n0 m0 σ := by
  obtain ⟨pc, L, st, w, iv, mc, ms⟩ := σ
  unfold sx_swi at h
  split at h
  next pc' L' x st' w' iv' mc' ms' heq =>
    cases heq
    intro ρ ad H locs ls h1 h2 h3 h4 h5 hP hD hS hl
    obtain ⟨x', e1, k⟩ := sx_s_switchG hp h K h1 h2 h3 h4 h5 hP hD hS hl
    show W p l e R s m args below meth c H locs mc ms Q (F0 m pc ls (sx_cv ρ ad b x :: st'.map (sx_cv ρ ad b)))
    rw [e1]
    exact hrow H locs mc ms ls _ x' k
  next => cases h
end sxSwitch
theorem sx_zip_at {y d : Nat} : ∀ (ts : List Nat) (n : Nat), sx_swc y d (sx_zip n ts) = if n ≤ y then (ts[y - n]?).getD d else d
  | [], n => by simp [sx_zip, sx_swc]
  | t :: ts, n => by
    unfold sx_zip sx_swc
    by_cases h : n = y
    · subst h
      rw [sx_beqT rfl]
      simp
    · rw [sx_beqF h]
      show sx_swc y d (sx_zip (n + 1) ts) = _
      rw [sx_zip_at ts (n + 1)]
      by_cases h2 : n ≤ y
      · rw [if_pos h2, if_pos (show n + 1 ≤ y by omega)]
        obtain ⟨k, hk⟩ : ∃ k, y - n = k + 1 := ⟨y - n - 1, by omega⟩
        rw [hk, show y - (n + 1) = k by omega]
        rfl
      · rw [if_neg h2, if_neg (show ¬ n + 1 ≤ y by omega)]
theorem sx_zip_pw : ∀ (ts : List Nat) (n : Nat), (∀ q ∈ sx_zip n ts, n ≤ q.1) ∧ (sx_zip n ts).Pairwise (fun a b => a.1 < b.1)
  | [], n => ⟨(fun q h => absurd h List.not_mem_nil), List.Pairwise.nil⟩
  | t :: ts, n => by
    obtain ⟨g1, g2⟩ := sx_zip_pw ts (n + 1)
    refine ⟨fun q hq => ?_, List.pairwise_cons.mpr ⟨fun q hq => g1 q hq, g2⟩⟩
    rcases List.mem_cons.mp hq with rfl | hq
    · exact Nat.le_refl _
    · have := g1 q hq
      omega
section sxSwitch2
variable {p : Program} {l : Launch} {e : Env} {R : Room} {s : State} {m : MethodId} {args : Array Value} {below : List Frame} {meth : Method} {c : Code} {Q : State → Prop} {D : va_G} {cA : Nat → ClassId} {A : Nat → Prop} {b nL : Nat} {ρ0 : Nat → Int32} {ad0 : Nat → Nat} {n0 m0 : Nat} {cc : ByteArray}
theorem sx_s_tsw (hx : p.tables.exec = Jvm.exec) (hb : c.code = cc) {σ : sx_S} {dflt lo hi : Int} {offs : Array Int} {len d lo' : Nat} {ts : List Nat} {ss : List sx_S} (hdg : decode cc σ.1 = .ok (.tableswitch dflt lo hi offs, len)) (hd : (σ.1 : Int) + dflt = (d : Int)) (hlo : (lo' : Int) = lo + 2147483648) (hhi : hi = lo + ts.length - 1) (hof : offs.toList.map (fun o => (σ.1 : Int) + o) = ts.map (fun t : Nat => (t : Int)))
    (h : sx_swi σ d (sx_zip lo' ts) = some ss) (K : ∀ τ ∈ ss, sx_Ok p l e R s m args below meth c Q D cA A b nL ρ0 ad0 n0 m0 τ) : sx_Ok p l e R s m args below meth c Q D cA A b nL ρ0 ad0 n0 m0 σ := by
  refine sx_s_swi (sx_zip_pw ts lo').2 (fun H locs mc ms ls rest x k => ?_) h K
  rw [sx_zip_at] at k
  have hx2 := sx_b_int x
  by_cases hlt : x.toInt < lo
  · rw [if_neg (show ¬ lo' ≤ sx_b x by omega)] at k
    exact lv_tableOut hx hb hdg (Or.inl hlt) hd k
  · rw [if_pos (show lo' ≤ sx_b x by omega)] at k
    by_cases hgt : hi < x.toInt
    · rw [List.getElem?_eq_none (by omega)] at k
      exact lv_tableOut hx hb hdg (Or.inr hgt) hd k
    · have hl : sx_b x - lo' < ts.length := by omega
      have e : (x.toInt - lo).toNat = sx_b x - lo' := by omega
      rw [List.getElem?_eq_getElem hl] at k
      have hlen : offs.toList.length = ts.length := by have := congrArg List.length hof; simpa using this
      have hl2 : sx_b x - lo' < offs.toList.length := by omega
      have hv : (σ.1 : Int) + offs.toList[sx_b x - lo'] = ((ts[sx_b x - lo'] : Nat) : Int) := by
        have := congrArg (fun l : List Int => l[sx_b x - lo']?) hof
        simp only [List.getElem?_map, List.getElem?_eq_getElem hl, List.getElem?_eq_getElem hl2, Option.map_some] at this
        exact Option.some.inj this
      refine lv_tableIn hx hb hdg hlt hgt (off := offs.toList[sx_b x - lo']) ?_ hv k
      rw [e, ← Array.getElem?_toList, List.getElem?_eq_getElem hl2]
/-- the machine's table of pairs, by the executor's -/
theorem sx_two_ok {pc d : Nat} {dflt : Int} (hd : (pc : Int) + dflt = (d : Int)) (x : Int32) : ∀ (ps : List (Int × Int)) (l : List (Nat × Nat)), ps.map (fun q => (q.1 + 2147483648, (pc : Int) + q.2)) = l.map (fun q : Nat × Nat => ((q.1 : Int), (q.2 : Int))) → (pc : Int) + Op.lookupswitch.offset ps dflt x.toInt = ((sx_swc (sx_b x) d l : Nat) : Int)
  | [], [], _ => hd
  | [], _ :: _, h => by simp at h
  | _ :: _, [], h => by simp at h
  | (a, o) :: ps, (n, t) :: l, h => by
    simp only [List.map_cons, List.cons.injEq, Prod.mk.injEq] at h
    have hx2 := sx_b_int x
    have ih := sx_two_ok hd x ps l h.2
    rw [Op.lookupswitch.offset_cons]
    unfold sx_swc
    by_cases hax : a = x.toInt
    · rw [if_pos hax, sx_beqT (show n = sx_b x by omega)]
      exact h.1.2
    · rw [if_neg hax, sx_beqF (show n ≠ sx_b x by omega)]
      exact ih
theorem sx_s_lsw (hx : p.tables.exec = Jvm.exec) (hb : c.code = cc) {σ : sx_S} {dflt : Int} {ps : Array (Int × Int)} {len d : Nat} {ql : List (Nat × Nat)} {ss : List sx_S} (hdg : decode cc σ.1 = .ok (.lookupswitch dflt ps, len)) (hps : (ps.toList.zip (ps.toList.drop 1)).all (fun (a, next) => a.1 < next.1) = true) (hd : (σ.1 : Int) + dflt = (d : Int)) (hpw : ql.Pairwise (fun a b => a.1 < b.1)) (hl : ps.toList.map (fun q => (q.1 + 2147483648, (σ.1 : Int) + q.2)) = ql.map (fun q : Nat × Nat => ((q.1 : Int), (q.2 : Int))))
    (h : sx_swi σ d ql = some ss) (K : ∀ τ ∈ ss, sx_Ok p l e R s m args below meth c Q D cA A b nL ρ0 ad0 n0 m0 τ) : sx_Ok p l e R s m args below meth c Q D cA A b nL ρ0 ad0 n0 m0 σ :=
  sx_s_swi hpw (fun H locs mc ms ls rest x k => lv_lookup hx hb hdg hps rfl (sx_two_ok hd x _ _ hl) k) h K
end sxSwitch2
