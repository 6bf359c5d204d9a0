/-! jumps and switches -/
theorem zx_le_not (x y : Int32) : y ≤ x ↔ ¬ x < y := by
  rw [Int32.le_iff_toInt_le, Int32.lt_iff_toInt_lt]
  omega
def zx_b (x : Int32) : Nat := (x.toInt + 2147483648).toNat
theorem zx_b_int (x : Int32) : (zx_b x : Int) = x.toInt + 2147483648 := by
  have h1 := Int32.le_toInt x
  have h2 := Int32.toInt_lt x
  unfold zx_b
  omega
def zx_zip : Nat → List Nat → List (Nat × Nat)
  | _, [] => []
  | n, t :: l => (n, t) :: zx_zip (n + 1) l
def zx_two : List Nat → List (Nat × Nat)
  | n :: t :: l => (n, t) :: zx_two l
  | _ => []
theorem zx_beqT {a b : Nat} (h : a = b) : Nat.beq a b = true := by rw [h]; exact Nat.beq_refl b
theorem zx_beqF {a b : Nat} (h : a ≠ b) : Nat.beq a b = false := by
  cases e : Nat.beq a b with
  | false => rfl
  | true => exact absurd (Nat.eq_of_beq_eq_true e) h
theorem zx_zip_at {y d : Nat} : ∀ (ts : List Nat) (n : Nat), zx_swc y d (zx_zip n ts) = if n ≤ y then (ts[y - n]?).getD d else d
  | [], n => by
    show d = _
    split <;> simp
  | t :: ts, n => by
    show (match Nat.beq n y with
      | true => t
      | false => zx_swc y d (zx_zip (n + 1) ts)) = _
    by_cases h : n = y
    · rw [zx_beqT h, if_pos (by omega), show y - n = 0 by omega]
      rfl
    · rw [zx_beqF h, zx_zip_at ts (n + 1)]
      by_cases h2 : n ≤ y
      · rw [if_pos (by omega), if_pos h2, show y - n = (y - (n + 1)) + 1 by omega]
        rfl
      · rw [if_neg (by omega), if_neg h2]
theorem zx_two_ok {pc d : Nat} {dflt : Int} (hd : (pc : Int) + dflt = (d : Int)) (x : Int32) : ∀ (ps : List (Int × Int)) (l : List (Nat × Nat)), ps.map (fun q => (q.1 + 2147483648, (pc : Int) + q.2)) = l.map (fun q : Nat × Nat => ((q.1 : Int), (q.2 : Int))) → (pc : Int) + Op.lookupswitch.offset ps dflt x.toInt = ((zx_swc (zx_b x) d l : Nat) : Int)
  | [], [], _ => hd
  | [], _ :: _, h => by simp at h
  | _ :: _, [], h => by simp at h
  | (a, o) :: ps, (n, t) :: l, h => by
    simp only [List.map_cons, List.cons.injEq, Prod.mk.injEq] at h
    have hx2 := zx_b_int x
    have ih := zx_two_ok hd x ps l h.2
    rw [Op.lookupswitch.offset_cons]
    unfold zx_swc
    by_cases hax : a = x.toInt
    · rw [if_pos hax, zx_beqT (show n = zx_b x by omega)]
      exact h.1.2
    · rw [if_neg hax, zx_beqF (show n ≠ zx_b x by omega)]
      exact ih
section zxJump
variable {p : Program} {l : Launch} {e : Env} {R : Room} {s : State} {m : MethodId} {args : Array Value} {below : List Frame} {meth : Method} {c : Code} {Q : State → Prop} {D : va_G} {cA : Nat → ClassId} {A : Nat → Prop} {b nL : Nat} {ad0 : Nat → Nat} {m0 : Nat} {cc : ByteArray}
theorem zx_icmp (hx : p.tables.exec = Jvm.exec) (hb : c.code = cc) {H : Heap} {locs : List Loc} {mc ms pc t : Nat} {ls : Array Slot} {rest : List Value} {x y : Int32} {off : Int} (o : ClassFile.Cond) (hdg : decode cc pc = .ok (.if_icmp o off, 3)) (ht : (pc : Int) + off = (t : Int)) (k : W p l e R s m args below meth c H locs mc ms Q (F0 m (zx_pick (zx_cmp o x y) t (pc + 3)) ls rest)) : W p l e R s m args below meth c H locs mc ms Q (F0 m pc ls (.int y :: .int x :: rest)) := by
  cases o with
  | eq => exact lv_icmp_eq hx hb hdg ht (fun h => by simpa [zx_cmp, h, zx_pick] using k) (fun h => by simpa [zx_cmp, h, zx_pick] using k)
  | ne => exact lv_icmp_ne hx hb hdg ht (fun h => by simpa [zx_cmp, h, zx_pick] using k) (fun h => by simpa [zx_cmp, h, zx_pick] using k)
  | lt => exact lv_icmp_lt hx hb hdg ht (fun h => by simpa [zx_cmp, h, zx_pick] using k) (fun h => by simpa [zx_cmp, h, zx_pick] using k)
  | ge => exact lv_icmp_ge hx hb hdg ht (fun h => by have h := (zx_le_not x y).mp h; simpa [zx_cmp, h, zx_pick] using k) (fun h => by have h := Decidable.not_not.mp (fun q => h ((zx_le_not x y).mpr q)); simpa [zx_cmp, h, zx_pick] using k)
  | gt => exact lv_icmp_gt hx hb hdg ht (fun h => by have h : y < x := h; simpa [zx_cmp, h, zx_pick] using k) (fun h => by have h : ¬ y < x := h; simpa [zx_cmp, h, zx_pick] using k)
  | le => exact lv_icmp_le hx hb hdg ht (fun h => by have h := (zx_le_not y x).mp h; simpa [zx_cmp, h, zx_pick] using k) (fun h => by have h := Decidable.not_not.mp (fun q => h ((zx_le_not y x).mpr q)); simpa [zx_cmp, h, zx_pick] using k)
theorem zx_if0 (hx : p.tables.exec = Jvm.exec) (hb : c.code = cc) {H : Heap} {locs : List Loc} {mc ms pc t : Nat} {ls : Array Slot} {rest : List Value} {x : Int32} {off : Int} (o : ClassFile.Cond) (hdg : decode cc pc = .ok (.ifCond o off, 3)) (ht : (pc : Int) + off = (t : Int)) (k : W p l e R s m args below meth c H locs mc ms Q (F0 m (zx_pick (zx_cmp o x 0) t (pc + 3)) ls rest)) : W p l e R s m args below meth c H locs mc ms Q (F0 m pc ls (.int x :: rest)) := by
  cases o with
  | eq => exact lv_if_eq hx hb hdg ht (fun h => by simpa [zx_cmp, h, zx_pick] using k) (fun h => by simpa [zx_cmp, h, zx_pick] using k)
  | ne => exact lv_if_ne hx hb hdg ht (fun h => by simpa [zx_cmp, h, zx_pick] using k) (fun h => by simpa [zx_cmp, h, zx_pick] using k)
  | lt => exact lv_if_lt hx hb hdg ht (fun h => by simpa [zx_cmp, h, zx_pick] using k) (fun h => by simpa [zx_cmp, h, zx_pick] using k)
  | ge => exact lv_if_ge hx hb hdg ht (fun h => by have h := (zx_le_not x 0).mp h; simpa [zx_cmp, h, zx_pick] using k) (fun h => by have h := Decidable.not_not.mp (fun q => h ((zx_le_not x 0).mpr q)); simpa [zx_cmp, h, zx_pick] using k)
  | gt => exact lv_if_gt hx hb hdg ht (fun h => by have h : 0 < x := h; simpa [zx_cmp, h, zx_pick] using k) (fun h => by have h : ¬ 0 < x := h; simpa [zx_cmp, h, zx_pick] using k)
  | le => exact lv_if_le hx hb hdg ht (fun h => by have h := (zx_le_not 0 x).mp h; simpa [zx_cmp, h, zx_pick] using k) (fun h => by have h := Decidable.not_not.mp (fun q => h ((zx_le_not 0 x).mpr q)); simpa [zx_cmp, h, zx_pick] using k)
theorem zx_s_jt (hx : p.tables.exec = Jvm.exec) (hb : c.code = cc) {σ τ : zx_S} {o : ClassFile.Cond} {off : Int} {t : Nat} (hdg : decode cc σ.1 = .ok (.if_icmp o off, 3)) (ht : (σ.1 : Int) + off = (t : Int)) (h : zx_jt o t σ = some τ) (K : zx_Ok p l e R s m args below meth c Q D cA A b nL ad0 m0 τ) : zx_Ok p l e R s m args below meth c Q D cA A b nL ad0 m0 σ := by
  obtain ⟨pc, L, st, w, mc, ms⟩ := σ
  unfold zx_jt at h
  split at h
  next pc' L' y x st' w' mc' ms' heq =>
    cases heq
    cases h
    exact zx_pure K (fun ad H locs ls hl k => zx_icmp hx hb o hdg ht k)
  next => cases h
theorem zx_s_j0 (hx : p.tables.exec = Jvm.exec) (hb : c.code = cc) {σ τ : zx_S} {o : ClassFile.Cond} {off : Int} {t : Nat} (hdg : decode cc σ.1 = .ok (.ifCond o off, 3)) (ht : (σ.1 : Int) + off = (t : Int)) (h : zx_j0 o t σ = some τ) (K : zx_Ok p l e R s m args below meth c Q D cA A b nL ad0 m0 τ) : zx_Ok p l e R s m args below meth c Q D cA A b nL ad0 m0 σ := by
  obtain ⟨pc, L, st, w, mc, ms⟩ := σ
  unfold zx_j0 at h
  split at h
  next pc' L' x st' w' mc' ms' heq =>
    cases heq
    cases h
    exact zx_pure K (fun ad H locs ls hl k => zx_if0 hx hb o hdg ht k)
  next => cases h
theorem zx_s_sg {σ τ : zx_S} {d : Nat} {ts : List (Nat × Nat)} (hrow : ∀ (H : Heap) (locs : List Loc) (mc ms : Nat) (ls : Array Slot) (rest : List Value) (x : Int32), W p l e R s m args below meth c H locs mc ms Q (F0 m (zx_swc (zx_b x) d ts) ls rest) → W p l e R s m args below meth c H locs mc ms Q (F0 m σ.1 ls (.int x :: rest))) (h : zx_sg d ts σ = some τ) (K : zx_Ok p l e R s m args below meth c Q D cA A b nL ad0 m0 τ) : zx_Ok p l e R s m args below meth c Q D cA A b nL ad0 m0 σ := by
  obtain ⟨pc, L, st, w, mc, ms⟩ := σ
  unfold zx_sg at h
  split at h
  next pc' L' x st' w' mc' ms' heq =>
    cases heq
    cases h
    exact zx_pure K (fun ad H locs ls hl k => hrow H locs mc ms ls _ x k)
  next => cases h
theorem zx_s_tsw (hx : p.tables.exec = Jvm.exec) (hb : c.code = cc) {σ τ : zx_S} {dflt lo hi : Int} {offs : Array Int} {len d lo' : Nat} {ts : List Nat} (hdg : decode cc σ.1 = .ok (.tableswitch dflt lo hi offs, len)) (hd : (σ.1 : Int) + dflt = (d : Int)) (hlo : (lo' : Int) = lo + 2147483648) (hhi : hi = lo + ts.length - 1) (hof : offs.toList.map (fun o => (σ.1 : Int) + o) = ts.map (fun t : Nat => (t : Int)))
    (h : zx_sg d (zx_zip lo' ts) σ = some τ) (K : zx_Ok p l e R s m args below meth c Q D cA A b nL ad0 m0 τ) : zx_Ok p l e R s m args below meth c Q D cA A b nL ad0 m0 σ := by
  refine zx_s_sg (fun H locs mc ms ls rest x k => ?_) h K
  rw [zx_zip_at] at k
  have hx2 := zx_b_int x
  by_cases hlt : x.toInt < lo
  · rw [if_neg (show ¬ lo' ≤ zx_b x by omega)] at k
    exact lv_tableOut hx hb hdg (Or.inl hlt) hd k
  · rw [if_pos (show lo' ≤ zx_b x by omega)] at k
    by_cases hgt : hi < x.toInt
    · rw [List.getElem?_eq_none (by omega)] at k
      exact lv_tableOut hx hb hdg (Or.inr hgt) hd k
    · have hl : zx_b x - lo' < ts.length := by omega
      have e : (x.toInt - lo).toNat = zx_b x - lo' := by omega
      rw [List.getElem?_eq_getElem hl] at k
      have hlen : offs.toList.length = ts.length := by have := congrArg List.length hof; simpa using this
      have hl2 : zx_b x - lo' < offs.toList.length := by omega
      have hv : (σ.1 : Int) + offs.toList[zx_b x - lo'] = ((ts[zx_b x - lo'] : Nat) : Int) := by
        have := congrArg (fun l : List Int => l[zx_b x - lo']?) hof
        simp only [List.getElem?_map, List.getElem?_eq_getElem hl, List.getElem?_eq_getElem hl2, Option.map_some] at this
        exact Option.some.inj this
      refine lv_tableIn hx hb hdg hlt hgt (off := offs.toList[zx_b x - lo']) ?_ hv k
      rw [e, ← Array.getElem?_toList, List.getElem?_eq_getElem hl2]
theorem zx_s_lsw (hx : p.tables.exec = Jvm.exec) (hb : c.code = cc) {σ τ : zx_S} {dflt : Int} {ps : Array (Int × Int)} {len d : Nat} {ql : List (Nat × Nat)} (hdg : decode cc σ.1 = .ok (.lookupswitch dflt ps, len)) (hps : (ps.toList.zip (ps.toList.drop 1)).all (fun (a, next) => a.1 < next.1) = true) (hd : (σ.1 : Int) + dflt = (d : Int)) (hl : ps.toList.map (fun q => (q.1 + 2147483648, (σ.1 : Int) + q.2)) = ql.map (fun q : Nat × Nat => ((q.1 : Int), (q.2 : Int))))
    (h : zx_sg d ql σ = some τ) (K : zx_Ok p l e R s m args below meth c Q D cA A b nL ad0 m0 τ) : zx_Ok p l e R s m args below meth c Q D cA A b nL ad0 m0 σ :=
  zx_s_sg (fun H locs mc ms ls rest x k => lv_lookup hx hb hdg hps rfl (zx_two_ok hd x _ _ hl) k) h K
end zxJump
