/-! p37 out of a run of the exact machine: the rest is about that machine alone -/
theorem zx_start_K {s : State} {args : Array Value} (hts : ∀ w ∈ zx_TS, w.before args s = true) (hO : va_AO "TwoInOne$State" s) : ∃ (D : va_G) (cA : Nat → ClassId), va_K D zx_clL (zx_tys cA) s := by
  have h : ∀ ci : Nat, ∃ q : ClassId × (Nat → Nat), ∀ C T N, zx_clL[ci]? = some (C, T, N) → u_Kn s C T N q.1 q.2 := by
    intro ci
    cases hc : zx_clL[ci]? with
    | none => exact ⟨(0, fun _ => 0), fun C T N h => by cases h⟩
    | some q =>
      obtain ⟨C, T, N⟩ := q
      obtain ⟨f1, -, -, f4, -⟩ := zx_clOk hc
      obtain ⟨cC, iS, hk⟩ := u_known hts f1 (hts _ f4)
      exact ⟨(cC, iS), fun C' T' N' h => by cases h; exact hk⟩
  obtain ⟨c0, k0, p0, a0, b0, d0⟩ := Cond.arrayClass_spec (hts _ zx_w_a0)
  obtain ⟨c1, k1, p1, a1, b1, d1⟩ := Cond.arrayClass_spec (hts _ zx_w_a1)
  obtain ⟨c2, k2, p2, a2, b2, d2⟩ := Cond.arrayClass_spec (hts _ zx_w_a2)
  obtain ⟨c3, k3, p3, a3, b3, d3⟩ := Cond.arrayClass_spec (hts _ zx_w_a3)
  obtain ⟨p4, c4, k4, a4, -, b4, d4, e4⟩ := Cond.arrayOver_spec hO
  refine ⟨(fun ci => (Classical.choose (h ci)).1, fun ci => (Classical.choose (h ci)).2), fun kd => match kd with | 0 => c0 | 1 => c1 | 2 => c2 | 3 => c3 | _ => c4, fun ci q hq => ?_, fun k q hk => ?_⟩
  · obtain ⟨C, T, N⟩ := q
    exact Classical.choose_spec (h ci) C T N hq
  · match k, hk with
    | 0, hk => cases hk; exact ⟨fun N z => ⟨(fun k h => by cases h), k0, b0, p0, d0⟩, a0⟩
    | 1, hk => cases hk; exact ⟨fun N z => ⟨(fun k h => by cases h), k1, b1, p1, d1⟩, a1⟩
    | 2, hk => cases hk; exact ⟨fun N z => ⟨(fun k h => by cases h), k2, b2, p2, d2⟩, a2⟩
    | 3, hk => cases hk; exact ⟨fun N z => ⟨(fun k h => by cases h), k3, b3, p3, d3⟩, a3⟩
    | 4, hk => cases hk; exact ⟨fun N z => ⟨(fun k h => by cases h), k4, b4, p4, d4⟩, k4, p4, b4, d4, a4, e4⟩
    | n + 5, hk => cases hk
/-- THE PURE CLAIM: on every script the exact machine runs the law to its end, with 1, within the room -/
def zx_P37 : Prop := ∀ (L : Nat) (xs : Nat → Int32), L ≤ 3072 → ∃ (d n pc : Nat) (ls : List (Nat × zx_V)) (w : List zx_E) (mc ms : Nat), d ≤ 1000 ∧ zx_star (zx_step (zx_Cl zx_mt zx_rc zx_mx' d) (some (L, xs)) (600000, 7302250) (zx_find zx_t_L_law)) n (0, [(0, (.inr (.inr (.inr 2))))], [], [], 0, 0) (pc, ls, [(.inl 1)], w, mc, ms) ∧ (∃ a1 a2 g, zx_find zx_t_L_law pc = some (5, a1, a2, g)) ∧ mc ≤ 600000 ∧ ms ≤ 7302250
theorem zx_whole_open (hp : zx_P37) {p : Program} {e : Env} {s : State} {m : MethodId} {below : List Frame} {meth : Method} {c : Code} (l : Launch) {b L : Nat} {xs : Nat → Int32} (hL : L ≤ 3072) (C0 : lw_At p s m meth c b L xs) : W p l e room_1 s m #[Value.ref b] below meth c s.heap [] 0 0 (lw_Z below #[Value.ref b] s) (entryFrame m ([Value.ref b] : List Value).toArray 4) := by
  obtain ⟨hx, hb, hr, hml, hown, hts0, hX, hbl, hlocks, hgv⟩ := C0
  have hts : ∀ w ∈ zx_TS, w.before #[Value.ref b] s = true := fun w hw => hts0 w (List.mem_filter.mp hw).1
  have hN : zx_Nest s := fun w hw hn => by
    have h1 := hts0 w hw
    cases w <;> first | (cases hn; done) | exact va_Nw.of rfl h1
  have hO : va_AO "TwoInOne$State" s := va_AO.of (hts0 (.arrayOver (.object "TwoInOne$State")) (zx_tb_in (t := 1) (List.mem_of_getElem? (i := 24) (by decide +kernel))))
  obtain ⟨D, cA, hK⟩ := zx_start_K hts hO
  have hSt : zx_St (fun q => s.heap.size ≤ q) s s.heap := zx_St_start hts0 (by rw [Cond.before_and, Bool.and_eq_true] at hgv; exact hgv.2) (fun a h => Nat.not_le.mpr h)
  have C : zx_Cx p s m #[Value.ref b] c D cA "TwoInOneLaw" code 4 (fun q => s.heap.size ≤ q) := ⟨hx, hb, hml, hown, hts, hN, hO, hK, hSt⟩
  have hA : ∀ q, s.heap.size ≤ q → (fun q => s.heap.size ≤ q) q := fun q h => h
  have hSc : zx_Scr (some (L, xs)) s (fun q => s.heap.size ≤ q) b := fun n f h => by
    cases h
    exact ⟨hX, hbl, Nat.not_le.mpr hbl⟩
  have hl := lv_entry ([Value.ref b]) (n := 4) (Nat.le_of_ble_eq_true rfl)
  rw [lg_entry_eq]
  generalize (lg_sl ([Value.ref b]) ++ List.replicate (4 - (lg_sl ([Value.ref b])).length) Slot.unset).toArray = ls at hl ⊢
  have hP : va_P D zx_clL (zx_cW (fun _ => 0) b cA []) s.heap := fun k q h => by cases h
  have hD : va_D (fun q => s.heap.size ≤ q) (zx_cW (fun _ => 0) b cA []) := ⟨fun i j p q h => (by cases h), fun k q h => (by cases h)⟩
  obtain ⟨d, n, pc, ls1, w1, mc1, ms1, hd, hst, ⟨a1, a2, g, htab⟩, hmc, hms⟩ := hp L xs hL
  have hfr : d + 7 ≤ room_1.frames := by show d + 7 ≤ 2048; omega
  have hlo : 64 * (d + 7) ≤ room_1.locals := by show 64 * (d + 7) ≤ 84000; omega
  have hinit : false = true → meth.name = "<init>" := fun h => by cases h
  obtain ⟨I, len, ex, hq, hc⟩ := zx_lawOk _ _ htab
  have hE := zx_ent (p := p) (l := l) (e := e) (R := room_1) (below := below) (meth := meth) (Q := fun _ => True) (A := fun q => s.heap.size ≤ q) (b := b) (ad0 := fun _ => 0) (m0 := 0) (cap := (0, 0)) C hA ⟨Nat.zero_le _, Nat.zero_le _⟩ (Nat.le_of_ble_eq_true rfl) (Nat.le_of_ble_eq_true rfl) hinit hSc hc
  rw [← hq] at hE
  have hdg : decode code pc = .ok (.ireturn, 1) := by
    rcases hE with ⟨h0, _⟩ | ⟨I', h3, _⟩ | ⟨h1, _⟩ | ⟨h1, hdg, _⟩ | ⟨h1, _⟩ | ⟨h1, _⟩
    · cases h0
    · cases h3
    · cases h1
    · exact hdg
    · cases h1
    · cases h1
  have key := zx_star_ok (p := p) (l := l) (e := e) (R := room_1) (below := below) (meth := meth) (Q := lw_Z below #[Value.ref b] s) (A := fun q => s.heap.size ≤ q) (b := b) (ad0 := fun _ => 0) (m0 := 0) (cap := (600000, 7302250)) C hA (zx_call_ok zx_mtok l d) hfr hlo ⟨Nat.le_refl _, Nat.le_refl _⟩ hinit hSc zx_lawOk hst ?_
  · exact key (fun _ => 0) s.heap [] ls (fun _ _ => rfl) (Nat.le_refl _) hP hD va_S.rf hl
  · intro ad H locs ls' h3 h5 hP hD hS hl
    refine W.widen (k := 600000) (n := 7302250) hmc hms ?_
    refine va_forget (fun q hq => hS.2.2 q hq) ?_
    exact lw_ret hx hb hr hlocks hdg
