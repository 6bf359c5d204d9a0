/-! the script -/
section sxScript
variable {p : Program} {l : Launch} {e : Env} {R : Room} {s : State} {m : MethodId} {args : Array Value} {below : List Frame} {meth : Method} {c : Code} {Q : State → Prop} {D : va_G} {cA : Nat → ClassId} {A : Nat → Prop} {b nL : Nat} {ρ0 : Nat → Int32} {ad0 : Nat → Nat} {n0 m0 : Nat} {cc : ByteArray}
/-- what the executor knows of the script: its ints are the variables 0 to 5, its length is variable 6 -/
def sx_Scr (s : State) (A : Nat → Prop) (b : Nat) (ρ0 : Nat → Int32) (n0 LL : Nat) (xs : Nat → Int32) : Prop := va_X b LL xs s s.heap ∧ b < s.heap.size ∧ ¬ A b ∧ 7 ≤ n0 ∧ (∀ j, j < 6 → ρ0 j = xs j) ∧ ρ0 6 = Int32.ofNat LL ∧ LL < 65536
theorem sx_s_sld (hx : p.tables.exec = Jvm.exec) (hb : c.code = cc) {LL : Nat} {xs : Nat → Int32} {sc : Bool} (hsc : sc = true → sx_Scr s A b ρ0 n0 LL xs) {pc mc ms : Nat} {L : List (Nat × sx_V)} {i : sx_V} {st : List sx_V} {w : List sx_E} {iv : sx_Iv} {ss : List sx_S} (hdg : decode cc pc = .ok (.iaload, 1)) (h : sx_load sc (pc, L, i :: (.inr (.inr (.inr 2))) :: st, w, iv, mc, ms) 0 = some ss) (K : ∀ τ ∈ ss, sx_Ok p l e R s m args below meth c Q D cA A b nL ρ0 ad0 n0 m0 τ) : sx_Ok p l e R s m args below meth c Q D cA A b nL ρ0 ad0 n0 m0 (pc, L, i :: (.inr (.inr (.inr 2))) :: st, w, iv, mc, ms) := by
  simp only [sx_load] at h
  split at h
  next j hb0 hj =>
    split at h
    next lo hi h6 =>
      split at h
      next hz =>
        cases h
        rw [sx_nth_eq] at h6
        simp only [Bool.and_eq_true] at hz
        obtain ⟨hX, hbl, hbA, hn7, hρ, hρ6, hLL⟩ := hsc hz.1.1
        have z1 : j < 6 := Nat.le_of_ble_eq_true hz.1.2
        have z2 : j + 2147483648 < lo := Nat.le_of_ble_eq_true hz.2
        intro ρ ad H locs ls h1 h2 h3 h4 h5 hP hD hS hl
        have g := h1 6 lo hi h6
        rw [h2 6 (by omega), hρ6, sx_b_of] at g
        have hjL : j < LL := by
          have g1 := g.1
          unfold sx_bias at g1
          omega
        show W p l e R s m args below meth c H locs mc ms Q (F0 m pc ls (sx_cv ρ ad b i :: .ref b :: st.map (sx_cv ρ ad b)))
        rw [sx_nm_c h1 ad b hj]
        refine va_sld hx hb hX hbl hbA hS (sx_vin hjL (by omega)) hdg ?_
        rw [sx_clamp (by omega), ← hρ j z1, ← h2 j (by omega)]
        exact K _ List.mem_cons_self ρ ad H locs ls h1 h2 h3 h4 h5 hP hD hS hl
      next => cases h
    next => cases h
  next => cases h
theorem sx_s_slen (hx : p.tables.exec = Jvm.exec) (hb : c.code = cc) {LL : Nat} {xs : Nat → Int32} {sc : Bool} (hsc : sc = true → sx_Scr s A b ρ0 n0 LL xs) {pc mc ms : Nat} {L : List (Nat × sx_V)} {st : List sx_V} {w : List sx_E} {iv : sx_Iv} {ss : List sx_S} (hdg : decode cc pc = .ok (.arraylength, 1)) (h : sx_alen sc (pc, L, (.inr (.inr (.inr 2))) :: st, w, iv, mc, ms) = some ss) (K : ∀ τ ∈ ss, sx_Ok p l e R s m args below meth c Q D cA A b nL ρ0 ad0 n0 m0 τ) : sx_Ok p l e R s m args below meth c Q D cA A b nL ρ0 ad0 n0 m0 (pc, L, (.inr (.inr (.inr 2))) :: st, w, iv, mc, ms) := by
  simp only [sx_alen] at h
  split at h
  next =>
    cases h
    obtain ⟨hX, hbl, hbA, hn7, hρ, hρ6, hLL⟩ := hsc rfl
    intro ρ ad H locs ls h1 h2 h3 h4 h5 hP hD hS hl
    show W p l e R s m args below meth c H locs mc ms Q (F0 m pc ls (.ref b :: st.map (sx_cv ρ ad b)))
    refine va_slen hx hb hX hbl hbA hS hdg ?_
    rw [← hρ6, ← h2 6 (by omega)]
    exact K _ List.mem_cons_self ρ ad H locs ls h1 h2 h3 h4 h5 hP hD hS hl
  next => cases h
end sxScript
