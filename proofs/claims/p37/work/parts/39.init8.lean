/-! by hand: a new State -/
theorem zx_limE_le {n m : Nat} (h : n ≤ m) : ∀ {e : zx_E}, zx_limE n e = true → zx_limE m e = true
  | .inl (c, fs), he => by
    refine List.all_eq_true.mpr (fun v hv => ?_)
    have := List.all_eq_true.mp he v hv
    match v, this with
    | .inl _, _ => rfl
    | .inr (.inl _), _ => rfl
    | .inr (.inr (.inl p)), hp => exact Nat.ble_eq_true_of_le (Nat.le_trans (Nat.le_of_ble_eq_true hp) h)
    | .inr (.inr (.inr _)), _ => rfl
  | .inr (_, _, .inl _), _ => rfl
  | .inr (_, _, .inr (.inl _)), _ => rfl
  | .inr (_, _, .inr (.inr l)), he => by
    refine List.all_eq_true.mpr (fun v hv => ?_)
    have := List.all_eq_true.mp he v hv
    match v, this with
    | none, _ => rfl
    | some p, hp => exact Nat.ble_eq_true_of_le (Nat.le_trans (Nat.le_of_ble_eq_true hp) h)
theorem te_blt {n a b : Nat} (h : a < b) : Nat.blt (n + a) (n + b) = true := Nat.ble_eq_true_of_le (by omega)
theorem te_blt0 {n b : Nat} (h : 0 < b) : Nat.blt n (n + b) = true := Nat.ble_eq_true_of_le (by omega)
section zyNew
variable {K : zx_K} {X : zx_X} {cap : Nat × Nat} {tab : Nat → Option zx_Q} {Q : zx_S → Prop} {pc mc ms : Nat} {ls : List (Nat × zx_V)} {st : List zx_V} {w e : List zx_E}
theorem zy_putN {ci k fit : Nat} {fs : List zx_V} {v : zx_V} (ht : tab pc = some (zx_pk ci k fit)) (hk : k < fs.length) (hf : zx_fit fit v = true) (kk : zx_wp K X cap tab Q (pc + 3, ls, st, w ++ (.inl (ci, (fs.set k v))) :: e, mc, ms)) : zx_wp K X cap tab Q (pc, ls, v :: (.inr (.inr (.inl w.length))) :: st, w ++ (.inl (ci, fs)) :: e, mc, ms) := by
  refine zy_put ht (by rw [List.getElem?_append_right (Nat.le_refl _), Nat.sub_self]; rfl) hk hf ?_
  rw [List.set_append_right _ _ (Nat.le_refl _), Nat.sub_self]
  exact kk
theorem zy_ob {q : Nat} (ht : tab pc = some zx_ob) (hl : st.length ≤ 4) (kk : zx_wp K X cap tab Q (pc + 3, ls, st, w, mc, ms)) : zx_wp K X cap tab Q (pc, ls, (.inr (.inr (.inl q))) :: st, w, mc, ms) := by
  refine zx_wp_pure (μ := (pc + 3, ls, st, w, mc, ms)) ht ?_ kk
  show zx_obj _ = _
  simp only [zx_obj, Nat.ble_eq_true_of_le hl]
theorem zy_newN {c : Nat} (ht : tab pc = some (zx_na 2 0)) (hx : decide (¬ Int32.ofNat c < 0) = true) (hc : (Int32.ofNat c).toNatClampNeg = c) (h1 : c ≤ 16777216) (h2 : mc + 1 ≤ cap.1) (h3 : ms + c ≤ cap.2) (hl : zx_limS (w.length + e.length) ls st (w ++ e) = true) (kk : zx_wp K X cap tab Q (pc + 2, ls, (.inr (.inr (.inl (w.length + e.length)))) :: st, w ++ (e ++ [.inr (0, c, .inl (fun _ => 0))]), mc + 1, ms + c)) : zx_wp K X cap tab Q (pc, ls, (.inl (Int32.ofNat c)) :: st, w ++ e, mc, ms) := by
  refine zx_wp_pure (μ := (pc + 2, ls, (.inr (.inr (.inl (w.length + e.length)))) :: st, w ++ (e ++ [.inr (0, c, .inl (fun _ => 0))]), mc + 1, ms + c)) ht ?_ kk
  show zx_newa 2 0 cap _ = _
  have b1 : Nat.ble c 16777216 = true := Nat.ble_eq_true_of_le h1
  have b2 : Nat.ble (mc + 1) cap.1 = true := Nat.ble_eq_true_of_le h2
  have b3 : Nat.ble (ms + c) cap.2 = true := Nat.ble_eq_true_of_le h3
  rw [← List.length_append] at hl ⊢
  simp only [zx_newa, hx, hc, b1, b2, b3, hl, Bool.and_self, List.append_assoc]
  rfl
end zyNew
def te_w8 (n : Nat) : List zx_E := [(.inl (8, [.inl 0, .inl 0, (.inr (.inr (.inl (n + 1)))), (.inr (.inr (.inl (n + 2)))), (.inr (.inr (.inl (n + 3)))), (.inr (.inr (.inl (n + 4)))), (.inr (.inr (.inl (n + 5))))])), .inr (0, 4, .inl (fun _ => 0)), .inr (0, 56, .inl (fun _ => 0)), .inr (0, 8, .inl (fun _ => 0)), .inr (0, 48, .inl (fun _ => 0)), .inr (0, 8, .inl (fun _ => 0))]
theorem te_lim8 {w e : List zx_E} (hw : w.all (zx_limE w.length) = true) (he : e.all (zx_limE (w.length + e.length)) = true) (h0 : 0 < e.length) : zx_limS (w.length + e.length) [(0, (.inr (.inr (.inl w.length))))] [(.inr (.inr (.inl w.length)))] (w ++ e) = true := by
  have hb : Nat.blt w.length (w.length + e.length) = true := te_blt0 h0
  unfold zx_limS
  rw [Bool.and_eq_true, Bool.and_eq_true]
  refine ⟨?_, ?_, ?_⟩
  · show (Nat.blt w.length (w.length + e.length) && true) = true
    rw [hb]
    rfl
  · show (Nat.blt w.length (w.length + e.length) && true) = true
    rw [hb]
    rfl
  · rw [List.all_append, Bool.and_eq_true]
    exact ⟨List.all_eq_true.mpr (fun x hx => zx_limE_le (Nat.le_add_right _ _) (List.all_eq_true.mp hw x hx)), he⟩
set_option maxRecDepth 20000 in
theorem te_init8 {w : List zx_E} (hw : w.all (zx_limE w.length) = true) : zx_Cl zx_mt zx_rc zx_mx' 1 329 [(.inr (.inr (.inl w.length)))] (w ++ [(.inl (8, (zx_cls 8)))]) (5, 124) (none, w ++ te_w8 w.length) := by
  have hrun : zx_wp (zx_Cl zx_mt zx_rc zx_mx' 0) none (5, 124) (zx_find (zx_cT zx_d_X8_init)) (fun σ => zx_ret (zx_find (zx_cT zx_d_X8_init)) (5, 124) σ (none, w ++ te_w8 w.length)) (0, [(0, (.inr (.inr (.inl w.length))))], [], w ++ (.inl (8, [.inl 0, .inl 0, .inr (.inr (.inr 0)), .inr (.inr (.inr 0)), .inr (.inr (.inr 0)), .inr (.inr (.inr 0)), .inr (.inr (.inr 0))])) :: [], 0, 0) := by
    refine zy_la (k := 0) rfl rfl (Or.inl ⟨_, rfl⟩) ?_
    refine zy_ob rfl (by decide) ?_
    refine zy_la (k := 0) rfl rfl (Or.inl ⟨_, rfl⟩) ?_
    refine zy_ci rfl ?_
    refine zy_putN rfl (Nat.le_of_ble_eq_true rfl) rfl ?_
    refine zy_la (k := 0) rfl rfl (Or.inl ⟨_, rfl⟩) ?_
    refine zy_ci rfl ?_
    refine zy_putN rfl (Nat.le_of_ble_eq_true rfl) rfl ?_
    refine zy_la (k := 0) rfl rfl (Or.inl ⟨_, rfl⟩) ?_
    refine zy_ci rfl ?_
    refine zy_newN (c := 4) rfl (by decide) (by decide) (by decide) (by decide) (by decide) (te_lim8 hw rfl (Nat.succ_pos _)) ?_
    refine zy_putN rfl (Nat.le_of_ble_eq_true rfl) rfl ?_
    refine zy_la (k := 0) rfl rfl (Or.inl ⟨_, rfl⟩) ?_
    refine zy_ci rfl ?_
    refine zy_newN (c := 56) rfl (by decide) (by decide) (by decide) (by decide) (by decide) (te_lim8 hw (by show ((Nat.blt (w.length + 1) (w.length + 2) && _) && _) = true; rw [te_blt (by decide)]; rfl) (Nat.succ_pos _)) ?_
    refine zy_putN rfl (Nat.le_of_ble_eq_true rfl) rfl ?_
    refine zy_la (k := 0) rfl rfl (Or.inl ⟨_, rfl⟩) ?_
    refine zy_ci rfl ?_
    refine zy_newN (c := 8) rfl (by decide) (by decide) (by decide) (by decide) (by decide) (te_lim8 hw (by show ((Nat.blt (w.length + 1) (w.length + 3) && (Nat.blt (w.length + 2) (w.length + 3) && _)) && _) = true; rw [te_blt (by decide), te_blt (by decide)]; rfl) (Nat.succ_pos _)) ?_
    refine zy_putN rfl (Nat.le_of_ble_eq_true rfl) rfl ?_
    refine zy_la (k := 0) rfl rfl (Or.inl ⟨_, rfl⟩) ?_
    refine zy_ci rfl ?_
    refine zy_newN (c := 48) rfl (by decide) (by decide) (by decide) (by decide) (by decide) (te_lim8 hw (by show ((Nat.blt (w.length + 1) (w.length + 4) && (Nat.blt (w.length + 2) (w.length + 4) && (Nat.blt (w.length + 3) (w.length + 4) && _))) && _) = true; rw [te_blt (by decide), te_blt (by decide), te_blt (by decide)]; rfl) (Nat.succ_pos _)) ?_
    refine zy_putN rfl (Nat.le_of_ble_eq_true rfl) rfl ?_
    refine zy_la (k := 0) rfl rfl (Or.inl ⟨_, rfl⟩) ?_
    refine zy_ci rfl ?_
    refine zy_newN (c := 8) rfl (by decide) (by decide) (by decide) (by decide) (by decide) (te_lim8 hw (by show ((Nat.blt (w.length + 1) (w.length + 5) && (Nat.blt (w.length + 2) (w.length + 5) && (Nat.blt (w.length + 3) (w.length + 5) && (Nat.blt (w.length + 4) (w.length + 5) && _)))) && _) = true; rw [te_blt (by decide), te_blt (by decide), te_blt (by decide), te_blt (by decide)]; rfl) (Nat.succ_pos _)) ?_
    refine zy_putN rfl (Nat.le_of_ble_eq_true rfl) rfl ?_
    refine zx_wp_done ⟨by decide, by decide, rfl, ?_⟩
    exact ⟨rfl, rfl⟩
  obtain ⟨n, σ, h1, h2⟩ := hrun
  exact ⟨_, (by rw [← zx_q_X8_init]; rfl : zx_mt 329 = some (zx_find (zx_cT zx_d_X8_init))), ⟨w.length, [], zx_cls 8, rfl, by rw [List.getElem?_append_right (Nat.le_refl _), Nat.sub_self]; rfl⟩, (by decide +kernel : 1 ≤ zx_mx' 329), n, σ, h1, h2⟩
