/-! by hand: new Sums, new Search -/
def tm_eL (n : Nat) (e : List zx_E) : Prop := e.all (zx_limE (n + e.length)) = true
theorem tm_eL_new {n kd c : Nat} {e : List zx_E} (h : tm_eL n e) : tm_eL n (e ++ [.inr (kd, c, zx_a0 kd c)]) := by
  unfold tm_eL at h ⊢
  rw [List.all_append, Bool.and_eq_true, List.length_append]
  refine ⟨List.all_eq_true.mpr (fun x hx => zx_limE_le (by omega) (List.all_eq_true.mp h x hx)), ?_⟩
  show (zx_limE _ _ && true) = true
  rw [Bool.and_true]
  unfold zx_a0
  split
  · rfl
  · exact List.all_eq_true.mpr (fun v hv => by rw [List.eq_of_mem_replicate hv]; rfl)
  · rfl
theorem tm_all_set {α : Type} {p : α → Bool} : ∀ {l : List α} {k : Nat} {v : α}, l.all p = true → p v = true → (l.set k v).all p = true
  | [], _, _, h, _ => h
  | x :: l, 0, v, h, hv => by
    rw [List.all_cons, Bool.and_eq_true] at h
    show (p v && l.all p) = true
    rw [hv, h.2]
    rfl
  | x :: l, k + 1, v, h, hv => by
    rw [List.all_cons, Bool.and_eq_true] at h
    show (p x && (l.set k v).all p) = true
    rw [h.1, tm_all_set h.2 hv]
    rfl
theorem tm_eL_put {n ci k : Nat} {fs : List zx_V} {v : zx_V} {e : List zx_E} (h : tm_eL n ((.inl (ci, fs)) :: e)) (hv : zx_lim (n + (e.length + 1)) v = true) : tm_eL n ((.inl (ci, (fs.set k v))) :: e) := by
  have h : (fs.all (zx_lim (n + (e.length + 1))) && e.all (zx_limE (n + (e.length + 1)))) = true := h
  rw [Bool.and_eq_true] at h
  show ((fs.set k v).all (zx_lim (n + (e.length + 1))) && e.all (zx_limE (n + (e.length + 1)))) = true
  rw [tm_all_set h.1 hv, h.2]
  rfl
theorem tm_limS {w e : List zx_E} {ls : List (Nat × zx_V)} {st : List zx_V} (hw : w.all (zx_limE w.length) = true) (he : tm_eL w.length e) (hl : zx_limP (w.length + e.length) ls = true) (hs : zx_limL (w.length + e.length) st = true) : zx_limS (w.length + e.length) ls st (w ++ e) = true := by
  unfold zx_limS
  rw [hl, hs, List.all_append, he, Bool.and_true, Bool.true_and, Bool.true_and]
  exact List.all_eq_true.mpr (fun x hx => zx_limE_le (Nat.le_add_right _ _) (List.all_eq_true.mp hw x hx))
section zyAl
variable {K : zx_K} {X : zx_X} {cap : Nat × Nat} {tab : Nat → Option zx_Q} {Q : zx_S → Prop} {pc mc ms : Nat} {ls : List (Nat × zx_V)} {st : List zx_V} {w e : List zx_E}
/-- newarray, putfield: this and the length lie on the stack -/
theorem zy_np {kd c ci k fit : Nat} {fs : List zx_V} (h2 : tab pc = some (zx_na 2 kd)) (h3 : tab (pc + 2) = some (zx_pk ci k fit)) (hw : w.all (zx_limE w.length) = true) (he : tm_eL w.length ((.inl (ci, fs)) :: e)) (hls : zx_limP (w.length + 1) ls = true) (hx : decide (¬ Int32.ofNat c < 0) = true) (hc : (Int32.ofNat c).toNatClampNeg = c) (h1 : c ≤ 16777216) (hk : k < fs.length) (hf : ∀ q, zx_fit fit (.inr (.inr (.inl q))) = true) (m1 : mc + 1 ≤ cap.1) (m2 : ms + c ≤ cap.2)
    (kk : tm_eL w.length ((.inl (ci, (fs.set k (.inr (.inr (.inl (w.length + (e.length + 1)))))))) :: (e ++ [.inr (kd, c, zx_a0 kd c)])) → zx_wp K X cap tab Q (pc + 5, ls, [], w ++ ((.inl (ci, (fs.set k (.inr (.inr (.inl (w.length + (e.length + 1)))))))) :: (e ++ [.inr (kd, c, zx_a0 kd c)])), mc + 1, ms + c)) : zx_wp K X cap tab Q (pc, ls, [(.inl (Int32.ofNat c)), (.inr (.inr (.inl w.length)))], w ++ ((.inl (ci, fs)) :: e), mc, ms) := by
  have hlen : ((.inl (ci, fs)) :: e : List zx_E).length = e.length + 1 := rfl
  have hl : zx_limS (w.length + ((.inl (ci, fs)) :: e : List zx_E).length) ls [(.inr (.inr (.inl w.length)))] (w ++ ((.inl (ci, fs)) :: e)) = true := tm_limS hw he (tj_limP_le (by rw [hlen]; omega) hls) (by
    show (Nat.blt w.length (w.length + (e.length + 1)) && true) = true
    rw [show Nat.blt w.length (w.length + (e.length + 1)) = true from te_blt0 (Nat.succ_pos _)]
    rfl)
  have b1 : Nat.ble c 16777216 = true := Nat.ble_eq_true_of_le h1
  have b2 : Nat.ble (mc + 1) cap.1 = true := Nat.ble_eq_true_of_le m1
  have b3 : Nat.ble (ms + c) cap.2 = true := Nat.ble_eq_true_of_le m2
  have hn := tm_eL_new (kd := kd) (c := c) he
  refine zx_wp_pure (μ := (pc + 2, ls, [(.inr (.inr (.inl (w.length + (e.length + 1))))), (.inr (.inr (.inl w.length)))], w ++ ((.inl (ci, fs)) :: (e ++ [.inr (kd, c, zx_a0 kd c)])), mc + 1, ms + c)) h2 ?_ ?_
  · show zx_newa 2 kd cap _ = _
    rw [← hlen, ← List.length_append] at *
    simp only [zx_newa, hx, hc, b1, b2, b3, hl, Bool.and_self, List.append_assoc]
    rfl
  · refine zy_putN h3 hk (hf _) ?_
    refine kk (tm_eL_put hn ?_)
    show Nat.blt (w.length + (e.length + 1)) (w.length + ((e ++ [.inr (kd, c, zx_a0 kd c)] : List zx_E).length + 1)) = true
    rw [List.length_append]
    exact te_blt (by show _ < _ + 1 + 1; omega)
/-- aload_0, a constant, newarray, putfield -/
theorem zy_alloc {kd n1 c ci k fit : Nat} {fs : List zx_V} (h0 : tab pc = some (zx_la 1 0)) (h1 : tab (pc + 1) = some (zx_ci n1 c)) (h2 : tab (pc + 1 + n1) = some (zx_na 2 kd)) (h3 : tab (pc + 1 + n1 + 2) = some (zx_pk ci k fit)) (l0 : zx_look 0 ls = some (.inr (.inr (.inl w.length)))) (hw : w.all (zx_limE w.length) = true) (he : tm_eL w.length ((.inl (ci, fs)) :: e)) (hls : zx_limP (w.length + 1) ls = true) (hx : decide (¬ Int32.ofNat c < 0) = true) (hc : (Int32.ofNat c).toNatClampNeg = c) (hm : c ≤ 16777216) (hk : k < fs.length) (hf : ∀ q, zx_fit fit (.inr (.inr (.inl q))) = true) (m1 : mc + 1 ≤ cap.1) (m2 : ms + c ≤ cap.2)
    (kk : tm_eL w.length ((.inl (ci, (fs.set k (.inr (.inr (.inl (w.length + (e.length + 1)))))))) :: (e ++ [.inr (kd, c, zx_a0 kd c)])) → zx_wp K X cap tab Q (pc + 1 + n1 + 5, ls, [], w ++ ((.inl (ci, (fs.set k (.inr (.inr (.inl (w.length + (e.length + 1)))))))) :: (e ++ [.inr (kd, c, zx_a0 kd c)])), mc + 1, ms + c)) : zx_wp K X cap tab Q (pc, ls, [], w ++ ((.inl (ci, fs)) :: e), mc, ms) := by
  refine zy_la h0 l0 (Or.inl ⟨_, rfl⟩) ?_
  refine zy_ci h1 ?_
  exact zy_np h2 h3 hw he hls hx hc hm hk hf m1 m2 kk
/-- aload_0, 0, putfield -/
theorem zy_i0 {ci k fit : Nat} {fs : List zx_V} (h0 : tab pc = some (zx_la 1 0)) (h1 : tab (pc + 1) = some (zx_ci 1 0)) (h3 : tab (pc + 2) = some (zx_pk ci k fit)) (l0 : zx_look 0 ls = some (.inr (.inr (.inl w.length)))) (he : tm_eL w.length ((.inl (ci, fs)) :: e)) (hk : k < fs.length) (hf : zx_fit fit (.inl (Int32.ofNat 0)) = true)
    (kk : tm_eL w.length ((.inl (ci, (fs.set k (.inl (Int32.ofNat 0))))) :: e) → zx_wp K X cap tab Q (pc + 5, ls, [], w ++ ((.inl (ci, (fs.set k (.inl (Int32.ofNat 0))))) :: e), mc, ms)) : zx_wp K X cap tab Q (pc, ls, [], w ++ ((.inl (ci, fs)) :: e), mc, ms) := by
  refine zy_la h0 l0 (Or.inl ⟨_, rfl⟩) ?_
  refine zy_ci h1 ?_
  refine zy_putN h3 hk hf ?_
  exact kk (tm_eL_put he rfl)
/-- aload_0, another local, putfield -/
theorem zy_pl {ci k fit j p n2 : Nat} {fs : List zx_V} (h0 : tab pc = some (zx_la 1 0)) (h1 : tab (pc + 1) = some (zx_la n2 j)) (h3 : tab (pc + 1 + n2) = some (zx_pk ci k fit)) (l0 : zx_look 0 ls = some (.inr (.inr (.inl w.length)))) (l1 : zx_look j ls = some (.inr (.inr (.inl p)))) (hp : p < w.length) (he : tm_eL w.length ((.inl (ci, fs)) :: e)) (hk : k < fs.length) (hf : ∀ q, zx_fit fit (.inr (.inr (.inl q))) = true)
    (kk : tm_eL w.length ((.inl (ci, (fs.set k (.inr (.inr (.inl p)))))) :: e) → zx_wp K X cap tab Q (pc + 1 + n2 + 3, ls, [], w ++ ((.inl (ci, (fs.set k (.inr (.inr (.inl p)))))) :: e), mc, ms)) : zx_wp K X cap tab Q (pc, ls, [], w ++ ((.inl (ci, fs)) :: e), mc, ms) := by
  refine zy_la h0 l0 (Or.inl ⟨_, rfl⟩) ?_
  refine zy_la h1 l1 (Or.inl ⟨_, rfl⟩) ?_
  refine zy_putN h3 hk (hf _) ?_
  exact kk (tm_eL_put he (Nat.ble_eq_true_of_le (by omega)))
end zyAl
theorem tm_arr0 {Ψ : List Nat} {n lo hi : Nat} (h1 : lo ≤ 2147483648) (h2 : 2147483648 ≤ hi) : tj_ct Ψ (.inr (0, n, [(n, lo, hi)])) (.inr (0, n, .inl (fun _ => 0))) := by
  have hz : zx_b 0 = 2147483648 := by decide
  refine ⟨rfl, rfl, Or.inl rfl, fun j hj a b hs => ?_⟩
  obtain ⟨e1, e2⟩ := tm_sel1 hs
  rw [hz, e1, e2]
  exact ⟨h1, h2⟩
