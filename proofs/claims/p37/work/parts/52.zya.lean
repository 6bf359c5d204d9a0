/-! by hand: ints stored and copied -/
section zyArr
variable {K : zx_K} {X : zx_X} {cap : Nat × Nat} {tab : Nat → Option zx_Q} {Q : zx_S → Prop} {pc mc ms : Nat} {ls : List (Nat × zx_V)} {st : List zx_V} {w : List zx_E}
theorem zy_ai {q n : Nat} {i x : Int32} {g : Nat → Int32} (ht : tab pc = some zx_ai) (hq : w[q]? = some (.inr (0, n, .inl g))) (hin : zx_in i n = true) (kk : zx_wp K X cap tab Q (pc + 1, ls, st, w.set q (.inr (0, n, .inl (upd g i.toNatClampNeg x))), mc, ms)) : zx_wp K X cap tab Q (pc, ls, (.inl x) :: (.inl i) :: (.inr (.inr (.inl q))) :: st, w, mc, ms) := by
  refine zx_wp_pure (μ := (pc + 1, ls, st, w.set q (.inr (0, n, .inl (upd g i.toNatClampNeg x))), mc, ms)) ht ?_ kk
  show zx_ast 0 (fun x => x) _ = _
  simp only [zx_ast, hq, zx_beqT (rfl : (0 : Nat) = 0), hin, Bool.and_self]
theorem zy_la2 {n k : Nat} {v : zx_V} (ht : tab pc = some (zx_la n k)) (hv : zx_look k ls = some v) (hk : ∃ q, v = (.inr (.inr (.inl q)))) (kk : zx_wp K X cap tab Q (pc + n, ls, v :: st, w, mc, ms)) : zx_wp K X cap tab Q (pc, ls, st, w, mc, ms) := zy_la ht hv (Or.inl hk) kk
end zyArr
/-- an int of an array replaced -/
theorem tg_setA {cap : Nat × Nat} {E : tj_Ef} {Ψ0 Ψ : List Nat} {w0 w : List zx_E} {mc ms : Nat} (h : tj_W tj_Lam cap E Ψ0 w0 Ψ w mc ms) {q l n i : Nat} {s : List tj_y} {g : Nat → Int32} {x : Int32} (hq : Ψ[q]? = some l) (hd : tj_Lam[l]? = some (.inr (0, n, s))) (hf : w[q]? = some (.inr (0, n, .inl g))) (hv : ∀ a b, tj_sel s i = some (a, b) → a ≤ zx_b x ∧ zx_b x ≤ b) (hE : tj_h1 l E.2 = true) : tj_W tj_Lam cap E Ψ0 w0 Ψ (w.set q (.inr (0, n, .inl (upd g i x)))) mc ms :=
  tj_W_arr h hq hf (tj_seti h.1 hq hd hf hv) (by decide) hE
/-- a long loop of Sums: one stretch of sums replaced keeps what is said of all -/
theorem tg_upd_ne {g : Nat → Int32} {i j : Nat} {x : Int32} (h : j ≠ i) : upd g i x j = g j := by
  unfold upd
  rw [if_neg h]
theorem tg_upd_eq {g : Nat → Int32} {i : Nat} {x : Int32} : upd g i x i = x := by
  unfold upd
  rw [if_pos rfl]
theorem zy_cy {K : zx_K} {X : zx_X} {cap : Nat × Nat} {tab : Nat → Option zx_Q} {Q : zx_S → Prop} {pc mc ms : Nat} {ls : List (Nat × zx_V)} {st : List zx_V} {w : List zx_E} {p q : Nat} {n sp dp : Int32} {w' : List zx_E} (ht : tab pc = some zx_cy) (hz : zx_copy (pc, ls, (.inl n) :: (.inl dp) :: (.inr (.inr (.inl q))) :: (.inl sp) :: (.inr (.inr (.inl p))) :: st, w, mc, ms) = some (pc + 3, ls, st, w', mc, ms)) (kk : zx_wp K X cap tab Q (pc + 3, ls, st, w', mc, ms)) : zx_wp K X cap tab Q (pc, ls, (.inl n) :: (.inl dp) :: (.inr (.inr (.inl q))) :: (.inl sp) :: (.inr (.inr (.inl p))) :: st, w, mc, ms) := zx_wp_pure (μ := (pc + 3, ls, st, w', mc, ms)) ht hz kk
