/-! runs within less room: a run that ends with so much made needs no more room than that -/
def zx_shr (g : zx_F) : Prop := ∀ (X : zx_X) (cap : Nat × Nat) (σ τ : zx_S), g X cap σ = some τ → (σ.2.2.2.2.1 ≤ τ.2.2.2.2.1 ∧ σ.2.2.2.2.2 ≤ τ.2.2.2.2.2) ∧ ∀ cap' : Nat × Nat, τ.2.2.2.2.1 ≤ cap'.1 → τ.2.2.2.2.2 ≤ cap'.2 → g X cap' σ = some τ
theorem zx_shr_q {f : zx_S → Option zx_S} (h : ∀ σ τ, f σ = some τ → τ.2.2.2.2 = σ.2.2.2.2) : zx_shr (fun _ _ σ => f σ) := fun _ _ σ τ e => by
  have := h σ τ e
  exact ⟨⟨by rw [this]; exact Nat.le_refl _, by rw [this]; exact Nat.le_refl _⟩, fun _ _ _ => e⟩
theorem zx_h_push {n : Nat} {v : zx_V} {σ τ : zx_S} (h : zx_push n v σ = some τ) : τ.2.2.2.2 = σ.2.2.2.2 := by
  obtain ⟨pc, ls, st, w, mc, ms⟩ := σ
  simp only [zx_push] at h
  repeat' split at h
  all_goals first
    | (cases h; done)
    | (simp only [Option.some.injEq] at h; subst h; first | rfl | simp_all)
theorem zx_h_ldI {n k : Nat} {σ τ : zx_S} (h : zx_ldI n k σ = some τ) : τ.2.2.2.2 = σ.2.2.2.2 := by
  obtain ⟨pc, ls, st, w, mc, ms⟩ := σ
  simp only [zx_ldI, zx_push] at h
  repeat' split at h
  all_goals first
    | (cases h; done)
    | (simp only [Option.some.injEq] at h; subst h; first | rfl | simp_all)
theorem zx_h_ldJ {n k : Nat} {σ τ : zx_S} (h : zx_ldJ n k σ = some τ) : τ.2.2.2.2 = σ.2.2.2.2 := by
  obtain ⟨pc, ls, st, w, mc, ms⟩ := σ
  simp only [zx_ldJ, zx_push] at h
  repeat' split at h
  all_goals first
    | (cases h; done)
    | (simp only [Option.some.injEq] at h; subst h; first | rfl | simp_all)
theorem zx_h_ldA {n k : Nat} {σ τ : zx_S} (h : zx_ldA n k σ = some τ) : τ.2.2.2.2 = σ.2.2.2.2 := by
  obtain ⟨pc, ls, st, w, mc, ms⟩ := σ
  simp only [zx_ldA, zx_push] at h
  repeat' split at h
  all_goals first
    | (cases h; done)
    | (simp only [Option.some.injEq] at h; subst h; first | rfl | simp_all)
theorem zx_h_stI {n k : Nat} {σ τ : zx_S} (h : zx_stI n k σ = some τ) : τ.2.2.2.2 = σ.2.2.2.2 := by
  obtain ⟨pc, ls, st, w, mc, ms⟩ := σ
  simp only [zx_stI] at h
  repeat' split at h
  all_goals first
    | (cases h; done)
    | (simp only [Option.some.injEq] at h; subst h; first | rfl | simp_all)
theorem zx_h_stJ {n k : Nat} {σ τ : zx_S} (h : zx_stJ n k σ = some τ) : τ.2.2.2.2 = σ.2.2.2.2 := by
  obtain ⟨pc, ls, st, w, mc, ms⟩ := σ
  simp only [zx_stJ] at h
  repeat' split at h
  all_goals first
    | (cases h; done)
    | (simp only [Option.some.injEq] at h; subst h; first | rfl | simp_all)
theorem zx_h_stA {n k : Nat} {σ τ : zx_S} (h : zx_stA n k σ = some τ) : τ.2.2.2.2 = σ.2.2.2.2 := by
  obtain ⟨pc, ls, st, w, mc, ms⟩ := σ
  simp only [zx_stA] at h
  repeat' split at h
  all_goals first
    | (cases h; done)
    | (simp only [Option.some.injEq] at h; subst h; first | rfl | simp_all)
theorem zx_h_un {f : Int32 → Int32} {σ τ : zx_S} (h : zx_un f σ = some τ) : τ.2.2.2.2 = σ.2.2.2.2 := by
  obtain ⟨pc, ls, st, w, mc, ms⟩ := σ
  simp only [zx_un] at h
  repeat' split at h
  all_goals first
    | (cases h; done)
    | (simp only [Option.some.injEq] at h; subst h; first | rfl | simp_all)
theorem zx_h_bi {f : Int32 → Int32 → Int32} {σ τ : zx_S} (h : zx_bi f σ = some τ) : τ.2.2.2.2 = σ.2.2.2.2 := by
  obtain ⟨pc, ls, st, w, mc, ms⟩ := σ
  simp only [zx_bi] at h
  repeat' split at h
  all_goals first
    | (cases h; done)
    | (simp only [Option.some.injEq] at h; subst h; first | rfl | simp_all)
theorem zx_h_bd {f : Int32 → Int32 → Int32} {σ τ : zx_S} (h : zx_bd f σ = some τ) : τ.2.2.2.2 = σ.2.2.2.2 := by
  obtain ⟨pc, ls, st, w, mc, ms⟩ := σ
  simp only [zx_bd] at h
  repeat' split at h
  all_goals first
    | (cases h; done)
    | (simp only [Option.some.injEq] at h; subst h; first | rfl | simp_all)
theorem zx_h_bj {f : Int64 → Int64 → Int64} {σ τ : zx_S} (h : zx_bj f σ = some τ) : τ.2.2.2.2 = σ.2.2.2.2 := by
  obtain ⟨pc, ls, st, w, mc, ms⟩ := σ
  simp only [zx_bj] at h
  repeat' split at h
  all_goals first
    | (cases h; done)
    | (simp only [Option.some.injEq] at h; subst h; first | rfl | simp_all)
theorem zx_h_dj  {σ τ : zx_S} (h : zx_dj σ = some τ) : τ.2.2.2.2 = σ.2.2.2.2 := by
  obtain ⟨pc, ls, st, w, mc, ms⟩ := σ
  simp only [zx_dj] at h
  repeat' split at h
  all_goals first
    | (cases h; done)
    | (simp only [Option.some.injEq] at h; subst h; first | rfl | simp_all)
theorem zx_h_sj {f : Int64 → Int32 → Int64} {σ τ : zx_S} (h : zx_sj f σ = some τ) : τ.2.2.2.2 = σ.2.2.2.2 := by
  obtain ⟨pc, ls, st, w, mc, ms⟩ := σ
  simp only [zx_sj] at h
  repeat' split at h
  all_goals first
    | (cases h; done)
    | (simp only [Option.some.injEq] at h; subst h; first | rfl | simp_all)
theorem zx_h_i2l  {σ τ : zx_S} (h : zx_i2l σ = some τ) : τ.2.2.2.2 = σ.2.2.2.2 := by
  obtain ⟨pc, ls, st, w, mc, ms⟩ := σ
  simp only [zx_i2l] at h
  repeat' split at h
  all_goals first
    | (cases h; done)
    | (simp only [Option.some.injEq] at h; subst h; first | rfl | simp_all)
theorem zx_h_l2i  {σ τ : zx_S} (h : zx_l2i σ = some τ) : τ.2.2.2.2 = σ.2.2.2.2 := by
  obtain ⟨pc, ls, st, w, mc, ms⟩ := σ
  simp only [zx_l2i] at h
  repeat' split at h
  all_goals first
    | (cases h; done)
    | (simp only [Option.some.injEq] at h; subst h; first | rfl | simp_all)
theorem zx_h_lcmp  {σ τ : zx_S} (h : zx_lcmp σ = some τ) : τ.2.2.2.2 = σ.2.2.2.2 := by
  obtain ⟨pc, ls, st, w, mc, ms⟩ := σ
  simp only [zx_lcmp] at h
  repeat' split at h
  all_goals first
    | (cases h; done)
    | (simp only [Option.some.injEq] at h; subst h; first | rfl | simp_all)
theorem zx_h_inc {k : Nat} {n : Int32} {σ τ : zx_S} (h : zx_inc k n σ = some τ) : τ.2.2.2.2 = σ.2.2.2.2 := by
  obtain ⟨pc, ls, st, w, mc, ms⟩ := σ
  simp only [zx_inc] at h
  repeat' split at h
  all_goals first
    | (cases h; done)
    | (simp only [Option.some.injEq] at h; subst h; first | rfl | simp_all)
theorem zx_h_dup  {σ τ : zx_S} (h : zx_dup σ = some τ) : τ.2.2.2.2 = σ.2.2.2.2 := by
  obtain ⟨pc, ls, st, w, mc, ms⟩ := σ
  simp only [zx_dup] at h
  repeat' split at h
  all_goals first
    | (cases h; done)
    | (simp only [Option.some.injEq] at h; subst h; first | rfl | simp_all)
theorem zx_h_dup2  {σ τ : zx_S} (h : zx_dup2 σ = some τ) : τ.2.2.2.2 = σ.2.2.2.2 := by
  obtain ⟨pc, ls, st, w, mc, ms⟩ := σ
  simp only [zx_dup2] at h
  repeat' split at h
  all_goals first
    | (cases h; done)
    | (simp only [Option.some.injEq] at h; subst h; first | rfl | simp_all)
theorem zx_h_pop  {σ τ : zx_S} (h : zx_pop σ = some τ) : τ.2.2.2.2 = σ.2.2.2.2 := by
  obtain ⟨pc, ls, st, w, mc, ms⟩ := σ
  simp only [zx_pop] at h
  repeat' split at h
  all_goals first
    | (cases h; done)
    | (simp only [Option.some.injEq] at h; subst h; first | rfl | simp_all)
theorem zx_h_gt {t : Nat} {σ τ : zx_S} (h : zx_gt t σ = some τ) : τ.2.2.2.2 = σ.2.2.2.2 := by
  obtain ⟨pc, ls, st, w, mc, ms⟩ := σ
  simp only [zx_gt] at h
  repeat' split at h
  all_goals first
    | (cases h; done)
    | (simp only [Option.some.injEq] at h; subst h; first | rfl | simp_all)
theorem zx_h_jt {o : ClassFile.Cond} {t : Nat} {σ τ : zx_S} (h : zx_jt o t σ = some τ) : τ.2.2.2.2 = σ.2.2.2.2 := by
  obtain ⟨pc, ls, st, w, mc, ms⟩ := σ
  simp only [zx_jt] at h
  repeat' split at h
  all_goals first
    | (cases h; done)
    | (simp only [Option.some.injEq] at h; subst h; first | rfl | simp_all)
theorem zx_h_j0 {o : ClassFile.Cond} {t : Nat} {σ τ : zx_S} (h : zx_j0 o t σ = some τ) : τ.2.2.2.2 = σ.2.2.2.2 := by
  obtain ⟨pc, ls, st, w, mc, ms⟩ := σ
  simp only [zx_j0] at h
  repeat' split at h
  all_goals first
    | (cases h; done)
    | (simp only [Option.some.injEq] at h; subst h; first | rfl | simp_all)
theorem zx_h_nn {t : Nat} {σ τ : zx_S} (h : zx_nn t σ = some τ) : τ.2.2.2.2 = σ.2.2.2.2 := by
  obtain ⟨pc, ls, st, w, mc, ms⟩ := σ
  simp only [zx_nn] at h
  repeat' split at h
  all_goals first
    | (cases h; done)
    | (simp only [Option.some.injEq] at h; subst h; first | rfl | simp_all)
theorem zx_h_sg {d : Nat} {ts : List (Nat × Nat)} {σ τ : zx_S} (h : zx_sg d ts σ = some τ) : τ.2.2.2.2 = σ.2.2.2.2 := by
  obtain ⟨pc, ls, st, w, mc, ms⟩ := σ
  simp only [zx_sg] at h
  repeat' split at h
  all_goals first
    | (cases h; done)
    | (simp only [Option.some.injEq] at h; subst h; first | rfl | simp_all)
theorem zx_h_gf {ci k : Nat} {σ τ : zx_S} (h : zx_gf ci k σ = some τ) : τ.2.2.2.2 = σ.2.2.2.2 := by
  obtain ⟨pc, ls, st, w, mc, ms⟩ := σ
  simp only [zx_gf] at h
  repeat' split at h
  all_goals first
    | (cases h; done)
    | (simp only [Option.some.injEq] at h; subst h; first | rfl | simp_all)
theorem zx_h_pf {ci k fit : Nat} {σ τ : zx_S} (h : zx_pf ci k fit σ = some τ) : τ.2.2.2.2 = σ.2.2.2.2 := by
  obtain ⟨pc, ls, st, w, mc, ms⟩ := σ
  simp only [zx_pf] at h
  repeat' split at h
  all_goals first
    | (cases h; done)
    | (simp only [Option.some.injEq] at h; subst h; first | rfl | simp_all)
theorem zx_h_alen {X : zx_X} {σ τ : zx_S} (h : zx_alen X σ = some τ) : τ.2.2.2.2 = σ.2.2.2.2 := by
  obtain ⟨pc, ls, st, w, mc, ms⟩ := σ
  simp only [zx_alen] at h
  repeat' split at h
  all_goals first
    | (cases h; done)
    | (simp only [Option.some.injEq] at h; subst h; first | rfl | simp_all)
theorem zx_h_ald {kd : Nat} {X : zx_X} {σ τ : zx_S} (h : zx_ald kd X σ = some τ) : τ.2.2.2.2 = σ.2.2.2.2 := by
  obtain ⟨pc, ls, st, w, mc, ms⟩ := σ
  simp only [zx_ald] at h
  repeat' split at h
  all_goals first
    | (cases h; done)
    | (simp only [Option.some.injEq] at h; subst h; first | rfl | simp_all)
theorem zx_h_lald  {σ τ : zx_S} (h : zx_lald σ = some τ) : τ.2.2.2.2 = σ.2.2.2.2 := by
  obtain ⟨pc, ls, st, w, mc, ms⟩ := σ
  simp only [zx_lald] at h
  repeat' split at h
  all_goals first
    | (cases h; done)
    | (simp only [Option.some.injEq] at h; subst h; first | rfl | simp_all)
theorem zx_h_aald  {σ τ : zx_S} (h : zx_aald σ = some τ) : τ.2.2.2.2 = σ.2.2.2.2 := by
  obtain ⟨pc, ls, st, w, mc, ms⟩ := σ
  simp only [zx_aald] at h
  repeat' split at h
  all_goals first
    | (cases h; done)
    | (simp only [Option.some.injEq] at h; subst h; first | rfl | simp_all)
theorem zx_h_ast {kd : Nat} {nar : Int32 → Int32} {σ τ : zx_S} (h : zx_ast kd nar σ = some τ) : τ.2.2.2.2 = σ.2.2.2.2 := by
  obtain ⟨pc, ls, st, w, mc, ms⟩ := σ
  simp only [zx_ast] at h
  repeat' split at h
  all_goals first
    | (cases h; done)
    | (simp only [Option.some.injEq] at h; subst h; first | rfl | simp_all)
theorem zx_h_last  {σ τ : zx_S} (h : zx_last σ = some τ) : τ.2.2.2.2 = σ.2.2.2.2 := by
  obtain ⟨pc, ls, st, w, mc, ms⟩ := σ
  simp only [zx_last] at h
  repeat' split at h
  all_goals first
    | (cases h; done)
    | (simp only [Option.some.injEq] at h; subst h; first | rfl | simp_all)
theorem zx_h_aast  {σ τ : zx_S} (h : zx_aast σ = some τ) : τ.2.2.2.2 = σ.2.2.2.2 := by
  obtain ⟨pc, ls, st, w, mc, ms⟩ := σ
  simp only [zx_aast] at h
  repeat' split at h
  all_goals first
    | (cases h; done)
    | (simp only [Option.some.injEq] at h; subst h; first | rfl | simp_all)
theorem zx_h_obj  {σ τ : zx_S} (h : zx_obj σ = some τ) : τ.2.2.2.2 = σ.2.2.2.2 := by
  obtain ⟨pc, ls, st, w, mc, ms⟩ := σ
  simp only [zx_obj] at h
  repeat' split at h
  all_goals first
    | (cases h; done)
    | (simp only [Option.some.injEq] at h; subst h; first | rfl | simp_all)
theorem zx_h_copy  {σ τ : zx_S} (h : zx_copy σ = some τ) : τ.2.2.2.2 = σ.2.2.2.2 := by
  obtain ⟨pc, ls, st, w, mc, ms⟩ := σ
  simp only [zx_copy] at h
  repeat' split at h
  all_goals first
    | (cases h; done)
    | (simp only [Option.some.injEq] at h; subst h; first | rfl | simp_all)
theorem zx_shr_mm {f : Int32 → Int32 → Int32} : zx_shr (fun _ cap σ => zx_mm f cap σ) := by
  intro X cap σ τ h
  obtain ⟨pc, L, y, x, st, w, mc, ms, rfl, z1, z2, z3, rfl⟩ := zx_mm_inv h
  refine ⟨⟨Nat.le_refl _, Nat.le_refl _⟩, fun cap' h1 h2 => ?_⟩
  have c0 : Nat.ble st.length 4 = true := Nat.ble_eq_true_of_le z1
  have c1 : Nat.ble mc cap'.1 = true := Nat.ble_eq_true_of_le h1
  have c2 : Nat.ble ms cap'.2 = true := Nat.ble_eq_true_of_le h2
  simp only [zx_mm, c0, c1, c2, Bool.and_self]
theorem zx_shr_ml {f : Int64 → Int64 → Int64} : zx_shr (fun _ cap σ => zx_ml f cap σ) := by
  intro X cap σ τ h
  obtain ⟨pc, L, y, x, st, w, mc, ms, rfl, z1, z2, z3, rfl⟩ := zx_ml_inv h
  refine ⟨⟨Nat.le_refl _, Nat.le_refl _⟩, fun cap' h1 h2 => ?_⟩
  have c0 : Nat.ble st.length 4 = true := Nat.ble_eq_true_of_le z1
  have c1 : Nat.ble mc cap'.1 = true := Nat.ble_eq_true_of_le h1
  have c2 : Nat.ble ms cap'.2 = true := Nat.ble_eq_true_of_le h2
  simp only [zx_ml, c0, c1, c2, Bool.and_self]
theorem zx_shr_strL : zx_shr (fun _ cap σ => zx_strL cap σ) := by
  intro X cap σ τ h
  obtain ⟨pc, ls, st, w, mc, ms⟩ := σ
  have h : zx_strL cap (pc, ls, st, w, mc, ms) = some τ := h
  simp only [zx_strL] at h
  split at h
  next hz =>
    cases h
    simp only [Bool.and_eq_true] at hz
    refine ⟨⟨Nat.le_refl _, Nat.le_refl _⟩, fun cap' h1 h2 => ?_⟩
    have c1 : Nat.ble mc cap'.1 = true := Nat.ble_eq_true_of_le h1
    have c2 : Nat.ble ms cap'.2 = true := Nat.ble_eq_true_of_le h2
    simp only [zx_strL, c1, c2, hz.1, Bool.and_self]
  next => cases h
theorem zx_shr_strC {a b : Nat} : zx_shr (fun _ cap σ => zx_strC a b cap σ) := by
  intro X cap σ τ h
  obtain ⟨pc, ls, st, w, mc, ms⟩ := σ
  have h : zx_strC a b cap (pc, ls, st, w, mc, ms) = some τ := h
  unfold zx_strC at h
  split at h
  next x y pc' ls' st' w' mc' ms' e1 e2 heq =>
    cases heq
    split at h
    next hz =>
      cases h
      simp only [Bool.and_eq_true] at hz
      refine ⟨⟨Nat.le_refl _, Nat.le_refl _⟩, fun cap' h1 h2 => ?_⟩
      have c1 : Nat.ble mc cap'.1 = true := Nat.ble_eq_true_of_le h1
      have c2 : Nat.ble ms cap'.2 = true := Nat.ble_eq_true_of_le h2
      simp only [zx_strC, e1, e2, c1, c2, hz.1, hz.2.1, Bool.and_self]
    next => cases h
  next => cases h
theorem zx_shr_new {ci : Nat} {fs : List zx_V} : zx_shr (fun _ cap σ => zx_new ci fs cap σ) := by
  intro X cap σ τ h
  obtain ⟨pc, ls, st, w, mc, ms⟩ := σ
  have h : zx_new ci fs cap (pc, ls, st, w, mc, ms) = some τ := h
  simp only [zx_new] at h
  split at h
  next hz =>
    cases h
    simp only [Bool.and_eq_true] at hz
    refine ⟨⟨Nat.le_add_right _ _, Nat.le_add_right _ _⟩, fun cap' h1 h2 => ?_⟩
    have c1 : Nat.ble (mc + 1) cap'.1 = true := Nat.ble_eq_true_of_le h1
    have c2 : Nat.ble (ms + fs.length) cap'.2 = true := Nat.ble_eq_true_of_le h2
    simp only [zx_new, c1, c2, hz.2.2, Bool.and_self]
  next => cases h
theorem zx_shr_newa {len kd : Nat} : zx_shr (fun _ cap σ => zx_newa len kd cap σ) := by
  intro X cap σ τ h
  have h : zx_newa len kd cap σ = some τ := h
  unfold zx_newa at h
  split at h
  next pc ls x st w mc ms hh =>
    split at h
    next hz =>
      cases h
      simp only [Bool.and_eq_true] at hz
      refine ⟨⟨Nat.le_add_right _ _, Nat.le_add_right _ _⟩, fun cap' h1 h2 => ?_⟩
      have c1 : Nat.ble (mc + 1) cap'.1 = true := Nat.ble_eq_true_of_le h1
      have c2 : Nat.ble (ms + x.toNatClampNeg) cap'.2 = true := Nat.ble_eq_true_of_le h2
      simp only [zx_newa, c1, c2, hz.1, hz.2.1, hz.2.2.2.2, Bool.and_self]
    next => cases h
  next => cases h
theorem zx_shr_no : zx_shr zx_no := fun X cap σ τ h => by cases h
def zx_shrQ (q : zx_Q) : Prop := zx_shr q.2.2.2
theorem zx_shr_den (I : Instr) (ex : List Nat) : zx_shrQ (zx_den I ex) := by
  cases I
  case iconst i => exact zx_shr_q (fun _ _ h => zx_h_push h)
  case bipush i => exact zx_shr_q (fun _ _ h => zx_h_push h)
  case sipush i => exact zx_shr_q (fun _ _ h => zx_h_push h)
  case lconst i => exact zx_shr_q (fun _ _ h => zx_h_push h)
  case ldc i => exact zx_shr_q (fun _ _ h => zx_h_push h)
  case ldc_w i => exact zx_shr_q (fun _ _ h => zx_h_push h)
  case ldc2_w i => exact zx_shr_q (fun _ _ h => zx_h_push h)
  case aconst_null => exact zx_shr_q (fun _ _ h => zx_h_push h)
  case iload_n k => exact zx_shr_q (fun _ _ h => zx_h_ldI h)
  case iload k => exact zx_shr_q (fun _ _ h => zx_h_ldI h)
  case lload_n k => exact zx_shr_q (fun _ _ h => zx_h_ldJ h)
  case lload k => exact zx_shr_q (fun _ _ h => zx_h_ldJ h)
  case aload_n k => exact zx_shr_q (fun _ _ h => zx_h_ldA h)
  case aload k => exact zx_shr_q (fun _ _ h => zx_h_ldA h)
  case istore_n k => exact zx_shr_q (fun _ _ h => zx_h_stI h)
  case istore k => exact zx_shr_q (fun _ _ h => zx_h_stI h)
  case lstore_n k => exact zx_shr_q (fun _ _ h => zx_h_stJ h)
  case lstore k => exact zx_shr_q (fun _ _ h => zx_h_stJ h)
  case astore_n k => exact zx_shr_q (fun _ _ h => zx_h_stA h)
  case iinc k i => exact zx_shr_q (fun _ _ h => zx_h_inc h)
  case goto o => exact zx_shr_q (fun _ _ h => zx_h_gt h)
  case if_icmp o i => exact zx_shr_q (fun _ _ h => zx_h_jt h)
  case ifCond o i => exact zx_shr_q (fun _ _ h => zx_h_j0 h)
  case ifnonnull i => exact zx_shr_q (fun _ _ h => zx_h_nn h)
  case laload => exact zx_shr_q (fun _ _ h => zx_h_lald h)
  case aaload => exact zx_shr_q (fun _ _ h => zx_h_aald h)
  case iastore => exact zx_shr_q (fun _ _ h => zx_h_ast h)
  case lastore => exact zx_shr_q (fun _ _ h => zx_h_last h)
  case aastore => exact zx_shr_q (fun _ _ h => zx_h_aast h)
  case dup => exact zx_shr_q (fun _ _ h => zx_h_dup h)
  case dup2 => exact zx_shr_q (fun _ _ h => zx_h_dup2 h)
  case pop => exact zx_shr_q (fun _ _ h => zx_h_pop h)
  case idiv => exact zx_shr_q (fun _ _ h => zx_h_bd h)
  case irem => exact zx_shr_q (fun _ _ h => zx_h_bd h)
  case ldiv => exact zx_shr_q (fun _ _ h => zx_h_dj h)
  case i2l => exact zx_shr_q (fun _ _ h => zx_h_i2l h)
  case l2i => exact zx_shr_q (fun _ _ h => zx_h_l2i h)
  case lcmp => exact zx_shr_q (fun _ _ h => zx_h_lcmp h)
  case iadd => exact zx_shr_q (fun _ _ h => zx_h_bi h)
  case isub => exact zx_shr_q (fun _ _ h => zx_h_bi h)
  case imul => exact zx_shr_q (fun _ _ h => zx_h_bi h)
  case iand => exact zx_shr_q (fun _ _ h => zx_h_bi h)
  case ior => exact zx_shr_q (fun _ _ h => zx_h_bi h)
  case ixor => exact zx_shr_q (fun _ _ h => zx_h_bi h)
  case ishl => exact zx_shr_q (fun _ _ h => zx_h_bi h)
  case ishr => exact zx_shr_q (fun _ _ h => zx_h_bi h)
  case iushr => exact zx_shr_q (fun _ _ h => zx_h_bi h)
  case ladd => exact zx_shr_q (fun _ _ h => zx_h_bj h)
  case lsub => exact zx_shr_q (fun _ _ h => zx_h_bj h)
  case lmul => exact zx_shr_q (fun _ _ h => zx_h_bj h)
  case land => exact zx_shr_q (fun _ _ h => zx_h_bj h)
  case lor => exact zx_shr_q (fun _ _ h => zx_h_bj h)
  case lshl => exact zx_shr_q (fun _ _ h => zx_h_sj h)
  case lshr => exact zx_shr_q (fun _ _ h => zx_h_sj h)
  case lushr => exact zx_shr_q (fun _ _ h => zx_h_sj h)
  case ineg => exact zx_shr_q (fun _ _ h => zx_h_un h)
  case i2c => exact zx_shr_q (fun _ _ h => zx_h_un h)
  case i2b => exact zx_shr_q (fun _ _ h => zx_h_un h)
  case arraylength => exact fun X cap σ τ h => zx_shr_q (fun _ _ h => zx_h_alen (X := X) h) X cap σ τ h
  case iaload => exact fun X cap σ τ h => zx_shr_q (fun _ _ h => zx_h_ald (X := X) h) X cap σ τ h
  case baload => exact fun X cap σ τ h => zx_shr_q (fun _ _ h => zx_h_ald (X := X) h) X cap σ τ h
  case new i => exact zx_shr_new
  case newarray i => exact zx_shr_newa
  case anewarray i => exact zx_shr_newa
  case bastore =>
    unfold zx_den
    simp only
    split
    · exact zx_shr_q (fun _ _ h => zx_h_ast h)
    · exact zx_shr_q (fun _ _ h => zx_h_ast h)
  case ireturn =>
    unfold zx_den
    simp only
    split
    · exact zx_shr_no
    · exact zx_shr_no
  case lreturn => exact zx_shr_no
  case return_ => exact zx_shr_no
  case tableswitch =>
    unfold zx_den
    simp only
    split
    · exact zx_shr_q (fun _ _ h => zx_h_sg h)
    · exact zx_shr_no
  case lookupswitch =>
    unfold zx_den
    simp only
    split
    · exact zx_shr_q (fun _ _ h => zx_h_sg h)
    · exact zx_shr_no
  case getfield i =>
    unfold zx_den
    simp only
    split
    · exact zx_shr_q (fun _ _ h => zx_h_gf h)
    · exact zx_shr_no
  case putfield i =>
    unfold zx_den
    simp only
    split
    · exact zx_shr_q (fun _ _ h => zx_h_pf h)
    · exact zx_shr_no
  case nop =>
    show zx_shrQ (zx_nop ex)
    unfold zx_nop
    split
    · exact zx_shr_strL
    · exact zx_shr_strC
    · exact zx_shr_no
  case invokevirtual i =>
    unfold zx_den
    simp only
    split <;> exact zx_shr_no
  case invokespecial i =>
    unfold zx_den
    simp only
    split
    · exact zx_shr_q (fun _ _ h => zx_h_obj h)
    · exact zx_shr_no
    · exact zx_shr_no
  case invokestatic i =>
    unfold zx_den
    simp only
    split
    · exact zx_shr_q (fun _ _ h => zx_h_copy h)
    · exact zx_shr_mm
    · exact zx_shr_mm
    · exact zx_shr_ml
    · exact zx_shr_ml
    · exact zx_shr_no
    · exact zx_shr_no
  all_goals exact zx_shr_no
theorem zx_row_cT {α β : Type} {f : α → β} {k : Nat} {y : β} : ∀ {l : List (Nat × α)}, zx_row k (l.map (fun q => (q.1, f q.2))) = some y → ∃ x, y = f x
  | [], h => by cases h
  | (j, u) :: l, h => by
    have h : (match Nat.beq j k with
      | true => some (f u)
      | false => zx_row k (l.map (fun q : Nat × α => (q.1, f q.2)))) = some y := h
    split at h
    next => cases h; exact ⟨u, rfl⟩
    next => exact zx_row_cT (f := f) h
theorem zx_find_cT {dt : List (List (Nat × zx_I))} {pc : Nat} {q : zx_Q} (h : zx_find (zx_cT dt) pc = some q) : ∃ I ex, q = zx_den I ex := by
  unfold zx_find zx_cT at h
  rw [List.getElem?_map] at h
  split at h
  next l hl =>
    cases he : dt[pc / 16]? with
    | none => rw [he] at hl; cases hl
    | some l0 =>
      rw [he] at hl
      have hl : l0.map (fun q => (q.1, zx_den q.2.1 q.2.2.2)) = l := Option.some.inj hl
      rw [← hl] at h
      obtain ⟨x, hx⟩ := zx_row_cT (f := fun q : zx_I => zx_den q.1 q.2.2) h
      exact ⟨x.1, x.2.2, hx⟩
  next => cases h
theorem zx_step_shr {K : zx_K} {X : zx_X} {cap : Nat × Nat} {dt : List (List (Nat × zx_I))} {σ τ : zx_S} (h : zx_step K X cap (zx_find (zx_cT dt)) σ τ) : (σ.2.2.2.2.1 ≤ τ.2.2.2.2.1 ∧ σ.2.2.2.2.2 ≤ τ.2.2.2.2.2) ∧ ∀ cap' : Nat × Nat, τ.2.2.2.2.1 ≤ cap'.1 → τ.2.2.2.2.2 ≤ cap'.2 → zx_step K X cap' (zx_find (zx_cT dt)) σ τ := by
  unfold zx_step at h ⊢
  split at h
  next a1 a2 g ht =>
    obtain ⟨I, ex, e⟩ := zx_find_cT ht
    have hs := zx_shr_den I ex
    rw [← e] at hs
    exact hs X cap σ τ h
  next y n g ht =>
    obtain ⟨pc, ls, st, w, mc, ms⟩ := σ
    obtain ⟨av, st', cy, r, h1, h2, h3, h4, h5, h6, h7, rfl⟩ := h
    exact ⟨⟨Nat.le_add_right _ _, Nat.le_add_right _ _⟩, fun cap' k1 k2 => ⟨av, st', cy, r, h1, h2, h3, h4, k1, k2, h7, rfl⟩⟩
  next => exact h.elim
theorem zx_star_shr {K : zx_K} {X : zx_X} {cap : Nat × Nat} {dt : List (List (Nat × zx_I))} : ∀ {n : Nat} {σ τ : zx_S}, zx_star (zx_step K X cap (zx_find (zx_cT dt))) n σ τ → (σ.2.2.2.2.1 ≤ τ.2.2.2.2.1 ∧ σ.2.2.2.2.2 ≤ τ.2.2.2.2.2) ∧ ∀ cap' : Nat × Nat, τ.2.2.2.2.1 ≤ cap'.1 → τ.2.2.2.2.2 ≤ cap'.2 → zx_star (zx_step K X cap' (zx_find (zx_cT dt))) n σ τ
  | 0, σ, τ, h => by
    cases h
    exact ⟨⟨Nat.le_refl _, Nat.le_refl _⟩, fun _ _ _ => rfl⟩
  | n + 1, σ, τ, ⟨μ, h1, h2⟩ => by
    obtain ⟨a, b⟩ := zx_star_shr h2
    obtain ⟨c, d⟩ := zx_step_shr h1
    exact ⟨⟨Nat.le_trans c.1 a.1, Nat.le_trans c.2 a.2⟩, fun cap' k1 k2 => ⟨μ, d cap' (Nat.le_trans a.1 k1) (Nat.le_trans a.2 k2), b cap' k1 k2⟩⟩
