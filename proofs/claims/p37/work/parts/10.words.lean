/-! words: those that hold at every call, the nest's; classes -/
def zx_TS : List Cond := lw_tbl.filter goodWord
theorem zx_in_TS {w : Cond} (h : w ∈ lw_tbl) (g : goodWord w = true) : w ∈ zx_TS := List.mem_filter.mpr ⟨h, g⟩
theorem zx_goodTS : GoodIn zx_TS zx_TS := fun _ h => ⟨h, good_of_word (List.mem_filter.mp h).2⟩
def zx_isNest : Cond → Bool
  | .fieldLinkNest .. => true
  | .methodLinkNest .. => true
  | _ => false
def zx_Nest (U : State) : Prop := ∀ w ∈ lw_tbl, zx_isNest w = true → va_Nw w U
theorem zx_Nest.warm {s U : State} (hW : s.WarmedH U.vm) (h : zx_Nest s) : zx_Nest U := by
  intro w hw hn
  have h1 := h w hw hn
  cases w <;> first | (exact va_Nw.warmF hW h1) | (exact va_Nw.warmM hW h1) | (cases hn)
theorem zx_Nest.same {s U : State} (e : s.vm = U.vm) (h : zx_Nest s) : zx_Nest U := by
  intro w hw hn
  have h1 := h w hw hn
  cases w <;> first | (cases hn; done) | (exact va_Nw.same rfl e h1)
/-- the words by tables: place i is place i % 240 of table i / 240 -/
def zx_tb : Nat → List Cond
  | 0 => tables_1_1
  | 1 => tables_1_2
  | 2 => tables_1_3
  | 3 => tables_1_4
  | 4 => tables_1_5
  | 5 => tables_1_6
  | 6 => tables_1_7
  | 7 => tables_1_8
  | 8 => tables_1_9
  | 9 => tables_1_10
  | 10 => tables_1_11
  | 11 => k2_sels lw_privs
  | _ => []
theorem zx_tb_in {w : Cond} : ∀ {t : Nat}, w ∈ zx_tb t → w ∈ lw_tbl
  | 0, h => List.mem_append_right _ (List.mem_append_left _ h)
  | 1, h => List.mem_append_right _ (List.mem_append_right _ (List.mem_append_left _ h))
  | 2, h => List.mem_append_right _ (List.mem_append_right _ (List.mem_append_right _ (List.mem_append_left _ h)))
  | 3, h => List.mem_append_right _ (List.mem_append_right _ (List.mem_append_right _ (List.mem_append_right _ (List.mem_append_left _ h))))
  | 4, h => List.mem_append_right _ (List.mem_append_right _ (List.mem_append_right _ (List.mem_append_right _ (List.mem_append_right _ (List.mem_append_left _ h)))))
  | 5, h => List.mem_append_right _ (List.mem_append_right _ (List.mem_append_right _ (List.mem_append_right _ (List.mem_append_right _ (List.mem_append_right _ (List.mem_append_left _ h))))))
  | 6, h => List.mem_append_right _ (List.mem_append_right _ (List.mem_append_right _ (List.mem_append_right _ (List.mem_append_right _ (List.mem_append_right _ (List.mem_append_right _ (List.mem_append_left _ h)))))))
  | 7, h => List.mem_append_right _ (List.mem_append_right _ (List.mem_append_right _ (List.mem_append_right _ (List.mem_append_right _ (List.mem_append_right _ (List.mem_append_right _ (List.mem_append_right _ (List.mem_append_left _ h))))))))
  | 8, h => List.mem_append_right _ (List.mem_append_right _ (List.mem_append_right _ (List.mem_append_right _ (List.mem_append_right _ (List.mem_append_right _ (List.mem_append_right _ (List.mem_append_right _ (List.mem_append_right _ (List.mem_append_left _ h)))))))))
  | 9, h => List.mem_append_right _ (List.mem_append_right _ (List.mem_append_right _ (List.mem_append_right _ (List.mem_append_right _ (List.mem_append_right _ (List.mem_append_right _ (List.mem_append_right _ (List.mem_append_right _ (List.mem_append_right _ (List.mem_append_left _ h))))))))))
  | 10, h => List.mem_append_right _ (List.mem_append_right _ (List.mem_append_right _ (List.mem_append_right _ (List.mem_append_right _ (List.mem_append_right _ (List.mem_append_right _ (List.mem_append_right _ (List.mem_append_right _ (List.mem_append_right _ (List.mem_append_right _ (h)))))))))))
  | 11, h => List.mem_append_left _ h
  | n + 12, h => absurd h List.not_mem_nil
def zx_wd (i : Nat) (w : Cond) : Bool := decide ((zx_tb (i / 240))[i % 240]? = some w) && goodWord w
theorem zx_wd_ok {i : Nat} {w : Cond} (h : zx_wd i w = true) : w ∈ zx_TS := by
  unfold zx_wd at h
  rw [Bool.and_eq_true] at h
  exact zx_in_TS (zx_tb_in (List.mem_of_getElem? (of_decide_eq_true h.1))) h.2
def zx_wn (i : Nat) (w : Cond) : Bool := decide ((zx_tb (i / 240))[i % 240]? = some w) && zx_isNest w
theorem zx_wn_ok {i : Nat} {w : Cond} {s : State} (hN : zx_Nest s) (h : zx_wn i w = true) : va_Nw w s := by
  unfold zx_wn at h
  rw [Bool.and_eq_true] at h
  exact hN w (zx_tb_in (List.mem_of_getElem? (of_decide_eq_true h.1))) h.2
theorem zx_allIn {l : List Cond} (h : l.all (fun w => decide (w ∈ lw_tbl) && goodWord w) = true) : ∀ w ∈ l, w ∈ zx_TS := by
  intro w hw
  have h1 := List.all_eq_true.mp h w hw
  rw [Bool.and_eq_true] at h1
  exact zx_in_TS (of_decide_eq_true h1.1) h1.2
noncomputable def zx_ty : Nat → Nat → FieldType
  | 0 => tyX0
  | 1 => tyX1
  | 2 => tyX2
  | 3 => tyX3
  | 4 => tyX4
  | 5 => tyX5
  | 6 => tyX6
  | 7 => tyX7
  | 8 => tyX8
  | 9 => tyX9
  | 10 => tyX10
  | 11 => tyX11
  | _ => tyX12
def zx_ClP (ci : Nat) (C : String) (T : u_T) (N : Nat) : Prop := (∀ w ∈ u_ws C T N, w ∈ zx_TS) ∧ (∀ k, k < N → parseFieldDescriptor (T k).2.2.1 = some (zx_ty ci k)) ∧ (∀ a, a < N → ∀ b, b < N → a ≠ b → (T a).2.1 ≠ (T b).2.1) ∧ Cond.instantiable C N ∈ zx_TS ∧ Cond.initialized C ∈ zx_TS ∧ (zx_cls ci).length = N ∧ (zx_cls ci).all zx_dfl = true ∧ ∀ j, j < N → defaultValue (zx_ty ci j) = vp_V ((zx_cls ci).map zx_cv0) j
theorem zx_cl0 : zx_ClP 0 RX0 TX0 8 := ⟨zx_allIn (by decide +kernel), tyX0_ok, nmX0, zx_wd_ok (i := 306) (by decide +kernel), zx_wd_ok (i := 9) (by decide +kernel), rfl, rfl, by decide +kernel⟩
theorem zx_cl1 : zx_ClP 1 RX1 TX1 10 := ⟨zx_allIn (by decide +kernel), tyX1_ok, nmX1, zx_wd_ok (i := 337) (by decide +kernel), zx_wd_ok (i := 10) (by decide +kernel), rfl, rfl, by decide +kernel⟩
theorem zx_cl2 : zx_ClP 2 RX2 TX2 6 := ⟨zx_allIn (by decide +kernel), tyX2_ok, nmX2, zx_wd_ok (i := 258) (by decide +kernel), zx_wd_ok (i := 6) (by decide +kernel), rfl, rfl, by decide +kernel⟩
theorem zx_cl3 : zx_ClP 3 RX3 TX3 9 := ⟨zx_allIn (by decide +kernel), tyX3_ok, nmX3, zx_wd_ok (i := 384) (by decide +kernel), zx_wd_ok (i := 11) (by decide +kernel), rfl, rfl, by decide +kernel⟩
theorem zx_cl4 : zx_ClP 4 RX4 TX4 17 := ⟨zx_allIn (by decide +kernel), tyX4_ok, nmX4, zx_wd_ok (i := 151) (by decide +kernel), zx_wd_ok (i := 4) (by decide +kernel), rfl, rfl, by decide +kernel⟩
theorem zx_cl5 : zx_ClP 5 RX5 TX5 2 := ⟨zx_allIn (by decide +kernel), tyX5_ok, nmX5, zx_wd_ok (i := 288) (by decide +kernel), zx_wd_ok (i := 7) (by decide +kernel), rfl, rfl, by decide +kernel⟩
theorem zx_cl6 : zx_ClP 6 RX6 TX6 19 := ⟨zx_allIn (by decide +kernel), tyX6_ok, nmX6, zx_wd_ok (i := 1156) (by decide +kernel), zx_wd_ok (i := 20) (by decide +kernel), rfl, rfl, by decide +kernel⟩
theorem zx_cl7 : zx_ClP 7 RX7 TX7 15 := ⟨zx_allIn (by decide +kernel), tyX7_ok, nmX7, zx_wd_ok (i := 423) (by decide +kernel), zx_wd_ok (i := 12) (by decide +kernel), rfl, rfl, by decide +kernel⟩
theorem zx_cl8 : zx_ClP 8 RX8 TX8 7 := ⟨zx_allIn (by decide +kernel), tyX8_ok, nmX8, zx_wd_ok (i := 215) (by decide +kernel), zx_wd_ok (i := 5) (by decide +kernel), rfl, rfl, by decide +kernel⟩
theorem zx_cl9 : zx_ClP 9 RX9 TX9 17 := ⟨zx_allIn (by decide +kernel), tyX9_ok, nmX9, zx_wd_ok (i := 1005) (by decide +kernel), zx_wd_ok (i := 19) (by decide +kernel), rfl, rfl, by decide +kernel⟩
theorem zx_cl10 : zx_ClP 10 RX10 TX10 19 := ⟨zx_allIn (by decide +kernel), tyX10_ok, nmX10, zx_wd_ok (i := 31) (by decide +kernel), zx_wd_ok (i := 2) (by decide +kernel), rfl, rfl, by decide +kernel⟩
theorem zx_cl11 : zx_ClP 11 RX11 TX11 13 := ⟨zx_allIn (by decide +kernel), tyX11_ok, nmX11, zx_wd_ok (i := 23) (by decide +kernel), zx_wd_ok (i := 1) (by decide +kernel), rfl, rfl, by decide +kernel⟩
theorem zx_cl12 : zx_ClP 12 RX12 TX12 80 := ⟨zx_allIn (by decide +kernel), tyX12_ok, nmX12, zx_wd_ok (i := 1626) (by decide +kernel), zx_wd_ok (i := 14) (by decide +kernel), rfl, rfl, by decide +kernel⟩
theorem zx_clOk : ∀ {ci : Nat} {C : String} {T : u_T} {N : Nat}, zx_clL[ci]? = some (C, T, N) → zx_ClP ci C T N
  | 0, _, _, _, h => by cases h; exact zx_cl0
  | 1, _, _, _, h => by cases h; exact zx_cl1
  | 2, _, _, _, h => by cases h; exact zx_cl2
  | 3, _, _, _, h => by cases h; exact zx_cl3
  | 4, _, _, _, h => by cases h; exact zx_cl4
  | 5, _, _, _, h => by cases h; exact zx_cl5
  | 6, _, _, _, h => by cases h; exact zx_cl6
  | 7, _, _, _, h => by cases h; exact zx_cl7
  | 8, _, _, _, h => by cases h; exact zx_cl8
  | 9, _, _, _, h => by cases h; exact zx_cl9
  | 10, _, _, _, h => by cases h; exact zx_cl10
  | 11, _, _, _, h => by cases h; exact zx_cl11
  | 12, _, _, _, h => by cases h; exact zx_cl12
  | n + 13, _, _, _, h => by cases h
