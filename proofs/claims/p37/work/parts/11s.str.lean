/-! THE JDK'S STRING at one literal, the reader's words: length, charAt by contract; the two steps of the exact machine -/
def zs_I (a v : Nat) (A : Nat → Prop) (U : State) (H : Heap) : Prop := va_O "java/lang/String" a A U H ∧ va_OF "java/lang/String" "coder" "B" (.int 0) a A U H ∧ va_OF "java/lang/String" "value" "[B" (.ref v) a A U H ∧ va_T .byte v 108 (fun j => .int (zx_chr j)) A U H ∧ va_Z "java/lang/String" "COMPACT_STRINGS" "Z" (.int 1) A U H ∧ va_Zq "jdk/internal/util/Preconditions" "SIOOBE_FORMATTER" "Ljava/util/function/BiFunction;" A U H
theorem zs_I.moved {a v : Nat} {A : Nat → Prop} {u U : State} {H : Heap} (hvm : u.vm.Alike U.vm) (h : zs_I a v A u H) : zs_I a v A U H := ⟨va_O.moved hvm h.1, va_OF.moved hvm h.2.1, va_OF.moved hvm h.2.2.1, va_T.moved hvm h.2.2.2.1, va_Z.moved hvm h.2.2.2.2.1, va_Zq.moved hvm h.2.2.2.2.2⟩
theorem zs_I.kept {a v : Nat} {A : Nat → Prop} {U : State} {H H1 : Heap} (h : zs_I a v A U H) (hq : ∀ a : Nat, a < H.size → ¬ A a → H1[a]? = H[a]?) : zs_I a v A U H1 := ⟨h.1.kept hq, h.2.1.kept hq, h.2.2.1.kept hq, h.2.2.2.1.kept hq, h.2.2.2.2.1.kept hq, h.2.2.2.2.2.kept hq⟩
theorem zs_I.narrow {a v : Nat} {A B : Nat → Prop} {U : State} {H : Heap} (h : zs_I a v A U H) (hAB : ∀ q, B q → A q) : zs_I a v B U H := ⟨h.1.narrow hAB, h.2.1.narrow hAB, h.2.2.1.narrow hAB, h.2.2.2.1.narrow hAB, h.2.2.2.2.1.narrow hAB, h.2.2.2.2.2.narrow hAB⟩
def zs_B (a v : Nat) : State → Prop := fun U => zs_I a v (fun _ => False) U U.heap
def zs_Q (r : Option Value) : Array Value → State → Outcome → State → Prop := fun _ st oc t => oc = .returned r ∧ t.heap = st.heap
def zs_r (k : Nat) : Room := { frames := k, cells := 0, slots := 0, locals := 64 * k }
def zs_y1 : MethodName := ⟨"jdk/internal/util/Preconditions", "checkIndex", "(IILjava/util/function/BiFunction;)I"⟩
def zs_y2 : MethodName := ⟨"java/lang/String", "checkIndex", "(II)V"⟩
def zs_y3 : MethodName := ⟨"java/lang/StringLatin1", "charAt", "([BI)C"⟩
def zs_y4 : MethodName := ⟨"java/lang/String", "coder", "()B"⟩
def zs_y5 : MethodName := ⟨"java/lang/String", "isLatin1", "()Z"⟩
def zs_y6 : MethodName := ⟨"java/lang/String", "length", "()I"⟩
def zs_y7 : MethodName := ⟨"java/lang/String", "charAt", "(I)C"⟩
theorem zs_d1_0 : decode prog_22_method_11_code 0 = .ok (.iload_n 0, 1) := by decide +kernel
theorem zs_d1_1 : decode prog_22_method_11_code 1 = .ok (.ifCond .lt 8, 3) := by decide +kernel
theorem zs_d1_4 : decode prog_22_method_11_code 4 = .ok (.iload_n 0, 1) := by decide +kernel
theorem zs_d1_5 : decode prog_22_method_11_code 5 = .ok (.iload_n 1, 1) := by decide +kernel
theorem zs_d1_6 : decode prog_22_method_11_code 6 = .ok (.if_icmp .lt 10, 3) := by decide +kernel
theorem zs_d1_9 : decode prog_22_method_11_code 9 = .ok (.aload_n 2, 1) := by decide +kernel
theorem zs_d1_10 : decode prog_22_method_11_code 10 = .ok (.iload_n 0, 1) := by decide +kernel
theorem zs_d1_11 : decode prog_22_method_11_code 11 = .ok (.iload_n 1, 1) := by decide +kernel
theorem zs_d1_12 : decode prog_22_method_11_code 12 = .ok (.invokestatic 95, 3) := by decide +kernel
theorem zs_d1_15 : decode prog_22_method_11_code 15 = .ok (.athrow, 1) := by decide +kernel
theorem zs_d1_16 : decode prog_22_method_11_code 16 = .ok (.iload_n 0, 1) := by decide +kernel
theorem zs_d1_17 : decode prog_22_method_11_code 17 = .ok (.ireturn, 1) := by decide +kernel
theorem zs_d2_0 : decode prog_17_method_155_code 0 = .ok (.iload_n 0, 1) := by decide +kernel
theorem zs_d2_1 : decode prog_17_method_155_code 1 = .ok (.iload_n 1, 1) := by decide +kernel
theorem zs_d2_2 : decode prog_17_method_155_code 2 = .ok (.getstatic 1053, 3) := by decide +kernel
theorem zs_d2_5 : decode prog_17_method_155_code 5 = .ok (.invokestatic 1059, 3) := by decide +kernel
theorem zs_d2_8 : decode prog_17_method_155_code 8 = .ok (.pop, 1) := by decide +kernel
theorem zs_d2_9 : decode prog_17_method_155_code 9 = .ok (.return_, 1) := by decide +kernel
theorem zs_d3_0 : decode prog_18_method_2_code 0 = .ok (.iload_n 1, 1) := by decide +kernel
theorem zs_d3_1 : decode prog_18_method_2_code 1 = .ok (.aload_n 0, 1) := by decide +kernel
theorem zs_d3_2 : decode prog_18_method_2_code 2 = .ok (.arraylength, 1) := by decide +kernel
theorem zs_d3_3 : decode prog_18_method_2_code 3 = .ok (.invokestatic 9, 3) := by decide +kernel
theorem zs_d3_6 : decode prog_18_method_2_code 6 = .ok (.aload_n 0, 1) := by decide +kernel
theorem zs_d3_7 : decode prog_18_method_2_code 7 = .ok (.iload_n 1, 1) := by decide +kernel
theorem zs_d3_8 : decode prog_18_method_2_code 8 = .ok (.baload, 1) := by decide +kernel
theorem zs_d3_9 : decode prog_18_method_2_code 9 = .ok (.sipush 255, 3) := by decide +kernel
theorem zs_d3_12 : decode prog_18_method_2_code 12 = .ok (.iand, 1) := by decide +kernel
theorem zs_d3_13 : decode prog_18_method_2_code 13 = .ok (.i2c, 1) := by decide +kernel
theorem zs_d3_14 : decode prog_18_method_2_code 14 = .ok (.ireturn, 1) := by decide +kernel
theorem zs_d4_0 : decode prog_17_method_152_code 0 = .ok (.getstatic 38, 3) := by decide +kernel
theorem zs_d4_3 : decode prog_17_method_152_code 3 = .ok (.ifCond .eq 10, 3) := by decide +kernel
theorem zs_d4_6 : decode prog_17_method_152_code 6 = .ok (.aload_n 0, 1) := by decide +kernel
theorem zs_d4_7 : decode prog_17_method_152_code 7 = .ok (.getfield 15, 3) := by decide +kernel
theorem zs_d4_10 : decode prog_17_method_152_code 10 = .ok (.goto 4, 3) := by decide +kernel
theorem zs_d4_13 : decode prog_17_method_152_code 13 = .ok (.iconst 1, 1) := by decide +kernel
theorem zs_d4_14 : decode prog_17_method_152_code 14 = .ok (.ireturn, 1) := by decide +kernel
theorem zs_d5_0 : decode prog_17_method_154_code 0 = .ok (.getstatic 38, 3) := by decide +kernel
theorem zs_d5_3 : decode prog_17_method_154_code 3 = .ok (.ifCond .eq 14, 3) := by decide +kernel
theorem zs_d5_6 : decode prog_17_method_154_code 6 = .ok (.aload_n 0, 1) := by decide +kernel
theorem zs_d5_7 : decode prog_17_method_154_code 7 = .ok (.getfield 15, 3) := by decide +kernel
theorem zs_d5_10 : decode prog_17_method_154_code 10 = .ok (.ifCond .ne 7, 3) := by decide +kernel
theorem zs_d5_13 : decode prog_17_method_154_code 13 = .ok (.iconst 1, 1) := by decide +kernel
theorem zs_d5_14 : decode prog_17_method_154_code 14 = .ok (.goto 4, 3) := by decide +kernel
theorem zs_d5_17 : decode prog_17_method_154_code 17 = .ok (.iconst 0, 1) := by decide +kernel
theorem zs_d5_18 : decode prog_17_method_154_code 18 = .ok (.ireturn, 1) := by decide +kernel
theorem zs_d6_0 : decode prog_17_method_54_code 0 = .ok (.aload_n 0, 1) := by decide +kernel
theorem zs_d6_1 : decode prog_17_method_54_code 1 = .ok (.getfield 9, 3) := by decide +kernel
theorem zs_d6_4 : decode prog_17_method_54_code 4 = .ok (.arraylength, 1) := by decide +kernel
theorem zs_d6_5 : decode prog_17_method_54_code 5 = .ok (.aload_n 0, 1) := by decide +kernel
theorem zs_d6_6 : decode prog_17_method_54_code 6 = .ok (.invokevirtual 335, 3) := by decide +kernel
theorem zs_d6_9 : decode prog_17_method_54_code 9 = .ok (.ishr, 1) := by decide +kernel
theorem zs_d6_10 : decode prog_17_method_54_code 10 = .ok (.ireturn, 1) := by decide +kernel
theorem zs_d7_0 : decode prog_17_method_56_code 0 = .ok (.aload_n 0, 1) := by decide +kernel
theorem zs_d7_1 : decode prog_17_method_56_code 1 = .ok (.invokevirtual 492, 3) := by decide +kernel
theorem zs_d7_4 : decode prog_17_method_56_code 4 = .ok (.ifCond .eq 12, 3) := by decide +kernel
theorem zs_d7_7 : decode prog_17_method_56_code 7 = .ok (.aload_n 0, 1) := by decide +kernel
theorem zs_d7_8 : decode prog_17_method_56_code 8 = .ok (.getfield 9, 3) := by decide +kernel
theorem zs_d7_11 : decode prog_17_method_56_code 11 = .ok (.iload_n 1, 1) := by decide +kernel
theorem zs_d7_12 : decode prog_17_method_56_code 12 = .ok (.invokestatic 495, 3) := by decide +kernel
theorem zs_d7_15 : decode prog_17_method_56_code 15 = .ok (.ireturn, 1) := by decide +kernel
theorem zs_d7_16 : decode prog_17_method_56_code 16 = .ok (.aload_n 0, 1) := by decide +kernel
theorem zs_d7_17 : decode prog_17_method_56_code 17 = .ok (.getfield 9, 3) := by decide +kernel
theorem zs_d7_20 : decode prog_17_method_56_code 20 = .ok (.iload_n 1, 1) := by decide +kernel
theorem zs_d7_21 : decode prog_17_method_56_code 21 = .ok (.invokestatic 498, 3) := by decide +kernel
theorem zs_d7_24 : decode prog_17_method_56_code 24 = .ok (.ireturn, 1) := by decide +kernel
theorem zs_calling {av : List Value} {a v : Nat} : FrameBlind (va_Pc av (zs_B a v)) := by
  intro x U g mk q
  exact ⟨q.1, zs_I.moved (u := U) (U := U.calling g mk x) (Vm.Alike.refl U.vm) q.2⟩
theorem zs_warm {s : State} {H : Heap} {a v : Nat} (h : zs_I a v (fun _ => False) s H) (av : List Value) : ∀ U : State, U.heap = H → s.WarmedH U.vm → va_Pc av (zs_B a v) av.toArray U := fun U hU hW => ⟨rfl, by
  show zs_I a v (fun _ => False) U U.heap
  rw [hU]
  exact zs_I.moved hW.alike h⟩
theorem zs_recv {s : State} {H : Heap} {a v : Nat} {A : Nat → Prop} (h : zs_I a v A s H) : ∃ cell : Cell, H[a]? = some cell ∧ cell.vm.isStatics = false ∧ s.vm.findClass "java/lang/String" = some cell.cls := by
  obtain ⟨cell, h1, h2, h3, -⟩ := h.1
  exact ⟨cell, h1, h2, h3⟩
theorem zs_good (w : Cond) (hw : w ∈ zx_TS) : GoodIn zx_TS (w :: zx_TS) := fun x h => by
  rcases List.mem_cons.mp h with e | e
  · rw [e]; exact zx_goodTS _ hw
  · exact zx_goodTS _ e
section zsRun
variable {p : Program} {l : Launch} {e : Env} {R : Room} {s : State} {m : MethodId} {args : Array Value} {below : List Frame} {meth : Method} {c : Code} {Q : State → Prop} {H : Heap} {locs : List Loc} {cells slots pc nL : Nat} {ls : Array Slot} {cc : ByteArray}
theorem zs_go {st0 rest : List Value} {r : Option Value} {a : Array Value} (hr : va_Run p l e R s m args below meth c H locs cells slots 0 0 (F0 m pc ls st0) rest (zs_Q r a) (fun _ => False)) (kk : W p l e R s m args below meth c H locs cells slots Q (F0 m (pc + 3) ls (r.toList ++ rest))) : W p l e R s m args below meth c H locs cells slots Q (F0 m pc ls st0) := by
  intro T hT X
  obtain ⟨v, st₀, t, T', L, h0, X', hL, e1, e2, ⟨q1, q2⟩, st⟩ := hr T hT X
  have hn : L = [] := List.eq_nil_iff_forall_not_mem.mpr (fun q hq => hL q hq)
  subst hn
  rw [List.append_nil] at X'
  cases q1
  obtain ⟨t2, a1, b1⟩ := kk T' (e1.trans (q2.trans h0)) X'
  exact ⟨t2, st t2 a1, b1⟩
/-- a static method's call -/
theorem zs_callS {own : String} {y : MethodName} {bytes : ByteArray} {maxL n index k a v : Nat} {ret : Option FieldType} {As rest : List Value} {r : Option Value} (hx : p.tables.exec = Jvm.exec) (hb : c.code = cc) (hml : c.maxLocals = nL) (hown : s.vm.findClass own = some m.cls) (hts : ∀ w ∈ zx_TS, w.before args s = true)
    (hM : Met l y (Cond.code y bytes maxL ret :: zx_TS) (zs_r k) (va_Pc As (zs_B a v)) (zs_Q r) 0 0 (fun _ => False)) (hcode : Cond.code y bytes maxL ret ∈ zx_TS) (hini : Cond.initialized y.cls ∈ zx_TS) (hlk : Cond.methodLink own index y ∈ zx_TS) (hst : Cond.static y ∈ zx_TS) (hd : y.cls ≠ "java/lang/invoke/MethodHandle" ∧ y.cls ≠ "java/lang/invoke/VarHandle" ∧ (parseMethodDescriptor y.desc).map (fun d => d.parameters.length) = some n) (hm : maxL ≤ 3) (hfr : k + 1 ≤ R.frames) (hlo : 64 * (k + 1) ≤ R.locals) (hI : zs_I a v (fun _ => False) s H) (hn : As.length = n) (hls : ls.size = nL) (h8 : (rest.map fun v => v.category).sum ≤ 8) (hdg : decode cc pc = .ok (.invokestatic index, 3)) (hc : cells ≤ R.cells) (hs : slots ≤ R.slots)
    (kk : W p l e R s m args below meth c H locs cells slots Q (F0 m (pc + 3) ls (r.toList ++ rest))) : W p l e R s m args below meth c H locs cells slots Q (F0 m pc ls (As.reverse ++ rest)) :=
  zs_go (va_runS ⟨hx, hb, hml, hown, hts⟩ hM ⟨callB_of n hts (zs_good _ hcode) rfl rfl rfl (hts _ hini) (hts _ hlk) hd ⟨hfr, by show 8 + (maxL + 11) + 64 * k ≤ R.locals; omega⟩, hts _ hst⟩ ⟨zs_calling, zs_warm hI As⟩ rfl hn hls rfl (lv_room h8) hdg ⟨hc, hs⟩) kk
/-- a call of the String -/
theorem zs_callV {own : String} {y : MethodName} {bytes : ByteArray} {maxL n index k a v : Nat} {ret : Option FieldType} {As rest : List Value} {r : Option Value} (hx : p.tables.exec = Jvm.exec) (hb : c.code = cc) (hml : c.maxLocals = nL) (hown : s.vm.findClass own = some m.cls) (hts : ∀ w ∈ zx_TS, w.before args s = true)
    (hM : Met l y (Cond.code y bytes maxL ret :: zx_TS) (zs_r k) (va_Pc (.ref a :: As) (zs_B a v)) (zs_Q r) 0 0 (fun _ => False)) (hcode : Cond.code y bytes maxL ret ∈ zx_TS) (hini : Cond.initialized y.cls ∈ zx_TS) (hlk : Cond.methodLink own index y ∈ zx_TS) (hin : Cond.instanceMethod y ∈ zx_TS) (hse : Cond.selects "java/lang/String" y y ∈ zx_TS) (hd : y.cls ≠ "java/lang/invoke/MethodHandle" ∧ y.cls ≠ "java/lang/invoke/VarHandle" ∧ (parseMethodDescriptor y.desc).map (fun d => d.parameters.length) = some n) (hm : maxL ≤ 3) (hfr : k + 1 ≤ R.frames) (hlo : 64 * (k + 1) ≤ R.locals) (hI : zs_I a v (fun _ => False) s H) (hn : As.length = n) (hls : ls.size = nL) (h8 : (rest.map fun v => v.category).sum ≤ 8) (hdg : decode cc pc = .ok (.invokevirtual index, 3)) (hc : cells ≤ R.cells) (hs : slots ≤ R.slots)
    (kk : W p l e R s m args below meth c H locs cells slots Q (F0 m (pc + 3) ls (r.toList ++ rest))) : W p l e R s m args below meth c H locs cells slots Q (F0 m pc ls (As.reverse ++ .ref a :: rest)) :=
  zs_go (va_runV (b := a) ⟨hx, hb, hml, hown, hts⟩ hM ⟨callB_of n hts (zs_good _ hcode) rfl rfl rfl (hts _ hini) (hts _ hlk) hd ⟨hfr, by show 8 + (maxL + 11) + 64 * k ≤ R.locals; omega⟩, hts _ hin, hts _ hse⟩ ⟨zs_calling, zs_recv hI, zs_warm hI (.ref a :: As)⟩ rfl hn hls rfl (lv_room h8) hdg ⟨hc, hs⟩) kk
end zsRun
theorem zs_lt108 {i : Int32} (h : ¬ (i < 0 ∨ 108 ≤ i.toNatClampNeg)) : ¬ i < 0 ∧ i < 108 := by
  have h0 : ¬ i < 0 := fun q => h (Or.inl q)
  have h1 : i.toNatClampNeg < 108 := Nat.not_le.mp (fun q => h (Or.inr q))
  refine ⟨h0, ?_⟩
  rw [Int32.lt_iff_toInt_lt]
  have e : (108 : Int32).toInt = 108 := by decide
  have e2 : i.toNatClampNeg = i.toInt.toNat := rfl
  omega
theorem zs_chr : ∀ j, j < 108 → ((zx_chr j &&& 255).toUInt32 % 65536).toInt32 = zx_chr j ∧ narrow .char (.int (zx_chr j)) = .int (zx_chr j) := by
  have h : (List.range 108).all (fun j => decide (((zx_chr j &&& 255).toUInt32 % 65536).toInt32 = zx_chr j) && decide (narrow .char (.int (zx_chr j)) = .int (zx_chr j))) = true := by decide +kernel
  intro j hj
  have h1 := List.all_eq_true.mp h j (List.mem_range.mpr hj)
  rw [Bool.and_eq_true] at h1
  exact ⟨of_decide_eq_true h1.1, of_decide_eq_true h1.2⟩
theorem zs_m1 (l : Launch) {a v : Nat} {i n : Int32} {f : Value} (hf : f = .null ∨ ∃ t, f = .ref t) (h0 : ¬ i < 0) (h1 : i < n) : Met l zs_y1 (Cond.code zs_y1 prog_22_method_11_code 3 (some .int) :: zx_TS) (zs_r 0) (va_Pc [.int i, .int n, f] (zs_B a v)) (zs_Q (some (.int i))) 0 0 (fun _ => False) := by
  refine Met.ofW (cc := prog_22_method_11_code) (maxL := 3) (ret := some .int) (by decide +kernel) rfl ?_
  intro p e s m args below meth c s₁ B hml hv
  obtain ⟨rfl, hI⟩ := hv
  have hx := B.exec
  have hb := B.bytes
  have hr := B.returns
  have hlocks := B.notSynchronized
  have hl := lv_entry ([.int i, .int n, f]) (n := 3) (by rcases hf with rfl | ⟨t, rfl⟩ <;> exact Nat.le_of_ble_eq_true rfl)
  rw [lg_entry_eq]
  generalize (lg_sl ([.int i, .int n, f]) ++ List.replicate (3 - (lg_sl ([.int i, .int n, f])).length) Slot.unset).toArray = ls at hl ⊢
  have hl : lv_has ls 3 [(0, .int i), (1, .int n), (2, f)] := hl
  refine lv_iload_n hx hb zs_d1_0 rfl (lv_at hl 0 rfl) ?_
  refine lv_if_lt hx hb (tgt := 9) zs_d1_1 rfl (fun h => absurd h h0) (fun _ => ?_)
  refine lv_iload_n hx hb zs_d1_4 rfl (lv_at hl 0 rfl) ?_
  refine lv_iload_n hx hb zs_d1_5 rfl (lv_at hl 1 rfl) ?_
  refine lv_icmp_lt hx hb (tgt := 16) zs_d1_6 rfl (fun _ => ?_) (fun h => absurd h1 h)
  refine lv_iload_n hx hb zs_d1_16 rfl (lv_at hl 0 rfl) ?_
  exact W.iret (v := i) hx hb hr (fun t ht hW => ⟨rfl, ht⟩) (fun _ h => by cases h) zs_d1_17
theorem zs_m2 (l : Launch) {a v : Nat} {i n : Int32} (h0 : ¬ i < 0) (h1 : i < n) : Met l zs_y2 (Cond.code zs_y2 prog_17_method_155_code 2 none :: zx_TS) (zs_r 1) (va_Pc [.int i, .int n] (zs_B a v)) (zs_Q none) 0 0 (fun _ => False) := by
  refine Met.ofW (cc := prog_17_method_155_code) (maxL := 2) (ret := none) (by decide +kernel) rfl ?_
  intro p e s m args below meth c s₁ B hml hv
  obtain ⟨rfl, hI⟩ := hv
  have hx := B.exec
  have hb := B.bytes
  have hr := B.returns
  have hlocks := B.notSynchronized
  have hts : ∀ w ∈ zx_TS, w.before [.int i, .int n].toArray s = true := fun w hw => atoms_spec (ws := Cond.code zs_y2 prog_17_method_155_code 2 none :: zx_TS) B.pre w (List.mem_cons_of_mem _ hw)
  have hown : s.vm.findClass "java/lang/String" = some m.cls := findClass_of_methodNamed B.named
  have hS : va_S (fun _ => False) s.heap s.heap [] := va_S.rf
  have hl := lv_entry ([.int i, .int n]) (n := 2) (Nat.le_of_ble_eq_true rfl)
  rw [lg_entry_eq]
  generalize (lg_sl ([.int i, .int n]) ++ List.replicate (2 - (lg_sl ([.int i, .int n])).length) Slot.unset).toArray = ls at hl ⊢
  have hl : lv_has ls 2 [(0, .int i), (1, .int n)] := hl
  refine lv_iload_n hx hb zs_d2_0 rfl (lv_at hl 0 rfl) ?_
  refine lv_iload_n hx hb zs_d2_1 rfl (lv_at hl 1 rfl) ?_
  have key : ∀ f : Value, (f = .null ∨ ∃ t, f = .ref t) → va_Z "jdk/internal/util/Preconditions" "SIOOBE_FORMATTER" "Ljava/util/function/BiFunction;" f (fun _ => False) s s.heap → W p l e (headSpec (Cond.code zs_y2 prog_17_method_155_code 2 none :: zx_TS) (zs_r 1)).room s m [.int i, .int n].toArray below meth c s.heap [] 0 0 (MQ below (zs_Q none) [.int i, .int n].toArray s 0 0 (fun _ => False)) (F0 m 2 ls [.int n, .int i]) := by
    intro f hf hZ
    refine va_gets hx hb hZ hS hown (hts _ (zx_wd_ok (i := 610) (by decide +kernel))) (fun _ h => h) zs_d2_2 ?_
    refine zs_callS (rest := []) (As := [.int i, .int n, f]) (n := 3) hx hb hml hown hts (zs_m1 l hf h0 h1) (zx_in_TS (zx_inT3 (List.mem_of_getElem? (i := 134) rfl)) rfl) (zx_wd_ok (i := 17) (by decide +kernel)) (zx_wd_ok (i := 612) (by decide +kernel)) (zx_wd_ok (i := 613) (by decide +kernel)) ⟨by decide, by decide, by decide +kernel⟩ (by decide) (Nat.le_refl _) (Nat.le_refl _) hI rfl hl.1 (by decide) zs_d2_5 (Nat.le_refl _) (Nat.le_refl _) ?_
    refine lv_pop hx hb zs_d2_8 rfl ?_
    exact W.vret hx hb hr (fun t ht hW => ⟨rfl, ht⟩) (fun _ h => by cases h) zs_d2_9
  rcases hI.2.2.2.2.2 with hZ | ⟨t, hZ⟩
  · exact key .null (Or.inl rfl) hZ
  · exact key (.ref t) (Or.inr ⟨t, rfl⟩) hZ
theorem zs_m3 (l : Launch) {a v : Nat} {i : Int32} (hi : ¬ (i < 0 ∨ 108 ≤ i.toNatClampNeg)) : Met l zs_y3 (Cond.code zs_y3 prog_18_method_2_code 2 (some .char) :: zx_TS) (zs_r 2) (va_Pc [.ref v, .int i] (zs_B a v)) (zs_Q (some (.int (zx_chr i.toNatClampNeg)))) 0 0 (fun _ => False) := by
  refine Met.ofW (cc := prog_18_method_2_code) (maxL := 2) (ret := some .char) (by decide +kernel) rfl ?_
  intro p e s m args below meth c s₁ B hml hv
  obtain ⟨rfl, hI⟩ := hv
  have hx := B.exec
  have hb := B.bytes
  have hr := B.returns
  have hlocks := B.notSynchronized
  have hts : ∀ w ∈ zx_TS, w.before [.ref v, .int i].toArray s = true := fun w hw => atoms_spec (ws := Cond.code zs_y3 prog_18_method_2_code 2 (some .char) :: zx_TS) B.pre w (List.mem_cons_of_mem _ hw)
  have hown : s.vm.findClass "java/lang/StringLatin1" = some m.cls := findClass_of_methodNamed B.named
  have hS : va_S (fun _ => False) s.heap s.heap [] := va_S.rf
  have hl := lv_entry ([.ref v, .int i]) (n := 2) (Nat.le_of_ble_eq_true rfl)
  rw [lg_entry_eq]
  generalize (lg_sl ([.ref v, .int i]) ++ List.replicate (2 - (lg_sl ([.ref v, .int i])).length) Slot.unset).toArray = ls at hl ⊢
  have hl : lv_has ls 2 [(0, .ref v), (1, .int i)] := hl
  have hlt : i.toNatClampNeg < 108 := Nat.not_le.mp (fun q => hi (Or.inr q))
  refine lv_iload_n hx hb zs_d3_0 rfl (lv_at hl 1 rfl) ?_
  refine lv_aload_n hx hb zs_d3_1 rfl (lv_at hl 0 rfl) ?_
  refine va_tlen hx hb hI.2.2.2.1 hS (v := 108) rfl zs_d3_2 ?_
  refine zs_callS (rest := []) (As := [.int i, .int 108]) (n := 2) hx hb hml hown hts (zs_m2 l (zs_lt108 hi).1 (zs_lt108 hi).2) (zx_in_TS (zx_inT3 (List.mem_of_getElem? (i := 129) rfl)) rfl) (zx_wd_ok (i := 15) (by decide +kernel)) (zx_wd_ok (i := 607) (by decide +kernel)) (zx_wd_ok (i := 608) (by decide +kernel)) ⟨by decide, by decide, by decide +kernel⟩ (by decide) (Nat.le_refl _) (Nat.le_refl _) hI rfl hl.1 (by decide) zs_d3_3 (Nat.le_refl _) (Nat.le_refl _) ?_
  refine lv_aload_n hx hb zs_d3_6 rfl (lv_at hl 0 rfl) ?_
  refine lv_iload_n hx hb zs_d3_7 rfl (lv_at hl 1 rfl) ?_
  refine va_tb hx hb hI.2.2.2.1 hS hi (v := .int (zx_chr i.toNatClampNeg)) rfl zs_d3_8 ?_
  refine lv_sipush hx hb zs_d3_9 (v := 255) rfl ?_
  refine lv_iand hx hb zs_d3_12 ?_
  refine lv_i2c hx hb zs_d3_13 (zs_chr _ hlt).1 ?_
  exact W.zret (ty := .char) hx hb hr (zs_chr _ hlt).2 (fun t ht hW => ⟨rfl, ht⟩) (fun _ h => by cases h) zs_d3_14
theorem zs_m4 (l : Launch) {a v : Nat} : Met l zs_y4 (Cond.code zs_y4 prog_17_method_152_code 1 (some .byte) :: zx_TS) (zs_r 0) (va_Pc [.ref a] (zs_B a v)) (zs_Q (some (.int 0))) 0 0 (fun _ => False) := by
  refine Met.ofW (cc := prog_17_method_152_code) (maxL := 1) (ret := some .byte) (by decide +kernel) rfl ?_
  intro p e s m args below meth c s₁ B hml hv
  obtain ⟨rfl, hI⟩ := hv
  have hx := B.exec
  have hb := B.bytes
  have hr := B.returns
  have hlocks := B.notSynchronized
  have hts : ∀ w ∈ zx_TS, w.before [.ref a].toArray s = true := fun w hw => atoms_spec (ws := Cond.code zs_y4 prog_17_method_152_code 1 (some .byte) :: zx_TS) B.pre w (List.mem_cons_of_mem _ hw)
  have hown : s.vm.findClass "java/lang/String" = some m.cls := findClass_of_methodNamed B.named
  have hS : va_S (fun _ => False) s.heap s.heap [] := va_S.rf
  have hl := lv_entry ([.ref a]) (n := 1) (Nat.le_of_ble_eq_true rfl)
  rw [lg_entry_eq]
  generalize (lg_sl ([.ref a]) ++ List.replicate (1 - (lg_sl ([.ref a])).length) Slot.unset).toArray = ls at hl ⊢
  have hl : lv_has ls 1 [(0, .ref a)] := hl
  refine va_gets hx hb hI.2.2.2.2.1 hS hown (hts _ (zx_wd_ok (i := 594) (by decide +kernel))) (fun _ h => h) zs_d4_0 ?_
  refine lv_if_eq hx hb (tgt := 13) zs_d4_3 rfl (fun h => absurd h (by decide)) (fun _ => ?_)
  refine lv_aload_n hx hb zs_d4_6 rfl (lv_at hl 0 rfl) ?_
  refine vk_getf hx hb hI.2.1 hS hown (hts _ (zx_wd_ok (i := 2417) (by decide +kernel))) (fun _ h => h) zs_d4_7 ?_
  refine lv_goto hx hb (tgt := 14) zs_d4_10 rfl ?_
  exact W.zret (ty := .byte) hx hb hr (by decide +kernel) (fun t ht hW => ⟨rfl, ht⟩) (fun _ h => by cases h) zs_d4_14
theorem zs_m5 (l : Launch) {a v : Nat} : Met l zs_y5 (Cond.code zs_y5 prog_17_method_154_code 1 (some .boolean) :: zx_TS) (zs_r 0) (va_Pc [.ref a] (zs_B a v)) (zs_Q (some (.int 1))) 0 0 (fun _ => False) := by
  refine Met.ofW (cc := prog_17_method_154_code) (maxL := 1) (ret := some .boolean) (by decide +kernel) rfl ?_
  intro p e s m args below meth c s₁ B hml hv
  obtain ⟨rfl, hI⟩ := hv
  have hx := B.exec
  have hb := B.bytes
  have hr := B.returns
  have hlocks := B.notSynchronized
  have hts : ∀ w ∈ zx_TS, w.before [.ref a].toArray s = true := fun w hw => atoms_spec (ws := Cond.code zs_y5 prog_17_method_154_code 1 (some .boolean) :: zx_TS) B.pre w (List.mem_cons_of_mem _ hw)
  have hown : s.vm.findClass "java/lang/String" = some m.cls := findClass_of_methodNamed B.named
  have hS : va_S (fun _ => False) s.heap s.heap [] := va_S.rf
  have hl := lv_entry ([.ref a]) (n := 1) (Nat.le_of_ble_eq_true rfl)
  rw [lg_entry_eq]
  generalize (lg_sl ([.ref a]) ++ List.replicate (1 - (lg_sl ([.ref a])).length) Slot.unset).toArray = ls at hl ⊢
  have hl : lv_has ls 1 [(0, .ref a)] := hl
  refine va_gets hx hb hI.2.2.2.2.1 hS hown (hts _ (zx_wd_ok (i := 594) (by decide +kernel))) (fun _ h => h) zs_d5_0 ?_
  refine lv_if_eq hx hb (tgt := 17) zs_d5_3 rfl (fun h => absurd h (by decide)) (fun _ => ?_)
  refine lv_aload_n hx hb zs_d5_6 rfl (lv_at hl 0 rfl) ?_
  refine vk_getf hx hb hI.2.1 hS hown (hts _ (zx_wd_ok (i := 2417) (by decide +kernel))) (fun _ h => h) zs_d5_7 ?_
  refine lv_if_ne hx hb (tgt := 17) zs_d5_10 rfl (fun h => absurd rfl h) (fun _ => ?_)
  refine lv_iconst hx hb zs_d5_13 (v := 1) rfl ?_
  refine lv_goto hx hb (tgt := 18) zs_d5_14 rfl ?_
  exact W.zret (ty := .boolean) hx hb hr (by decide +kernel) (fun t ht hW => ⟨rfl, ht⟩) (fun _ h => by cases h) zs_d5_18
theorem zs_m6 (l : Launch) {a v : Nat} : Met l zs_y6 (Cond.code zs_y6 prog_17_method_54_code 1 (some .int) :: zx_TS) (zs_r 1) (va_Pc [.ref a] (zs_B a v)) (zs_Q (some (.int 108))) 0 0 (fun _ => False) := by
  refine Met.ofW (cc := prog_17_method_54_code) (maxL := 1) (ret := some .int) (by decide +kernel) rfl ?_
  intro p e s m args below meth c s₁ B hml hv
  obtain ⟨rfl, hI⟩ := hv
  have hx := B.exec
  have hb := B.bytes
  have hr := B.returns
  have hlocks := B.notSynchronized
  have hts : ∀ w ∈ zx_TS, w.before [.ref a].toArray s = true := fun w hw => atoms_spec (ws := Cond.code zs_y6 prog_17_method_54_code 1 (some .int) :: zx_TS) B.pre w (List.mem_cons_of_mem _ hw)
  have hown : s.vm.findClass "java/lang/String" = some m.cls := findClass_of_methodNamed B.named
  have hS : va_S (fun _ => False) s.heap s.heap [] := va_S.rf
  have hl := lv_entry ([.ref a]) (n := 1) (Nat.le_of_ble_eq_true rfl)
  rw [lg_entry_eq]
  generalize (lg_sl ([.ref a]) ++ List.replicate (1 - (lg_sl ([.ref a])).length) Slot.unset).toArray = ls at hl ⊢
  have hl : lv_has ls 1 [(0, .ref a)] := hl
  refine lv_aload_n hx hb zs_d6_0 rfl (lv_at hl 0 rfl) ?_
  refine vk_getf hx hb hI.2.2.1 hS hown (hts _ (zx_wd_ok (i := 2416) (by decide +kernel))) (fun _ h => h) zs_d6_1 ?_
  refine va_tlen hx hb hI.2.2.2.1 hS (v := 108) rfl zs_d6_4 ?_
  refine lv_aload_n hx hb zs_d6_5 rfl (lv_at hl 0 rfl) ?_
  refine zs_callV (rest := [.int 108]) (As := []) (n := 0) hx hb hml hown hts (zs_m4 l) (zx_in_TS (zx_inT3 (List.mem_of_getElem? (i := 113) rfl)) rfl) (zx_wd_ok (i := 15) (by decide +kernel)) (zx_wd_ok (i := 590) (by decide +kernel)) (zx_wd_ok (i := 591) (by decide +kernel)) (zx_wd_ok (i := 592) (by decide +kernel)) ⟨by decide, by decide, by decide +kernel⟩ (by decide) (Nat.le_refl _) (Nat.le_refl _) hI rfl hl.1 (by decide) zs_d6_6 (Nat.le_refl _) (Nat.le_refl _) ?_
  refine lv_ishr hx hb zs_d6_9 ?_
  refine lv_topi (fun y hy => ?_)
  have hy : y = 108 := hy.trans (by decide +kernel)
  subst hy
  exact W.iret (v := 108) hx hb hr (fun t ht hW => ⟨rfl, ht⟩) (fun _ h => by cases h) zs_d6_10
theorem zs_m7 (l : Launch) {a v : Nat} {i : Int32} (hi : ¬ (i < 0 ∨ 108 ≤ i.toNatClampNeg)) : Met l zs_y7 (Cond.code zs_y7 prog_17_method_56_code 2 (some .char) :: zx_TS) (zs_r 3) (va_Pc [.ref a, .int i] (zs_B a v)) (zs_Q (some (.int (zx_chr i.toNatClampNeg)))) 0 0 (fun _ => False) := by
  refine Met.ofW (cc := prog_17_method_56_code) (maxL := 2) (ret := some .char) (by decide +kernel) rfl ?_
  intro p e s m args below meth c s₁ B hml hv
  obtain ⟨rfl, hI⟩ := hv
  have hx := B.exec
  have hb := B.bytes
  have hr := B.returns
  have hlocks := B.notSynchronized
  have hts : ∀ w ∈ zx_TS, w.before [.ref a, .int i].toArray s = true := fun w hw => atoms_spec (ws := Cond.code zs_y7 prog_17_method_56_code 2 (some .char) :: zx_TS) B.pre w (List.mem_cons_of_mem _ hw)
  have hown : s.vm.findClass "java/lang/String" = some m.cls := findClass_of_methodNamed B.named
  have hS : va_S (fun _ => False) s.heap s.heap [] := va_S.rf
  have hl := lv_entry ([.ref a, .int i]) (n := 2) (Nat.le_of_ble_eq_true rfl)
  rw [lg_entry_eq]
  generalize (lg_sl ([.ref a, .int i]) ++ List.replicate (2 - (lg_sl ([.ref a, .int i])).length) Slot.unset).toArray = ls at hl ⊢
  have hl : lv_has ls 2 [(0, .ref a), (1, .int i)] := hl
  have hlt : i.toNatClampNeg < 108 := Nat.not_le.mp (fun q => hi (Or.inr q))
  refine lv_aload_n hx hb zs_d7_0 rfl (lv_at hl 0 rfl) ?_
  refine zs_callV (rest := []) (As := []) (n := 0) (k := 0) hx hb hml hown hts (zs_m5 l) (zx_in_TS (zx_inT3 (List.mem_of_getElem? (i := 123) rfl)) rfl) (zx_wd_ok (i := 15) (by decide +kernel)) (zx_wd_ok (i := 600) (by decide +kernel)) (zx_wd_ok (i := 601) (by decide +kernel)) (zx_wd_ok (i := 602) (by decide +kernel)) ⟨by decide, by decide, by decide +kernel⟩ (by decide) (Nat.le_of_ble_eq_true rfl) (Nat.le_of_ble_eq_true rfl) hI rfl hl.1 (by decide) zs_d7_1 (Nat.le_refl _) (Nat.le_refl _) ?_
  refine lv_if_eq hx hb (tgt := 16) zs_d7_4 rfl (fun h => absurd h (by decide)) (fun _ => ?_)
  refine lv_aload_n hx hb zs_d7_7 rfl (lv_at hl 0 rfl) ?_
  refine vk_getf hx hb hI.2.2.1 hS hown (hts _ (zx_wd_ok (i := 2416) (by decide +kernel))) (fun _ h => h) zs_d7_8 ?_
  refine lv_iload_n hx hb zs_d7_11 rfl (lv_at hl 1 rfl) ?_
  refine zs_callS (rest := []) (As := [.ref v, .int i]) (n := 2) (k := 2) hx hb hml hown hts (zs_m3 l hi) (zx_in_TS (zx_inT3 (List.mem_of_getElem? (i := 126) rfl)) rfl) (zx_wd_ok (i := 16) (by decide +kernel)) (zx_wd_ok (i := 604) (by decide +kernel)) (zx_wd_ok (i := 605) (by decide +kernel)) ⟨by decide, by decide, by decide +kernel⟩ (by decide) (Nat.le_refl _) (Nat.le_refl _) hI rfl hl.1 (by decide) zs_d7_12 (Nat.le_refl _) (Nat.le_refl _) ?_
  exact W.zret (ty := .char) hx hb hr (zs_chr _ hlt).2 (fun t ht hW => ⟨rfl, ht⟩) (fun _ h => by cases h) zs_d7_15
/-- the literal -/
def zx_St (A : Nat → Prop) (U : State) (H : Heap) : Prop := ∃ a v : Nat, vk_R "TwoInOne$Reader" 226 "half  skill cares like  to    personof    turn  deed  joy   load  favourdraw  or    and   not   day   again " a U ∧ zs_I a v A U H
theorem zx_St.warm {A : Nat → Prop} {s U : State} {H : Heap} (hW : s.WarmedH U.vm) (h : zx_St A s H) : zx_St A U H := by
  obtain ⟨a, v, h1, h2⟩ := h
  exact ⟨a, v, h1.warm hW, h2.moved hW.alike⟩
theorem zx_St.same {A : Nat → Prop} {u U : State} {H : Heap} (hv : U.vm = u.vm) (h : zx_St A u H) : zx_St A U H := by
  obtain ⟨a, v, h1, h2⟩ := h
  exact ⟨a, v, h1.same hv, h2.moved (by rw [hv]; exact Vm.Alike.refl u.vm)⟩
theorem zx_St.kept {A : Nat → Prop} {U : State} {H H1 : Heap} (h : zx_St A U H) (hq : ∀ a : Nat, a < H.size → ¬ A a → H1[a]? = H[a]?) : zx_St A U H1 := by
  obtain ⟨a, v, h1, h2⟩ := h
  exact ⟨a, v, h1, h2.kept hq⟩
theorem zx_St.narrow {A B : Nat → Prop} {U : State} {H : Heap} (h : zx_St A U H) (hAB : ∀ q, B q → A q) : zx_St B U H := by
  obtain ⟨a, v, h1, h2⟩ := h
  exact ⟨a, v, h1, h2.narrow hAB⟩
section zsMac
variable {p : Program} {l : Launch} {e : Env} {R : Room} {s : State} {m : MethodId} {args : Array Value} {below : List Frame} {meth : Method} {c : Code} {Q : State → Prop} {D : va_G} {cA : Nat → ClassId} {A : Nat → Prop} {b nL : Nat} {ad0 : Nat → Nat} {m0 : Nat} {cc : ByteArray}
theorem zx_s_strL (hx : p.tables.exec = Jvm.exec) (hb : c.code = cc) (hml : c.maxLocals = nL) (hown : s.vm.findClass "TwoInOne$Reader" = some m.cls) (hts : ∀ w ∈ zx_TS, w.before args s = true) (hSt : zx_St A s s.heap) {cap : Nat × Nat} (hR : cap.1 ≤ R.cells ∧ cap.2 ≤ R.slots) (hfr : 4 ≤ R.frames) (hlo : 256 ≤ R.locals) {σ τ : zx_S} (hd1 : decode cc σ.1 = .ok (.ldc 226, 2)) (hd2 : decode cc (σ.1 + 2) = .ok (.invokevirtual 228, 3)) (h : zx_strL cap σ = some τ) (K : zx_Ok p l e R s m args below meth c Q D cA A b nL ad0 m0 τ) : zx_Ok p l e R s m args below meth c Q D cA A b nL ad0 m0 σ := by
  obtain ⟨pc, L, st, w, mc, ms⟩ := σ
  unfold zx_strL at h
  split at h
  next pc' L' st' w' mc' ms' heq =>
    cases heq
    split at h
    next hz =>
      cases h
      simp only [Bool.and_eq_true] at hz
      obtain ⟨z1, z2, z3⟩ := hz
      have z1 : st.length ≤ 4 := Nat.le_of_ble_eq_true z1
      have z2 : mc ≤ cap.1 := Nat.le_of_ble_eq_true z2
      have z3 : ms ≤ cap.2 := Nat.le_of_ble_eq_true z3
      obtain ⟨a, v, g1, g2⟩ := hSt
      intro ad H locs ls h3 h5 hP hD hS hl
      have hI : zs_I a v (fun _ => False) s H := (g2.kept hS.2.1).narrow (fun _ h => h.elim)
      refine va_ldcS hx hb hown g1 hd1 ?_
      refine zs_callV (rest := st.map (zx_cv ad b)) (As := []) (n := 0) (k := 1) hx hb hml hown hts (zs_m6 l) (zx_in_TS (zx_inT3 (List.mem_of_getElem? (i := 109) rfl)) rfl) (zx_wd_ok (i := 15) (by decide +kernel)) (zx_wd_ok (i := 586) (by decide +kernel)) (zx_wd_ok (i := 587) (by decide +kernel)) (zx_wd_ok (i := 588) (by decide +kernel)) ⟨by decide, by decide, by decide +kernel⟩ (by decide) (by omega) (by omega) hI rfl hl.1 (zx_sum8 (ad := ad) (b := b) z1) hd2 (Nat.le_trans z2 hR.1) (Nat.le_trans z3 hR.2) ?_
      exact K ad H locs ls h3 h5 hP hD hS hl
    next => cases h
theorem zx_s_strC (hx : p.tables.exec = Jvm.exec) (hb : c.code = cc) (hml : c.maxLocals = nL) (hown : s.vm.findClass "TwoInOne$Reader" = some m.cls) (hts : ∀ w ∈ zx_TS, w.before args s = true) (hSt : zx_St A s s.heap) {cap : Nat × Nat} (hR : cap.1 ≤ R.cells ∧ cap.2 ≤ R.slots) (hfr : 4 ≤ R.frames) (hlo : 256 ≤ R.locals) {i j : Fin 4} {x y : Nat} (hi : (i : Nat) = x) (hj : (j : Nat) = y) {σ τ : zx_S} (hd1 : decode cc σ.1 = .ok (.ldc 226, 2)) (hd2 : decode cc (σ.1 + 2) = .ok (.iload_n i, 1)) (hd3 : decode cc (σ.1 + 3) = .ok (.iload_n j, 1)) (hd4 : decode cc (σ.1 + 4) = .ok (.iadd, 1)) (hd5 : decode cc (σ.1 + 5) = .ok (.invokevirtual 232, 3)) (h : zx_strC x y cap σ = some τ) (K : zx_Ok p l e R s m args below meth c Q D cA A b nL ad0 m0 τ) : zx_Ok p l e R s m args below meth c Q D cA A b nL ad0 m0 σ := by
  obtain ⟨pc, L, st, w, mc, ms⟩ := σ
  unfold zx_strC at h
  split at h
  next u t pc' L' st' w' mc' ms' e1 e2 heq =>
    cases heq
    split at h
    next hz =>
      cases h
      simp only [Bool.and_eq_true] at hz
      obtain ⟨z0, z1, z2, z3⟩ := hz
      have z1 : st.length ≤ 4 := Nat.le_of_ble_eq_true z1
      have z2 : mc ≤ cap.1 := Nat.le_of_ble_eq_true z2
      have z3 : ms ≤ cap.2 := Nat.le_of_ble_eq_true z3
      obtain ⟨a, v, g1, g2⟩ := hSt
      intro ad H locs ls h3 h5 hP hD hS hl
      have hI : zs_I a v (fun _ => False) s H := (g2.kept hS.2.1).narrow (fun _ h => h.elim)
      refine va_ldcS hx hb hown g1 hd1 ?_
      refine lv_iload_n hx hb hd2 hi (zx_cL_at hl e1) ?_
      refine lv_iload_n hx hb hd3 hj (zx_cL_at hl e2) ?_
      refine lv_iadd hx hb hd4 ?_
      refine zs_callV (rest := st.map (zx_cv ad b)) (As := [.int (u + t)]) (n := 1) (k := 3) hx hb hml hown hts (zs_m7 l (zx_in_ok z0)) (zx_in_TS (zx_inT3 (List.mem_of_getElem? (i := 119) rfl)) rfl) (zx_wd_ok (i := 15) (by decide +kernel)) (zx_wd_ok (i := 596) (by decide +kernel)) (zx_wd_ok (i := 597) (by decide +kernel)) (zx_wd_ok (i := 598) (by decide +kernel)) ⟨by decide, by decide, by decide +kernel⟩ (by decide) (by omega) (by omega) hI rfl hl.1 (zx_sum8 (ad := ad) (b := b) z1) hd5 (Nat.le_trans z2 hR.1) (Nat.le_trans z3 hR.2) ?_
      exact K ad H locs ls h3 h5 hP hD hS hl
    next => cases h
  next => cases h
end zsMac
set_option maxRecDepth 100000 in
theorem zs_nar : (flatC narrow_1).drop 11 = (List.range 108).map (fun j => Jvm.Cond.eq (.elem (.field (.string "TwoInOne$Reader" 226) "java/lang/String" "value" "[B") (.int (Int32.ofNat j))) (.int (zx_chr j))) := by decide +kernel
/-- the Statement's words of it -/
theorem zx_St_start {s : State} {args : Array Value} {A : Nat → Prop} (hts : ∀ w ∈ lw_tbl, w.before args s = true) (hn : narrow_1.before args s = true) (hA : ∀ a : Nat, a < s.heap.size → ¬ A a) : zx_St A s s.heap := by
  have hf := flat_of_before _ hn
  obtain ⟨a, c, cA, kA, q1, q2, q3, q4, q5, q6, -⟩ := Cond.exactly_spec (args := args) (first := s) (o := none) (s := s) (idx := []) (t := Term.string "TwoInOne$Reader" 226) (cls := "java/lang/String") (hf _ (List.mem_of_getElem? (i := 7) rfl))
  obtain ⟨t, ht, hT⟩ := va_Tof (N := 108) (f := fun j => .int (zx_chr j)) (A := A) (by decide) (hf _ (List.mem_of_getElem? (i := 9) rfl)) (va_eqt (hf _ (List.mem_of_getElem? (i := 10) rfl))) (fun j hj => va_eqt (hf _ (List.mem_of_mem_drop (i := 11) (by rw [zs_nar]; exact List.mem_map.mpr ⟨j, List.mem_range.mpr hj, rfl⟩)))) hA
  exact ⟨a, t, vk_R.of (hts _ (zx_inT3 (List.mem_of_getElem? (i := 105) rfl))) q1, ⟨cA, q3, q5, by rw [q6]; exact q2, hA a (Array.getElem?_eq_some_iff.mp q3).1⟩, vk_OFof q1 (va_eqt (hf _ (List.mem_of_getElem? (i := 8) rfl))) hA, vk_OFof q1 ht hA, hT, va_Zof (hts _ (zx_inT3 (List.mem_of_getElem? (i := 115) rfl))) (hts _ (zx_inT1 (List.mem_of_getElem? (i := 15) rfl))) (va_eqt (hf _ (List.mem_of_getElem? (i := 2) rfl))) hA, va_Zqof (hts _ (zx_inT3 (List.mem_of_getElem? (i := 131) rfl))) (hts _ (zx_inT1 (List.mem_of_getElem? (i := 17) rfl))) (hf _ (List.mem_of_getElem? (i := 3) rfl)) hA⟩
