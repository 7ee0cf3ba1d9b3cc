/-! texts of the program: what length() and charAt(int) of one do -/
section SX
/-! the methods: their names, code, the words that they ask for -/
def sx_S_ : String := "java/lang/String"
def sx_y1 : MethodName := ⟨"java/lang/String", "coder", "()B"⟩
def sx_y2 : MethodName := ⟨"java/lang/String", "isLatin1", "()Z"⟩
def sx_y3 : MethodName := ⟨"jdk/internal/util/Preconditions", "checkIndex", "(IILjava/util/function/BiFunction;)I"⟩
def sx_y4 : MethodName := ⟨"java/lang/String", "checkIndex", "(II)V"⟩
def sx_y5 : MethodName := ⟨"java/lang/StringLatin1", "charAt", "([BI)C"⟩
def sx_y6 : MethodName := ⟨"java/lang/String", "charAt", "(I)C"⟩
def sx_y7 : MethodName := ⟨"java/lang/String", "length", "()I"⟩
def sx_w1 : Jvm.Cond := .code sx_y1 prog_20_method_152_code 1 (some .byte)
def sx_w2 : Jvm.Cond := .code sx_y2 prog_20_method_154_code 1 (some .boolean)
def sx_w3 : Jvm.Cond := .code sx_y3 prog_28_method_11_code 3 (some .int)
def sx_w4 : Jvm.Cond := .code sx_y4 prog_20_method_155_code 2 none
def sx_w5 : Jvm.Cond := .code sx_y5 prog_21_method_2_code 2 (some .char)
def sx_w6 : Jvm.Cond := .code sx_y6 prog_20_method_56_code 2 (some .char)
def sx_w7 : Jvm.Cond := .code sx_y7 prog_20_method_54_code 1 (some .int)
def sx_FD : String := "Ljava/util/function/BiFunction;"
def sx_W : List Jvm.Cond := [sx_w1, sx_w2, sx_w3, sx_w4, sx_w5, sx_w6, sx_w7,
  .initialized "java/lang/String", .initialized "java/lang/StringLatin1", .initialized "jdk/internal/util/Preconditions",
  .instanceMethod sx_y1, .selects "java/lang/String" sx_y1 sx_y1, .instanceMethod sx_y2, .selects "java/lang/String" sx_y2 sx_y2, .instanceMethod sx_y6, .selects "java/lang/String" sx_y6 sx_y6, .instanceMethod sx_y7, .selects "java/lang/String" sx_y7 sx_y7,
  .static sx_y3, .static sx_y4, .static sx_y5,
  .methodLink "java/lang/String" 335 sx_y1, .methodLink "java/lang/String" 492 sx_y2, .methodLink "java/lang/String" 495 sx_y5, .methodLink "java/lang/StringLatin1" 9 sx_y4, .methodLink "java/lang/String" 1059 sx_y3,
  .fieldLink "java/lang/String" 9 "java/lang/String" "value" "[B", .fieldLink "java/lang/String" 15 "java/lang/String" "coder" "B", .fieldLink "java/lang/String" 38 "java/lang/String" "COMPACT_STRINGS" "Z", .fieldLink "java/lang/String" 1053 "jdk/internal/util/Preconditions" "SIOOBE_FORMATTER" "Ljava/util/function/BiFunction;"]
theorem sx_good : sx_W.all goodWord = true := by decide +kernel
theorem sx_in {w : Jvm.Cond} (k : Nat) (h : sx_W[k]? = some w) : w ∈ sx_W := List.mem_of_getElem? h
/-! decoded -/
theorem sd_1_0 : decode prog_20_method_152_code 0 = .ok (.getstatic 38, 3) := by decide +kernel
theorem sd_1_3 : decode prog_20_method_152_code 3 = .ok (.ifCond .eq 10, 3) := by decide +kernel
theorem sd_1_6 : decode prog_20_method_152_code 6 = .ok (.aload_n 0, 1) := by decide +kernel
theorem sd_1_7 : decode prog_20_method_152_code 7 = .ok (.getfield 15, 3) := by decide +kernel
theorem sd_1_10 : decode prog_20_method_152_code 10 = .ok (.goto 4, 3) := by decide +kernel
theorem sd_1_14 : decode prog_20_method_152_code 14 = .ok (.ireturn, 1) := by decide +kernel
theorem sd_2_0 : decode prog_20_method_154_code 0 = .ok (.getstatic 38, 3) := by decide +kernel
theorem sd_2_3 : decode prog_20_method_154_code 3 = .ok (.ifCond .eq 14, 3) := by decide +kernel
theorem sd_2_6 : decode prog_20_method_154_code 6 = .ok (.aload_n 0, 1) := by decide +kernel
theorem sd_2_7 : decode prog_20_method_154_code 7 = .ok (.getfield 15, 3) := by decide +kernel
theorem sd_2_10 : decode prog_20_method_154_code 10 = .ok (.ifCond .ne 7, 3) := by decide +kernel
theorem sd_2_13 : decode prog_20_method_154_code 13 = .ok (.iconst 1, 1) := by decide +kernel
theorem sd_2_14 : decode prog_20_method_154_code 14 = .ok (.goto 4, 3) := by decide +kernel
theorem sd_2_18 : decode prog_20_method_154_code 18 = .ok (.ireturn, 1) := by decide +kernel
theorem sd_3_0 : decode prog_28_method_11_code 0 = .ok (.iload_n 0, 1) := by decide +kernel
theorem sd_3_1 : decode prog_28_method_11_code 1 = .ok (.ifCond .lt 8, 3) := by decide +kernel
theorem sd_3_4 : decode prog_28_method_11_code 4 = .ok (.iload_n 0, 1) := by decide +kernel
theorem sd_3_5 : decode prog_28_method_11_code 5 = .ok (.iload_n 1, 1) := by decide +kernel
theorem sd_3_6 : decode prog_28_method_11_code 6 = .ok (.if_icmp .lt 10, 3) := by decide +kernel
theorem sd_3_16 : decode prog_28_method_11_code 16 = .ok (.iload_n 0, 1) := by decide +kernel
theorem sd_3_17 : decode prog_28_method_11_code 17 = .ok (.ireturn, 1) := by decide +kernel
theorem sd_4_0 : decode prog_20_method_155_code 0 = .ok (.iload_n 0, 1) := by decide +kernel
theorem sd_4_1 : decode prog_20_method_155_code 1 = .ok (.iload_n 1, 1) := by decide +kernel
theorem sd_4_2 : decode prog_20_method_155_code 2 = .ok (.getstatic 1053, 3) := by decide +kernel
theorem sd_4_5 : decode prog_20_method_155_code 5 = .ok (.invokestatic 1059, 3) := by decide +kernel
theorem sd_4_8 : decode prog_20_method_155_code 8 = .ok (.pop, 1) := by decide +kernel
theorem sd_4_9 : decode prog_20_method_155_code 9 = .ok (.return_, 1) := by decide +kernel
theorem sd_5_0 : decode prog_21_method_2_code 0 = .ok (.iload_n 1, 1) := by decide +kernel
theorem sd_5_1 : decode prog_21_method_2_code 1 = .ok (.aload_n 0, 1) := by decide +kernel
theorem sd_5_2 : decode prog_21_method_2_code 2 = .ok (.arraylength, 1) := by decide +kernel
theorem sd_5_3 : decode prog_21_method_2_code 3 = .ok (.invokestatic 9, 3) := by decide +kernel
theorem sd_5_6 : decode prog_21_method_2_code 6 = .ok (.aload_n 0, 1) := by decide +kernel
theorem sd_5_7 : decode prog_21_method_2_code 7 = .ok (.iload_n 1, 1) := by decide +kernel
theorem sd_5_8 : decode prog_21_method_2_code 8 = .ok (.baload, 1) := by decide +kernel
theorem sd_5_9 : decode prog_21_method_2_code 9 = .ok (.sipush 255, 3) := by decide +kernel
theorem sd_5_12 : decode prog_21_method_2_code 12 = .ok (.iand, 1) := by decide +kernel
theorem sd_5_13 : decode prog_21_method_2_code 13 = .ok (.i2c, 1) := by decide +kernel
theorem sd_5_14 : decode prog_21_method_2_code 14 = .ok (.ireturn, 1) := by decide +kernel
theorem sd_6_0 : decode prog_20_method_56_code 0 = .ok (.aload_n 0, 1) := by decide +kernel
theorem sd_6_1 : decode prog_20_method_56_code 1 = .ok (.invokevirtual 492, 3) := by decide +kernel
theorem sd_6_4 : decode prog_20_method_56_code 4 = .ok (.ifCond .eq 12, 3) := by decide +kernel
theorem sd_6_7 : decode prog_20_method_56_code 7 = .ok (.aload_n 0, 1) := by decide +kernel
theorem sd_6_8 : decode prog_20_method_56_code 8 = .ok (.getfield 9, 3) := by decide +kernel
theorem sd_6_11 : decode prog_20_method_56_code 11 = .ok (.iload_n 1, 1) := by decide +kernel
theorem sd_6_12 : decode prog_20_method_56_code 12 = .ok (.invokestatic 495, 3) := by decide +kernel
theorem sd_6_15 : decode prog_20_method_56_code 15 = .ok (.ireturn, 1) := by decide +kernel
theorem sd_7_0 : decode prog_20_method_54_code 0 = .ok (.aload_n 0, 1) := by decide +kernel
theorem sd_7_1 : decode prog_20_method_54_code 1 = .ok (.getfield 9, 3) := by decide +kernel
theorem sd_7_4 : decode prog_20_method_54_code 4 = .ok (.arraylength, 1) := by decide +kernel
theorem sd_7_5 : decode prog_20_method_54_code 5 = .ok (.aload_n 0, 1) := by decide +kernel
theorem sd_7_6 : decode prog_20_method_54_code 6 = .ok (.invokevirtual 335, 3) := by decide +kernel
theorem sd_7_9 : decode prog_20_method_54_code 9 = .ok (.ishr, 1) := by decide +kernel
theorem sd_7_10 : decode prog_20_method_54_code 10 = .ok (.ireturn, 1) := by decide +kernel
/-! a text's place in the heap -/
def sx_f (tx : String) (j : Nat) : Value := .int (Int32.ofNat ((tx.toList.getD j 'a').toNat))
def sx_ok (tx : String) : Prop := tx.toList.length ≤ 1000 ∧ ∀ ch ∈ tx.toList, ch.toNat < 128
def sx_L (tx : String) (a : Nat) (A : Nat → Prop) (U : State) (H : Heap) : Prop := sx_ok tx ∧ va_O "java/lang/String" a A U H ∧ va_OF "java/lang/String" "coder" "B" (.int 0) a A U H ∧ ∃ v, va_OF "java/lang/String" "value" "[B" (.ref v) a A U H ∧ va_T .byte v tx.toList.length (sx_f tx) A U H
def sx_S (STR : List (String × Nat × String)) (sa : String → Nat → Nat) (A : Nat → Prop) (U : State) : Prop :=
  (∀ q ∈ STR, sx_L q.2.2 (sa q.1 q.2.1) A U U.heap) ∧ va_Z "java/lang/String" "COMPACT_STRINGS" "Z" (.int 1) A U U.heap ∧ va_Zq "jdk/internal/util/Preconditions" "SIOOBE_FORMATTER" sx_FD A U U.heap
theorem sx_S_go {STR : List (String × Nat × String)} {sa : String → Nat → Nat} {A B : Nat → Prop} {s U : State} (h : sx_S STR sa A s) (hvm : s.vm.Alike U.vm) (hk : ∀ q : Nat, q < s.heap.size → ¬ A q → U.heap[q]? = s.heap[q]?) (hAB : ∀ q, B q → A q) : sx_S STR sa B U := by
  obtain ⟨h1, h2, h3⟩ := h
  refine ⟨fun q hq => ?_, va_Z.narrow (va_Z.moved hvm (va_Z.kept h2 hk)) hAB, va_Zq.narrow (va_Zq.moved hvm (va_Zq.kept h3 hk)) hAB⟩
  obtain ⟨k0, k1, k2, v, k3, k4⟩ := h1 q hq
  exact ⟨k0, va_O.narrow (va_O.moved hvm (va_O.kept k1 hk)) hAB, va_OF.narrow (va_OF.moved hvm (va_OF.kept k2 hk)) hAB, v, va_OF.narrow (va_OF.moved hvm (va_OF.kept k3 hk)) hAB, va_T.narrow (va_T.moved hvm (va_T.kept k4 hk)) hAB⟩
/-! contracts -/
abbrev sx_V : Type := List (Nat × Nat × (Nat → Value))
def sx_P (STR : List (String × Nat × String)) (sa : String → Nat → Nat) (sz : Nat) (tv : sx_V) (a0 : List Value) : Array Value → State → Prop := fun v U =>
  v = a0.toArray ∧ U.heap.size = sz ∧ (∀ w ∈ sx_W, ∀ a : Array Value, w.before a U = true) ∧ sx_S STR sa (fun q => sz ≤ q) U ∧ ∀ z ∈ tv, va_T .byte z.1 z.2.1 z.2.2 (fun q => sz ≤ q) U U.heap
def sx_Q (oc : Option Value) (sz : Nat) : Array Value → State → Outcome → State → Prop := fun _ st o t => o = .returned oc ∧ va_F (fun q => sz ≤ q) st t
def sx_X : String → State → State → Prop := fun _ _ _ => False
def sx_rm (k n : Nat) : Room := { frames := k, cells := 0, slots := 0, locals := n }
def sx_M (l : Launch) (STR : List (String × Nat × String)) (sa : String → Nat → Nat) (y : MethodName) (w : Jvm.Cond) (rm : Room) (tv : sx_V) (a0 : List Value) (oc : Option Value) : Prop :=
  ∀ sz, vx_Met l y [w] rm (sx_P STR sa sz tv a0) (sx_Q oc sz) sx_X 0 0 (fun q => sz ≤ q)
theorem sx_words {s U : State} (hw : ∀ w ∈ sx_W, ∀ a : Array Value, w.before a s = true) (hW : s.WarmedH U.vm) : ∀ w ∈ sx_W, ∀ a : Array Value, w.before a U = true := fun w h a =>
  word_at hW (good_of_word (List.all_eq_true.mp sx_good w h)) (hw w h #[])
theorem sx_blind {STR : List (String × Nat × String)} {sa : String → Nat → Nat} {sz : Nat} {tv : sx_V} {a0 : List Value} : FrameBlind (sx_P STR sa sz tv a0) := by
  intro a U g mk q
  obtain ⟨q1, q2, q3, q4, q5⟩ := q
  exact ⟨q1, q2, sx_words (U := U.calling g mk a) q3 (State.WarmedH.refl U), sx_S_go (U := U.calling g mk a) q4 (State.WarmedH.refl U).alike (fun _ _ _ => rfl) (fun _ h => h), fun z hz => va_T.moved (U := U.calling g mk a) (State.WarmedH.refl U).alike (q5 z hz)⟩
/-- a callee's start, from a caller's place -/
theorem sx_pre {STR : List (String × Nat × String)} {sa : String → Nat → Nat} {tv : sx_V} {a0 : List Value} {A : Nat → Prop} {s U : State} {H : Heap} {locs : List Loc} (hw : ∀ w ∈ sx_W, ∀ a : Array Value, w.before a s = true) (h : sx_S STR sa A s) (hA : ∀ q, s.heap.size ≤ q → A q) (ht : ∀ z ∈ tv, va_T .byte z.1 z.2.1 z.2.2 A s s.heap) (hS : va_S A s.heap H locs) (hU : U.heap = H) (hW : s.WarmedH U.vm) : sx_P STR sa H.size tv a0 a0.toArray U := by
  have hk : ∀ q : Nat, q < s.heap.size → ¬ A q → U.heap[q]? = s.heap[q]? := fun q h1 h2 => by rw [hU]; exact hS.2.1 q h1 h2
  have hAB : ∀ q, H.size ≤ q → A q := fun q hq => hA q (Nat.le_trans hS.1 hq)
  exact ⟨rfl, by rw [hU], sx_words hw hW, sx_S_go h hW.alike hk hAB, fun z hz => va_T.narrow (va_T.moved hW.alike (va_T.kept (ht z hz) hk)) hAB⟩
/-- behind a call -/
theorem sx_keep {A : Nat → Prop} {s st t : State} {H : Heap} {locs L : List Loc} {oc o : Option Value} {a : Array Value} (hA : ∀ q, s.heap.size ≤ q → A q) (hS : va_S A s.heap H locs) (h0 : st.heap = H) (hL : ∀ q ∈ L, H.size ≤ q.base) (hQ : sx_Q oc H.size a st (.returned o) t) : o = oc ∧ va_S A s.heap t.heap (locs ++ L) ∧ H.size ≤ t.heap.size ∧ ∀ q : Nat, q < H.size → t.heap[q]? = H[q]? := by
  obtain ⟨e, hF⟩ := hQ
  obtain ⟨hz, hk⟩ := hF
  rw [h0] at hz hk
  have hk2 : ∀ q : Nat, q < H.size → t.heap[q]? = H[q]? := fun q hq => hk q hq (Nat.not_le.mpr hq)
  refine ⟨by injection e, ⟨Nat.le_trans hS.1 hz, fun q h1 h2 => ?_, fun z hz => ?_⟩, hz, hk2⟩
  · rw [hk2 q (Nat.lt_of_lt_of_le h1 hS.1)]
    exact hS.2.1 q h1 h2
  · rcases List.mem_append.mp hz with h | h
    · exact hS.2.2 z h
    · exact hA _ (Nat.le_trans hS.1 (hL z h))
section SX1
variable {p : Program} {l : Launch} {e : Env} {R : Room} {s : State} {m : MethodId} {args : Array Value} {below : List Frame} {meth : Method} {c : Code} {H : Heap} {locs : List Loc} {cells slots : Nat} {Q : State → Prop}
variable {STR : List (String × Nat × String)} {sa : String → Nat → Nat} {cc : ByteArray} {nL pc index maxL k n : Nat} {own C : String} {y : MethodName} {by_ : ByteArray} {ret : Option FieldType} {tv : sx_V} {A : Nat → Prop} {a : Addr} {As rest : List Value} {oc : Option Value} {ls : Array Slot}
/-- behind a call that answers -/
theorem sx_use {Qa : State → Outcome → State → Prop} {free : Addr → Prop} {mc ms : Nat} {st0 : List Value} (hr : vx_Run p l e R s m args below meth c H locs cells slots mc ms (F0 m pc ls st0) rest Qa sx_X free)
    (kk : ∀ (v : Option Value) (st₀ t : State) (H1 : Heap) (L : List Loc), st₀.heap = H → t.heap = H1 → s.vm.Alike t.vm → (∀ q ∈ L, free q.base) → Qa st₀ (.returned v) t → W p l e R s m args below meth c H1 (locs ++ L) (cells + mc) (slots + ms) Q (F0 m (pc + 3) ls (v.toList ++ rest))) :
    W p l e R s m args below meth c H locs cells slots Q (F0 m pc ls st0) := by
  intro T hT X
  rcases hr T hT X with ⟨v, st₀, t, T', L, h0, X', hL, e1, e2, hq, st⟩ | ⟨q, st₀, t, T', L, E, ce, h0, X', hL, e1, e2, hq, hce, hcv, hcl, st⟩
  · obtain ⟨t2, a1, b1⟩ := kk v st₀ t T'.heap L h0 e1.symm (by rw [← e2]; exact X'.warmed.alike) hL hq T' rfl X'
    exact ⟨t2, st t2 a1, b1⟩
  · exact hq.elim
/-- a call of one, on an object -/
theorem sx_callV (hw : ∀ w ∈ sx_W, ∀ a : Array Value, w.before a s = true) (h : sx_S STR sa A s) (hA : ∀ q, s.heap.size ≤ q → A q) (ht : ∀ z ∈ tv, va_T .byte z.1 z.2.1 z.2.2 A s s.heap) (hS : va_S A s.heap H locs) (hcf : CallFix p m c cc nL s args [] own)
    (hM : sx_M l STR sa y (.code y by_ maxL ret) (sx_rm k n) tv (.ref a :: As) oc) (hc : Jvm.Cond.code y by_ maxL ret ∈ sx_W) (hi : Jvm.Cond.initialized y.cls ∈ sx_W) (hin : Jvm.Cond.instanceMethod y ∈ sx_W) (hse : Jvm.Cond.selects C y y ∈ sx_W) (hl : (Jvm.Cond.methodLink own index y).before args s = true) (hnc : y.cls ≠ "java/lang/invoke/MethodHandle" ∧ y.cls ≠ "java/lang/invoke/VarHandle") (hpar : (parseMethodDescriptor y.desc).map (fun d => d.parameters.length) = some As.length)
    (hr : ∃ cellB : Cell, H[a]? = some cellB ∧ cellB.vm.isStatics = false ∧ s.vm.findClass C = some cellB.cls) (hR : k + 1 ≤ R.frames ∧ 8 + (maxL + 11) + n ≤ R.locals) (hls : ls.size = nL) (hrest : (rest.map fun v => v.category).sum ≤ 8) (hdg : decode cc pc = .ok (.invokevirtual index, 3)) (hf : cells ≤ R.cells ∧ slots ≤ R.slots)
    (kk : ∀ (H1 : Heap) (L : List Loc), va_S A s.heap H1 (locs ++ L) → H.size ≤ H1.size → (∀ q : Nat, q < H.size → H1[q]? = H[q]?) → W p l e R s m args below meth c H1 (locs ++ L) cells slots Q (F0 m (pc + 3) ls (oc.toList ++ rest))) : W p l e R s m args below meth c H locs cells slots Q (F0 m pc ls (As.reverse ++ .ref a :: rest)) := by
  refine sx_use (vx_runV (As := As) (C := C) (rest := rest) (n := As.length) hcf (hM H.size) ⟨⟨rfl, rfl, hR.1, hR.2, fun w hq a' U hW => ?_, List.mem_cons_self, hw _ hc _, hw _ hi _, hnc, fun sig hs => ?_, hl⟩, hw _ hin _, hw _ hse _⟩ ⟨sx_blind, hr, fun U hU hW => sx_pre hw h hA ht hS hU hW⟩ rfl rfl hls rfl (lv_room hrest) hdg hf) (fun v st t H1 L h0 h1 _ hL hQ => ?_)
  · rw [List.mem_singleton.mp hq]
    exact sx_words hw hW _ hc _
  · rw [hs] at hpar
    exact (Option.some.inj hpar).symm
  · obtain ⟨e, g1, g2, g3⟩ := sx_keep hA hS h0 hL hQ
    rw [h1] at g1 g2 g3
    rw [e]
    exact kk H1 L g1 g2 g3
/-- a call of one without an object -/
theorem sx_callS (hw : ∀ w ∈ sx_W, ∀ a : Array Value, w.before a s = true) (h : sx_S STR sa A s) (hA : ∀ q, s.heap.size ≤ q → A q) (ht : ∀ z ∈ tv, va_T .byte z.1 z.2.1 z.2.2 A s s.heap) (hS : va_S A s.heap H locs) (hcf : CallFix p m c cc nL s args [] own)
    (hM : sx_M l STR sa y (.code y by_ maxL ret) (sx_rm k n) tv As oc) (hc : Jvm.Cond.code y by_ maxL ret ∈ sx_W) (hi : Jvm.Cond.initialized y.cls ∈ sx_W) (hst : Jvm.Cond.static y ∈ sx_W) (hl : (Jvm.Cond.methodLink own index y).before args s = true) (hnc : y.cls ≠ "java/lang/invoke/MethodHandle" ∧ y.cls ≠ "java/lang/invoke/VarHandle") (hpar : (parseMethodDescriptor y.desc).map (fun d => d.parameters.length) = some As.length)
    (hR : k + 1 ≤ R.frames ∧ 8 + (maxL + 11) + n ≤ R.locals) (hls : ls.size = nL) (hrest : (rest.map fun v => v.category).sum ≤ 8) (hdg : decode cc pc = .ok (.invokestatic index, 3)) (hf : cells ≤ R.cells ∧ slots ≤ R.slots)
    (kk : ∀ (H1 : Heap) (L : List Loc), va_S A s.heap H1 (locs ++ L) → H.size ≤ H1.size → (∀ q : Nat, q < H.size → H1[q]? = H[q]?) → W p l e R s m args below meth c H1 (locs ++ L) cells slots Q (F0 m (pc + 3) ls (oc.toList ++ rest))) : W p l e R s m args below meth c H locs cells slots Q (F0 m pc ls (As.reverse ++ rest)) := by
  refine sx_use (vx_runS (As := As) (rest := rest) (n := As.length) hcf (hM H.size) ⟨⟨rfl, rfl, hR.1, hR.2, fun w hq a' U hW => ?_, List.mem_cons_self, hw _ hc _, hw _ hi _, hnc, fun sig hs => ?_, hl⟩, hw _ hst _⟩ ⟨sx_blind, fun U hU hW => sx_pre hw h hA ht hS hU hW⟩ rfl rfl hls rfl (lv_room hrest) hdg hf) (fun v st t H1 L h0 h1 _ hL hQ => ?_)
  · rw [List.mem_singleton.mp hq]
    exact sx_words hw hW _ hc _
  · rw [hs] at hpar
    exact (Option.some.inj hpar).symm
  · obtain ⟨e, g1, g2, g3⟩ := sx_keep hA hS h0 hL hQ
    rw [h1] at g1 g2 g3
    rw [e]
    exact kk H1 L g1 g2 g3
end SX1
end SX
