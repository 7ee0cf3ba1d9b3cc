/-! texts of the program: the contracts of length() and charAt(int), of what they call -/
section SXC
variable {l : Launch} {STR : List (String × Nat × String)} {sa : String → Nat → Nat} {q : String × Nat × String}
theorem sn_3 : (parseMethodDescriptor sx_y3.desc).map (fun d => d.parameters.length) = some 3 := by decide +kernel
theorem sn_4 : (parseMethodDescriptor sx_y4.desc).map (fun d => d.parameters.length) = some 2 := by decide +kernel
theorem sn_5 : (parseMethodDescriptor sx_y5.desc).map (fun d => d.parameters.length) = some 2 := by decide +kernel
theorem sn_6 : (parseMethodDescriptor sx_y6.desc).map (fun d => d.parameters.length) = some 1 := by decide +kernel
theorem sx_c1 (hq : q ∈ STR) : sx_M l STR sa sx_y1 sx_w1 (sx_rm 1 0) [] [.ref (sa q.1 q.2.1)] (some (.int 0)) := by
  intro sz
  refine vx_ofW (cc := prog_20_method_152_code) (maxL := 1) (ret := some .byte) (ws' := []) (by decide +kernel) rfl ?_
  intro p e s m args below meth c s₁ B hml hex hP
  obtain ⟨rfl, rfl, hw, ⟨hL, hZ, hF⟩, -⟩ := hP
  obtain ⟨-, h2, h3, v, h4, h5⟩ := hL q hq
  have hx := B.exec
  have hb := B.bytes
  have hown : s.vm.findClass "java/lang/String" = some m.cls := findClass_of_methodNamed B.named
  have hl0 := lv_entry ([.ref (sa q.1 q.2.1)]) (n := 1) (Nat.le_of_ble_eq_true rfl)
  rw [lg_entry_eq]
  generalize (lg_sl ([.ref (sa q.1 q.2.1)]) ++ List.replicate (1 - (lg_sl ([.ref (sa q.1 q.2.1)])).length) Slot.unset).toArray = ls at hl0 ⊢
  have hl1 : ls[0]? = some (.val (.ref (sa q.1 q.2.1))) := hl0.2.2 (0, .ref (sa q.1 q.2.1)) List.mem_cons_self
  refine va_gets hx hb hZ va_S.rf hown (hw _ (sx_in 28 rfl) _) (fun x h => h) sd_1_0 ?_
  refine lv_if_eq hx hb (tgt := 13) sd_1_3 rfl (fun h => absurd h (by decide)) (fun _ => ?_)
  refine lv_aload_n hx hb sd_1_6 rfl hl1 ?_
  refine vk_getf hx hb h3 va_S.rf hown (hw _ (sx_in 27 rfl) _) (fun x h => h) sd_1_7 ?_
  refine lv_goto hx hb (tgt := 14) sd_1_10 rfl ?_
  exact vx_ret (W.zret hx hb B.returns rfl (fun t ht _ => ⟨rfl, va_S.rf.F ht⟩) (fun _ hz => by cases hz) sd_1_14 B.notSynchronized)
theorem sx_c2 (hq : q ∈ STR) : sx_M l STR sa sx_y2 sx_w2 (sx_rm 1 0) [] [.ref (sa q.1 q.2.1)] (some (.int 1)) := by
  intro sz
  refine vx_ofW (cc := prog_20_method_154_code) (maxL := 1) (ret := some .boolean) (ws' := []) (by decide +kernel) rfl ?_
  intro p e s m args below meth c s₁ B hml hex hP
  obtain ⟨rfl, rfl, hw, ⟨hL, hZ, hF⟩, -⟩ := hP
  obtain ⟨-, h2, h3, v, h4, h5⟩ := hL q hq
  have hx := B.exec
  have hb := B.bytes
  have hown : s.vm.findClass "java/lang/String" = some m.cls := findClass_of_methodNamed B.named
  have hl0 := lv_entry ([.ref (sa q.1 q.2.1)]) (n := 1) (Nat.le_of_ble_eq_true rfl)
  rw [lg_entry_eq]
  generalize (lg_sl ([.ref (sa q.1 q.2.1)]) ++ List.replicate (1 - (lg_sl ([.ref (sa q.1 q.2.1)])).length) Slot.unset).toArray = ls at hl0 ⊢
  have hl1 : ls[0]? = some (.val (.ref (sa q.1 q.2.1))) := hl0.2.2 (0, .ref (sa q.1 q.2.1)) List.mem_cons_self
  refine va_gets hx hb hZ va_S.rf hown (hw _ (sx_in 28 rfl) _) (fun x h => h) sd_2_0 ?_
  refine lv_if_eq hx hb (tgt := 17) sd_2_3 rfl (fun h => absurd h (by decide)) (fun _ => ?_)
  refine lv_aload_n hx hb sd_2_6 rfl hl1 ?_
  refine vk_getf hx hb h3 va_S.rf hown (hw _ (sx_in 27 rfl) _) (fun x h => h) sd_2_7 ?_
  refine lv_if_ne hx hb (tgt := 17) sd_2_10 rfl (fun h => absurd rfl h) (fun _ => ?_)
  refine lv_iconst hx hb sd_2_13 (v := 1) rfl ?_
  refine lv_goto hx hb (tgt := 18) sd_2_14 rfl ?_
  exact vx_ret (W.zret hx hb B.returns rfl (fun t ht _ => ⟨rfl, va_S.rf.F ht⟩) (fun _ hz => by cases hz) sd_2_18 B.notSynchronized)
theorem sx_c3 {i n : Int32} {fv : Value} (hfv : fv = .null ∨ ∃ t : Nat, fv = .ref t) (h0 : ¬ i < 0) (h1 : i < n) : sx_M l STR sa sx_y3 sx_w3 (sx_rm 1 0) [] [.int i, .int n, fv] (some (.int i)) := by
  intro sz
  refine vx_ofW (cc := prog_28_method_11_code) (maxL := 3) (ret := some .int) (ws' := []) (by decide +kernel) rfl ?_
  intro p e s m args below meth c s₁ B hml hex hP
  obtain ⟨rfl, rfl, hw, -, -⟩ := hP
  have hx := B.exec
  have hb := B.bytes
  have hl0 := lv_entry ([.int i, .int n, fv]) (n := 3) (by rcases hfv with rfl | ⟨t, rfl⟩ <;> exact Nat.le_of_ble_eq_true rfl)
  rw [lg_entry_eq]
  generalize (lg_sl ([.int i, .int n, fv]) ++ List.replicate (3 - (lg_sl ([.int i, .int n, fv])).length) Slot.unset).toArray = ls at hl0 ⊢
  have hl1 : ls[0]? = some (.val (.int i)) := hl0.2.2 (0, .int i) List.mem_cons_self
  have hl2 : ls[1]? = some (.val (.int n)) := hl0.2.2 (1, .int n) (List.mem_cons_of_mem _ List.mem_cons_self)
  refine lv_iload_n hx hb sd_3_0 rfl hl1 ?_
  refine lv_if_lt hx hb (tgt := 9) sd_3_1 rfl (fun h => absurd h h0) (fun _ => ?_)
  refine lv_iload_n hx hb sd_3_4 rfl hl1 ?_
  refine lv_iload_n hx hb sd_3_5 rfl hl2 ?_
  refine lv_icmp_lt hx hb (tgt := 16) sd_3_6 rfl (fun _ => ?_) (fun h => absurd h1 h)
  refine lv_iload_n hx hb sd_3_16 rfl hl1 ?_
  exact vx_ret (W.iret hx hb B.returns (fun t ht _ => ⟨rfl, va_S.rf.F ht⟩) (fun _ hz => by cases hz) sd_3_17 B.notSynchronized)
theorem sx_c4 {i n : Int32} (h0 : ¬ i < 0) (h1 : i < n) : sx_M l STR sa sx_y4 sx_w4 (sx_rm 2 22) [] [.int i, .int n] none := by
  intro sz
  refine vx_ofW (cc := prog_20_method_155_code) (maxL := 2) (ret := none) (ws' := []) (by decide +kernel) rfl ?_
  intro p e s m args below meth c s₁ B hml hex hP
  obtain ⟨rfl, rfl, hw, hS0, -⟩ := hP
  obtain ⟨hL, hZ, hF⟩ := hS0
  have hx := B.exec
  have hb := B.bytes
  have hown : s.vm.findClass "java/lang/String" = some m.cls := findClass_of_methodNamed B.named
  have hl0 := lv_entry ([.int i, .int n]) (n := 2) (Nat.le_of_ble_eq_true rfl)
  rw [lg_entry_eq]
  generalize (lg_sl ([.int i, .int n]) ++ List.replicate (2 - (lg_sl ([.int i, .int n])).length) Slot.unset).toArray = ls at hl0 ⊢
  have hl1 : ls[0]? = some (.val (.int i)) := hl0.2.2 (0, .int i) List.mem_cons_self
  have hl2 : ls[1]? = some (.val (.int n)) := hl0.2.2 (1, .int n) (List.mem_cons_of_mem _ List.mem_cons_self)
  have hcf : CallFix p m c prog_20_method_155_code 2 s ([Value.int i, .int n]).toArray [] "java/lang/String" := ⟨hx, hb, hml, hown, fun w hw => by cases hw⟩
  have go : ∀ fv : Value, (fv = .null ∨ ∃ t : Nat, fv = .ref t) → fv.category = 1 → va_Z "jdk/internal/util/Preconditions" "SIOOBE_FORMATTER" sx_FD fv (fun q => s.heap.size ≤ q) s s.heap → W p l e (headSpec [sx_w4] (sx_rm 2 22)).room s m ([Value.int i, .int n]).toArray below meth c s.heap [] 0 0 (vx_MQ below (sx_Q none s.heap.size) sx_X ([Value.int i, .int n]).toArray s 0 0 (fun q => s.heap.size ≤ q)) (F0 m 0 ls []) := by
    intro fv hfv hcat hz
    refine lv_iload_n hx hb sd_4_0 rfl hl1 ?_
    refine lv_iload_n hx hb sd_4_1 rfl hl2 ?_
    refine va_gets hx hb hz va_S.rf hown (hw _ (sx_in 29 rfl) _) (fun x h => h) sd_4_2 ?_
    refine sx_callS (As := [.int i, .int n, fv]) (rest := []) (tv := []) hw ⟨hL, hZ, hF⟩ (fun q h => h) (fun z hz => by cases hz) va_S.rf hcf (sx_c3 hfv h0 h1) (sx_in 2 rfl) (sx_in 9 rfl) (sx_in 18 rfl) (hw _ (sx_in 25 rfl) _) ⟨by decide, by decide⟩ sn_3 ⟨by decide, by decide⟩ hl0.1 (by decide) sd_4_5 ⟨by decide, by decide⟩ (fun H1 L g1 _ _ => ?_)
    refine lv_pop hx hb sd_4_8 rfl ?_
    exact vx_ret (W.vret hx hb B.returns (fun t ht _ => ⟨rfl, g1.F ht⟩) g1.2.2 sd_4_9 B.notSynchronized)
  rcases hF with hF | ⟨t, hF⟩
  · exact go .null (Or.inl rfl) rfl hF
  · exact go (.ref t) (Or.inr ⟨t, rfl⟩) rfl hF
theorem sx_byte : ∀ k, k < 128 → ((Int32.ofNat k &&& 255).toUInt32 % 65536).toInt32 = Int32.ofNat k := by decide +kernel
theorem sx_nar : ∀ k, k < 128 → narrow .char (.int (Int32.ofNat k)) = .int (Int32.ofNat k) := by decide +kernel
theorem sx_c5 {i : Int32} {v n : Nat} {f : Nat → Value} {ch : Nat} (h0 : ¬ i < 0) (h1 : i < Int32.ofNat n) (hin : vp_in i n) (hf : f i.toNatClampNeg = .int (Int32.ofNat ch)) (hc : ch < 128) : sx_M l STR sa sx_y5 sx_w5 (sx_rm 3 43) [(v, n, f)] [.ref v, .int i] (some (.int (Int32.ofNat ch))) := by
  intro sz
  refine vx_ofW (cc := prog_21_method_2_code) (maxL := 2) (ret := some .char) (ws' := []) (by decide +kernel) rfl ?_
  intro p e s m args below meth c s₁ B hml hex hP
  obtain ⟨rfl, rfl, hw, hS0, ht⟩ := hP
  have hT := ht (v, n, f) List.mem_cons_self
  have hx := B.exec
  have hb := B.bytes
  have hown : s.vm.findClass "java/lang/StringLatin1" = some m.cls := findClass_of_methodNamed B.named
  have hl0 := lv_entry ([.ref v, .int i]) (n := 2) (Nat.le_of_ble_eq_true rfl)
  rw [lg_entry_eq]
  generalize (lg_sl ([.ref v, .int i]) ++ List.replicate (2 - (lg_sl ([.ref v, .int i])).length) Slot.unset).toArray = ls at hl0 ⊢
  have hl1 : ls[0]? = some (.val (.ref v)) := hl0.2.2 (0, .ref v) List.mem_cons_self
  have hl2 : ls[1]? = some (.val (.int i)) := hl0.2.2 (1, .int i) (List.mem_cons_of_mem _ List.mem_cons_self)
  have hcf : CallFix p m c prog_21_method_2_code 2 s ([Value.ref v, .int i]).toArray [] "java/lang/StringLatin1" := ⟨hx, hb, hml, hown, fun w hw => by cases hw⟩
  refine lv_iload_n hx hb sd_5_0 rfl hl2 ?_
  refine lv_aload_n hx hb sd_5_1 rfl hl1 ?_
  refine va_tlen hx hb hT va_S.rf rfl sd_5_2 ?_
  refine sx_callS (As := [.int i, .int (Int32.ofNat n)]) (rest := []) (tv := []) hw hS0 (fun q h => h) (fun z hz => by cases hz) va_S.rf hcf (sx_c4 h0 h1) (sx_in 3 rfl) (sx_in 7 rfl) (sx_in 19 rfl) (hw _ (sx_in 24 rfl) _) ⟨by decide, by decide⟩ sn_4 ⟨by decide, by decide⟩ hl0.1 (by decide) sd_5_3 ⟨by decide, by decide⟩ (fun H1 L g1 _ _ => ?_)
  refine lv_aload_n hx hb sd_5_6 rfl hl1 ?_
  refine lv_iload_n hx hb sd_5_7 rfl hl2 ?_
  refine va_tb hx hb hT g1 hin hf sd_5_8 ?_
  refine lv_sipush hx hb sd_5_9 (v := 255) (by decide) ?_
  refine lv_iand hx hb sd_5_12 ?_
  refine lv_i2c hx hb sd_5_13 (sx_byte ch hc) ?_
  exact vx_ret (W.zret hx hb B.returns (sx_nar ch hc) (fun t ht _ => ⟨rfl, g1.F ht⟩) g1.2.2 sd_5_14 B.notSynchronized)
theorem sx_ofI {z : Int} (h1 : -2147483648 ≤ z) (h2 : z < 2147483648) : (Int32.ofInt z).toInt = z := by
  rw [Int32.toInt_ofInt]
  have : z.bmod (2 ^ 32) = z := by
    rw [Int.bmod_def]
    split <;> omega
  exact this
theorem sx_ix {i : Int32} {n : Nat} (h0 : ¬ i < 0) (h1 : i.toNatClampNeg < n) (hn : n ≤ 1000) : i < Int32.ofNat n ∧ vp_in i n := by
  have e0 : 0 ≤ i.toInt := by
    have := Int32.not_lt.mp h0
    simpa using Int32.le_iff_toInt_le.mp this
  have e1 : (Int32.ofNat n).toInt = (n : Int) := by
    have e : Int32.ofNat n = Int32.ofInt (n : Int) := rfl
    rw [e]
    exact sx_ofI (by omega) (by omega)
  have e2 : i.toNatClampNeg = i.toInt.toNat := rfl
  refine ⟨?_, fun q => ?_⟩
  · rw [Int32.lt_iff_toInt_lt, e1]
    omega
  · rcases q with q | q
    · exact h0 q
    · omega
theorem sx_c6 (hq : q ∈ STR) {i : Int32} {ch : Char} (h0 : ¬ i < 0) (hch : q.2.2.toList[i.toNatClampNeg]? = some ch) : sx_M l STR sa sx_y6 sx_w6 (sx_rm 4 64) [] [.ref (sa q.1 q.2.1), .int i] (some (.int (Int32.ofNat ch.toNat))) := by
  intro sz
  refine vx_ofW (cc := prog_20_method_56_code) (maxL := 2) (ret := some .char) (ws' := []) (by decide +kernel) rfl ?_
  intro p e s m args below meth c s₁ B hml hex hP
  obtain ⟨rfl, rfl, hw, hS0, -⟩ := hP
  obtain ⟨hok, h2, h3, v, h4, h5⟩ := hS0.1 q hq
  have hlt := (List.getElem?_eq_some_iff.mp hch).1
  obtain ⟨hi1, hi2⟩ := sx_ix h0 hlt hok.1
  have hc128 : ch.toNat < 128 := hok.2 ch (List.mem_of_getElem? hch)
  have hfv : sx_f q.2.2 i.toNatClampNeg = .int (Int32.ofNat ch.toNat) := by
    unfold sx_f
    rw [List.getD_eq_getElem?_getD, hch]
    rfl
  have hx := B.exec
  have hb := B.bytes
  have hown : s.vm.findClass "java/lang/String" = some m.cls := findClass_of_methodNamed B.named
  have hl0 := lv_entry ([.ref (sa q.1 q.2.1), .int i]) (n := 2) (Nat.le_of_ble_eq_true rfl)
  rw [lg_entry_eq]
  generalize (lg_sl ([.ref (sa q.1 q.2.1), .int i]) ++ List.replicate (2 - (lg_sl ([.ref (sa q.1 q.2.1), .int i])).length) Slot.unset).toArray = ls at hl0 ⊢
  have hl1 : ls[0]? = some (.val (.ref (sa q.1 q.2.1))) := hl0.2.2 (0, .ref (sa q.1 q.2.1)) List.mem_cons_self
  have hl2 : ls[1]? = some (.val (.int i)) := hl0.2.2 (1, .int i) (List.mem_cons_of_mem _ List.mem_cons_self)
  have hcf : CallFix p m c prog_20_method_56_code 2 s ([Value.ref (sa q.1 q.2.1), .int i]).toArray [] "java/lang/String" := ⟨hx, hb, hml, hown, fun w hw => by cases hw⟩
  have hrc : ∃ cellB : Cell, s.heap[sa q.1 q.2.1]? = some cellB ∧ cellB.vm.isStatics = false ∧ s.vm.findClass "java/lang/String" = some cellB.cls := by
    obtain ⟨cell, a1, a2, a3, -⟩ := h2
    exact ⟨cell, a1, a2, a3⟩
  refine lv_aload_n hx hb sd_6_0 rfl hl1 ?_
  refine sx_callV (As := []) (C := "java/lang/String") (rest := []) (tv := []) hw hS0 (fun q h => h) (fun z hz => by cases hz) va_S.rf hcf (sx_c2 hq) (sx_in 1 rfl) (sx_in 7 rfl) (sx_in 12 rfl) (sx_in 13 rfl) (hw _ (sx_in 22 rfl) _) ⟨by decide, by decide⟩ (by decide +kernel) hrc ⟨by decide, by decide⟩ hl0.1 (by decide) sd_6_1 ⟨by decide, by decide⟩ (fun H1 L g1 _ _ => ?_)
  refine lv_if_eq hx hb (tgt := 16) sd_6_4 rfl (fun h => absurd h (by decide)) (fun _ => ?_)
  refine lv_aload_n hx hb sd_6_7 rfl hl1 ?_
  refine vk_getf hx hb h4 g1 hown (hw _ (sx_in 26 rfl) _) (fun x h => h) sd_6_8 ?_
  refine lv_iload_n hx hb sd_6_11 rfl hl2 ?_
  refine sx_callS (As := [.ref v, .int i]) (rest := []) (tv := [(v, q.2.2.toList.length, sx_f q.2.2)]) hw hS0 (fun q h => h) (fun z hz => by rw [List.mem_singleton.mp hz]; exact h5) g1 hcf (sx_c5 h0 hi1 hi2 hfv hc128) (sx_in 4 rfl) (sx_in 8 rfl) (sx_in 20 rfl) (hw _ (sx_in 23 rfl) _) ⟨by decide, by decide⟩ sn_5 ⟨by decide, by decide⟩ hl0.1 (by decide) sd_6_12 ⟨by decide, by decide⟩ (fun H2 L2 g2 _ _ => ?_)
  exact vx_ret (W.zret hx hb B.returns (sx_nar _ hc128) (fun t ht _ => ⟨rfl, g2.F ht⟩) g2.2.2 sd_6_15 B.notSynchronized)
theorem sx_c7 (hq : q ∈ STR) : sx_M l STR sa sx_y7 sx_w7 (sx_rm 2 22) [] [.ref (sa q.1 q.2.1)] (some (.int (Int32.ofNat q.2.2.toList.length))) := by
  intro sz
  refine vx_ofW (cc := prog_20_method_54_code) (maxL := 1) (ret := some .int) (ws' := []) (by decide +kernel) rfl ?_
  intro p e s m args below meth c s₁ B hml hex hP
  obtain ⟨rfl, rfl, hw, hS0, -⟩ := hP
  obtain ⟨hok, h2, h3, v, h4, h5⟩ := hS0.1 q hq
  have hx := B.exec
  have hb := B.bytes
  have hown : s.vm.findClass "java/lang/String" = some m.cls := findClass_of_methodNamed B.named
  have hl0 := lv_entry ([.ref (sa q.1 q.2.1)]) (n := 1) (Nat.le_of_ble_eq_true rfl)
  rw [lg_entry_eq]
  generalize (lg_sl ([.ref (sa q.1 q.2.1)]) ++ List.replicate (1 - (lg_sl ([.ref (sa q.1 q.2.1)])).length) Slot.unset).toArray = ls at hl0 ⊢
  have hl1 : ls[0]? = some (.val (.ref (sa q.1 q.2.1))) := hl0.2.2 (0, .ref (sa q.1 q.2.1)) List.mem_cons_self
  have hcf : CallFix p m c prog_20_method_54_code 1 s ([Value.ref (sa q.1 q.2.1)]).toArray [] "java/lang/String" := ⟨hx, hb, hml, hown, fun w hw => by cases hw⟩
  have hrc : ∃ cellB : Cell, s.heap[sa q.1 q.2.1]? = some cellB ∧ cellB.vm.isStatics = false ∧ s.vm.findClass "java/lang/String" = some cellB.cls := by
    obtain ⟨cell, a1, a2, a3, -⟩ := h2
    exact ⟨cell, a1, a2, a3⟩
  refine lv_aload_n hx hb sd_7_0 rfl hl1 ?_
  refine vk_getf hx hb h4 va_S.rf hown (hw _ (sx_in 26 rfl) _) (fun x h => h) sd_7_1 ?_
  refine va_tlen hx hb h5 va_S.rf rfl sd_7_4 ?_
  refine lv_aload_n hx hb sd_7_5 rfl hl1 ?_
  refine sx_callV (As := []) (C := "java/lang/String") (rest := [.int (Int32.ofNat q.2.2.toList.length)]) (tv := []) hw hS0 (fun q h => h) (fun z hz => by cases hz) va_S.rf hcf (sx_c1 hq) (sx_in 0 rfl) (sx_in 7 rfl) (sx_in 10 rfl) (sx_in 11 rfl) (hw _ (sx_in 21 rfl) _) ⟨by decide, by decide⟩ (by decide +kernel) hrc ⟨by decide, by decide⟩ hl0.1 (Nat.le_of_ble_eq_true rfl) sd_7_6 ⟨by decide, by decide⟩ (fun H1 L g1 _ _ => ?_)
  refine lv_ishr hx hb sd_7_9 ?_
  have e : Int32.ofNat q.2.2.toList.length >>> ((0 : Int32) &&& 31) = Int32.ofNat q.2.2.toList.length := by
    rw [show ((0 : Int32) &&& 31) = 0 from rfl, ← Int32.toBitVec_inj]
    simp
  rw [e]
  exact vx_ret (W.iret hx hb B.returns (fun t ht _ => ⟨rfl, g1.F ht⟩) g1.2.2 sd_7_10 B.notSynchronized)
end SXC
