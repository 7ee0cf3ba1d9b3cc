section
/-! decode looks at a few bytes from its place on: the instructions of the law, by their first byte -/
section DS
theorem ds_u1 {bs : ByteArray} {d : Nat} {b : UInt8} (h : bs.data.toList[d]? = some b) : (Jvm.ClassFile.Reader.u1 : Jvm.ClassFile.Decoder Nat).runAt bs d = .ok (b.toNat, d + 1) := by
  obtain ⟨h1, h2⟩ := List.getElem?_eq_some_iff.mp h
  have hs : d < bs.size := by simpa using h1
  have h3 : bs[d] = b := by
    rw [← h2]
    rfl
  unfold Jvm.ClassFile.Reader.runAt Jvm.ClassFile.Reader.u1
  show (dite (d < bs.size) (fun h => (do set (d + 1); Pure.pure bs[d].toNat : Jvm.ClassFile.Decoder Nat)) (fun _ => (throw (Jvm.ClassFile.HasTruncated.truncated d) : Jvm.ClassFile.Decoder Nat))) bs d = _
  rw [dif_pos hs]
  show Except.ok (bs[d].toNat, d + 1) = _
  rw [h3]
theorem ds_bind {α β : Type} {r : Jvm.ClassFile.Decoder α} {f : α → Jvm.ClassFile.Decoder β} {bs : ByteArray} {p q : Nat} {x : α} (h : r.runAt bs p = .ok (x, q)) : (r >>= f).runAt bs p = (f x).runAt bs q := by
  show Except.bind (r bs p) (fun z => f z.1 bs z.2) = f x bs q
  have e : r bs p = .ok (x, q) := h
  rw [e]
  rfl
theorem ds_u2 {bs : ByteArray} {d : Nat} {a b : UInt8} (h : bs.data.toList[d]? = some a) (h1 : bs.data.toList[d + 1]? = some b) : (Jvm.ClassFile.Reader.u2 : Jvm.ClassFile.Decoder Nat).runAt bs d = .ok (a.toNat * 256 + b.toNat, d + 2) := by
  unfold Jvm.ClassFile.Reader.u2
  rw [ds_bind (ds_u1 h), ds_bind (ds_u1 h1)]
  rfl
theorem ds_s1 {bs : ByteArray} {d : Nat} {a : UInt8} (h : bs.data.toList[d]? = some a) : (Jvm.ClassFile.Reader.s1 : Jvm.ClassFile.Decoder Int).runAt bs d = .ok (Jvm.ClassFile.Reader.signed 8 a.toNat, d + 1) := by
  unfold Jvm.ClassFile.Reader.s1
  show Except.map (fun z : Nat × Nat => (Jvm.ClassFile.Reader.signed 8 z.1, z.2)) ((Jvm.ClassFile.Reader.u1 : Jvm.ClassFile.Decoder Nat) bs d) = _
  have e : (Jvm.ClassFile.Reader.u1 : Jvm.ClassFile.Decoder Nat) bs d = _ := ds_u1 h
  rw [e]
  rfl
theorem ds_s2 {bs : ByteArray} {d : Nat} {a b : UInt8} (h : bs.data.toList[d]? = some a) (h1 : bs.data.toList[d + 1]? = some b) : (Jvm.ClassFile.Reader.s2 : Jvm.ClassFile.Decoder Int).runAt bs d = .ok (Jvm.ClassFile.Reader.signed 16 (a.toNat * 256 + b.toNat), d + 2) := by
  unfold Jvm.ClassFile.Reader.s2
  show Except.map (fun z : Nat × Nat => (Jvm.ClassFile.Reader.signed 16 z.1, z.2)) ((Jvm.ClassFile.Reader.u2 : Jvm.ClassFile.Decoder Nat) bs d) = _
  have e : (Jvm.ClassFile.Reader.u2 : Jvm.ClassFile.Decoder Nat) bs d = _ := ds_u2 h h1
  rw [e]
  rfl
theorem ds_dec {bs : ByteArray} {d q : Nat} {i : Instr} {n : Nat} (h : (Jvm.ClassFile.Decoder.instr d).runAt bs d = .ok (i, q)) (hn : q - d = n) : decode bs d = .ok (i, n) := by
  unfold Jvm.ClassFile.decode
  rw [h, ← hn]
  rfl
theorem ds_3 {bs : ByteArray} {d : Nat} (h : bs.data.toList[d]? = some 3) : decode bs d = .ok (.iconst 0, 1) := by
  refine ds_dec (q := d + 1) ?_ (by omega)
  unfold Jvm.ClassFile.Decoder.instr
  rw [ds_bind (ds_u1 h)]
  rfl
theorem ds_4 {bs : ByteArray} {d : Nat} (h : bs.data.toList[d]? = some 4) : decode bs d = .ok (.iconst 1, 1) := by
  refine ds_dec (q := d + 1) ?_ (by omega)
  unfold Jvm.ClassFile.Decoder.instr
  rw [ds_bind (ds_u1 h)]
  rfl
theorem ds_5 {bs : ByteArray} {d : Nat} (h : bs.data.toList[d]? = some 5) : decode bs d = .ok (.iconst 2, 1) := by
  refine ds_dec (q := d + 1) ?_ (by omega)
  unfold Jvm.ClassFile.Decoder.instr
  rw [ds_bind (ds_u1 h)]
  rfl
theorem ds_6 {bs : ByteArray} {d : Nat} (h : bs.data.toList[d]? = some 6) : decode bs d = .ok (.iconst 3, 1) := by
  refine ds_dec (q := d + 1) ?_ (by omega)
  unfold Jvm.ClassFile.Decoder.instr
  rw [ds_bind (ds_u1 h)]
  rfl
theorem ds_7 {bs : ByteArray} {d : Nat} (h : bs.data.toList[d]? = some 7) : decode bs d = .ok (.iconst 4, 1) := by
  refine ds_dec (q := d + 1) ?_ (by omega)
  unfold Jvm.ClassFile.Decoder.instr
  rw [ds_bind (ds_u1 h)]
  rfl
theorem ds_8 {bs : ByteArray} {d : Nat} (h : bs.data.toList[d]? = some 8) : decode bs d = .ok (.iconst 5, 1) := by
  refine ds_dec (q := d + 1) ?_ (by omega)
  unfold Jvm.ClassFile.Decoder.instr
  rw [ds_bind (ds_u1 h)]
  rfl
theorem ds_9 {bs : ByteArray} {d : Nat} (h : bs.data.toList[d]? = some 9) : decode bs d = .ok (.lconst 0, 1) := by
  refine ds_dec (q := d + 1) ?_ (by omega)
  unfold Jvm.ClassFile.Decoder.instr
  rw [ds_bind (ds_u1 h)]
  rfl
theorem ds_10 {bs : ByteArray} {d : Nat} (h : bs.data.toList[d]? = some 10) : decode bs d = .ok (.lconst 1, 1) := by
  refine ds_dec (q := d + 1) ?_ (by omega)
  unfold Jvm.ClassFile.Decoder.instr
  rw [ds_bind (ds_u1 h)]
  rfl
theorem ds_26 {bs : ByteArray} {d : Nat} (h : bs.data.toList[d]? = some 26) : decode bs d = .ok (.iload_n 0, 1) := by
  refine ds_dec (q := d + 1) ?_ (by omega)
  unfold Jvm.ClassFile.Decoder.instr
  rw [ds_bind (ds_u1 h)]
  rfl
theorem ds_27 {bs : ByteArray} {d : Nat} (h : bs.data.toList[d]? = some 27) : decode bs d = .ok (.iload_n 1, 1) := by
  refine ds_dec (q := d + 1) ?_ (by omega)
  unfold Jvm.ClassFile.Decoder.instr
  rw [ds_bind (ds_u1 h)]
  rfl
theorem ds_28 {bs : ByteArray} {d : Nat} (h : bs.data.toList[d]? = some 28) : decode bs d = .ok (.iload_n 2, 1) := by
  refine ds_dec (q := d + 1) ?_ (by omega)
  unfold Jvm.ClassFile.Decoder.instr
  rw [ds_bind (ds_u1 h)]
  rfl
theorem ds_29 {bs : ByteArray} {d : Nat} (h : bs.data.toList[d]? = some 29) : decode bs d = .ok (.iload_n 3, 1) := by
  refine ds_dec (q := d + 1) ?_ (by omega)
  unfold Jvm.ClassFile.Decoder.instr
  rw [ds_bind (ds_u1 h)]
  rfl
theorem ds_42 {bs : ByteArray} {d : Nat} (h : bs.data.toList[d]? = some 42) : decode bs d = .ok (.aload_n 0, 1) := by
  refine ds_dec (q := d + 1) ?_ (by omega)
  unfold Jvm.ClassFile.Decoder.instr
  rw [ds_bind (ds_u1 h)]
  rfl
theorem ds_43 {bs : ByteArray} {d : Nat} (h : bs.data.toList[d]? = some 43) : decode bs d = .ok (.aload_n 1, 1) := by
  refine ds_dec (q := d + 1) ?_ (by omega)
  unfold Jvm.ClassFile.Decoder.instr
  rw [ds_bind (ds_u1 h)]
  rfl
theorem ds_44 {bs : ByteArray} {d : Nat} (h : bs.data.toList[d]? = some 44) : decode bs d = .ok (.aload_n 2, 1) := by
  refine ds_dec (q := d + 1) ?_ (by omega)
  unfold Jvm.ClassFile.Decoder.instr
  rw [ds_bind (ds_u1 h)]
  rfl
theorem ds_45 {bs : ByteArray} {d : Nat} (h : bs.data.toList[d]? = some 45) : decode bs d = .ok (.aload_n 3, 1) := by
  refine ds_dec (q := d + 1) ?_ (by omega)
  unfold Jvm.ClassFile.Decoder.instr
  rw [ds_bind (ds_u1 h)]
  rfl
theorem ds_46 {bs : ByteArray} {d : Nat} (h : bs.data.toList[d]? = some 46) : decode bs d = .ok (.iaload, 1) := by
  refine ds_dec (q := d + 1) ?_ (by omega)
  unfold Jvm.ClassFile.Decoder.instr
  rw [ds_bind (ds_u1 h)]
  rfl
theorem ds_47 {bs : ByteArray} {d : Nat} (h : bs.data.toList[d]? = some 47) : decode bs d = .ok (.laload, 1) := by
  refine ds_dec (q := d + 1) ?_ (by omega)
  unfold Jvm.ClassFile.Decoder.instr
  rw [ds_bind (ds_u1 h)]
  rfl
theorem ds_79 {bs : ByteArray} {d : Nat} (h : bs.data.toList[d]? = some 79) : decode bs d = .ok (.iastore, 1) := by
  refine ds_dec (q := d + 1) ?_ (by omega)
  unfold Jvm.ClassFile.Decoder.instr
  rw [ds_bind (ds_u1 h)]
  rfl
theorem ds_89 {bs : ByteArray} {d : Nat} (h : bs.data.toList[d]? = some 89) : decode bs d = .ok (.dup, 1) := by
  refine ds_dec (q := d + 1) ?_ (by omega)
  unfold Jvm.ClassFile.Decoder.instr
  rw [ds_bind (ds_u1 h)]
  rfl
theorem ds_96 {bs : ByteArray} {d : Nat} (h : bs.data.toList[d]? = some 96) : decode bs d = .ok (.iadd, 1) := by
  refine ds_dec (q := d + 1) ?_ (by omega)
  unfold Jvm.ClassFile.Decoder.instr
  rw [ds_bind (ds_u1 h)]
  rfl
theorem ds_100 {bs : ByteArray} {d : Nat} (h : bs.data.toList[d]? = some 100) : decode bs d = .ok (.isub, 1) := by
  refine ds_dec (q := d + 1) ?_ (by omega)
  unfold Jvm.ClassFile.Decoder.instr
  rw [ds_bind (ds_u1 h)]
  rfl
theorem ds_126 {bs : ByteArray} {d : Nat} (h : bs.data.toList[d]? = some 126) : decode bs d = .ok (.iand, 1) := by
  refine ds_dec (q := d + 1) ?_ (by omega)
  unfold Jvm.ClassFile.Decoder.instr
  rw [ds_bind (ds_u1 h)]
  rfl
theorem ds_133 {bs : ByteArray} {d : Nat} (h : bs.data.toList[d]? = some 133) : decode bs d = .ok (.i2l, 1) := by
  refine ds_dec (q := d + 1) ?_ (by omega)
  unfold Jvm.ClassFile.Decoder.instr
  rw [ds_bind (ds_u1 h)]
  rfl
theorem ds_141 {bs : ByteArray} {d : Nat} (h : bs.data.toList[d]? = some 141) : decode bs d = .ok (.f2d, 1) := by
  refine ds_dec (q := d + 1) ?_ (by omega)
  unfold Jvm.ClassFile.Decoder.instr
  rw [ds_bind (ds_u1 h)]
  rfl
theorem ds_148 {bs : ByteArray} {d : Nat} (h : bs.data.toList[d]? = some 148) : decode bs d = .ok (.lcmp, 1) := by
  refine ds_dec (q := d + 1) ?_ (by omega)
  unfold Jvm.ClassFile.Decoder.instr
  rw [ds_bind (ds_u1 h)]
  rfl
theorem ds_151 {bs : ByteArray} {d : Nat} (h : bs.data.toList[d]? = some 151) : decode bs d = .ok (.dcmp .l, 1) := by
  refine ds_dec (q := d + 1) ?_ (by omega)
  unfold Jvm.ClassFile.Decoder.instr
  rw [ds_bind (ds_u1 h)]
  rfl
theorem ds_172 {bs : ByteArray} {d : Nat} (h : bs.data.toList[d]? = some 172) : decode bs d = .ok (.ireturn, 1) := by
  refine ds_dec (q := d + 1) ?_ (by omega)
  unfold Jvm.ClassFile.Decoder.instr
  rw [ds_bind (ds_u1 h)]
  rfl
theorem ds_190 {bs : ByteArray} {d : Nat} (h : bs.data.toList[d]? = some 190) : decode bs d = .ok (.arraylength, 1) := by
  refine ds_dec (q := d + 1) ?_ (by omega)
  unfold Jvm.ClassFile.Decoder.instr
  rw [ds_bind (ds_u1 h)]
  rfl
theorem ds_75 {bs : ByteArray} {d : Nat} (h : bs.data.toList[d]? = some 75) : decode bs d = .ok (.astore_n 0, 1) := by
  refine ds_dec (q := d + 1) ?_ (by omega)
  unfold Jvm.ClassFile.Decoder.instr
  rw [ds_bind (ds_u1 h)]
  rfl
theorem ds_76 {bs : ByteArray} {d : Nat} (h : bs.data.toList[d]? = some 76) : decode bs d = .ok (.astore_n 1, 1) := by
  refine ds_dec (q := d + 1) ?_ (by omega)
  unfold Jvm.ClassFile.Decoder.instr
  rw [ds_bind (ds_u1 h)]
  rfl
theorem ds_77 {bs : ByteArray} {d : Nat} (h : bs.data.toList[d]? = some 77) : decode bs d = .ok (.astore_n 2, 1) := by
  refine ds_dec (q := d + 1) ?_ (by omega)
  unfold Jvm.ClassFile.Decoder.instr
  rw [ds_bind (ds_u1 h)]
  rfl
theorem ds_78 {bs : ByteArray} {d : Nat} (h : bs.data.toList[d]? = some 78) : decode bs d = .ok (.astore_n 3, 1) := by
  refine ds_dec (q := d + 1) ?_ (by omega)
  unfold Jvm.ClassFile.Decoder.instr
  rw [ds_bind (ds_u1 h)]
  rfl
theorem ds_59 {bs : ByteArray} {d : Nat} (h : bs.data.toList[d]? = some 59) : decode bs d = .ok (.istore_n 0, 1) := by
  refine ds_dec (q := d + 1) ?_ (by omega)
  unfold Jvm.ClassFile.Decoder.instr
  rw [ds_bind (ds_u1 h)]
  rfl
theorem ds_60 {bs : ByteArray} {d : Nat} (h : bs.data.toList[d]? = some 60) : decode bs d = .ok (.istore_n 1, 1) := by
  refine ds_dec (q := d + 1) ?_ (by omega)
  unfold Jvm.ClassFile.Decoder.instr
  rw [ds_bind (ds_u1 h)]
  rfl
theorem ds_61 {bs : ByteArray} {d : Nat} (h : bs.data.toList[d]? = some 61) : decode bs d = .ok (.istore_n 2, 1) := by
  refine ds_dec (q := d + 1) ?_ (by omega)
  unfold Jvm.ClassFile.Decoder.instr
  rw [ds_bind (ds_u1 h)]
  rfl
theorem ds_62 {bs : ByteArray} {d : Nat} (h : bs.data.toList[d]? = some 62) : decode bs d = .ok (.istore_n 3, 1) := by
  refine ds_dec (q := d + 1) ?_ (by omega)
  unfold Jvm.ClassFile.Decoder.instr
  rw [ds_bind (ds_u1 h)]
  rfl
theorem ds_30 {bs : ByteArray} {d : Nat} (h : bs.data.toList[d]? = some 30) : decode bs d = .ok (.lload_n 0, 1) := by
  refine ds_dec (q := d + 1) ?_ (by omega)
  unfold Jvm.ClassFile.Decoder.instr
  rw [ds_bind (ds_u1 h)]
  rfl
theorem ds_31 {bs : ByteArray} {d : Nat} (h : bs.data.toList[d]? = some 31) : decode bs d = .ok (.lload_n 1, 1) := by
  refine ds_dec (q := d + 1) ?_ (by omega)
  unfold Jvm.ClassFile.Decoder.instr
  rw [ds_bind (ds_u1 h)]
  rfl
theorem ds_32 {bs : ByteArray} {d : Nat} (h : bs.data.toList[d]? = some 32) : decode bs d = .ok (.lload_n 2, 1) := by
  refine ds_dec (q := d + 1) ?_ (by omega)
  unfold Jvm.ClassFile.Decoder.instr
  rw [ds_bind (ds_u1 h)]
  rfl
theorem ds_33 {bs : ByteArray} {d : Nat} (h : bs.data.toList[d]? = some 33) : decode bs d = .ok (.lload_n 3, 1) := by
  refine ds_dec (q := d + 1) ?_ (by omega)
  unfold Jvm.ClassFile.Decoder.instr
  rw [ds_bind (ds_u1 h)]
  rfl
theorem ds_1 {bs : ByteArray} {d : Nat} (h : bs.data.toList[d]? = some 1) : decode bs d = .ok (.aconst_null, 1) := by
  refine ds_dec (q := d + 1) ?_ (by omega)
  unfold Jvm.ClassFile.Decoder.instr
  rw [ds_bind (ds_u1 h)]
  rfl
theorem ds_50 {bs : ByteArray} {d : Nat} (h : bs.data.toList[d]? = some 50) : decode bs d = .ok (.aaload, 1) := by
  refine ds_dec (q := d + 1) ?_ (by omega)
  unfold Jvm.ClassFile.Decoder.instr
  rw [ds_bind (ds_u1 h)]
  rfl
theorem ds_80 {bs : ByteArray} {d : Nat} (h : bs.data.toList[d]? = some 80) : decode bs d = .ok (.lastore, 1) := by
  refine ds_dec (q := d + 1) ?_ (by omega)
  unfold Jvm.ClassFile.Decoder.instr
  rw [ds_bind (ds_u1 h)]
  rfl
theorem ds_83 {bs : ByteArray} {d : Nat} (h : bs.data.toList[d]? = some 83) : decode bs d = .ok (.aastore, 1) := by
  refine ds_dec (q := d + 1) ?_ (by omega)
  unfold Jvm.ClassFile.Decoder.instr
  rw [ds_bind (ds_u1 h)]
  rfl
theorem ds_87 {bs : ByteArray} {d : Nat} (h : bs.data.toList[d]? = some 87) : decode bs d = .ok (.pop, 1) := by
  refine ds_dec (q := d + 1) ?_ (by omega)
  unfold Jvm.ClassFile.Decoder.instr
  rw [ds_bind (ds_u1 h)]
  rfl
theorem ds_92 {bs : ByteArray} {d : Nat} (h : bs.data.toList[d]? = some 92) : decode bs d = .ok (.dup2, 1) := by
  refine ds_dec (q := d + 1) ?_ (by omega)
  unfold Jvm.ClassFile.Decoder.instr
  rw [ds_bind (ds_u1 h)]
  rfl
theorem ds_97 {bs : ByteArray} {d : Nat} (h : bs.data.toList[d]? = some 97) : decode bs d = .ok (.ladd, 1) := by
  refine ds_dec (q := d + 1) ?_ (by omega)
  unfold Jvm.ClassFile.Decoder.instr
  rw [ds_bind (ds_u1 h)]
  rfl
theorem ds_101 {bs : ByteArray} {d : Nat} (h : bs.data.toList[d]? = some 101) : decode bs d = .ok (.lsub, 1) := by
  refine ds_dec (q := d + 1) ?_ (by omega)
  unfold Jvm.ClassFile.Decoder.instr
  rw [ds_bind (ds_u1 h)]
  rfl
theorem ds_104 {bs : ByteArray} {d : Nat} (h : bs.data.toList[d]? = some 104) : decode bs d = .ok (.imul, 1) := by
  refine ds_dec (q := d + 1) ?_ (by omega)
  unfold Jvm.ClassFile.Decoder.instr
  rw [ds_bind (ds_u1 h)]
  rfl
theorem ds_108 {bs : ByteArray} {d : Nat} (h : bs.data.toList[d]? = some 108) : decode bs d = .ok (.idiv, 1) := by
  refine ds_dec (q := d + 1) ?_ (by omega)
  unfold Jvm.ClassFile.Decoder.instr
  rw [ds_bind (ds_u1 h)]
  rfl
theorem ds_112 {bs : ByteArray} {d : Nat} (h : bs.data.toList[d]? = some 112) : decode bs d = .ok (.irem, 1) := by
  refine ds_dec (q := d + 1) ?_ (by omega)
  unfold Jvm.ClassFile.Decoder.instr
  rw [ds_bind (ds_u1 h)]
  rfl
theorem ds_120 {bs : ByteArray} {d : Nat} (h : bs.data.toList[d]? = some 120) : decode bs d = .ok (.ishl, 1) := by
  refine ds_dec (q := d + 1) ?_ (by omega)
  unfold Jvm.ClassFile.Decoder.instr
  rw [ds_bind (ds_u1 h)]
  rfl
theorem ds_122 {bs : ByteArray} {d : Nat} (h : bs.data.toList[d]? = some 122) : decode bs d = .ok (.ishr, 1) := by
  refine ds_dec (q := d + 1) ?_ (by omega)
  unfold Jvm.ClassFile.Decoder.instr
  rw [ds_bind (ds_u1 h)]
  rfl
theorem ds_124 {bs : ByteArray} {d : Nat} (h : bs.data.toList[d]? = some 124) : decode bs d = .ok (.iushr, 1) := by
  refine ds_dec (q := d + 1) ?_ (by omega)
  unfold Jvm.ClassFile.Decoder.instr
  rw [ds_bind (ds_u1 h)]
  rfl
theorem ds_128 {bs : ByteArray} {d : Nat} (h : bs.data.toList[d]? = some 128) : decode bs d = .ok (.ior, 1) := by
  refine ds_dec (q := d + 1) ?_ (by omega)
  unfold Jvm.ClassFile.Decoder.instr
  rw [ds_bind (ds_u1 h)]
  rfl
theorem ds_130 {bs : ByteArray} {d : Nat} (h : bs.data.toList[d]? = some 130) : decode bs d = .ok (.ixor, 1) := by
  refine ds_dec (q := d + 1) ?_ (by omega)
  unfold Jvm.ClassFile.Decoder.instr
  rw [ds_bind (ds_u1 h)]
  rfl
theorem ds_135 {bs : ByteArray} {d : Nat} (h : bs.data.toList[d]? = some 135) : decode bs d = .ok (.i2d, 1) := by
  refine ds_dec (q := d + 1) ?_ (by omega)
  unfold Jvm.ClassFile.Decoder.instr
  rw [ds_bind (ds_u1 h)]
  rfl
theorem ds_134 {bs : ByteArray} {d : Nat} (h : bs.data.toList[d]? = some 134) : decode bs d = .ok (.i2f, 1) := by
  refine ds_dec (q := d + 1) ?_ (by omega)
  unfold Jvm.ClassFile.Decoder.instr
  rw [ds_bind (ds_u1 h)]
  rfl
theorem ds_174 {bs : ByteArray} {d : Nat} (h : bs.data.toList[d]? = some 174) : decode bs d = .ok (.freturn, 1) := by
  refine ds_dec (q := d + 1) ?_ (by omega)
  unfold Jvm.ClassFile.Decoder.instr
  rw [ds_bind (ds_u1 h)]
  rfl
theorem ds_175 {bs : ByteArray} {d : Nat} (h : bs.data.toList[d]? = some 175) : decode bs d = .ok (.dreturn, 1) := by
  refine ds_dec (q := d + 1) ?_ (by omega)
  unfold Jvm.ClassFile.Decoder.instr
  rw [ds_bind (ds_u1 h)]
  rfl
theorem ds_176 {bs : ByteArray} {d : Nat} (h : bs.data.toList[d]? = some 176) : decode bs d = .ok (.areturn, 1) := by
  refine ds_dec (q := d + 1) ?_ (by omega)
  unfold Jvm.ClassFile.Decoder.instr
  rw [ds_bind (ds_u1 h)]
  rfl
theorem ds_177 {bs : ByteArray} {d : Nat} (h : bs.data.toList[d]? = some 177) : decode bs d = .ok (.return_, 1) := by
  refine ds_dec (q := d + 1) ?_ (by omega)
  unfold Jvm.ClassFile.Decoder.instr
  rw [ds_bind (ds_u1 h)]
  rfl
theorem ds_191 {bs : ByteArray} {d : Nat} (h : bs.data.toList[d]? = some 191) : decode bs d = .ok (.athrow, 1) := by
  refine ds_dec (q := d + 1) ?_ (by omega)
  unfold Jvm.ClassFile.Decoder.instr
  rw [ds_bind (ds_u1 h)]
  rfl
theorem ds_18 {bs : ByteArray} {d : Nat} {a : UInt8} (h : bs.data.toList[d]? = some 18) (h1 : bs.data.toList[d + 1]? = some a) : decode bs d = .ok (.ldc a.toNat, 2) := by
  refine ds_dec (q := d + 2) ?_ (by omega)
  unfold Jvm.ClassFile.Decoder.instr
  rw [ds_bind (ds_u1 h)]
  exact (ds_bind (f := fun a => Pure.pure (Instr.ldc a)) (ds_u1 h1)).trans rfl
theorem ds_22 {bs : ByteArray} {d : Nat} {a : UInt8} (h : bs.data.toList[d]? = some 22) (h1 : bs.data.toList[d + 1]? = some a) : decode bs d = .ok (.lload a.toNat, 2) := by
  refine ds_dec (q := d + 2) ?_ (by omega)
  unfold Jvm.ClassFile.Decoder.instr
  rw [ds_bind (ds_u1 h)]
  exact (ds_bind (f := fun a => Pure.pure (Instr.lload a)) (ds_u1 h1)).trans rfl
theorem ds_21 {bs : ByteArray} {d : Nat} {a : UInt8} (h : bs.data.toList[d]? = some 21) (h1 : bs.data.toList[d + 1]? = some a) : decode bs d = .ok (.iload a.toNat, 2) := by
  refine ds_dec (q := d + 2) ?_ (by omega)
  unfold Jvm.ClassFile.Decoder.instr
  rw [ds_bind (ds_u1 h)]
  exact (ds_bind (f := fun a => Pure.pure (Instr.iload a)) (ds_u1 h1)).trans rfl
theorem ds_24 {bs : ByteArray} {d : Nat} {a : UInt8} (h : bs.data.toList[d]? = some 24) (h1 : bs.data.toList[d + 1]? = some a) : decode bs d = .ok (.dload a.toNat, 2) := by
  refine ds_dec (q := d + 2) ?_ (by omega)
  unfold Jvm.ClassFile.Decoder.instr
  rw [ds_bind (ds_u1 h)]
  exact (ds_bind (f := fun a => Pure.pure (Instr.dload a)) (ds_u1 h1)).trans rfl
theorem ds_25 {bs : ByteArray} {d : Nat} {a : UInt8} (h : bs.data.toList[d]? = some 25) (h1 : bs.data.toList[d + 1]? = some a) : decode bs d = .ok (.aload a.toNat, 2) := by
  refine ds_dec (q := d + 2) ?_ (by omega)
  unfold Jvm.ClassFile.Decoder.instr
  rw [ds_bind (ds_u1 h)]
  exact (ds_bind (f := fun a => Pure.pure (Instr.aload a)) (ds_u1 h1)).trans rfl
theorem ds_54 {bs : ByteArray} {d : Nat} {a : UInt8} (h : bs.data.toList[d]? = some 54) (h1 : bs.data.toList[d + 1]? = some a) : decode bs d = .ok (.istore a.toNat, 2) := by
  refine ds_dec (q := d + 2) ?_ (by omega)
  unfold Jvm.ClassFile.Decoder.instr
  rw [ds_bind (ds_u1 h)]
  exact (ds_bind (f := fun a => Pure.pure (Instr.istore a)) (ds_u1 h1)).trans rfl
theorem ds_57 {bs : ByteArray} {d : Nat} {a : UInt8} (h : bs.data.toList[d]? = some 57) (h1 : bs.data.toList[d + 1]? = some a) : decode bs d = .ok (.dstore a.toNat, 2) := by
  refine ds_dec (q := d + 2) ?_ (by omega)
  unfold Jvm.ClassFile.Decoder.instr
  rw [ds_bind (ds_u1 h)]
  exact (ds_bind (f := fun a => Pure.pure (Instr.dstore a)) (ds_u1 h1)).trans rfl
theorem ds_58 {bs : ByteArray} {d : Nat} {a : UInt8} (h : bs.data.toList[d]? = some 58) (h1 : bs.data.toList[d + 1]? = some a) : decode bs d = .ok (.astore a.toNat, 2) := by
  refine ds_dec (q := d + 2) ?_ (by omega)
  unfold Jvm.ClassFile.Decoder.instr
  rw [ds_bind (ds_u1 h)]
  exact (ds_bind (f := fun a => Pure.pure (Instr.astore a)) (ds_u1 h1)).trans rfl
theorem ds_16 {bs : ByteArray} {d : Nat} {a : UInt8} (h : bs.data.toList[d]? = some 16) (h1 : bs.data.toList[d + 1]? = some a) : decode bs d = .ok (.bipush (Jvm.ClassFile.Reader.signed 8 a.toNat), 2) := by
  refine ds_dec (q := d + 2) ?_ (by omega)
  unfold Jvm.ClassFile.Decoder.instr
  rw [ds_bind (ds_u1 h)]
  exact (ds_bind (f := fun a => Pure.pure (Instr.bipush a)) (ds_s1 h1)).trans rfl
theorem ds_153 {bs : ByteArray} {d : Nat} {a b : UInt8} (h : bs.data.toList[d]? = some 153) (h1 : bs.data.toList[d + 1]? = some a) (h2 : bs.data.toList[d + 2]? = some b) : decode bs d = .ok (.ifCond .eq (Jvm.ClassFile.Reader.signed 16 (a.toNat * 256 + b.toNat)), 3) := by
  refine ds_dec (q := d + 3) ?_ (by omega)
  unfold Jvm.ClassFile.Decoder.instr
  rw [ds_bind (ds_u1 h)]
  exact (ds_bind (f := fun a => Pure.pure (Instr.ifCond .eq a)) (ds_s2 h1 h2)).trans rfl
theorem ds_154 {bs : ByteArray} {d : Nat} {a b : UInt8} (h : bs.data.toList[d]? = some 154) (h1 : bs.data.toList[d + 1]? = some a) (h2 : bs.data.toList[d + 2]? = some b) : decode bs d = .ok (.ifCond .ne (Jvm.ClassFile.Reader.signed 16 (a.toNat * 256 + b.toNat)), 3) := by
  refine ds_dec (q := d + 3) ?_ (by omega)
  unfold Jvm.ClassFile.Decoder.instr
  rw [ds_bind (ds_u1 h)]
  exact (ds_bind (f := fun a => Pure.pure (Instr.ifCond .ne a)) (ds_s2 h1 h2)).trans rfl
theorem ds_159 {bs : ByteArray} {d : Nat} {a b : UInt8} (h : bs.data.toList[d]? = some 159) (h1 : bs.data.toList[d + 1]? = some a) (h2 : bs.data.toList[d + 2]? = some b) : decode bs d = .ok (.if_icmp .eq (Jvm.ClassFile.Reader.signed 16 (a.toNat * 256 + b.toNat)), 3) := by
  refine ds_dec (q := d + 3) ?_ (by omega)
  unfold Jvm.ClassFile.Decoder.instr
  rw [ds_bind (ds_u1 h)]
  exact (ds_bind (f := fun a => Pure.pure (Instr.if_icmp .eq a)) (ds_s2 h1 h2)).trans rfl
theorem ds_160 {bs : ByteArray} {d : Nat} {a b : UInt8} (h : bs.data.toList[d]? = some 160) (h1 : bs.data.toList[d + 1]? = some a) (h2 : bs.data.toList[d + 2]? = some b) : decode bs d = .ok (.if_icmp .ne (Jvm.ClassFile.Reader.signed 16 (a.toNat * 256 + b.toNat)), 3) := by
  refine ds_dec (q := d + 3) ?_ (by omega)
  unfold Jvm.ClassFile.Decoder.instr
  rw [ds_bind (ds_u1 h)]
  exact (ds_bind (f := fun a => Pure.pure (Instr.if_icmp .ne a)) (ds_s2 h1 h2)).trans rfl
theorem ds_161 {bs : ByteArray} {d : Nat} {a b : UInt8} (h : bs.data.toList[d]? = some 161) (h1 : bs.data.toList[d + 1]? = some a) (h2 : bs.data.toList[d + 2]? = some b) : decode bs d = .ok (.if_icmp .lt (Jvm.ClassFile.Reader.signed 16 (a.toNat * 256 + b.toNat)), 3) := by
  refine ds_dec (q := d + 3) ?_ (by omega)
  unfold Jvm.ClassFile.Decoder.instr
  rw [ds_bind (ds_u1 h)]
  exact (ds_bind (f := fun a => Pure.pure (Instr.if_icmp .lt a)) (ds_s2 h1 h2)).trans rfl
theorem ds_162 {bs : ByteArray} {d : Nat} {a b : UInt8} (h : bs.data.toList[d]? = some 162) (h1 : bs.data.toList[d + 1]? = some a) (h2 : bs.data.toList[d + 2]? = some b) : decode bs d = .ok (.if_icmp .ge (Jvm.ClassFile.Reader.signed 16 (a.toNat * 256 + b.toNat)), 3) := by
  refine ds_dec (q := d + 3) ?_ (by omega)
  unfold Jvm.ClassFile.Decoder.instr
  rw [ds_bind (ds_u1 h)]
  exact (ds_bind (f := fun a => Pure.pure (Instr.if_icmp .ge a)) (ds_s2 h1 h2)).trans rfl
theorem ds_163 {bs : ByteArray} {d : Nat} {a b : UInt8} (h : bs.data.toList[d]? = some 163) (h1 : bs.data.toList[d + 1]? = some a) (h2 : bs.data.toList[d + 2]? = some b) : decode bs d = .ok (.if_icmp .gt (Jvm.ClassFile.Reader.signed 16 (a.toNat * 256 + b.toNat)), 3) := by
  refine ds_dec (q := d + 3) ?_ (by omega)
  unfold Jvm.ClassFile.Decoder.instr
  rw [ds_bind (ds_u1 h)]
  exact (ds_bind (f := fun a => Pure.pure (Instr.if_icmp .gt a)) (ds_s2 h1 h2)).trans rfl
theorem ds_164 {bs : ByteArray} {d : Nat} {a b : UInt8} (h : bs.data.toList[d]? = some 164) (h1 : bs.data.toList[d + 1]? = some a) (h2 : bs.data.toList[d + 2]? = some b) : decode bs d = .ok (.if_icmp .le (Jvm.ClassFile.Reader.signed 16 (a.toNat * 256 + b.toNat)), 3) := by
  refine ds_dec (q := d + 3) ?_ (by omega)
  unfold Jvm.ClassFile.Decoder.instr
  rw [ds_bind (ds_u1 h)]
  exact (ds_bind (f := fun a => Pure.pure (Instr.if_icmp .le a)) (ds_s2 h1 h2)).trans rfl
theorem ds_155 {bs : ByteArray} {d : Nat} {a b : UInt8} (h : bs.data.toList[d]? = some 155) (h1 : bs.data.toList[d + 1]? = some a) (h2 : bs.data.toList[d + 2]? = some b) : decode bs d = .ok (.ifCond .lt (Jvm.ClassFile.Reader.signed 16 (a.toNat * 256 + b.toNat)), 3) := by
  refine ds_dec (q := d + 3) ?_ (by omega)
  unfold Jvm.ClassFile.Decoder.instr
  rw [ds_bind (ds_u1 h)]
  exact (ds_bind (f := fun a => Pure.pure (Instr.ifCond .lt a)) (ds_s2 h1 h2)).trans rfl
theorem ds_156 {bs : ByteArray} {d : Nat} {a b : UInt8} (h : bs.data.toList[d]? = some 156) (h1 : bs.data.toList[d + 1]? = some a) (h2 : bs.data.toList[d + 2]? = some b) : decode bs d = .ok (.ifCond .ge (Jvm.ClassFile.Reader.signed 16 (a.toNat * 256 + b.toNat)), 3) := by
  refine ds_dec (q := d + 3) ?_ (by omega)
  unfold Jvm.ClassFile.Decoder.instr
  rw [ds_bind (ds_u1 h)]
  exact (ds_bind (f := fun a => Pure.pure (Instr.ifCond .ge a)) (ds_s2 h1 h2)).trans rfl
theorem ds_157 {bs : ByteArray} {d : Nat} {a b : UInt8} (h : bs.data.toList[d]? = some 157) (h1 : bs.data.toList[d + 1]? = some a) (h2 : bs.data.toList[d + 2]? = some b) : decode bs d = .ok (.ifCond .gt (Jvm.ClassFile.Reader.signed 16 (a.toNat * 256 + b.toNat)), 3) := by
  refine ds_dec (q := d + 3) ?_ (by omega)
  unfold Jvm.ClassFile.Decoder.instr
  rw [ds_bind (ds_u1 h)]
  exact (ds_bind (f := fun a => Pure.pure (Instr.ifCond .gt a)) (ds_s2 h1 h2)).trans rfl
theorem ds_158 {bs : ByteArray} {d : Nat} {a b : UInt8} (h : bs.data.toList[d]? = some 158) (h1 : bs.data.toList[d + 1]? = some a) (h2 : bs.data.toList[d + 2]? = some b) : decode bs d = .ok (.ifCond .le (Jvm.ClassFile.Reader.signed 16 (a.toNat * 256 + b.toNat)), 3) := by
  refine ds_dec (q := d + 3) ?_ (by omega)
  unfold Jvm.ClassFile.Decoder.instr
  rw [ds_bind (ds_u1 h)]
  exact (ds_bind (f := fun a => Pure.pure (Instr.ifCond .le a)) (ds_s2 h1 h2)).trans rfl
theorem ds_198 {bs : ByteArray} {d : Nat} {a b : UInt8} (h : bs.data.toList[d]? = some 198) (h1 : bs.data.toList[d + 1]? = some a) (h2 : bs.data.toList[d + 2]? = some b) : decode bs d = .ok (.ifnull (Jvm.ClassFile.Reader.signed 16 (a.toNat * 256 + b.toNat)), 3) := by
  refine ds_dec (q := d + 3) ?_ (by omega)
  unfold Jvm.ClassFile.Decoder.instr
  rw [ds_bind (ds_u1 h)]
  exact (ds_bind (f := fun a => Pure.pure (Instr.ifnull a)) (ds_s2 h1 h2)).trans rfl
theorem ds_199 {bs : ByteArray} {d : Nat} {a b : UInt8} (h : bs.data.toList[d]? = some 199) (h1 : bs.data.toList[d + 1]? = some a) (h2 : bs.data.toList[d + 2]? = some b) : decode bs d = .ok (.ifnonnull (Jvm.ClassFile.Reader.signed 16 (a.toNat * 256 + b.toNat)), 3) := by
  refine ds_dec (q := d + 3) ?_ (by omega)
  unfold Jvm.ClassFile.Decoder.instr
  rw [ds_bind (ds_u1 h)]
  exact (ds_bind (f := fun a => Pure.pure (Instr.ifnonnull a)) (ds_s2 h1 h2)).trans rfl
theorem ds_167 {bs : ByteArray} {d : Nat} {a b : UInt8} (h : bs.data.toList[d]? = some 167) (h1 : bs.data.toList[d + 1]? = some a) (h2 : bs.data.toList[d + 2]? = some b) : decode bs d = .ok (.goto (Jvm.ClassFile.Reader.signed 16 (a.toNat * 256 + b.toNat)), 3) := by
  refine ds_dec (q := d + 3) ?_ (by omega)
  unfold Jvm.ClassFile.Decoder.instr
  rw [ds_bind (ds_u1 h)]
  exact (ds_bind (f := fun a => Pure.pure (Instr.goto a)) (ds_s2 h1 h2)).trans rfl
theorem ds_17 {bs : ByteArray} {d : Nat} {a b : UInt8} (h : bs.data.toList[d]? = some 17) (h1 : bs.data.toList[d + 1]? = some a) (h2 : bs.data.toList[d + 2]? = some b) : decode bs d = .ok (.sipush (Jvm.ClassFile.Reader.signed 16 (a.toNat * 256 + b.toNat)), 3) := by
  refine ds_dec (q := d + 3) ?_ (by omega)
  unfold Jvm.ClassFile.Decoder.instr
  rw [ds_bind (ds_u1 h)]
  exact (ds_bind (f := fun a => Pure.pure (Instr.sipush a)) (ds_s2 h1 h2)).trans rfl
theorem ds_19 {bs : ByteArray} {d : Nat} {a b : UInt8} (h : bs.data.toList[d]? = some 19) (h1 : bs.data.toList[d + 1]? = some a) (h2 : bs.data.toList[d + 2]? = some b) : decode bs d = .ok (.ldc_w (a.toNat * 256 + b.toNat), 3) := by
  refine ds_dec (q := d + 3) ?_ (by omega)
  unfold Jvm.ClassFile.Decoder.instr
  rw [ds_bind (ds_u1 h)]
  exact (ds_bind (f := fun a => Pure.pure (Instr.ldc_w a)) (ds_u2 h1 h2)).trans rfl
theorem ds_20 {bs : ByteArray} {d : Nat} {a b : UInt8} (h : bs.data.toList[d]? = some 20) (h1 : bs.data.toList[d + 1]? = some a) (h2 : bs.data.toList[d + 2]? = some b) : decode bs d = .ok (.ldc2_w (a.toNat * 256 + b.toNat), 3) := by
  refine ds_dec (q := d + 3) ?_ (by omega)
  unfold Jvm.ClassFile.Decoder.instr
  rw [ds_bind (ds_u1 h)]
  exact (ds_bind (f := fun a => Pure.pure (Instr.ldc2_w a)) (ds_u2 h1 h2)).trans rfl
theorem ds_180 {bs : ByteArray} {d : Nat} {a b : UInt8} (h : bs.data.toList[d]? = some 180) (h1 : bs.data.toList[d + 1]? = some a) (h2 : bs.data.toList[d + 2]? = some b) : decode bs d = .ok (.getfield (a.toNat * 256 + b.toNat), 3) := by
  refine ds_dec (q := d + 3) ?_ (by omega)
  unfold Jvm.ClassFile.Decoder.instr
  rw [ds_bind (ds_u1 h)]
  exact (ds_bind (f := fun a => Pure.pure (Instr.getfield a)) (ds_u2 h1 h2)).trans rfl
theorem ds_181 {bs : ByteArray} {d : Nat} {a b : UInt8} (h : bs.data.toList[d]? = some 181) (h1 : bs.data.toList[d + 1]? = some a) (h2 : bs.data.toList[d + 2]? = some b) : decode bs d = .ok (.putfield (a.toNat * 256 + b.toNat), 3) := by
  refine ds_dec (q := d + 3) ?_ (by omega)
  unfold Jvm.ClassFile.Decoder.instr
  rw [ds_bind (ds_u1 h)]
  exact (ds_bind (f := fun a => Pure.pure (Instr.putfield a)) (ds_u2 h1 h2)).trans rfl
theorem ds_189 {bs : ByteArray} {d : Nat} {a b : UInt8} (h : bs.data.toList[d]? = some 189) (h1 : bs.data.toList[d + 1]? = some a) (h2 : bs.data.toList[d + 2]? = some b) : decode bs d = .ok (.anewarray (a.toNat * 256 + b.toNat), 3) := by
  refine ds_dec (q := d + 3) ?_ (by omega)
  unfold Jvm.ClassFile.Decoder.instr
  rw [ds_bind (ds_u1 h)]
  exact (ds_bind (f := fun a => Pure.pure (Instr.anewarray a)) (ds_u2 h1 h2)).trans rfl
theorem ds_182 {bs : ByteArray} {d : Nat} {a b : UInt8} (h : bs.data.toList[d]? = some 182) (h1 : bs.data.toList[d + 1]? = some a) (h2 : bs.data.toList[d + 2]? = some b) : decode bs d = .ok (.invokevirtual (a.toNat * 256 + b.toNat), 3) := by
  refine ds_dec (q := d + 3) ?_ (by omega)
  unfold Jvm.ClassFile.Decoder.instr
  rw [ds_bind (ds_u1 h)]
  exact (ds_bind (f := fun a => Pure.pure (Instr.invokevirtual a)) (ds_u2 h1 h2)).trans rfl
theorem ds_183 {bs : ByteArray} {d : Nat} {a b : UInt8} (h : bs.data.toList[d]? = some 183) (h1 : bs.data.toList[d + 1]? = some a) (h2 : bs.data.toList[d + 2]? = some b) : decode bs d = .ok (.invokespecial (a.toNat * 256 + b.toNat), 3) := by
  refine ds_dec (q := d + 3) ?_ (by omega)
  unfold Jvm.ClassFile.Decoder.instr
  rw [ds_bind (ds_u1 h)]
  exact (ds_bind (f := fun a => Pure.pure (Instr.invokespecial a)) (ds_u2 h1 h2)).trans rfl
theorem ds_184 {bs : ByteArray} {d : Nat} {a b : UInt8} (h : bs.data.toList[d]? = some 184) (h1 : bs.data.toList[d + 1]? = some a) (h2 : bs.data.toList[d + 2]? = some b) : decode bs d = .ok (.invokestatic (a.toNat * 256 + b.toNat), 3) := by
  refine ds_dec (q := d + 3) ?_ (by omega)
  unfold Jvm.ClassFile.Decoder.instr
  rw [ds_bind (ds_u1 h)]
  exact (ds_bind (f := fun a => Pure.pure (Instr.invokestatic a)) (ds_u2 h1 h2)).trans rfl
theorem ds_187 {bs : ByteArray} {d : Nat} {a b : UInt8} (h : bs.data.toList[d]? = some 187) (h1 : bs.data.toList[d + 1]? = some a) (h2 : bs.data.toList[d + 2]? = some b) : decode bs d = .ok (.new (a.toNat * 256 + b.toNat), 3) := by
  refine ds_dec (q := d + 3) ?_ (by omega)
  unfold Jvm.ClassFile.Decoder.instr
  rw [ds_bind (ds_u1 h)]
  exact (ds_bind (f := fun a => Pure.pure (Instr.new a)) (ds_u2 h1 h2)).trans rfl
theorem ds_132 {bs : ByteArray} {d : Nat} {a b : UInt8} (h : bs.data.toList[d]? = some 132) (h1 : bs.data.toList[d + 1]? = some a) (h2 : bs.data.toList[d + 2]? = some b) : decode bs d = .ok (.iinc a.toNat (Jvm.ClassFile.Reader.signed 8 b.toNat), 3) := by
  refine ds_dec (q := d + 3) ?_ (by omega)
  unfold Jvm.ClassFile.Decoder.instr
  rw [ds_bind (ds_u1 h)]
  exact (ds_bind (f := fun a => Jvm.ClassFile.Reader.s1 >>= fun b => Pure.pure (Instr.iinc a b)) (ds_u1 h1)).trans ((ds_bind (f := fun b => Pure.pure (Instr.iinc a.toNat b)) (ds_s1 h2)).trans rfl)
def ds_o0 (op : UInt8) : Option (Instr × Nat) := if Nat.beq op.toNat 3 = true then some (.iconst 0, 1) else if Nat.beq op.toNat 4 = true then some (.iconst 1, 1) else if Nat.beq op.toNat 5 = true then some (.iconst 2, 1) else if Nat.beq op.toNat 6 = true then some (.iconst 3, 1) else if Nat.beq op.toNat 7 = true then some (.iconst 4, 1) else if Nat.beq op.toNat 8 = true then some (.iconst 5, 1) else if Nat.beq op.toNat 9 = true then some (.lconst 0, 1) else if Nat.beq op.toNat 10 = true then some (.lconst 1, 1) else if Nat.beq op.toNat 26 = true then some (.iload_n 0, 1) else if Nat.beq op.toNat 27 = true then some (.iload_n 1, 1) else if Nat.beq op.toNat 28 = true then some (.iload_n 2, 1) else if Nat.beq op.toNat 29 = true then some (.iload_n 3, 1) else if Nat.beq op.toNat 42 = true then some (.aload_n 0, 1) else if Nat.beq op.toNat 43 = true then some (.aload_n 1, 1) else if Nat.beq op.toNat 44 = true then some (.aload_n 2, 1) else if Nat.beq op.toNat 45 = true then some (.aload_n 3, 1) else if Nat.beq op.toNat 46 = true then some (.iaload, 1) else if Nat.beq op.toNat 47 = true then some (.laload, 1) else if Nat.beq op.toNat 79 = true then some (.iastore, 1) else if Nat.beq op.toNat 89 = true then some (.dup, 1) else if Nat.beq op.toNat 96 = true then some (.iadd, 1) else if Nat.beq op.toNat 100 = true then some (.isub, 1) else if Nat.beq op.toNat 126 = true then some (.iand, 1) else if Nat.beq op.toNat 133 = true then some (.i2l, 1) else if Nat.beq op.toNat 141 = true then some (.f2d, 1) else if Nat.beq op.toNat 148 = true then some (.lcmp, 1) else if Nat.beq op.toNat 151 = true then some (.dcmp .l, 1) else if Nat.beq op.toNat 172 = true then some (.ireturn, 1) else if Nat.beq op.toNat 190 = true then some (.arraylength, 1) else if Nat.beq op.toNat 75 = true then some (.astore_n 0, 1) else if Nat.beq op.toNat 76 = true then some (.astore_n 1, 1) else if Nat.beq op.toNat 77 = true then some (.astore_n 2, 1) else if Nat.beq op.toNat 78 = true then some (.astore_n 3, 1) else if Nat.beq op.toNat 59 = true then some (.istore_n 0, 1) else if Nat.beq op.toNat 60 = true then some (.istore_n 1, 1) else if Nat.beq op.toNat 61 = true then some (.istore_n 2, 1) else if Nat.beq op.toNat 62 = true then some (.istore_n 3, 1) else if Nat.beq op.toNat 30 = true then some (.lload_n 0, 1) else if Nat.beq op.toNat 31 = true then some (.lload_n 1, 1) else if Nat.beq op.toNat 32 = true then some (.lload_n 2, 1) else if Nat.beq op.toNat 33 = true then some (.lload_n 3, 1) else if Nat.beq op.toNat 1 = true then some (.aconst_null, 1) else if Nat.beq op.toNat 50 = true then some (.aaload, 1) else if Nat.beq op.toNat 80 = true then some (.lastore, 1) else if Nat.beq op.toNat 83 = true then some (.aastore, 1) else if Nat.beq op.toNat 87 = true then some (.pop, 1) else if Nat.beq op.toNat 92 = true then some (.dup2, 1) else if Nat.beq op.toNat 97 = true then some (.ladd, 1) else if Nat.beq op.toNat 101 = true then some (.lsub, 1) else if Nat.beq op.toNat 104 = true then some (.imul, 1) else if Nat.beq op.toNat 108 = true then some (.idiv, 1) else if Nat.beq op.toNat 112 = true then some (.irem, 1) else if Nat.beq op.toNat 120 = true then some (.ishl, 1) else if Nat.beq op.toNat 122 = true then some (.ishr, 1) else if Nat.beq op.toNat 124 = true then some (.iushr, 1) else if Nat.beq op.toNat 128 = true then some (.ior, 1) else if Nat.beq op.toNat 130 = true then some (.ixor, 1) else if Nat.beq op.toNat 135 = true then some (.i2d, 1) else if Nat.beq op.toNat 134 = true then some (.i2f, 1) else if Nat.beq op.toNat 174 = true then some (.freturn, 1) else if Nat.beq op.toNat 175 = true then some (.dreturn, 1) else if Nat.beq op.toNat 176 = true then some (.areturn, 1) else if Nat.beq op.toNat 177 = true then some (.return_, 1) else if Nat.beq op.toNat 191 = true then some (.athrow, 1) else none
def ds_o1 (op a : UInt8) : Option (Instr × Nat) := if Nat.beq op.toNat 18 = true then some (.ldc a.toNat, 2) else if Nat.beq op.toNat 22 = true then some (.lload a.toNat, 2) else if Nat.beq op.toNat 21 = true then some (.iload a.toNat, 2) else if Nat.beq op.toNat 24 = true then some (.dload a.toNat, 2) else if Nat.beq op.toNat 25 = true then some (.aload a.toNat, 2) else if Nat.beq op.toNat 54 = true then some (.istore a.toNat, 2) else if Nat.beq op.toNat 57 = true then some (.dstore a.toNat, 2) else if Nat.beq op.toNat 58 = true then some (.astore a.toNat, 2) else if Nat.beq op.toNat 16 = true then some (.bipush (Jvm.ClassFile.Reader.signed 8 a.toNat), 2) else none
def ds_o2 (op a b : UInt8) : Option (Instr × Nat) := if Nat.beq op.toNat 153 = true then some (.ifCond .eq (Jvm.ClassFile.Reader.signed 16 (a.toNat * 256 + b.toNat)), 3) else if Nat.beq op.toNat 154 = true then some (.ifCond .ne (Jvm.ClassFile.Reader.signed 16 (a.toNat * 256 + b.toNat)), 3) else if Nat.beq op.toNat 159 = true then some (.if_icmp .eq (Jvm.ClassFile.Reader.signed 16 (a.toNat * 256 + b.toNat)), 3) else if Nat.beq op.toNat 160 = true then some (.if_icmp .ne (Jvm.ClassFile.Reader.signed 16 (a.toNat * 256 + b.toNat)), 3) else if Nat.beq op.toNat 161 = true then some (.if_icmp .lt (Jvm.ClassFile.Reader.signed 16 (a.toNat * 256 + b.toNat)), 3) else if Nat.beq op.toNat 162 = true then some (.if_icmp .ge (Jvm.ClassFile.Reader.signed 16 (a.toNat * 256 + b.toNat)), 3) else if Nat.beq op.toNat 163 = true then some (.if_icmp .gt (Jvm.ClassFile.Reader.signed 16 (a.toNat * 256 + b.toNat)), 3) else if Nat.beq op.toNat 164 = true then some (.if_icmp .le (Jvm.ClassFile.Reader.signed 16 (a.toNat * 256 + b.toNat)), 3) else if Nat.beq op.toNat 155 = true then some (.ifCond .lt (Jvm.ClassFile.Reader.signed 16 (a.toNat * 256 + b.toNat)), 3) else if Nat.beq op.toNat 156 = true then some (.ifCond .ge (Jvm.ClassFile.Reader.signed 16 (a.toNat * 256 + b.toNat)), 3) else if Nat.beq op.toNat 157 = true then some (.ifCond .gt (Jvm.ClassFile.Reader.signed 16 (a.toNat * 256 + b.toNat)), 3) else if Nat.beq op.toNat 158 = true then some (.ifCond .le (Jvm.ClassFile.Reader.signed 16 (a.toNat * 256 + b.toNat)), 3) else if Nat.beq op.toNat 198 = true then some (.ifnull (Jvm.ClassFile.Reader.signed 16 (a.toNat * 256 + b.toNat)), 3) else if Nat.beq op.toNat 199 = true then some (.ifnonnull (Jvm.ClassFile.Reader.signed 16 (a.toNat * 256 + b.toNat)), 3) else if Nat.beq op.toNat 167 = true then some (.goto (Jvm.ClassFile.Reader.signed 16 (a.toNat * 256 + b.toNat)), 3) else if Nat.beq op.toNat 17 = true then some (.sipush (Jvm.ClassFile.Reader.signed 16 (a.toNat * 256 + b.toNat)), 3) else if Nat.beq op.toNat 19 = true then some (.ldc_w (a.toNat * 256 + b.toNat), 3) else if Nat.beq op.toNat 20 = true then some (.ldc2_w (a.toNat * 256 + b.toNat), 3) else if Nat.beq op.toNat 180 = true then some (.getfield (a.toNat * 256 + b.toNat), 3) else if Nat.beq op.toNat 181 = true then some (.putfield (a.toNat * 256 + b.toNat), 3) else if Nat.beq op.toNat 189 = true then some (.anewarray (a.toNat * 256 + b.toNat), 3) else if Nat.beq op.toNat 182 = true then some (.invokevirtual (a.toNat * 256 + b.toNat), 3) else if Nat.beq op.toNat 183 = true then some (.invokespecial (a.toNat * 256 + b.toNat), 3) else if Nat.beq op.toNat 184 = true then some (.invokestatic (a.toNat * 256 + b.toNat), 3) else if Nat.beq op.toNat 187 = true then some (.new (a.toNat * 256 + b.toNat), 3) else if Nat.beq op.toNat 132 = true then some (.iinc a.toNat (Jvm.ClassFile.Reader.signed 8 b.toNat), 3) else none
theorem ds_op {op : UInt8} {n : Nat} (h : Nat.beq op.toNat n = true) : op = UInt8.ofNat n := by
  rw [← Nat.eq_of_beq_eq_true h]
  exact (UInt8.ofNat_toNat).symm
theorem ds_o0_s {bs : ByteArray} {d : Nat} {op : UInt8} {i : Instr} {n : Nat} (h : bs.data.toList[d]? = some op) (e : ds_o0 op = some (i, n)) : decode bs d = .ok (i, n) := by
  unfold ds_o0 at e
  by_cases e3 : Nat.beq op.toNat 3 = true
  · rw [if_pos e3] at e
    cases e
    exact ds_3 (by rw [h, ds_op e3]; rfl)
  rw [if_neg e3] at e
  by_cases e4 : Nat.beq op.toNat 4 = true
  · rw [if_pos e4] at e
    cases e
    exact ds_4 (by rw [h, ds_op e4]; rfl)
  rw [if_neg e4] at e
  by_cases e5 : Nat.beq op.toNat 5 = true
  · rw [if_pos e5] at e
    cases e
    exact ds_5 (by rw [h, ds_op e5]; rfl)
  rw [if_neg e5] at e
  by_cases e6 : Nat.beq op.toNat 6 = true
  · rw [if_pos e6] at e
    cases e
    exact ds_6 (by rw [h, ds_op e6]; rfl)
  rw [if_neg e6] at e
  by_cases e7 : Nat.beq op.toNat 7 = true
  · rw [if_pos e7] at e
    cases e
    exact ds_7 (by rw [h, ds_op e7]; rfl)
  rw [if_neg e7] at e
  by_cases e8 : Nat.beq op.toNat 8 = true
  · rw [if_pos e8] at e
    cases e
    exact ds_8 (by rw [h, ds_op e8]; rfl)
  rw [if_neg e8] at e
  by_cases e9 : Nat.beq op.toNat 9 = true
  · rw [if_pos e9] at e
    cases e
    exact ds_9 (by rw [h, ds_op e9]; rfl)
  rw [if_neg e9] at e
  by_cases e10 : Nat.beq op.toNat 10 = true
  · rw [if_pos e10] at e
    cases e
    exact ds_10 (by rw [h, ds_op e10]; rfl)
  rw [if_neg e10] at e
  by_cases e26 : Nat.beq op.toNat 26 = true
  · rw [if_pos e26] at e
    cases e
    exact ds_26 (by rw [h, ds_op e26]; rfl)
  rw [if_neg e26] at e
  by_cases e27 : Nat.beq op.toNat 27 = true
  · rw [if_pos e27] at e
    cases e
    exact ds_27 (by rw [h, ds_op e27]; rfl)
  rw [if_neg e27] at e
  by_cases e28 : Nat.beq op.toNat 28 = true
  · rw [if_pos e28] at e
    cases e
    exact ds_28 (by rw [h, ds_op e28]; rfl)
  rw [if_neg e28] at e
  by_cases e29 : Nat.beq op.toNat 29 = true
  · rw [if_pos e29] at e
    cases e
    exact ds_29 (by rw [h, ds_op e29]; rfl)
  rw [if_neg e29] at e
  by_cases e42 : Nat.beq op.toNat 42 = true
  · rw [if_pos e42] at e
    cases e
    exact ds_42 (by rw [h, ds_op e42]; rfl)
  rw [if_neg e42] at e
  by_cases e43 : Nat.beq op.toNat 43 = true
  · rw [if_pos e43] at e
    cases e
    exact ds_43 (by rw [h, ds_op e43]; rfl)
  rw [if_neg e43] at e
  by_cases e44 : Nat.beq op.toNat 44 = true
  · rw [if_pos e44] at e
    cases e
    exact ds_44 (by rw [h, ds_op e44]; rfl)
  rw [if_neg e44] at e
  by_cases e45 : Nat.beq op.toNat 45 = true
  · rw [if_pos e45] at e
    cases e
    exact ds_45 (by rw [h, ds_op e45]; rfl)
  rw [if_neg e45] at e
  by_cases e46 : Nat.beq op.toNat 46 = true
  · rw [if_pos e46] at e
    cases e
    exact ds_46 (by rw [h, ds_op e46]; rfl)
  rw [if_neg e46] at e
  by_cases e47 : Nat.beq op.toNat 47 = true
  · rw [if_pos e47] at e
    cases e
    exact ds_47 (by rw [h, ds_op e47]; rfl)
  rw [if_neg e47] at e
  by_cases e79 : Nat.beq op.toNat 79 = true
  · rw [if_pos e79] at e
    cases e
    exact ds_79 (by rw [h, ds_op e79]; rfl)
  rw [if_neg e79] at e
  by_cases e89 : Nat.beq op.toNat 89 = true
  · rw [if_pos e89] at e
    cases e
    exact ds_89 (by rw [h, ds_op e89]; rfl)
  rw [if_neg e89] at e
  by_cases e96 : Nat.beq op.toNat 96 = true
  · rw [if_pos e96] at e
    cases e
    exact ds_96 (by rw [h, ds_op e96]; rfl)
  rw [if_neg e96] at e
  by_cases e100 : Nat.beq op.toNat 100 = true
  · rw [if_pos e100] at e
    cases e
    exact ds_100 (by rw [h, ds_op e100]; rfl)
  rw [if_neg e100] at e
  by_cases e126 : Nat.beq op.toNat 126 = true
  · rw [if_pos e126] at e
    cases e
    exact ds_126 (by rw [h, ds_op e126]; rfl)
  rw [if_neg e126] at e
  by_cases e133 : Nat.beq op.toNat 133 = true
  · rw [if_pos e133] at e
    cases e
    exact ds_133 (by rw [h, ds_op e133]; rfl)
  rw [if_neg e133] at e
  by_cases e141 : Nat.beq op.toNat 141 = true
  · rw [if_pos e141] at e
    cases e
    exact ds_141 (by rw [h, ds_op e141]; rfl)
  rw [if_neg e141] at e
  by_cases e148 : Nat.beq op.toNat 148 = true
  · rw [if_pos e148] at e
    cases e
    exact ds_148 (by rw [h, ds_op e148]; rfl)
  rw [if_neg e148] at e
  by_cases e151 : Nat.beq op.toNat 151 = true
  · rw [if_pos e151] at e
    cases e
    exact ds_151 (by rw [h, ds_op e151]; rfl)
  rw [if_neg e151] at e
  by_cases e172 : Nat.beq op.toNat 172 = true
  · rw [if_pos e172] at e
    cases e
    exact ds_172 (by rw [h, ds_op e172]; rfl)
  rw [if_neg e172] at e
  by_cases e190 : Nat.beq op.toNat 190 = true
  · rw [if_pos e190] at e
    cases e
    exact ds_190 (by rw [h, ds_op e190]; rfl)
  rw [if_neg e190] at e
  by_cases e75 : Nat.beq op.toNat 75 = true
  · rw [if_pos e75] at e
    cases e
    exact ds_75 (by rw [h, ds_op e75]; rfl)
  rw [if_neg e75] at e
  by_cases e76 : Nat.beq op.toNat 76 = true
  · rw [if_pos e76] at e
    cases e
    exact ds_76 (by rw [h, ds_op e76]; rfl)
  rw [if_neg e76] at e
  by_cases e77 : Nat.beq op.toNat 77 = true
  · rw [if_pos e77] at e
    cases e
    exact ds_77 (by rw [h, ds_op e77]; rfl)
  rw [if_neg e77] at e
  by_cases e78 : Nat.beq op.toNat 78 = true
  · rw [if_pos e78] at e
    cases e
    exact ds_78 (by rw [h, ds_op e78]; rfl)
  rw [if_neg e78] at e
  by_cases e59 : Nat.beq op.toNat 59 = true
  · rw [if_pos e59] at e
    cases e
    exact ds_59 (by rw [h, ds_op e59]; rfl)
  rw [if_neg e59] at e
  by_cases e60 : Nat.beq op.toNat 60 = true
  · rw [if_pos e60] at e
    cases e
    exact ds_60 (by rw [h, ds_op e60]; rfl)
  rw [if_neg e60] at e
  by_cases e61 : Nat.beq op.toNat 61 = true
  · rw [if_pos e61] at e
    cases e
    exact ds_61 (by rw [h, ds_op e61]; rfl)
  rw [if_neg e61] at e
  by_cases e62 : Nat.beq op.toNat 62 = true
  · rw [if_pos e62] at e
    cases e
    exact ds_62 (by rw [h, ds_op e62]; rfl)
  rw [if_neg e62] at e
  by_cases e30 : Nat.beq op.toNat 30 = true
  · rw [if_pos e30] at e
    cases e
    exact ds_30 (by rw [h, ds_op e30]; rfl)
  rw [if_neg e30] at e
  by_cases e31 : Nat.beq op.toNat 31 = true
  · rw [if_pos e31] at e
    cases e
    exact ds_31 (by rw [h, ds_op e31]; rfl)
  rw [if_neg e31] at e
  by_cases e32 : Nat.beq op.toNat 32 = true
  · rw [if_pos e32] at e
    cases e
    exact ds_32 (by rw [h, ds_op e32]; rfl)
  rw [if_neg e32] at e
  by_cases e33 : Nat.beq op.toNat 33 = true
  · rw [if_pos e33] at e
    cases e
    exact ds_33 (by rw [h, ds_op e33]; rfl)
  rw [if_neg e33] at e
  by_cases e1 : Nat.beq op.toNat 1 = true
  · rw [if_pos e1] at e
    cases e
    exact ds_1 (by rw [h, ds_op e1]; rfl)
  rw [if_neg e1] at e
  by_cases e50 : Nat.beq op.toNat 50 = true
  · rw [if_pos e50] at e
    cases e
    exact ds_50 (by rw [h, ds_op e50]; rfl)
  rw [if_neg e50] at e
  by_cases e80 : Nat.beq op.toNat 80 = true
  · rw [if_pos e80] at e
    cases e
    exact ds_80 (by rw [h, ds_op e80]; rfl)
  rw [if_neg e80] at e
  by_cases e83 : Nat.beq op.toNat 83 = true
  · rw [if_pos e83] at e
    cases e
    exact ds_83 (by rw [h, ds_op e83]; rfl)
  rw [if_neg e83] at e
  by_cases e87 : Nat.beq op.toNat 87 = true
  · rw [if_pos e87] at e
    cases e
    exact ds_87 (by rw [h, ds_op e87]; rfl)
  rw [if_neg e87] at e
  by_cases e92 : Nat.beq op.toNat 92 = true
  · rw [if_pos e92] at e
    cases e
    exact ds_92 (by rw [h, ds_op e92]; rfl)
  rw [if_neg e92] at e
  by_cases e97 : Nat.beq op.toNat 97 = true
  · rw [if_pos e97] at e
    cases e
    exact ds_97 (by rw [h, ds_op e97]; rfl)
  rw [if_neg e97] at e
  by_cases e101 : Nat.beq op.toNat 101 = true
  · rw [if_pos e101] at e
    cases e
    exact ds_101 (by rw [h, ds_op e101]; rfl)
  rw [if_neg e101] at e
  by_cases e104 : Nat.beq op.toNat 104 = true
  · rw [if_pos e104] at e
    cases e
    exact ds_104 (by rw [h, ds_op e104]; rfl)
  rw [if_neg e104] at e
  by_cases e108 : Nat.beq op.toNat 108 = true
  · rw [if_pos e108] at e
    cases e
    exact ds_108 (by rw [h, ds_op e108]; rfl)
  rw [if_neg e108] at e
  by_cases e112 : Nat.beq op.toNat 112 = true
  · rw [if_pos e112] at e
    cases e
    exact ds_112 (by rw [h, ds_op e112]; rfl)
  rw [if_neg e112] at e
  by_cases e120 : Nat.beq op.toNat 120 = true
  · rw [if_pos e120] at e
    cases e
    exact ds_120 (by rw [h, ds_op e120]; rfl)
  rw [if_neg e120] at e
  by_cases e122 : Nat.beq op.toNat 122 = true
  · rw [if_pos e122] at e
    cases e
    exact ds_122 (by rw [h, ds_op e122]; rfl)
  rw [if_neg e122] at e
  by_cases e124 : Nat.beq op.toNat 124 = true
  · rw [if_pos e124] at e
    cases e
    exact ds_124 (by rw [h, ds_op e124]; rfl)
  rw [if_neg e124] at e
  by_cases e128 : Nat.beq op.toNat 128 = true
  · rw [if_pos e128] at e
    cases e
    exact ds_128 (by rw [h, ds_op e128]; rfl)
  rw [if_neg e128] at e
  by_cases e130 : Nat.beq op.toNat 130 = true
  · rw [if_pos e130] at e
    cases e
    exact ds_130 (by rw [h, ds_op e130]; rfl)
  rw [if_neg e130] at e
  by_cases e135 : Nat.beq op.toNat 135 = true
  · rw [if_pos e135] at e
    cases e
    exact ds_135 (by rw [h, ds_op e135]; rfl)
  rw [if_neg e135] at e
  by_cases e134 : Nat.beq op.toNat 134 = true
  · rw [if_pos e134] at e
    cases e
    exact ds_134 (by rw [h, ds_op e134]; rfl)
  rw [if_neg e134] at e
  by_cases e174 : Nat.beq op.toNat 174 = true
  · rw [if_pos e174] at e
    cases e
    exact ds_174 (by rw [h, ds_op e174]; rfl)
  rw [if_neg e174] at e
  by_cases e175 : Nat.beq op.toNat 175 = true
  · rw [if_pos e175] at e
    cases e
    exact ds_175 (by rw [h, ds_op e175]; rfl)
  rw [if_neg e175] at e
  by_cases e176 : Nat.beq op.toNat 176 = true
  · rw [if_pos e176] at e
    cases e
    exact ds_176 (by rw [h, ds_op e176]; rfl)
  rw [if_neg e176] at e
  by_cases e177 : Nat.beq op.toNat 177 = true
  · rw [if_pos e177] at e
    cases e
    exact ds_177 (by rw [h, ds_op e177]; rfl)
  rw [if_neg e177] at e
  by_cases e191 : Nat.beq op.toNat 191 = true
  · rw [if_pos e191] at e
    cases e
    exact ds_191 (by rw [h, ds_op e191]; rfl)
  rw [if_neg e191] at e
  cases e
theorem ds_o1_s {bs : ByteArray} {d : Nat} {op a : UInt8} {i : Instr} {n : Nat} (h : bs.data.toList[d]? = some op) (h1 : bs.data.toList[d + 1]? = some a) (e : ds_o1 op a = some (i, n)) : decode bs d = .ok (i, n) := by
  unfold ds_o1 at e
  by_cases e18 : Nat.beq op.toNat 18 = true
  · rw [if_pos e18] at e
    cases e
    exact ds_18 (by rw [h, ds_op e18]; rfl) h1
  rw [if_neg e18] at e
  by_cases e22 : Nat.beq op.toNat 22 = true
  · rw [if_pos e22] at e
    cases e
    exact ds_22 (by rw [h, ds_op e22]; rfl) h1
  rw [if_neg e22] at e
  by_cases e21 : Nat.beq op.toNat 21 = true
  · rw [if_pos e21] at e
    cases e
    exact ds_21 (by rw [h, ds_op e21]; rfl) h1
  rw [if_neg e21] at e
  by_cases e24 : Nat.beq op.toNat 24 = true
  · rw [if_pos e24] at e
    cases e
    exact ds_24 (by rw [h, ds_op e24]; rfl) h1
  rw [if_neg e24] at e
  by_cases e25 : Nat.beq op.toNat 25 = true
  · rw [if_pos e25] at e
    cases e
    exact ds_25 (by rw [h, ds_op e25]; rfl) h1
  rw [if_neg e25] at e
  by_cases e54 : Nat.beq op.toNat 54 = true
  · rw [if_pos e54] at e
    cases e
    exact ds_54 (by rw [h, ds_op e54]; rfl) h1
  rw [if_neg e54] at e
  by_cases e57 : Nat.beq op.toNat 57 = true
  · rw [if_pos e57] at e
    cases e
    exact ds_57 (by rw [h, ds_op e57]; rfl) h1
  rw [if_neg e57] at e
  by_cases e58 : Nat.beq op.toNat 58 = true
  · rw [if_pos e58] at e
    cases e
    exact ds_58 (by rw [h, ds_op e58]; rfl) h1
  rw [if_neg e58] at e
  by_cases e16 : Nat.beq op.toNat 16 = true
  · rw [if_pos e16] at e
    cases e
    exact ds_16 (by rw [h, ds_op e16]; rfl) h1
  rw [if_neg e16] at e
  cases e
theorem ds_o2_s {bs : ByteArray} {d : Nat} {op a b : UInt8} {i : Instr} {n : Nat} (h : bs.data.toList[d]? = some op) (h1 : bs.data.toList[d + 1]? = some a) (h2 : bs.data.toList[d + 2]? = some b) (e : ds_o2 op a b = some (i, n)) : decode bs d = .ok (i, n) := by
  unfold ds_o2 at e
  by_cases e153 : Nat.beq op.toNat 153 = true
  · rw [if_pos e153] at e
    cases e
    exact ds_153 (by rw [h, ds_op e153]; rfl) h1 h2
  rw [if_neg e153] at e
  by_cases e154 : Nat.beq op.toNat 154 = true
  · rw [if_pos e154] at e
    cases e
    exact ds_154 (by rw [h, ds_op e154]; rfl) h1 h2
  rw [if_neg e154] at e
  by_cases e159 : Nat.beq op.toNat 159 = true
  · rw [if_pos e159] at e
    cases e
    exact ds_159 (by rw [h, ds_op e159]; rfl) h1 h2
  rw [if_neg e159] at e
  by_cases e160 : Nat.beq op.toNat 160 = true
  · rw [if_pos e160] at e
    cases e
    exact ds_160 (by rw [h, ds_op e160]; rfl) h1 h2
  rw [if_neg e160] at e
  by_cases e161 : Nat.beq op.toNat 161 = true
  · rw [if_pos e161] at e
    cases e
    exact ds_161 (by rw [h, ds_op e161]; rfl) h1 h2
  rw [if_neg e161] at e
  by_cases e162 : Nat.beq op.toNat 162 = true
  · rw [if_pos e162] at e
    cases e
    exact ds_162 (by rw [h, ds_op e162]; rfl) h1 h2
  rw [if_neg e162] at e
  by_cases e163 : Nat.beq op.toNat 163 = true
  · rw [if_pos e163] at e
    cases e
    exact ds_163 (by rw [h, ds_op e163]; rfl) h1 h2
  rw [if_neg e163] at e
  by_cases e164 : Nat.beq op.toNat 164 = true
  · rw [if_pos e164] at e
    cases e
    exact ds_164 (by rw [h, ds_op e164]; rfl) h1 h2
  rw [if_neg e164] at e
  by_cases e155 : Nat.beq op.toNat 155 = true
  · rw [if_pos e155] at e
    cases e
    exact ds_155 (by rw [h, ds_op e155]; rfl) h1 h2
  rw [if_neg e155] at e
  by_cases e156 : Nat.beq op.toNat 156 = true
  · rw [if_pos e156] at e
    cases e
    exact ds_156 (by rw [h, ds_op e156]; rfl) h1 h2
  rw [if_neg e156] at e
  by_cases e157 : Nat.beq op.toNat 157 = true
  · rw [if_pos e157] at e
    cases e
    exact ds_157 (by rw [h, ds_op e157]; rfl) h1 h2
  rw [if_neg e157] at e
  by_cases e158 : Nat.beq op.toNat 158 = true
  · rw [if_pos e158] at e
    cases e
    exact ds_158 (by rw [h, ds_op e158]; rfl) h1 h2
  rw [if_neg e158] at e
  by_cases e198 : Nat.beq op.toNat 198 = true
  · rw [if_pos e198] at e
    cases e
    exact ds_198 (by rw [h, ds_op e198]; rfl) h1 h2
  rw [if_neg e198] at e
  by_cases e199 : Nat.beq op.toNat 199 = true
  · rw [if_pos e199] at e
    cases e
    exact ds_199 (by rw [h, ds_op e199]; rfl) h1 h2
  rw [if_neg e199] at e
  by_cases e167 : Nat.beq op.toNat 167 = true
  · rw [if_pos e167] at e
    cases e
    exact ds_167 (by rw [h, ds_op e167]; rfl) h1 h2
  rw [if_neg e167] at e
  by_cases e17 : Nat.beq op.toNat 17 = true
  · rw [if_pos e17] at e
    cases e
    exact ds_17 (by rw [h, ds_op e17]; rfl) h1 h2
  rw [if_neg e17] at e
  by_cases e19 : Nat.beq op.toNat 19 = true
  · rw [if_pos e19] at e
    cases e
    exact ds_19 (by rw [h, ds_op e19]; rfl) h1 h2
  rw [if_neg e19] at e
  by_cases e20 : Nat.beq op.toNat 20 = true
  · rw [if_pos e20] at e
    cases e
    exact ds_20 (by rw [h, ds_op e20]; rfl) h1 h2
  rw [if_neg e20] at e
  by_cases e180 : Nat.beq op.toNat 180 = true
  · rw [if_pos e180] at e
    cases e
    exact ds_180 (by rw [h, ds_op e180]; rfl) h1 h2
  rw [if_neg e180] at e
  by_cases e181 : Nat.beq op.toNat 181 = true
  · rw [if_pos e181] at e
    cases e
    exact ds_181 (by rw [h, ds_op e181]; rfl) h1 h2
  rw [if_neg e181] at e
  by_cases e189 : Nat.beq op.toNat 189 = true
  · rw [if_pos e189] at e
    cases e
    exact ds_189 (by rw [h, ds_op e189]; rfl) h1 h2
  rw [if_neg e189] at e
  by_cases e182 : Nat.beq op.toNat 182 = true
  · rw [if_pos e182] at e
    cases e
    exact ds_182 (by rw [h, ds_op e182]; rfl) h1 h2
  rw [if_neg e182] at e
  by_cases e183 : Nat.beq op.toNat 183 = true
  · rw [if_pos e183] at e
    cases e
    exact ds_183 (by rw [h, ds_op e183]; rfl) h1 h2
  rw [if_neg e183] at e
  by_cases e184 : Nat.beq op.toNat 184 = true
  · rw [if_pos e184] at e
    cases e
    exact ds_184 (by rw [h, ds_op e184]; rfl) h1 h2
  rw [if_neg e184] at e
  by_cases e187 : Nat.beq op.toNat 187 = true
  · rw [if_pos e187] at e
    cases e
    exact ds_187 (by rw [h, ds_op e187]; rfl) h1 h2
  rw [if_neg e187] at e
  by_cases e132 : Nat.beq op.toNat 132 = true
  · rw [if_pos e132] at e
    cases e
    exact ds_132 (by rw [h, ds_op e132]; rfl) h1 h2
  rw [if_neg e132] at e
  cases e
def ds_one (L : List UInt8) : Option (Instr × Nat) := match L with
  | op :: r => match ds_o0 op with
    | some x => some x
    | none => match r with
      | a :: r => match ds_o1 op a with
        | some x => some x
        | none => match r with
          | b :: _ => ds_o2 op a b
          | [] => none
      | [] => none
  | [] => none
theorem ds_one_s {bs : ByteArray} {d : Nat} {i : Instr} {n : Nat} (e : ds_one (bs.data.toList.drop d) = some (i, n)) : decode bs d = .ok (i, n) := by
  have hk : ∀ k, bs.data.toList[d + k]? = (bs.data.toList.drop d)[k]? := fun k => by rw [List.getElem?_drop]
  have h0 := hk 0
  have h1 := hk 1
  have h2 := hk 2
  generalize bs.data.toList.drop d = L at e h0 h1 h2
  unfold ds_one at e
  split at e
  · next op r =>
    split at e
    · next x hx => cases e; exact ds_o0_s h0 hx
    · split at e
      · next a r2 =>
        split at e
        · next x hx => cases e; exact ds_o1_s h0 h1 hx
        · split at e
          · next b r3 => exact ds_o2_s h0 h1 h2 e
          · cases e
      · cases e
  · cases e
/-- the whole of a method's code; what ds_one doesn't know, straight -/
def ds_chk (bs : ByteArray) : List (Option (Instr × Nat)) → List UInt8 → Nat → Bool
  | [], _, _ => true
  | none :: r, L, pc => ds_chk bs r L.tail (pc + 1)
  | some e :: r, L, pc => (decide (ds_one L = some e) || decide (decode bs pc = .ok e)) && ds_chk bs r L.tail (pc + 1)
theorem ds_chk_s {bs : ByteArray} : ∀ (E : List (Option (Instr × Nat))) (d : Nat), ds_chk bs E (bs.data.toList.drop d) d = true → ∀ (k : Nat) (i : Instr) (n : Nat), E[k]? = some (some (i, n)) → decode bs (d + k) = .ok (i, n)
  | [], d, _, k, i, n, he => by cases he
  | a :: r, d, h, k, i, n, he => by
    have ht : (bs.data.toList.drop d).tail = bs.data.toList.drop (d + 1) := by rw [List.tail_drop]
    cases a with
    | none =>
      unfold ds_chk at h
      rw [ht] at h
      cases k with
      | zero => cases he
      | succ k =>
        rw [List.getElem?_cons_succ] at he
        have := ds_chk_s r (d + 1) h k i n he
        rw [show d + (k + 1) = d + 1 + k by omega]
        exact this
    | some e9 =>
      unfold ds_chk at h
      rw [ht, Bool.and_eq_true] at h
      cases k with
      | zero =>
        rw [List.getElem?_cons_zero] at he
        cases he
        have h1 := h.1
        simp only [Bool.or_eq_true, decide_eq_true_iff] at h1
        rcases h1 with h1 | h1
        · exact ds_one_s h1
        · exact h1
      | succ k =>
        rw [List.getElem?_cons_succ] at he
        have := ds_chk_s r (d + 1) h.2 k i n he
        rw [show d + (k + 1) = d + 1 + k by omega]
        exact this
def ds_deB (M : ri_Mt) : Bool := ds_chk (ri_by M) (ri_co M) (ri_by M).data.toList 0
theorem ds_deB_s {M : ri_Mt} (e : ds_deB M = true) : ∀ pc i len, (ri_co M)[pc]? = some (some (i, len)) → decode (ri_by M) pc = .ok (i, len) := by
  intro pc i len h
  have h1 := ds_chk_s (ri_co M) 0 e pc i len h
  rw [Nat.zero_add] at h1
  exact h1
end DS
/-! decoded code: checked -/
theorem tb_d0 : g_mts_0.all ds_deB = true := by decide +kernel
theorem tb_d1 : g_mts_1.all ds_deB = true := by decide +kernel
theorem tb_d2 : g_mts_2.all ds_deB = true := by decide +kernel
theorem tb_d3 : g_mts_3.all ds_deB = true := by decide +kernel
theorem tb_d4 : g_mts_4.all ds_deB = true := by decide +kernel
theorem tb_d5 : g_mts_5.all ds_deB = true := by decide +kernel
theorem tb_d6 : g_mts_6.all ds_deB = true := by decide +kernel
theorem tb_d7 : g_mts_7.all ds_deB = true := by decide +kernel
theorem tb_d8 : g_mts_8.all ds_deB = true := by decide +kernel
theorem tb_d9 : g_mts_9.all ds_deB = true := by decide +kernel
theorem tb_law : ds_deB g_law = true := by decide +kernel
theorem tb_dl : ∀ pc i len, (ri_co g_law)[pc]? = some (some (i, len)) → decode (ri_by g_law) pc = .ok (i, len) := ds_deB_s tb_law
end
section
/-! what the program shows of its tables, all together; the world at the law's entry -/
section GW
theorem tb_mem {P : ri_Mt → Prop} (h0 : ∀ M ∈ g_mts_0, P M) (h1 : ∀ M ∈ g_mts_1, P M) (h2 : ∀ M ∈ g_mts_2, P M) (h3 : ∀ M ∈ g_mts_3, P M) (h4 : ∀ M ∈ g_mts_4, P M) (h5 : ∀ M ∈ g_mts_5, P M) (h6 : ∀ M ∈ g_mts_6, P M) (h7 : ∀ M ∈ g_mts_7, P M) (h8 : ∀ M ∈ g_mts_8, P M) (h9 : ∀ M ∈ g_mts_9, P M) : ∀ M ∈ g_mts, P M := by
  intro M hM
  unfold g_mts at hM
  rcases List.mem_append.mp hM with hM | hM
  · rcases List.mem_append.mp hM with hM | hM
    · rcases List.mem_append.mp hM with hM | hM
      · rcases List.mem_append.mp hM with hM | hM
        · rcases List.mem_append.mp hM with hM | hM
          · rcases List.mem_append.mp hM with hM | hM
            · rcases List.mem_append.mp hM with hM | hM
              · rcases List.mem_append.mp hM with hM | hM
                · rcases List.mem_append.mp hM with hM | hM
                  · exact h0 M hM
                  · exact h1 M hM
                · exact h2 M hM
              · exact h3 M hM
            · exact h4 M hM
          · exact h5 M hM
        · exact h6 M hM
      · exact h7 M hM
    · exact h8 M hM
  · exact h9 M hM
def tb_ow (k : Nat) : String := match k with
  | 0 => RX0 | 1 => RX1 | 2 => RX2 | 3 => RX3 | 4 => RX4 | 5 => RX5 | 6 => RX6 | 7 => RX7 | 8 => RX8 | _ => RL
def tb_owB (M : ri_Mt) : Bool := decide (ri_own M = tb_ow (ri_pn M)) && Nat.ble (ri_pn M) 9
theorem tb_o0 : g_mts_0.all tb_owB = true := by decide +kernel
theorem tb_o1 : g_mts_1.all tb_owB = true := by decide +kernel
theorem tb_o2 : g_mts_2.all tb_owB = true := by decide +kernel
theorem tb_o3 : g_mts_3.all tb_owB = true := by decide +kernel
theorem tb_o4 : g_mts_4.all tb_owB = true := by decide +kernel
theorem tb_o5 : g_mts_5.all tb_owB = true := by decide +kernel
theorem tb_o6 : g_mts_6.all tb_owB = true := by decide +kernel
theorem tb_o7 : g_mts_7.all tb_owB = true := by decide +kernel
theorem tb_o8 : g_mts_8.all tb_owB = true := by decide +kernel
theorem tb_o9 : g_mts_9.all tb_owB = true := by decide +kernel
theorem tb_all {l : List ri_Mt} {f : ri_Mt → Bool} (h : l.all f = true) : ∀ M ∈ l, f M = true := List.all_eq_true.mp h
theorem tb_own : ∀ M ∈ g_mts, tb_owB M = true := tb_mem (tb_all tb_o0) (tb_all tb_o1) (tb_all tb_o2) (tb_all tb_o3) (tb_all tb_o4) (tb_all tb_o5) (tb_all tb_o6) (tb_all tb_o7) (tb_all tb_o8) (tb_all tb_o9)
/-- the links, by the number of their owner -/
theorem tb_lk (k : Nat) (hk : k ≤ 9) : ∀ q ∈ (ri_cps g_G).getD k [], ri_link g_ALL g_STR g_G (tb_ow k) q.1 q.2 := by
  match k, hk with
  | 0, _ => exact ri_hsL_s g_cp_0 g_h_0 tb_l0
  | 1, _ => exact ri_hsL_s g_cp_1 g_h_1 tb_l1
  | 2, _ => exact ri_hsL_s g_cp_2 g_h_2 tb_l2
  | 3, _ => exact ri_hsL_s g_cp_3 g_h_3 tb_l3
  | 4, _ => exact ri_hsL_s g_cp_4 g_h_4 tb_l4
  | 5, _ => exact ri_hsL_s g_cp_5 g_h_5 tb_l5
  | 6, _ => exact ri_hsL_s g_cp_6 g_h_6 tb_l6
  | 7, _ => exact ri_hsL_s g_cp_7 g_h_7 tb_l7
  | 8, _ => exact ri_hsL_s g_cp_8 g_h_8 tb_l8
  | 9, _ => exact ri_hsL_s g_cp_9 g_h_9 tb_l9
  | k + 10, h => omega
theorem tb_lkOK : ri_lkOK g_ALL g_STR g_G := by
  intro M hM q hq
  have h := tb_own M hM
  unfold tb_owB at h
  rw [Bool.and_eq_true, decide_eq_true_iff] at h
  rw [h.1]
  exact tb_lk _ (Nat.le_of_ble_eq_true h.2) q hq
theorem tb_lkLaw : ri_lkM g_ALL g_STR g_G g_law := fun q hq => ri_hsL_s g_cp_9 g_h_9 tb_l9 q hq
def g_lawP : ri_Mt := (RL, x, code, 9, ret, g_co_law, 9, [])
theorem tb_lkLawP : ri_lkM g_ALL g_STR g_G g_lawP := fun q hq => ri_hsL_s g_cp_9 g_h_9 tb_l9 q hq
theorem tb_mo : ∀ M ∈ g_mts, ri_mo g_TT M := tb_mem (ri_moL_s _ _ tb_m0) (ri_moL_s _ _ tb_m1) (ri_moL_s _ _ tb_m2) (ri_moL_s _ _ tb_m3) (ri_moL_s _ _ tb_m4) (ri_moL_s _ _ tb_m5) (ri_moL_s _ _ tb_m6) (ri_moL_s _ _ tb_m7) (ri_moL_s _ _ tb_m8) (ri_moL_s _ _ tb_m9)
theorem tb_de : ∀ M ∈ g_mts, ds_deB M = true := tb_mem (tb_all tb_d0) (tb_all tb_d1) (tb_all tb_d2) (tb_all tb_d3) (tb_all tb_d4) (tb_all tb_d5) (tb_all tb_d6) (tb_all tb_d7) (tb_all tb_d8) (tb_all tb_d9)
theorem tb_warm : ∀ w ∈ g_ALL, ri_warm w = true := fun w hw => (List.mem_filter.mp hw).2
theorem tb_TB : ri_TB g_ALL g_STR g_G 30 := ⟨ri_clOK_s (G := g_G) tb_cl, tb_lkOK, tb_warm, fun M hM => (tb_mo M hM).2, fun M hM => (tb_mo M hM).1, tb_ac, fun M hM => ds_deB_s (tb_de M hM), tb_nc⟩
theorem tb_in0 {w : Jvm.Cond} (h : w ∈ g_TT.flatten) : w ∈ lw_tbl := by
  obtain ⟨l, hl, hw⟩ := List.mem_flatten.mp h
  unfold lw_tbl tables_1
  simp only [g_TT, List.mem_cons, List.not_mem_nil, or_false] at hl
  simp only [List.mem_append]
  rcases hl with rfl | rfl | rfl | rfl | rfl | rfl | rfl | rfl | rfl | rfl
  · exact Or.inr (Or.inl hw)
  · exact Or.inr (Or.inr (Or.inl hw))
  · exact Or.inr (Or.inr (Or.inr (Or.inl hw)))
  · exact Or.inr (Or.inr (Or.inr (Or.inr (Or.inl hw))))
  · exact Or.inr (Or.inr (Or.inr (Or.inr (Or.inr (Or.inl hw)))))
  · exact Or.inr (Or.inr (Or.inr (Or.inr (Or.inr (Or.inr (Or.inl hw))))))
  · exact Or.inr (Or.inr (Or.inr (Or.inr (Or.inr (Or.inr (Or.inr (Or.inl hw)))))))
  · exact Or.inr (Or.inr (Or.inr (Or.inr (Or.inr (Or.inr (Or.inr (Or.inr (Or.inl hw))))))))
  · exact Or.inr (Or.inr (Or.inr (Or.inr (Or.inr (Or.inr (Or.inr (Or.inr (Or.inr hw))))))))
  · exact Or.inl hw
theorem tb_in {w : Jvm.Cond} (h : w ∈ g_ALL) : w ∈ lw_tbl := tb_in0 (List.mem_filter.mp h).1
theorem ri_warm_at {w : Jvm.Cond} {s : State} {a0 : Array Value} (hw : ri_warm w = true) (h : w.before a0 s = true) : ∀ a : Array Value, w.before a s = true := by
  intro a
  by_cases hg : goodWord w = true
  · exact word_at (State.WarmedH.refl s) (good_of_word hg) h
  · unfold ri_warm at hw
    split at hw
    · exact h
    · exact h
    · exact h
    · exact h
    · exact h
    · exact absurd hw hg
/-- where the texts lie, the script at the place of "" 0 -/
noncomputable def g_sa (s : State) (b : Nat) : String → Nat → Nat := fun own k => if own = "" then b else match (Term.string own k).eval #[] s none [] s with
  | some (.ref a) => a
  | _ => 0
theorem g_STR_ne : ∀ q ∈ g_STR, q.1 ≠ "" := by
  have h : g_STR.all (fun q => decide (q.1 ≠ "")) = true := by decide +kernel
  intro q hq
  exact decide_eq_true_iff.mp (List.all_eq_true.mp h q hq)
/-- a word of the tables, by its place -/
def g_atT (w : Jvm.Cond) (h : Nat × Nat) : Bool := match g_TT[h.1]? with
  | some l => match l[h.2]? with
    | some z => decide (z = w)
    | none => false
  | none => false
theorem g_atT_s {w : Jvm.Cond} {h : Nat × Nat} (e : g_atT w h = true) : w ∈ g_TT.flatten := by
  unfold g_atT at e
  split at e
  · next l hl =>
    split at e
    · next z hz =>
      rw [decide_eq_true_iff] at e
      subst e
      exact List.mem_flatten.mpr ⟨l, List.mem_of_getElem? hl, List.mem_of_getElem? hz⟩
    · cases e
  · cases e
def g_allT (ws : List Jvm.Cond) : Bool := ws.all (fun w => g_atT w (ri_place g_TT w))
theorem g_allT_s {ws : List Jvm.Cond} (e : g_allT ws = true) : ∀ w ∈ ws, w ∈ lw_tbl := fun w hw => tb_in0 (g_atT_s (List.all_eq_true.mp e w hw))
def g_STRw : List Jvm.Cond := g_STR.map (fun q => Jvm.Cond.stringRef q.1 q.2.1 q.2.2)
theorem g_STR_in : g_allT g_STRw = true := by decide +kernel
def g_clw : List Jvm.Cond := g_cls.map (fun r => Jvm.Cond.instantiable r.1 r.2.2)
theorem g_clw_in : g_allT g_clw = true := by decide +kernel
def g_tyw : List Jvm.Cond := [.arrayClass .int, .arrayOver (.object "PartitionBench$Disk"), .arrayOver (.object "PartitionBench$Part"), .arrayClass .long]
theorem g_tyw_in : g_allT g_tyw = true := by decide +kernel
def g_thw : List Jvm.Cond := [.initialized Bundle.tN, .laysStatic Bundle.tN "UNASSIGNED_STACK" Bundle.steD, .laysStatic Bundle.tN "SUPPRESSED_SENTINEL" Bundle.listD]
theorem g_thw_in : g_allT g_thw = true := by decide +kernel
def g_flat : List Jvm.Cond := flatC (Jvm.Cond.and given_1 narrow_1)
def g_naw : List Jvm.Cond := [.isRef (.static Bundle.tN "UNASSIGNED_STACK" Bundle.steD), .isRef (.static Bundle.tN "SUPPRESSED_SENTINEL" Bundle.listD)] ++ (g_nc.filter (fun q => !q.2.2)).map (fun q => Jvm.Cond.not (.castable q.1 q.2.1))
theorem g_naw_in : g_naw.all (fun w => decide (w ∈ g_flat)) = true := by decide +kernel
end GW
end
section
/-! the words that tell the texts: the way to each (printed by wip/gen/lit.py) -/
section GLI
def g_lv_ (q : String × Nat × String) : Term := .field (.string q.1 q.2.1) "java/lang/String" "value" "[B"
def g_litw (q : String × Nat × String) (n : Nat) : List Jvm.Cond := [.exactly (.string q.1 q.2.1) "java/lang/String", .eq (.field (.string q.1 q.2.1) "java/lang/String" "coder" "B") (.int 0), .arrayOf (g_lv_ q) .byte, .eq (.length (g_lv_ q)) (.int (Int32.ofNat n))]
def g_lite (q : String × Nat × String) (j : Nat) (ch : Char) : Jvm.Cond := .eq (.elem (g_lv_ q) (.int (Int32.ofNat j))) (.int (Int32.ofNat ch.toNat))
def g_les (q : String × Nat × String) : Nat → List Char → List Jvm.Cond
  | _, [] => []
  | j, ch :: l => g_lite q j ch :: g_les q (j + 1) l
theorem g_les_in {q : String × Nat × String} : ∀ (l : List Char) (i j : Nat), j < l.length → g_lite q (i + j) (l.getD j 'a') ∈ g_les q i l
  | [], _, _, h => absurd h (Nat.not_lt_zero _)
  | ch :: l, i, 0, _ => List.mem_cons_self
  | ch :: l, i, j + 1, h => by
    have := g_les_in (q := q) l (i + 1) j (Nat.lt_of_succ_lt_succ h)
    rw [show i + 1 + j = i + (j + 1) by omega] at this
    exact List.mem_cons_of_mem _ this
def g_sub (c : Jvm.Cond) (d : Bool) : Jvm.Cond := match c with
  | .and a b => if d then b else a
  | c => c
theorem g_sub_in {c : Jvm.Cond} {d : Bool} {x : Jvm.Cond} (h : x ∈ flatC (g_sub c d)) : x ∈ flatC c := by
  unfold g_sub at h
  split at h
  · next a b =>
    show x ∈ flatC a ++ flatC b
    cases d
    · exact List.mem_append_left _ h
    · exact List.mem_append_right _ h
  · exact h
theorem g_at_in : ∀ (p : List Bool) (c : Jvm.Cond) (x : Jvm.Cond), x ∈ flatC (p.foldl g_sub c) → x ∈ flatC c
  | [], _, _, h => h
  | d :: p, c, x, h => g_sub_in (g_at_in p (g_sub c d) x h)
def g_leaf (c : Jvm.Cond) : Bool := match c with
  | .and _ _ => false
  | _ => true
theorem g_leaf_in {c : Jvm.Cond} (h : g_leaf c = true) : c ∈ flatC c := by
  unfold g_leaf at h
  split at h
  · cases h
  · next hn =>
    unfold flatC
    split
    · next a b => exact absurd rfl (hn a b)
    · exact List.mem_singleton.mpr rfl
def g_W : Jvm.Cond := Jvm.Cond.and given_1 narrow_1
def g_ok : List Jvm.Cond → List (List Bool) → Bool
  | [], _ => true
  | w :: l, p :: r => decide (p.foldl g_sub g_W = w) && (g_leaf w && g_ok l r)
  | _ :: _, [] => false
theorem g_ok_in : ∀ (ws : List Jvm.Cond) (ps : List (List Bool)), g_ok ws ps = true → ∀ w ∈ ws, w ∈ flatC g_W
  | [], _, _, w, hw => by cases hw
  | a :: l, p :: r, e, w, hw => by
    simp only [g_ok, Bool.and_eq_true, decide_eq_true_iff] at e
    obtain ⟨e1, e2, e3⟩ := e
    rcases List.mem_cons.mp hw with rfl | hw
    · exact g_at_in p g_W _ (e1.symm ▸ g_leaf_in e2)
    · exact g_ok_in l r e3 w hw
  | _ :: _, [], e, _, _ => by cases e
/-- of a text: its characters, the ways to its words -/
def g_LI (q : String × Nat × String) : Prop := ∃ cs : List Char, q.2.2.toList = cs ∧ (Nat.ble cs.length 1000 && cs.all (fun ch => Nat.ble (Nat.succ ch.toNat) 128)) = true ∧ ∀ w ∈ g_litw q cs.length ++ g_les q 0 cs, w ∈ flatC g_W
theorem g_li_0 : g_LI ("PartitionBench$Setup", 44, "disk") := by
  refine ⟨['d', 'i', 's', 'k'], String.toList_ofList, by decide +kernel, g_ok_in _ [[true, false, false, false, true, true, false, false, false, true, false], [true, false, false, false, true, true, false, false, false, true, true], [true, false, false, false, true, true, false, false, true, false, false], [true, false, false, false, true, true, false, false, true, false, true], [true, false, false, false, true, true, false, false, true, true, false], [true, false, false, false, true, true, false, false, true, true, true], [true, false, false, false, true, true, false, true, false, false], [true, false, false, false, true, true, false, true, false, true, false]] (by decide +kernel)⟩
theorem g_li_1 : g_LI ("PartitionBench$Setup", 78, "part") := by
  refine ⟨['p', 'a', 'r', 't'], String.toList_ofList, by decide +kernel, g_ok_in _ [[true, false, false, false, true, true, false, true, false, true, true], [true, false, false, false, true, true, false, true, true, false, false], [true, false, false, false, true, true, false, true, true, false, true], [true, false, false, false, true, true, false, true, true, true, false], [true, false, false, false, true, true, false, true, true, true, true], [true, false, false, false, true, true, true, false, false, false], [true, false, false, false, true, true, true, false, false, true, false], [true, false, false, false, true, true, true, false, false, true, true]] (by decide +kernel)⟩
theorem g_li_2 : g_LI ("PartitionBench$Setup", 83, "lock") := by
  refine ⟨['l', 'o', 'c', 'k'], String.toList_ofList, by decide +kernel, g_ok_in _ [[true, false, false, false, true, true, true, false, true, false, false], [true, false, false, false, true, true, true, false, true, false, true], [true, false, false, false, true, true, true, false, true, true, false], [true, false, false, false, true, true, true, false, true, true, true], [true, false, false, false, true, true, true, true, false, false], [true, false, false, false, true, true, true, true, false, true, false], [true, false, false, false, true, true, true, true, false, true, true], [true, false, false, false, true, true, true, true, true, false, false]] (by decide +kernel)⟩
theorem g_li_3 : g_LI ("PartitionBench$Setup", 88, "chunk") := by
  refine ⟨['c', 'h', 'u', 'n', 'k'], String.toList_ofList, by decide +kernel, g_ok_in _ [[true, false, false, false, true, true, true, true, true, false, true], [true, false, false, false, true, true, true, true, true, true, false], [true, false, false, false, true, true, true, true, true, true, true], [true, false, false, true, false, false, false, false, false, false], [true, false, false, true, false, false, false, false, false, true, false], [true, false, false, true, false, false, false, false, false, true, true], [true, false, false, true, false, false, false, false, true, false, false], [true, false, false, true, false, false, false, false, true, false, true], [true, false, false, true, false, false, false, false, true, true, false]] (by decide +kernel)⟩
theorem g_li_4 : g_LI ("PartitionBench$Setup", 96, "head") := by
  refine ⟨['h', 'e', 'a', 'd'], String.toList_ofList, by decide +kernel, g_ok_in _ [[true, false, false, true, false, false, false, false, true, true, true], [true, false, false, true, false, false, false, true, false, false], [true, false, false, true, false, false, false, true, false, true, false], [true, false, false, true, false, false, false, true, false, true, true], [true, false, false, true, false, false, false, true, true, false, false], [true, false, false, true, false, false, false, true, true, false, true], [true, false, false, true, false, false, false, true, true, true, false], [true, false, false, true, false, false, false, true, true, true, true]] (by decide +kernel)⟩
theorem g_li_5 : g_LI ("PartitionBench$Setup", 98, "tail") := by
  refine ⟨['t', 'a', 'i', 'l'], String.toList_ofList, by decide +kernel, g_ok_in _ [[true, false, false, true, false, false, true, false, false, false], [true, false, false, true, false, false, true, false, false, true, false], [true, false, false, true, false, false, true, false, false, true, true], [true, false, false, true, false, false, true, false, true, false, false], [true, false, false, true, false, false, true, false, true, false, true], [true, false, false, true, false, false, true, false, true, true, false], [true, false, false, true, false, false, true, false, true, true, true], [true, false, false, true, false, false, true, true, false, false]] (by decide +kernel)⟩
theorem g_li_6 : g_LI ("PartitionBench$Setup", 100, "align") := by
  refine ⟨['a', 'l', 'i', 'g', 'n'], String.toList_ofList, by decide +kernel, g_ok_in _ [[true, false, false, true, false, false, true, true, false, true, false], [true, false, false, true, false, false, true, true, false, true, true], [true, false, false, true, false, false, true, true, true, false, false], [true, false, false, true, false, false, true, true, true, false, true], [true, false, false, true, false, false, true, true, true, true, false], [true, false, false, true, false, false, true, true, true, true, true], [true, false, false, true, false, true, false, false, false, false], [true, false, false, true, false, true, false, false, false, true, false], [true, false, false, true, false, true, false, false, false, true, true]] (by decide +kernel)⟩
theorem g_li_7 : g_LI ("PartitionBench", 130, "what is out of range") := by
  refine ⟨['w', 'h', 'a', 't', ' ', 'i', 's', ' ', 'o', 'u', 't', ' ', 'o', 'f', ' ', 'r', 'a', 'n', 'g', 'e'], String.toList_ofList, by decide +kernel, g_ok_in _ [[true, false, false, true, false, true, false, false, true, false, false], [true, false, false, true, false, true, false, false, true, false, true], [true, false, false, true, false, true, false, false, true, true, false], [true, false, false, true, false, true, false, false, true, true, true], [true, false, false, true, false, true, false, true, false, false], [true, false, false, true, false, true, false, true, false, true, false], [true, false, false, true, false, true, false, true, false, true, true], [true, false, false, true, false, true, false, true, true, false, false], [true, false, false, true, false, true, false, true, true, false, true], [true, false, false, true, false, true, false, true, true, true, false], [true, false, false, true, false, true, false, true, true, true, true], [true, false, false, true, false, true, true, false, false, false], [true, false, false, true, false, true, true, false, false, true, false], [true, false, false, true, false, true, true, false, false, true, true], [true, false, false, true, false, true, true, false, true, false, false], [true, false, false, true, false, true, true, false, true, false, true], [true, false, false, true, false, true, true, false, true, true, false], [true, false, false, true, false, true, true, false, true, true, true], [true, false, false, true, false, true, true, true, false, false], [true, false, false, true, false, true, true, true, false, true, false], [true, false, false, true, false, true, true, true, false, true, true], [true, false, false, true, false, true, true, true, true, false, false], [true, false, false, true, false, true, true, true, true, false, true], [true, false, false, true, false, true, true, true, true, true, false]] (by decide +kernel)⟩
theorem g_li_8 : g_LI ("PartitionBench", 444, "no such partition") := by
  refine ⟨['n', 'o', ' ', 's', 'u', 'c', 'h', ' ', 'p', 'a', 'r', 't', 'i', 't', 'i', 'o', 'n'], String.toList_ofList, by decide +kernel, g_ok_in _ [[true, false, false, true, false, true, true, true, true, true, true], [true, false, false, true, true, false, false, false, false, false], [true, false, false, true, true, false, false, false, false, true, false], [true, false, false, true, true, false, false, false, false, true, true], [true, false, false, true, true, false, false, false, true, false, false], [true, false, false, true, true, false, false, false, true, false, true], [true, false, false, true, true, false, false, false, true, true, false], [true, false, false, true, true, false, false, false, true, true, true], [true, false, false, true, true, false, false, true, false, false], [true, false, false, true, true, false, false, true, false, true, false], [true, false, false, true, true, false, false, true, false, true, true], [true, false, false, true, true, false, false, true, true, false, false], [true, false, false, true, true, false, false, true, true, false, true], [true, false, false, true, true, false, false, true, true, true, false], [true, false, false, true, true, false, false, true, true, true, true], [true, false, false, true, true, false, true, false, false, false], [true, false, false, true, true, false, true, false, false, true, false], [true, false, false, true, true, false, true, false, false, true, true], [true, false, false, true, true, false, true, false, true, false, false], [true, false, false, true, true, false, true, false, true, false, true], [true, false, false, true, true, false, true, false, true, true, false]] (by decide +kernel)⟩
theorem g_li_9 : g_LI ("PartitionBench", 447, "no such sector") := by
  refine ⟨['n', 'o', ' ', 's', 'u', 'c', 'h', ' ', 's', 'e', 'c', 't', 'o', 'r'], String.toList_ofList, by decide +kernel, g_ok_in _ [[true, false, false, true, true, false, true, false, true, true, true], [true, false, false, true, true, false, true, true, false, false], [true, false, false, true, true, false, true, true, false, true, false], [true, false, false, true, true, false, true, true, false, true, true], [true, false, false, true, true, false, true, true, true, false, false], [true, false, false, true, true, false, true, true, true, false, true], [true, false, false, true, true, false, true, true, true, true, false], [true, false, false, true, true, false, true, true, true, true, true], [true, false, false, true, true, true, false, false, false, false], [true, false, false, true, true, true, false, false, false, true, false], [true, false, false, true, true, true, false, false, false, true, true], [true, false, false, true, true, true, false, false, true, false, false], [true, false, false, true, true, true, false, false, true, false, true], [true, false, false, true, true, true, false, false, true, true, false], [true, false, false, true, true, true, false, false, true, true, true], [true, false, false, true, true, true, false, true, false, false], [true, false, false, true, true, true, false, true, false, true, false], [true, false, false, true, true, true, false, true, false, true, true]] (by decide +kernel)⟩
theorem g_li_10 : g_LI ("PartitionBench", 174, "no such block") := by
  refine ⟨['n', 'o', ' ', 's', 'u', 'c', 'h', ' ', 'b', 'l', 'o', 'c', 'k'], String.toList_ofList, by decide +kernel, g_ok_in _ [[true, false, false, true, true, true, false, true, true, false, false], [true, false, false, true, true, true, false, true, true, false, true], [true, false, false, true, true, true, false, true, true, true, false], [true, false, false, true, true, true, false, true, true, true, true], [true, false, false, true, true, true, true, false, false, false], [true, false, false, true, true, true, true, false, false, true, false], [true, false, false, true, true, true, true, false, false, true, true], [true, false, false, true, true, true, true, false, true, false, false], [true, false, false, true, true, true, true, false, true, false, true], [true, false, false, true, true, true, true, false, true, true, false], [true, false, false, true, true, true, true, false, true, true, true], [true, false, false, true, true, true, true, true, false, false], [true, false, false, true, true, true, true, true, false, true, false], [true, false, false, true, true, true, true, true, false, true, true], [true, false, false, true, true, true, true, true, true, false, false], [true, false, false, true, true, true, true, true, true, false, true], [true, false, false, true, true, true, true, true, true, true, false]] (by decide +kernel)⟩
theorem g_li_11 : g_LI ("PartitionBench", 185, "index is negative") := by
  refine ⟨['i', 'n', 'd', 'e', 'x', ' ', 'i', 's', ' ', 'n', 'e', 'g', 'a', 't', 'i', 'v', 'e'], String.toList_ofList, by decide +kernel, g_ok_in _ [[true, false, false, true, true, true, true, true, true, true, true], [true, false, true, false, false, false, false, false, false, false], [true, false, true, false, false, false, false, false, false, true, false], [true, false, true, false, false, false, false, false, false, true, true], [true, false, true, false, false, false, false, false, true, false, false], [true, false, true, false, false, false, false, false, true, false, true], [true, false, true, false, false, false, false, false, true, true, false], [true, false, true, false, false, false, false, false, true, true, true], [true, false, true, false, false, false, false, true, false, false], [true, false, true, false, false, false, false, true, false, true, false], [true, false, true, false, false, false, false, true, false, true, true], [true, false, true, false, false, false, false, true, true, false, false], [true, false, true, false, false, false, false, true, true, false, true], [true, false, true, false, false, false, false, true, true, true, false], [true, false, true, false, false, false, false, true, true, true, true], [true, false, true, false, false, false, true, false, false, false], [true, false, true, false, false, false, true, false, false, true, false], [true, false, true, false, false, false, true, false, false, true, true], [true, false, true, false, false, false, true, false, true, false, false], [true, false, true, false, false, false, true, false, true, false, true], [true, false, true, false, false, false, true, false, true, true, false]] (by decide +kernel)⟩
theorem g_li_12 : g_LI ("PartitionBench", 220, "no such gap") := by
  refine ⟨['n', 'o', ' ', 's', 'u', 'c', 'h', ' ', 'g', 'a', 'p'], String.toList_ofList, by decide +kernel, g_ok_in _ [[true, false, true, false, false, false, true, false, true, true, true], [true, false, true, false, false, false, true, true, false, false], [true, false, true, false, false, false, true, true, false, true, false], [true, false, true, false, false, false, true, true, false, true, true], [true, false, true, false, false, false, true, true, true, false, false], [true, false, true, false, false, false, true, true, true, false, true], [true, false, true, false, false, false, true, true, true, true, false], [true, false, true, false, false, false, true, true, true, true, true], [true, false, true, false, false, true, false, false, false, false], [true, false, true, false, false, true, false, false, false, true, false], [true, false, true, false, false, true, false, false, false, true, true], [true, false, true, false, false, true, false, false, true, false, false], [true, false, true, false, false, true, false, false, true, false, true], [true, false, true, false, false, true, false, false, true, true, false], [true, false, true, false, false, true, false, false, true, true, true]] (by decide +kernel)⟩
theorem g_li_13 : g_LI ("PartitionBench", 449, "rule is out of range") := by
  refine ⟨['r', 'u', 'l', 'e', ' ', 'i', 's', ' ', 'o', 'u', 't', ' ', 'o', 'f', ' ', 'r', 'a', 'n', 'g', 'e'], String.toList_ofList, by decide +kernel, g_ok_in _ [[true, false, true, false, false, true, false, true, false, false], [true, false, true, false, false, true, false, true, false, true, false], [true, false, true, false, false, true, false, true, false, true, true], [true, false, true, false, false, true, false, true, true, false, false], [true, false, true, false, false, true, false, true, true, false, true], [true, false, true, false, false, true, false, true, true, true, false], [true, false, true, false, false, true, false, true, true, true, true], [true, false, true, false, false, true, true, false, false, false], [true, false, true, false, false, true, true, false, false, true, false], [true, false, true, false, false, true, true, false, false, true, true], [true, false, true, false, false, true, true, false, true, false, false], [true, false, true, false, false, true, true, false, true, false, true], [true, false, true, false, false, true, true, false, true, true, false], [true, false, true, false, false, true, true, false, true, true, true], [true, false, true, false, false, true, true, true, false, false], [true, false, true, false, false, true, true, true, false, true, false], [true, false, true, false, false, true, true, true, false, true, true], [true, false, true, false, false, true, true, true, true, false, false], [true, false, true, false, false, true, true, true, true, false, true], [true, false, true, false, false, true, true, true, true, true, false], [true, false, true, false, false, true, true, true, true, true, true], [true, false, true, false, true, false, false, false, false, false], [true, false, true, false, true, false, false, false, false, true, false], [true, false, true, false, true, false, false, false, false, true, true]] (by decide +kernel)⟩
theorem g_li_14 : g_LI ("PartitionBench", 210, "kind is out of range") := by
  refine ⟨['k', 'i', 'n', 'd', ' ', 'i', 's', ' ', 'o', 'u', 't', ' ', 'o', 'f', ' ', 'r', 'a', 'n', 'g', 'e'], String.toList_ofList, by decide +kernel, g_ok_in _ [[true, false, true, false, true, false, false, false, true, false, false], [true, false, true, false, true, false, false, false, true, false, true], [true, false, true, false, true, false, false, false, true, true, false], [true, false, true, false, true, false, false, false, true, true, true], [true, false, true, false, true, false, false, true, false, false], [true, false, true, false, true, false, false, true, false, true, false], [true, false, true, false, true, false, false, true, false, true, true], [true, false, true, false, true, false, false, true, true, false, false], [true, false, true, false, true, false, false, true, true, false, true], [true, false, true, false, true, false, false, true, true, true, false], [true, false, true, false, true, false, false, true, true, true, true], [true, false, true, false, true, false, true, false, false, false], [true, false, true, false, true, false, true, false, false, true, false], [true, false, true, false, true, false, true, false, false, true, true], [true, false, true, false, true, false, true, false, true, false, false], [true, false, true, false, true, false, true, false, true, false, true], [true, false, true, false, true, false, true, false, true, true, false], [true, false, true, false, true, false, true, false, true, true, true], [true, false, true, false, true, false, true, true, false, false], [true, false, true, false, true, false, true, true, false, true, false], [true, false, true, false, true, false, true, true, false, true, true], [true, false, true, false, true, false, true, true, true, false, false], [true, false, true, false, true, false, true, true, true, false, true], [true, false, true, false, true, false, true, true, true, true, false]] (by decide +kernel)⟩
theorem g_li_15 : g_LI ("PartitionBench", 289, "minimum is out of range") := by
  refine ⟨['m', 'i', 'n', 'i', 'm', 'u', 'm', ' ', 'i', 's', ' ', 'o', 'u', 't', ' ', 'o', 'f', ' ', 'r', 'a', 'n', 'g', 'e'], String.toList_ofList, by decide +kernel, g_ok_in _ [[true, false, true, false, true, false, true, true, true, true, true], [true, false, true, false, true, true, false, false, false, false], [true, false, true, false, true, true, false, false, false, true, false], [true, false, true, false, true, true, false, false, false, true, true], [true, false, true, false, true, true, false, false, true, false, false], [true, false, true, false, true, true, false, false, true, false, true], [true, false, true, false, true, true, false, false, true, true, false], [true, false, true, false, true, true, false, false, true, true, true], [true, false, true, false, true, true, false, true, false, false], [true, false, true, false, true, true, false, true, false, true, false], [true, false, true, false, true, true, false, true, false, true, true], [true, false, true, false, true, true, false, true, true, false, false], [true, false, true, false, true, true, false, true, true, false, true], [true, false, true, false, true, true, false, true, true, true, false], [true, false, true, false, true, true, false, true, true, true, true], [true, false, true, false, true, true, true, false, false, false], [true, false, true, false, true, true, true, false, false, true, false], [true, false, true, false, true, true, true, false, false, true, true], [true, false, true, false, true, true, true, false, true, false, false], [true, false, true, false, true, true, true, false, true, false, true], [true, false, true, false, true, true, true, false, true, true, false], [true, false, true, false, true, true, true, false, true, true, true], [true, false, true, false, true, true, true, true, false, false], [true, false, true, false, true, true, true, true, false, true, false], [true, false, true, false, true, true, true, true, false, true, true], [true, false, true, false, true, true, true, true, true, false, false], [true, false, true, false, true, true, true, true, true, false, true]] (by decide +kernel)⟩
theorem g_li_16 : g_LI ("PartitionBench", 255, "the area cannot take a partition") := by
  refine ⟨['t', 'h', 'e', ' ', 'a', 'r', 'e', 'a', ' ', 'c', 'a', 'n', 'n', 'o', 't', ' ', 't', 'a', 'k', 'e', ' ', 'a', ' ', 'p', 'a', 'r', 't', 'i', 't', 'i', 'o', 'n'], String.toList_ofList, by decide +kernel, g_ok_in _ [[true, false, true, false, true, true, true, true, true, true, false], [true, false, true, false, true, true, true, true, true, true, true], [true, false, true, true, false, false, false, false, false, false], [true, false, true, true, false, false, false, false, false, true, false], [true, false, true, true, false, false, false, false, false, true, true], [true, false, true, true, false, false, false, false, true, false, false], [true, false, true, true, false, false, false, false, true, false, true], [true, false, true, true, false, false, false, false, true, true, false], [true, false, true, true, false, false, false, false, true, true, true], [true, false, true, true, false, false, false, true, false, false], [true, false, true, true, false, false, false, true, false, true, false], [true, false, true, true, false, false, false, true, false, true, true], [true, false, true, true, false, false, false, true, true, false, false], [true, false, true, true, false, false, false, true, true, false, true], [true, false, true, true, false, false, false, true, true, true, false], [true, false, true, true, false, false, false, true, true, true, true], [true, false, true, true, false, false, true, false, false, false], [true, false, true, true, false, false, true, false, false, true, false], [true, false, true, true, false, false, true, false, false, true, true], [true, false, true, true, false, false, true, false, true, false, false], [true, false, true, true, false, false, true, false, true, false, true], [true, false, true, true, false, false, true, false, true, true, false], [true, false, true, true, false, false, true, false, true, true, true], [true, false, true, true, false, false, true, true, false, false], [true, false, true, true, false, false, true, true, false, true, false], [true, false, true, true, false, false, true, true, false, true, true], [true, false, true, true, false, false, true, true, true, false, false], [true, false, true, true, false, false, true, true, true, false, true], [true, false, true, true, false, false, true, true, true, true, false], [true, false, true, true, false, false, true, true, true, true, true], [true, false, true, true, false, true, false, false, false, false], [true, false, true, true, false, true, false, false, false, true, false], [true, false, true, true, false, true, false, false, false, true, true], [true, false, true, true, false, true, false, false, true, false, false], [true, false, true, true, false, true, false, false, true, false, true], [true, false, true, true, false, true, false, false, true, true, false]] (by decide +kernel)⟩
theorem g_li_17 : g_LI ("PartitionBench", 451, "there are 8 partitions") := by
  refine ⟨['t', 'h', 'e', 'r', 'e', ' ', 'a', 'r', 'e', ' ', '8', ' ', 'p', 'a', 'r', 't', 'i', 't', 'i', 'o', 'n', 's'], String.toList_ofList, by decide +kernel, g_ok_in _ [[true, false, true, true, false, true, false, false, true, true, true], [true, false, true, true, false, true, false, true, false, false], [true, false, true, true, false, true, false, true, false, true, false], [true, false, true, true, false, true, false, true, false, true, true], [true, false, true, true, false, true, false, true, true, false, false], [true, false, true, true, false, true, false, true, true, false, true], [true, false, true, true, false, true, false, true, true, true, false], [true, false, true, true, false, true, false, true, true, true, true], [true, false, true, true, false, true, true, false, false, false], [true, false, true, true, false, true, true, false, false, true, false], [true, false, true, true, false, true, true, false, false, true, true], [true, false, true, true, false, true, true, false, true, false, false], [true, false, true, true, false, true, true, false, true, false, true], [true, false, true, true, false, true, true, false, true, true, false], [true, false, true, true, false, true, true, false, true, true, true], [true, false, true, true, false, true, true, true, false, false], [true, false, true, true, false, true, true, true, false, true, false], [true, false, true, true, false, true, true, true, false, true, true], [true, false, true, true, false, true, true, true, true, false, false], [true, false, true, true, false, true, true, true, true, false, true], [true, false, true, true, false, true, true, true, true, true, false], [true, false, true, true, false, true, true, true, true, true, true], [true, false, true, true, true, false, false, false, false, false], [true, false, true, true, true, false, false, false, false, true, false], [true, false, true, true, true, false, false, false, false, true, true], [true, false, true, true, true, false, false, false, true, false, false]] (by decide +kernel)⟩
theorem g_li_18 : g_LI ("PartitionBench", 269, "there is no start") := by
  refine ⟨['t', 'h', 'e', 'r', 'e', ' ', 'i', 's', ' ', 'n', 'o', ' ', 's', 't', 'a', 'r', 't'], String.toList_ofList, by decide +kernel, g_ok_in _ [[true, false, true, true, true, false, false, false, true, false, true], [true, false, true, true, true, false, false, false, true, true, false], [true, false, true, true, true, false, false, false, true, true, true], [true, false, true, true, true, false, false, true, false, false], [true, false, true, true, true, false, false, true, false, true, false], [true, false, true, true, true, false, false, true, false, true, true], [true, false, true, true, true, false, false, true, true, false, false], [true, false, true, true, true, false, false, true, true, false, true], [true, false, true, true, true, false, false, true, true, true, false], [true, false, true, true, true, false, false, true, true, true, true], [true, false, true, true, true, false, true, false, false, false], [true, false, true, true, true, false, true, false, false, true, false], [true, false, true, true, true, false, true, false, false, true, true], [true, false, true, true, true, false, true, false, true, false, false], [true, false, true, true, true, false, true, false, true, false, true], [true, false, true, true, true, false, true, false, true, true, false], [true, false, true, true, true, false, true, false, true, true, true], [true, false, true, true, true, false, true, true, false, false], [true, false, true, true, true, false, true, true, false, true, false], [true, false, true, true, true, false, true, true, false, true, true], [true, false, true, true, true, false, true, true, true, false, false]] (by decide +kernel)⟩
theorem g_li_19 : g_LI ("PartitionBench", 453, "the partition is locked or is moved") := by
  refine ⟨['t', 'h', 'e', ' ', 'p', 'a', 'r', 't', 'i', 't', 'i', 'o', 'n', ' ', 'i', 's', ' ', 'l', 'o', 'c', 'k', 'e', 'd', ' ', 'o', 'r', ' ', 'i', 's', ' ', 'm', 'o', 'v', 'e', 'd'], String.toList_ofList, by decide +kernel, g_ok_in _ [[true, false, true, true, true, false, true, true, true, false, true], [true, false, true, true, true, false, true, true, true, true, false], [true, false, true, true, true, false, true, true, true, true, true], [true, false, true, true, true, true, false, false, false, false], [true, false, true, true, true, true, false, false, false, true, false], [true, false, true, true, true, true, false, false, false, true, true], [true, false, true, true, true, true, false, false, true, false, false], [true, false, true, true, true, true, false, false, true, false, true], [true, false, true, true, true, true, false, false, true, true, false], [true, false, true, true, true, true, false, false, true, true, true], [true, false, true, true, true, true, false, true, false, false], [true, false, true, true, true, true, false, true, false, true, false], [true, false, true, true, true, true, false, true, false, true, true], [true, false, true, true, true, true, false, true, true, false, false], [true, false, true, true, true, true, false, true, true, false, true], [true, false, true, true, true, true, false, true, true, true, false], [true, false, true, true, true, true, false, true, true, true, true], [true, false, true, true, true, true, true, false, false, false], [true, false, true, true, true, true, true, false, false, true, false], [true, false, true, true, true, true, true, false, false, true, true], [true, false, true, true, true, true, true, false, true, false, false], [true, false, true, true, true, true, true, false, true, false, true], [true, false, true, true, true, true, true, false, true, true, false], [true, false, true, true, true, true, true, false, true, true, true], [true, false, true, true, true, true, true, true, false, false, false], [true, false, true, true, true, true, true, true, false, false, true], [true, false, true, true, true, true, true, true, false, true, false], [true, false, true, true, true, true, true, true, false, true, true], [true, false, true, true, true, true, true, true, true, false, false], [true, false, true, true, true, true, true, true, true, false, true], [true, false, true, true, true, true, true, true, true, true, false], [true, false, true, true, true, true, true, true, true, true, true], [true, true, false, false, false, false, false, false, false, false], [true, true, false, false, false, false, false, false, false, true, false], [true, true, false, false, false, false, false, false, false, true, true], [true, true, false, false, false, false, false, false, true, false, false], [true, true, false, false, false, false, false, false, true, false, true], [true, true, false, false, false, false, false, false, true, true, false], [true, true, false, false, false, false, false, false, true, true, true]] (by decide +kernel)⟩
theorem g_li_20 : g_LI ("PartitionBench", 455, "the partition cannot have this size") := by
  refine ⟨['t', 'h', 'e', ' ', 'p', 'a', 'r', 't', 'i', 't', 'i', 'o', 'n', ' ', 'c', 'a', 'n', 'n', 'o', 't', ' ', 'h', 'a', 'v', 'e', ' ', 't', 'h', 'i', 's', ' ', 's', 'i', 'z', 'e'], String.toList_ofList, by decide +kernel, g_ok_in _ [[true, true, false, false, false, false, false, true, false, false], [true, true, false, false, false, false, false, true, false, true, false], [true, true, false, false, false, false, false, true, false, true, true], [true, true, false, false, false, false, false, true, true, false, false], [true, true, false, false, false, false, false, true, true, false, true], [true, true, false, false, false, false, false, true, true, true, false], [true, true, false, false, false, false, false, true, true, true, true], [true, true, false, false, false, false, true, false, false, false], [true, true, false, false, false, false, true, false, false, true, false], [true, true, false, false, false, false, true, false, false, true, true], [true, true, false, false, false, false, true, false, true, false, false], [true, true, false, false, false, false, true, false, true, false, true], [true, true, false, false, false, false, true, false, true, true, false], [true, true, false, false, false, false, true, false, true, true, true], [true, true, false, false, false, false, true, true, false, false], [true, true, false, false, false, false, true, true, false, true, false], [true, true, false, false, false, false, true, true, false, true, true], [true, true, false, false, false, false, true, true, true, false, false], [true, true, false, false, false, false, true, true, true, false, true], [true, true, false, false, false, false, true, true, true, true, false], [true, true, false, false, false, false, true, true, true, true, true], [true, true, false, false, false, true, false, false, false, false], [true, true, false, false, false, true, false, false, false, true, false], [true, true, false, false, false, true, false, false, false, true, true], [true, true, false, false, false, true, false, false, true, false, false], [true, true, false, false, false, true, false, false, true, false, true], [true, true, false, false, false, true, false, false, true, true, false], [true, true, false, false, false, true, false, false, true, true, true], [true, true, false, false, false, true, false, true, false, false], [true, true, false, false, false, true, false, true, false, true, false], [true, true, false, false, false, true, false, true, false, true, true], [true, true, false, false, false, true, false, true, true, false, false], [true, true, false, false, false, true, false, true, true, false, true], [true, true, false, false, false, true, false, true, true, true, false], [true, true, false, false, false, true, false, true, true, true, true], [true, true, false, false, false, true, true, false, false, false], [true, true, false, false, false, true, true, false, false, true, false], [true, true, false, false, false, true, true, false, false, true, true], [true, true, false, false, false, true, true, false, true, false, false]] (by decide +kernel)⟩
theorem g_li_21 : g_LI ("PartitionBench", 294, "value is out of range") := by
  refine ⟨['v', 'a', 'l', 'u', 'e', ' ', 'i', 's', ' ', 'o', 'u', 't', ' ', 'o', 'f', ' ', 'r', 'a', 'n', 'g', 'e'], String.toList_ofList, by decide +kernel, g_ok_in _ [[true, true, false, false, false, true, true, false, true, false, true], [true, true, false, false, false, true, true, false, true, true, false], [true, true, false, false, false, true, true, false, true, true, true], [true, true, false, false, false, true, true, true, false, false], [true, true, false, false, false, true, true, true, false, true, false], [true, true, false, false, false, true, true, true, false, true, true], [true, true, false, false, false, true, true, true, true, false, false], [true, true, false, false, false, true, true, true, true, false, true], [true, true, false, false, false, true, true, true, true, true, false], [true, true, false, false, false, true, true, true, true, true, true], [true, true, false, false, true, false, false, false, false, false], [true, true, false, false, true, false, false, false, false, true, false], [true, true, false, false, true, false, false, false, false, true, true], [true, true, false, false, true, false, false, false, true, false, false], [true, true, false, false, true, false, false, false, true, false, true], [true, true, false, false, true, false, false, false, true, true, false], [true, true, false, false, true, false, false, false, true, true, true], [true, true, false, false, true, false, false, true, false, false], [true, true, false, false, true, false, false, true, false, true, false], [true, true, false, false, true, false, false, true, false, true, true], [true, true, false, false, true, false, false, true, true, false, false], [true, true, false, false, true, false, false, true, true, false, true], [true, true, false, false, true, false, false, true, true, true, false], [true, true, false, false, true, false, false, true, true, true, true], [true, true, false, false, true, false, true, false, false, false]] (by decide +kernel)⟩
theorem g_li_22 : g_LI ("PartitionBench", 326, "the partition cannot be moved there") := by
  refine ⟨['t', 'h', 'e', ' ', 'p', 'a', 'r', 't', 'i', 't', 'i', 'o', 'n', ' ', 'c', 'a', 'n', 'n', 'o', 't', ' ', 'b', 'e', ' ', 'm', 'o', 'v', 'e', 'd', ' ', 't', 'h', 'e', 'r', 'e'], String.toList_ofList, by decide +kernel, g_ok_in _ [[true, true, false, false, true, false, true, false, false, true, false], [true, true, false, false, true, false, true, false, false, true, true], [true, true, false, false, true, false, true, false, true, false, false], [true, true, false, false, true, false, true, false, true, false, true], [true, true, false, false, true, false, true, false, true, true, false], [true, true, false, false, true, false, true, false, true, true, true], [true, true, false, false, true, false, true, true, false, false], [true, true, false, false, true, false, true, true, false, true, false], [true, true, false, false, true, false, true, true, false, true, true], [true, true, false, false, true, false, true, true, true, false, false], [true, true, false, false, true, false, true, true, true, false, true], [true, true, false, false, true, false, true, true, true, true, false], [true, true, false, false, true, false, true, true, true, true, true], [true, true, false, false, true, true, false, false, false, false], [true, true, false, false, true, true, false, false, false, true, false], [true, true, false, false, true, true, false, false, false, true, true], [true, true, false, false, true, true, false, false, true, false, false], [true, true, false, false, true, true, false, false, true, false, true], [true, true, false, false, true, true, false, false, true, true, false], [true, true, false, false, true, true, false, false, true, true, true], [true, true, false, false, true, true, false, true, false, false], [true, true, false, false, true, true, false, true, false, true, false], [true, true, false, false, true, true, false, true, false, true, true], [true, true, false, false, true, true, false, true, true, false, false], [true, true, false, false, true, true, false, true, true, false, true], [true, true, false, false, true, true, false, true, true, true, false], [true, true, false, false, true, true, false, true, true, true, true], [true, true, false, false, true, true, true, false, false, false], [true, true, false, false, true, true, true, false, false, true, false], [true, true, false, false, true, true, true, false, false, true, true], [true, true, false, false, true, true, true, false, true, false, false], [true, true, false, false, true, true, true, false, true, false, true], [true, true, false, false, true, true, true, false, true, true, false], [true, true, false, false, true, true, true, false, true, true, true], [true, true, false, false, true, true, true, true, false, false], [true, true, false, false, true, true, true, true, false, true, false], [true, true, false, false, true, true, true, true, false, true, true], [true, true, false, false, true, true, true, true, true, false, false], [true, true, false, false, true, true, true, true, true, false, true]] (by decide +kernel)⟩
theorem g_li_23 : g_LI ("PartitionBench", 340, "steps is out of range") := by
  refine ⟨['s', 't', 'e', 'p', 's', ' ', 'i', 's', ' ', 'o', 'u', 't', ' ', 'o', 'f', ' ', 'r', 'a', 'n', 'g', 'e'], String.toList_ofList, by decide +kernel, g_ok_in _ [[true, true, false, false, true, true, true, true, true, true, false], [true, true, false, false, true, true, true, true, true, true, true], [true, true, false, true, false, false, false, false, false, false], [true, true, false, true, false, false, false, false, false, true, false], [true, true, false, true, false, false, false, false, false, true, true], [true, true, false, true, false, false, false, false, true, false, false], [true, true, false, true, false, false, false, false, true, false, true], [true, true, false, true, false, false, false, false, true, true, false], [true, true, false, true, false, false, false, false, true, true, true], [true, true, false, true, false, false, false, true, false, false], [true, true, false, true, false, false, false, true, false, true, false], [true, true, false, true, false, false, false, true, false, true, true], [true, true, false, true, false, false, false, true, true, false, false], [true, true, false, true, false, false, false, true, true, false, true], [true, true, false, true, false, false, false, true, true, true, false], [true, true, false, true, false, false, false, true, true, true, true], [true, true, false, true, false, false, true, false, false, false], [true, true, false, true, false, false, true, false, false, true, false], [true, true, false, true, false, false, true, false, false, true, true], [true, true, false, true, false, false, true, false, true, false, false], [true, true, false, true, false, false, true, false, true, false, true], [true, true, false, true, false, false, true, false, true, true, false], [true, true, false, true, false, false, true, false, true, true, true], [true, true, false, true, false, false, true, true, false, false], [true, true, false, true, false, false, true, true, false, true, false]] (by decide +kernel)⟩
theorem g_li_24 : g_LI ("PartitionBench", 457, "no move is on") := by
  refine ⟨['n', 'o', ' ', 'm', 'o', 'v', 'e', ' ', 'i', 's', ' ', 'o', 'n'], String.toList_ofList, by decide +kernel, g_ok_in _ [[true, true, false, true, false, false, true, true, false, true, true], [true, true, false, true, false, false, true, true, true, false, false], [true, true, false, true, false, false, true, true, true, false, true], [true, true, false, true, false, false, true, true, true, true, false], [true, true, false, true, false, false, true, true, true, true, true], [true, true, false, true, false, true, false, false, false, false], [true, true, false, true, false, true, false, false, false, true, false], [true, true, false, true, false, true, false, false, false, true, true], [true, true, false, true, false, true, false, false, true, false, false], [true, true, false, true, false, true, false, false, true, false, true], [true, true, false, true, false, true, false, false, true, true, false], [true, true, false, true, false, true, false, false, true, true, true], [true, true, false, true, false, true, false, true, false, false], [true, true, false, true, false, true, false, true, false, true, false], [true, true, false, true, false, true, false, true, false, true, true], [true, true, false, true, false, true, false, true, true, false, false], [true, true, false, true, false, true, false, true, true, false, true]] (by decide +kernel)⟩
theorem g_li_25 : g_LI ("PartitionBench", 354, "a chunk is in the scratch area") := by
  refine ⟨['a', ' ', 'c', 'h', 'u', 'n', 'k', ' ', 'i', 's', ' ', 'i', 'n', ' ', 't', 'h', 'e', ' ', 's', 'c', 'r', 'a', 't', 'c', 'h', ' ', 'a', 'r', 'e', 'a'], String.toList_ofList, by decide +kernel, g_ok_in _ [[true, true, false, true, false, true, false, true, true, true, false], [true, true, false, true, false, true, false, true, true, true, true], [true, true, false, true, false, true, true, false, false, false], [true, true, false, true, false, true, true, false, false, true, false], [true, true, false, true, false, true, true, false, false, true, true], [true, true, false, true, false, true, true, false, true, false, false], [true, true, false, true, false, true, true, false, true, false, true], [true, true, false, true, false, true, true, false, true, true, false], [true, true, false, true, false, true, true, false, true, true, true], [true, true, false, true, false, true, true, true, false, false], [true, true, false, true, false, true, true, true, false, true, false], [true, true, false, true, false, true, true, true, false, true, true], [true, true, false, true, false, true, true, true, true, false, false], [true, true, false, true, false, true, true, true, true, false, true], [true, true, false, true, false, true, true, true, true, true, false], [true, true, false, true, false, true, true, true, true, true, true], [true, true, false, true, true, false, false, false, false, false], [true, true, false, true, true, false, false, false, false, true, false], [true, true, false, true, true, false, false, false, false, true, true], [true, true, false, true, true, false, false, false, true, false, false], [true, true, false, true, true, false, false, false, true, false, true], [true, true, false, true, true, false, false, false, true, true, false], [true, true, false, true, true, false, false, false, true, true, true], [true, true, false, true, true, false, false, true, false, false], [true, true, false, true, true, false, false, true, false, true, false], [true, true, false, true, true, false, false, true, false, true, true], [true, true, false, true, true, false, false, true, true, false, false], [true, true, false, true, true, false, false, true, true, false, true], [true, true, false, true, true, false, false, true, true, true, false], [true, true, false, true, true, false, false, true, true, true, true], [true, true, false, true, true, false, true, false, false, false], [true, true, false, true, true, false, true, false, false, true, false], [true, true, false, true, true, false, true, false, false, true, true], [true, true, false, true, true, false, true, false, true, false, false]] (by decide +kernel)⟩
theorem g_li_26 : g_LI ("PartitionBench", 459, "a move is on") := by
  refine ⟨['a', ' ', 'm', 'o', 'v', 'e', ' ', 'i', 's', ' ', 'o', 'n'], String.toList_ofList, by decide +kernel, g_ok_in _ [[true, true, false, true, true, false, true, false, true, false, true], [true, true, false, true, true, false, true, false, true, true, false], [true, true, false, true, true, false, true, false, true, true, true], [true, true, false, true, true, false, true, true, false, false], [true, true, false, true, true, false, true, true, false, true, false], [true, true, false, true, true, false, true, true, false, true, true], [true, true, false, true, true, false, true, true, true, false, false], [true, true, false, true, true, false, true, true, true, false, true], [true, true, false, true, true, false, true, true, true, true, false], [true, true, false, true, true, false, true, true, true, true, true], [true, true, false, true, true, true, false, false, false, false], [true, true, false, true, true, true, false, false, false, true, false], [true, true, false, true, true, true, false, false, false, true, true], [true, true, false, true, true, true, false, false, true, false, false], [true, true, false, true, true, true, false, false, true, false, true], [true, true, false, true, true, true, false, false, true, true, false]] (by decide +kernel)⟩
theorem g_li_27 : g_LI ("PartitionBench", 296, "size is out of range") := by
  refine ⟨['s', 'i', 'z', 'e', ' ', 'i', 's', ' ', 'o', 'u', 't', ' ', 'o', 'f', ' ', 'r', 'a', 'n', 'g', 'e'], String.toList_ofList, by decide +kernel, g_ok_in _ [[true, true, false, true, true, true, false, false, true, true, true], [true, true, false, true, true, true, false, true, false, false], [true, true, false, true, true, true, false, true, false, true, false], [true, true, false, true, true, true, false, true, false, true, true], [true, true, false, true, true, true, false, true, true, false, false], [true, true, false, true, true, true, false, true, true, false, true], [true, true, false, true, true, true, false, true, true, true, false], [true, true, false, true, true, true, false, true, true, true, true], [true, true, false, true, true, true, true, false, false, false], [true, true, false, true, true, true, true, false, false, true, false], [true, true, false, true, true, true, true, false, false, true, true], [true, true, false, true, true, true, true, false, true, false, false], [true, true, false, true, true, true, true, false, true, false, true], [true, true, false, true, true, true, true, false, true, true, false], [true, true, false, true, true, true, true, false, true, true, true], [true, true, false, true, true, true, true, true, false, false], [true, true, false, true, true, true, true, true, false, true, false], [true, true, false, true, true, true, true, true, false, true, true], [true, true, false, true, true, true, true, true, true, false, false], [true, true, false, true, true, true, true, true, true, false, true], [true, true, false, true, true, true, true, true, true, true, false], [true, true, false, true, true, true, true, true, true, true, true], [true, true, true, false, false, false, false, false, false, false], [true, true, true, false, false, false, false, false, false, true, false]] (by decide +kernel)⟩
theorem g_li_28 : g_LI ("PartitionBench", 381, "where is out of range") := by
  refine ⟨['w', 'h', 'e', 'r', 'e', ' ', 'i', 's', ' ', 'o', 'u', 't', ' ', 'o', 'f', ' ', 'r', 'a', 'n', 'g', 'e'], String.toList_ofList, by decide +kernel, g_ok_in _ [[true, true, true, false, false, false, false, false, false, true, true], [true, true, true, false, false, false, false, false, true, false, false], [true, true, true, false, false, false, false, false, true, false, true], [true, true, true, false, false, false, false, false, true, true, false], [true, true, true, false, false, false, false, false, true, true, true], [true, true, true, false, false, false, false, true, false, false], [true, true, true, false, false, false, false, true, false, true, false], [true, true, true, false, false, false, false, true, false, true, true], [true, true, true, false, false, false, false, true, true, false, false], [true, true, true, false, false, false, false, true, true, false, true], [true, true, true, false, false, false, false, true, true, true, false], [true, true, true, false, false, false, false, true, true, true, true], [true, true, true, false, false, false, true, false, false, false], [true, true, true, false, false, false, true, false, false, true, false], [true, true, true, false, false, false, true, false, false, true, true], [true, true, true, false, false, false, true, false, true, false, false], [true, true, true, false, false, false, true, false, true, false, true], [true, true, true, false, false, false, true, false, true, true, false], [true, true, true, false, false, false, true, false, true, true, true], [true, true, true, false, false, false, true, true, false, false], [true, true, true, false, false, false, true, true, false, true, false], [true, true, true, false, false, false, true, true, false, true, true], [true, true, true, false, false, false, true, true, true, false, false], [true, true, true, false, false, false, true, true, true, false, true], [true, true, true, false, false, false, true, true, true, true, false]] (by decide +kernel)⟩
theorem g_li_29 : g_LI ("PartitionBench", 301, "the rest would not begin at a multiple of ALIGN") := by
  refine ⟨['t', 'h', 'e', ' ', 'r', 'e', 's', 't', ' ', 'w', 'o', 'u', 'l', 'd', ' ', 'n', 'o', 't', ' ', 'b', 'e', 'g', 'i', 'n', ' ', 'a', 't', ' ', 'a', ' ', 'm', 'u', 'l', 't', 'i', 'p', 'l', 'e', ' ', 'o', 'f', ' ', 'A', 'L', 'I', 'G', 'N'], String.toList_ofList, by decide +kernel, g_ok_in _ [[true, true, true, false, false, false, true, true, true, true, true], [true, true, true, false, false, true, false, false, false, false], [true, true, true, false, false, true, false, false, false, true, false], [true, true, true, false, false, true, false, false, false, true, true], [true, true, true, false, false, true, false, false, true, false, false], [true, true, true, false, false, true, false, false, true, false, true], [true, true, true, false, false, true, false, false, true, true, false], [true, true, true, false, false, true, false, false, true, true, true], [true, true, true, false, false, true, false, true, false, false], [true, true, true, false, false, true, false, true, false, true, false], [true, true, true, false, false, true, false, true, false, true, true], [true, true, true, false, false, true, false, true, true, false, false], [true, true, true, false, false, true, false, true, true, false, true], [true, true, true, false, false, true, false, true, true, true, false], [true, true, true, false, false, true, false, true, true, true, true], [true, true, true, false, false, true, true, false, false, false], [true, true, true, false, false, true, true, false, false, true, false], [true, true, true, false, false, true, true, false, false, true, true], [true, true, true, false, false, true, true, false, true, false, false], [true, true, true, false, false, true, true, false, true, false, true], [true, true, true, false, false, true, true, false, true, true, false], [true, true, true, false, false, true, true, false, true, true, true], [true, true, true, false, false, true, true, true, false, false], [true, true, true, false, false, true, true, true, false, true, false], [true, true, true, false, false, true, true, true, false, true, true], [true, true, true, false, false, true, true, true, true, false, false], [true, true, true, false, false, true, true, true, true, false, true], [true, true, true, false, false, true, true, true, true, true, false], [true, true, true, false, false, true, true, true, true, true, true], [true, true, true, false, true, false, false, false, false, false], [true, true, true, false, true, false, false, false, false, true, false], [true, true, true, false, true, false, false, false, false, true, true], [true, true, true, false, true, false, false, false, true, false, false], [true, true, true, false, true, false, false, false, true, false, true], [true, true, true, false, true, false, false, false, true, true, false], [true, true, true, false, true, false, false, false, true, true, true], [true, true, true, false, true, false, false, true, false, false], [true, true, true, false, true, false, false, true, false, true, false], [true, true, true, false, true, false, false, true, false, true, true], [true, true, true, false, true, false, false, true, true, false, false], [true, true, true, false, true, false, false, true, true, false, true], [true, true, true, false, true, false, false, true, true, true, false], [true, true, true, false, true, false, false, true, true, true, true], [true, true, true, false, true, false, true, false, false, false], [true, true, true, false, true, false, true, false, false, true, false], [true, true, true, false, true, false, true, false, false, true, true], [true, true, true, false, true, false, true, false, true, false, false], [true, true, true, false, true, false, true, false, true, false, true], [true, true, true, false, true, false, true, false, true, true, false], [true, true, true, false, true, false, true, false, true, true, true], [true, true, true, false, true, false, true, true, false, false]] (by decide +kernel)⟩
theorem g_li_30 : g_LI ("PartitionBench", 306, "there is no neighbour") := by
  refine ⟨['t', 'h', 'e', 'r', 'e', ' ', 'i', 's', ' ', 'n', 'o', ' ', 'n', 'e', 'i', 'g', 'h', 'b', 'o', 'u', 'r'], String.toList_ofList, by decide +kernel, g_ok_in _ [[true, true, true, false, true, false, true, true, false, true, false], [true, true, true, false, true, false, true, true, false, true, true], [true, true, true, false, true, false, true, true, true, false, false], [true, true, true, false, true, false, true, true, true, false, true], [true, true, true, false, true, false, true, true, true, true, false], [true, true, true, false, true, false, true, true, true, true, true], [true, true, true, false, true, true, false, false, false, false], [true, true, true, false, true, true, false, false, false, true, false], [true, true, true, false, true, true, false, false, false, true, true], [true, true, true, false, true, true, false, false, true, false, false], [true, true, true, false, true, true, false, false, true, false, true], [true, true, true, false, true, true, false, false, true, true, false], [true, true, true, false, true, true, false, false, true, true, true], [true, true, true, false, true, true, false, true, false, false], [true, true, true, false, true, true, false, true, false, true, false], [true, true, true, false, true, true, false, true, false, true, true], [true, true, true, false, true, true, false, true, true, false, false], [true, true, true, false, true, true, false, true, true, false, true], [true, true, true, false, true, true, false, true, true, true, false], [true, true, true, false, true, true, false, true, true, true, true], [true, true, true, false, true, true, true, false, false, false], [true, true, true, false, true, true, true, false, false, true, false], [true, true, true, false, true, true, true, false, false, true, true], [true, true, true, false, true, true, true, false, true, false, false], [true, true, true, false, true, true, true, false, true, false, true]] (by decide +kernel)⟩
theorem g_li_31 : g_LI ("PartitionBench", 308, "the neighbour is of another kind") := by
  refine ⟨['t', 'h', 'e', ' ', 'n', 'e', 'i', 'g', 'h', 'b', 'o', 'u', 'r', ' ', 'i', 's', ' ', 'o', 'f', ' ', 'a', 'n', 'o', 't', 'h', 'e', 'r', ' ', 'k', 'i', 'n', 'd'], String.toList_ofList, by decide +kernel, g_ok_in _ [[true, true, true, false, true, true, true, false, true, true, false], [true, true, true, false, true, true, true, false, true, true, true], [true, true, true, false, true, true, true, true, false, false], [true, true, true, false, true, true, true, true, false, true, false], [true, true, true, false, true, true, true, true, false, true, true], [true, true, true, false, true, true, true, true, true, false, false], [true, true, true, false, true, true, true, true, true, false, true], [true, true, true, false, true, true, true, true, true, true, false], [true, true, true, false, true, true, true, true, true, true, true], [true, true, true, true, false, false, false, false, false, false], [true, true, true, true, false, false, false, false, false, true, false], [true, true, true, true, false, false, false, false, false, true, true], [true, true, true, true, false, false, false, false, true, false, false], [true, true, true, true, false, false, false, false, true, false, true], [true, true, true, true, false, false, false, false, true, true, false], [true, true, true, true, false, false, false, false, true, true, true], [true, true, true, true, false, false, false, true, false, false], [true, true, true, true, false, false, false, true, false, true, false], [true, true, true, true, false, false, false, true, false, true, true], [true, true, true, true, false, false, false, true, true, false, false], [true, true, true, true, false, false, false, true, true, false, true], [true, true, true, true, false, false, false, true, true, true, false], [true, true, true, true, false, false, false, true, true, true, true], [true, true, true, true, false, false, true, false, false, false], [true, true, true, true, false, false, true, false, false, true, false], [true, true, true, true, false, false, true, false, false, true, true], [true, true, true, true, false, false, true, false, true, false, false], [true, true, true, true, false, false, true, false, true, false, true], [true, true, true, true, false, false, true, false, true, true, false], [true, true, true, true, false, false, true, false, true, true, true], [true, true, true, true, false, false, true, true, false, false], [true, true, true, true, false, false, true, true, false, true, false], [true, true, true, true, false, false, true, true, false, true, true], [true, true, true, true, false, false, true, true, true, false, false], [true, true, true, true, false, false, true, true, true, false, true], [true, true, true, true, false, false, true, true, true, true, false]] (by decide +kernel)⟩
theorem g_li_32 : g_LI ("PartitionBench", 435, "no state is saved") := by
  refine ⟨['n', 'o', ' ', 's', 't', 'a', 't', 'e', ' ', 'i', 's', ' ', 's', 'a', 'v', 'e', 'd'], String.toList_ofList, by decide +kernel, g_ok_in _ [[true, true, true, true, false, false, true, true, true, true, true], [true, true, true, true, false, true, false, false, false, false], [true, true, true, true, false, true, false, false, false, true, false], [true, true, true, true, false, true, false, false, false, true, true], [true, true, true, true, false, true, false, false, true, false, false], [true, true, true, true, false, true, false, false, true, false, true], [true, true, true, true, false, true, false, false, true, true, false], [true, true, true, true, false, true, false, false, true, true, true], [true, true, true, true, false, true, false, true, false, false], [true, true, true, true, false, true, false, true, false, true, false], [true, true, true, true, false, true, false, true, false, true, true], [true, true, true, true, false, true, false, true, true, false, false], [true, true, true, true, false, true, false, true, true, false, true], [true, true, true, true, false, true, false, true, true, true, false], [true, true, true, true, false, true, false, true, true, true, true], [true, true, true, true, false, true, true, false, false, false], [true, true, true, true, false, true, true, false, false, true, false], [true, true, true, true, false, true, true, false, false, true, true], [true, true, true, true, false, true, true, false, true, false, false], [true, true, true, true, false, true, true, false, true, false, true], [true, true, true, true, false, true, true, false, true, true, false]] (by decide +kernel)⟩
theorem g_li_33 : g_LI ("PartitionBenchModel", 280, "disk") := by
  refine ⟨['d', 'i', 's', 'k'], String.toList_ofList, by decide +kernel, g_ok_in _ [[true, true, true, true, false, true, true, false, true, true, true], [true, true, true, true, false, true, true, true, false, false], [true, true, true, true, false, true, true, true, false, true, false], [true, true, true, true, false, true, true, true, false, true, true], [true, true, true, true, false, true, true, true, true, false, false], [true, true, true, true, false, true, true, true, true, false, true], [true, true, true, true, false, true, true, true, true, true, false], [true, true, true, true, false, true, true, true, true, true, true]] (by decide +kernel)⟩
theorem g_li_34 : g_LI ("PartitionBenchModel", 254, "head") := by
  refine ⟨['h', 'e', 'a', 'd'], String.toList_ofList, by decide +kernel, g_ok_in _ [[true, true, true, true, true, false, false, false, false, true, false], [true, true, true, true, true, false, false, false, false, true, true], [true, true, true, true, true, false, false, false, true, false, false], [true, true, true, true, true, false, false, false, true, false, true], [true, true, true, true, true, false, false, false, true, true, false], [true, true, true, true, true, false, false, false, true, true, true], [true, true, true, true, true, false, false, true, false, false], [true, true, true, true, true, false, false, true, false, true, false]] (by decide +kernel)⟩
theorem g_li_35 : g_LI ("PartitionBenchModel", 264, "tail") := by
  refine ⟨['t', 'a', 'i', 'l'], String.toList_ofList, by decide +kernel, g_ok_in _ [[true, true, true, true, true, false, false, true, true, false, false], [true, true, true, true, true, false, false, true, true, false, true], [true, true, true, true, true, false, false, true, true, true, false], [true, true, true, true, true, false, false, true, true, true, true], [true, true, true, true, true, false, true, false, false, false], [true, true, true, true, true, false, true, false, false, true, false], [true, true, true, true, true, false, true, false, false, true, true], [true, true, true, true, true, false, true, false, true, false, false]] (by decide +kernel)⟩
theorem g_li_36 : g_LI ("PartitionBenchModel", 266, "align") := by
  refine ⟨['a', 'l', 'i', 'g', 'n'], String.toList_ofList, by decide +kernel, g_ok_in _ [[true, true, true, true, true, false, true, false, true, true, false], [true, true, true, true, true, false, true, false, true, true, true], [true, true, true, true, true, false, true, true, false, false], [true, true, true, true, true, false, true, true, false, true, false], [true, true, true, true, true, false, true, true, false, true, true], [true, true, true, true, true, false, true, true, true, false, false], [true, true, true, true, true, false, true, true, true, false, true], [true, true, true, true, true, false, true, true, true, true, false], [true, true, true, true, true, false, true, true, true, true, true]] (by decide +kernel)⟩
theorem g_li_37 : g_LI ("PartitionBenchModel", 268, "chunk") := by
  refine ⟨['c', 'h', 'u', 'n', 'k'], String.toList_ofList, by decide +kernel, g_ok_in _ [[true, true, true, true, true, true, false, false, false, true, false], [true, true, true, true, true, true, false, false, false, true, true], [true, true, true, true, true, true, false, false, true, false, false], [true, true, true, true, true, true, false, false, true, false, true], [true, true, true, true, true, true, false, false, true, true, false], [true, true, true, true, true, true, false, false, true, true, true], [true, true, true, true, true, true, false, true, false, false], [true, true, true, true, true, true, false, true, false, true, false], [true, true, true, true, true, true, false, true, false, true, true]] (by decide +kernel)⟩
theorem g_li_38 : g_LI ("PartitionBenchModel", 270, "part") := by
  refine ⟨['p', 'a', 'r', 't'], String.toList_ofList, by decide +kernel, g_ok_in _ [[true, true, true, true, true, true, false, true, true, false, true], [true, true, true, true, true, true, false, true, true, true, false], [true, true, true, true, true, true, false, true, true, true, true], [true, true, true, true, true, true, true, false, false, false], [true, true, true, true, true, true, true, false, false, true, false], [true, true, true, true, true, true, true, false, false, true, true], [true, true, true, true, true, true, true, false, true, false, false], [true, true, true, true, true, true, true, false, true, false, true]] (by decide +kernel)⟩
theorem g_li_39 : g_LI ("PartitionBenchModel", 275, "lock") := by
  refine ⟨['l', 'o', 'c', 'k'], String.toList_ofList, by decide +kernel, g_ok_in _ [[true, true, true, true, true, true, true, false, true, true, true], [true, true, true, true, true, true, true, true, false, false, false], [true, true, true, true, true, true, true, true, false, false, true], [true, true, true, true, true, true, true, true, false, true, false], [true, true, true, true, true, true, true, true, false, true, true], [true, true, true, true, true, true, true, true, true, false, false], [true, true, true, true, true, true, true, true, true, false, true], [true, true, true, true, true, true, true, true, true, true, false]] (by decide +kernel)⟩
theorem g_li : ∀ q ∈ g_STR, g_LI q := by
  intro q hq
  unfold g_STR at hq
  simp only [List.mem_cons, List.not_mem_nil, or_false] at hq
  rcases hq with rfl | rfl | rfl | rfl | rfl | rfl | rfl | rfl | rfl | rfl | rfl | rfl | rfl | rfl | rfl | rfl | rfl | rfl | rfl | rfl | rfl | rfl | rfl | rfl | rfl | rfl | rfl | rfl | rfl | rfl | rfl | rfl | rfl | rfl | rfl | rfl | rfl | rfl | rfl | rfl
  · exact g_li_0
  · exact g_li_1
  · exact g_li_2
  · exact g_li_3
  · exact g_li_4
  · exact g_li_5
  · exact g_li_6
  · exact g_li_7
  · exact g_li_8
  · exact g_li_9
  · exact g_li_10
  · exact g_li_11
  · exact g_li_12
  · exact g_li_13
  · exact g_li_14
  · exact g_li_15
  · exact g_li_16
  · exact g_li_17
  · exact g_li_18
  · exact g_li_19
  · exact g_li_20
  · exact g_li_21
  · exact g_li_22
  · exact g_li_23
  · exact g_li_24
  · exact g_li_25
  · exact g_li_26
  · exact g_li_27
  · exact g_li_28
  · exact g_li_29
  · exact g_li_30
  · exact g_li_31
  · exact g_li_32
  · exact g_li_33
  · exact g_li_34
  · exact g_li_35
  · exact g_li_36
  · exact g_li_37
  · exact g_li_38
  · exact g_li_39
end GLI
end
section
/-! the world at the law's entry -/
section GW2
theorem g_str {own tx : String} {k : Nat} {A : Array Value} {s : State} (h : (Jvm.Cond.stringRef own k tx).before A s = true) : ∃ a, (Term.string own k).eval #[] s none [] s = some (.ref a) := by
  cases hc : s.vm.findClass own with
  | none => simp [Cond.before, Cond.holds, Cond.value, hc] at h
  | some cur =>
    obtain ⟨k9, cf, i, a, -, -, -, -, -, hev⟩ := Cond.stringRef_spec hc h
    exact ⟨a, hev⟩
def g_stw : List Jvm.Cond := [.eq (.static "java/lang/String" "COMPACT_STRINGS" "Z") (.int 1), .isRef (.static "jdk/internal/util/Preconditions" "SIOOBE_FORMATTER" sx_FD)]
theorem g_stw_in : g_stw.all (fun w => decide (w ∈ g_flat)) = true := by decide +kernel
def g_stt : List Jvm.Cond := [.laysStatic "java/lang/String" "COMPACT_STRINGS" "Z", .initialized "java/lang/String", .laysStatic "jdk/internal/util/Preconditions" "SIOOBE_FORMATTER" sx_FD, .initialized "jdk/internal/util/Preconditions"]
theorem g_stt_in : g_allT g_stt = true := by decide +kernel
theorem g_lit {b : Nat} {s : State} {q : String × Nat × String} {a : Nat} (hq : q ∈ g_STR) (hfl : ∀ w ∈ g_flat, w.before #[Value.ref b] s = true) (ha : (Term.string q.1 q.2.1).eval #[Value.ref b] s none [] s = some (.ref a)) : sx_L q.2.2 a (fun z => s.heap.size ≤ z) s s.heap := by
  obtain ⟨_, rfl, h1, h2⟩ := g_li q hq
  rw [Bool.and_eq_true] at h1
  obtain ⟨h3, h4⟩ := h1
  have hw : ∀ w ∈ g_litw q q.2.2.toList.length, w.before #[Value.ref b] s = true := fun w hw => hfl w (h2 w (List.mem_append_left _ hw))
  have hA : ∀ z : Nat, z < s.heap.size → ¬ (fun z => s.heap.size ≤ z) z := fun z h => Nat.not_le.mpr h
  have hn := Nat.le_of_ble_eq_true h3
  have he : ∀ j, j < q.2.2.toList.length → (g_lite q j (q.2.2.toList.getD j 'a')).before #[Value.ref b] s = true := fun j hj => by
    have h := g_les_in (q := q) q.2.2.toList 0 j hj
    rw [Nat.zero_add] at h
    exact hfl _ (h2 _ (List.mem_append_right _ h))
  obtain ⟨t, ht, hT⟩ := va_Tof (N := q.2.2.toList.length) (f := sx_f q.2.2) (by omega) (hw _ (List.mem_cons_of_mem _ (List.mem_cons_of_mem _ List.mem_cons_self))) (va_eqt (hw _ (List.mem_cons_of_mem _ (List.mem_cons_of_mem _ (List.mem_cons_of_mem _ List.mem_cons_self))))) (fun j hj => va_eqt (he j hj)) hA
  exact ⟨⟨hn, fun ch hc => Nat.le_of_ble_eq_true (List.all_eq_true.mp h4 ch hc)⟩, va_Oof (hw _ List.mem_cons_self) ha hA, vk_OFof ha (va_eqt (hw _ (List.mem_cons_of_mem _ List.mem_cons_self))) hA, t, vk_OFof ha ht hA, hT⟩
theorem g_world {p : Program} {s : State} {m : MethodId} {meth : Method} {c : Code} {b L : Nat} {xs : Nat → Int32} (hts : ∀ w ∈ lw_tbl, w.before #[Value.ref b] s = true) (hgv : (Jvm.Cond.and given_1 narrow_1).before #[Value.ref b] s = true) :
    ∃ (D : va_G) (tyc : Nat → ClassId), ri_St g_ALL g_STR g_G D tyc (g_sa s b) (fun q => s.heap.size ≤ q) s := by
  have hall : ∀ w ∈ g_ALL, ∀ a : Array Value, w.before a s = true := fun w hw => ri_warm_at (tb_warm w hw) (hts w (tb_in hw))
  have hfl := flat_of_before _ hgv
  have hna : ∀ w ∈ g_naw, w.before #[Value.ref b] s = true := fun w hw => hfl w (decide_eq_true_iff.mp (List.all_eq_true.mp g_naw_in w hw))
  have hcl := ri_clOK_s (G := g_G) tb_cl
  have h1 : ∀ k : Nat, ∃ (cC : ClassId) (iS : Nat → Nat), ∀ q : vw_C, (ri_cls g_G)[k]? = some q → u_Kn s q.1 q.2.1 q.2.2 cC iS := by
    intro k
    cases hk : (ri_cls g_G)[k]? with
    | none => exact ⟨0, fun _ => 0, fun q h => by cases h⟩
    | some r =>
      obtain ⟨C, T, N⟩ := r
      obtain ⟨tys, -, -, -, -, hw⟩ := hcl k C T N hk
      have hi : Jvm.Cond.instantiable C N ∈ lw_tbl := g_allT_s g_clw_in _ (List.mem_map.mpr ⟨(C, T, N), List.mem_of_getElem? hk, rfl⟩)
      obtain ⟨cC, iS, h⟩ := u_known (C := C) (T := T) (N := N) (n := N) hts (fun w hw9 => tb_in (hw w hw9)) (hts _ hi)
      exact ⟨cC, iS, fun q hq => by cases hq; exact h⟩
  have hA : ∀ (ty : FieldType), (Jvm.Cond.arrayClass ty).before #[Value.ref b] s = true → (∀ C, ty ≠ .object C) → ∃ cA : ClassId, ArrOfT s cA ty ∧ va_RA s cA ty := by
    intro ty h hn
    obtain ⟨cA, kA, comp, f1, f2, f3⟩ := Cond.arrayClass_spec h
    refine ⟨cA, fun n z => ⟨fun k hk => (by cases hk), kA, f2, comp, f3⟩, ?_⟩
    cases ty with
    | object C => exact absurd rfl (hn C)
    | _ => exact f1
  have hO : ∀ (C : String), (Jvm.Cond.arrayOver (.object C)).before #[Value.ref b] s = true → ∃ cA : ClassId, ArrOfT s cA (.object C) ∧ va_RA s cA (.object C) := by
    intro C h
    obtain ⟨comp, cA, kA, f1, -, f2, f3, f4⟩ := Cond.arrayOver_spec h
    exact ⟨cA, fun n z => ⟨fun k hk => (by cases hk), kA, f2, comp, f3⟩, kA, comp, f2, f3, f1, f4⟩
  have ht : ∀ w ∈ g_tyw, w.before #[Value.ref b] s = true := fun w hw => hts w (g_allT_s g_tyw_in w hw)
  have h2 : ∀ k : Nat, ∃ cA : ClassId, ∀ ty : FieldType, (ri_aty g_G)[k]? = some ty → ArrOfT s cA ty ∧ va_RA s cA ty := by
    intro k
    match k with
    | 0 => obtain ⟨cA, h⟩ := hA .int (ht _ List.mem_cons_self) (fun C z => by cases z); exact ⟨cA, fun ty hty => by cases hty; exact h⟩
    | 1 => obtain ⟨cA, h⟩ := hO "PartitionBench$Disk" (ht _ (List.mem_cons_of_mem _ List.mem_cons_self)); exact ⟨cA, fun ty hty => by cases hty; exact h⟩
    | 2 => obtain ⟨cA, h⟩ := hO "PartitionBench$Part" (ht _ (List.mem_cons_of_mem _ (List.mem_cons_of_mem _ List.mem_cons_self))); exact ⟨cA, fun ty hty => by cases hty; exact h⟩
    | 3 => obtain ⟨cA, h⟩ := hA .long (ht _ (List.mem_cons_of_mem _ (List.mem_cons_of_mem _ (List.mem_cons_of_mem _ List.mem_cons_self)))) (fun C z => by cases z); exact ⟨cA, fun ty hty => by cases hty; exact h⟩
    | k + 4 => exact ⟨0, fun ty hty => by cases hty⟩
  have hth : ∀ w ∈ g_thw, w.before #[Value.ref b] s = true := fun w hw => hts w (g_allT_s g_thw_in w hw)
  refine ⟨(fun k => Classical.choose (h1 k), fun k => Classical.choose (Classical.choose_spec (h1 k))), fun k => Classical.choose (h2 k), hall, ⟨fun k q hq => Classical.choose_spec (Classical.choose_spec (h1 k)) q hq, fun k q hq => ?_⟩, fun q hq => ?_, ?_, ?_, fun q hq h0 => ?_, ?_⟩
  · unfold ri_tys at hq
    rw [List.getElem?_mapIdx] at hq
    obtain ⟨ty, hty, rfl⟩ := Option.map_eq_some_iff.mp hq
    exact Classical.choose_spec (h2 k) ty hty
  · have hw := hts _ (g_allT_s g_STR_in _ (List.mem_map.mpr ⟨q, hq, rfl⟩))
    obtain ⟨a, ha⟩ := g_str hw
    have e : g_sa s b q.1 q.2.1 = a := by
      unfold g_sa
      rw [if_neg (g_STR_ne q hq), ha]
    rw [e]
    exact ⟨hw, ha⟩
  · exact vx_Zqof (hth _ (List.mem_cons_of_mem _ List.mem_cons_self)) (hth _ List.mem_cons_self) (hna _ (List.mem_append_left _ List.mem_cons_self)) (fun a h => Nat.not_le.mpr h)
  · exact vx_Zqof (hth _ (List.mem_cons_of_mem _ (List.mem_cons_of_mem _ List.mem_cons_self))) (hth _ List.mem_cons_self) (hna _ (List.mem_append_left _ (List.mem_cons_of_mem _ List.mem_cons_self))) (fun a h => Nat.not_le.mpr h)
  · exact va_Nc.of (hna _ (List.mem_append_right _ (List.mem_map.mpr ⟨q, List.mem_filter.mpr ⟨hq, by rw [h0]; rfl⟩, rfl⟩)))
  · have hst : ∀ w ∈ g_stw, w.before #[Value.ref b] s = true := fun w hw => hfl w (decide_eq_true_iff.mp (List.all_eq_true.mp g_stw_in w hw))
    have htt : ∀ w ∈ g_stt, w.before #[Value.ref b] s = true := fun w hw => hts w (g_allT_s g_stt_in w hw)
    have hA0 : ∀ z : Nat, z < s.heap.size → ¬ (fun z => s.heap.size ≤ z) z := fun z h => Nat.not_le.mpr h
    refine ⟨fun q hq => ?_, va_Zof (htt _ List.mem_cons_self) (htt _ (List.mem_cons_of_mem _ List.mem_cons_self)) (va_eqt (hst _ List.mem_cons_self)) hA0, va_Zqof (htt _ (List.mem_cons_of_mem _ (List.mem_cons_of_mem _ List.mem_cons_self))) (htt _ (List.mem_cons_of_mem _ (List.mem_cons_of_mem _ (List.mem_cons_of_mem _ List.mem_cons_self)))) (hst _ (List.mem_cons_of_mem _ List.mem_cons_self)) hA0⟩
    have hw := hts _ (g_allT_s g_STR_in _ (List.mem_map.mpr ⟨q, hq, rfl⟩))
    obtain ⟨a, ha⟩ := g_str hw
    have e : g_sa s b q.1 q.2.1 = a := by
      unfold g_sa
      rw [if_neg (g_STR_ne q hq), ha]
    rw [e]
    exact g_lit hq hfl ha
end GW2
end
