abbrev zq_at (code : ByteArray) (p b : Nat) : Prop := ∃ h : p < code.size, (code[p]'h).toNat = b
theorem zq_b {α β : Type} {r : Jvm.ClassFile.Decoder α} {f : α → Jvm.ClassFile.Decoder β} {code : ByteArray} {p q : Nat} {x : α} (h : r code p = .ok (x, q)) : (r >>= f) code p = f x code q := by
  show (Except.bind (r code p) fun s => f s.1 code s.2) = f x code q
  rw [h]
  rfl
theorem zq_u1 {code : ByteArray} {p b : Nat} (h : zq_at code p b) : (Jvm.ClassFile.Reader.u1 : Jvm.ClassFile.Decoder Nat) code p = .ok (b, p + 1) := by
  obtain ⟨h1, h2⟩ := h
  show (dite (p < code.size) (fun h => ((do set (p + 1); pure (code[p]'h).toNat) : Jvm.ClassFile.Decoder Nat)) (fun _ => throw (Jvm.ClassFile.HasTruncated.truncated p))) code p = _
  rw [dif_pos h1]
  show (Except.ok ((code[p]'h1).toNat, p + 1) : Except Jvm.ClassFile.DecodeError (Nat × Nat)) = _
  rw [h2]
theorem zq_s1 {code : ByteArray} {p b : Nat} (h : zq_at code p b) : (Jvm.ClassFile.Reader.s1 : Jvm.ClassFile.Decoder Int) code p = .ok (Jvm.ClassFile.Reader.signed 8 b, p + 1) := by
  show (Except.bind ((Jvm.ClassFile.Reader.u1 : Jvm.ClassFile.Decoder Nat) code p) fun s => .ok (Jvm.ClassFile.Reader.signed 8 s.1, s.2)) = _
  rw [zq_u1 h]
  rfl
theorem zq_u2 {code : ByteArray} {p a b : Nat} (h1 : zq_at code p a) (h2 : zq_at code (p + 1) b) : (Jvm.ClassFile.Reader.u2 : Jvm.ClassFile.Decoder Nat) code p = .ok (a * 256 + b, p + 1 + 1) := by
  unfold Jvm.ClassFile.Reader.u2
  exact (zq_b (zq_u1 h1)).trans ((zq_b (zq_u1 h2)).trans rfl)
theorem zq_s2 {code : ByteArray} {p a b : Nat} (h1 : zq_at code p a) (h2 : zq_at code (p + 1) b) : (Jvm.ClassFile.Reader.s2 : Jvm.ClassFile.Decoder Int) code p = .ok (Jvm.ClassFile.Reader.signed 16 (a * 256 + b), p + 1 + 1) := by
  show (Except.bind ((Jvm.ClassFile.Reader.u2 : Jvm.ClassFile.Decoder Nat) code p) fun s => .ok (Jvm.ClassFile.Reader.signed 16 s.1, s.2)) = _
  rw [zq_u2 h1 h2]
  rfl
theorem zq_dec {code : ByteArray} {pc n len : Nat} {i : Instr} (h : Jvm.ClassFile.Decoder.instr pc code pc = .ok (i, n)) (hl : n - pc = len) : decode code pc = .ok (i, len) := by
  subst hl
  show (Except.bind (Jvm.ClassFile.Decoder.instr pc code pc) fun s => .ok (s.1, s.2 - pc)) = _
  rw [h]
  rfl
theorem zq_2 {code : ByteArray} {pc : Nat} (h : zq_at code pc 2) : decode code pc = .ok ((.iconst (-1)), 1) := by
  refine zq_dec (n := pc + 1) ?_ (by omega)
  unfold Jvm.ClassFile.Decoder.instr
  exact (zq_b (zq_u1 h)).trans rfl
theorem zq_3 {code : ByteArray} {pc : Nat} (h : zq_at code pc 3) : decode code pc = .ok ((.iconst 0), 1) := by
  refine zq_dec (n := pc + 1) ?_ (by omega)
  unfold Jvm.ClassFile.Decoder.instr
  exact (zq_b (zq_u1 h)).trans rfl
theorem zq_4 {code : ByteArray} {pc : Nat} (h : zq_at code pc 4) : decode code pc = .ok ((.iconst 1), 1) := by
  refine zq_dec (n := pc + 1) ?_ (by omega)
  unfold Jvm.ClassFile.Decoder.instr
  exact (zq_b (zq_u1 h)).trans rfl
theorem zq_5 {code : ByteArray} {pc : Nat} (h : zq_at code pc 5) : decode code pc = .ok ((.iconst 2), 1) := by
  refine zq_dec (n := pc + 1) ?_ (by omega)
  unfold Jvm.ClassFile.Decoder.instr
  exact (zq_b (zq_u1 h)).trans rfl
theorem zq_6 {code : ByteArray} {pc : Nat} (h : zq_at code pc 6) : decode code pc = .ok ((.iconst 3), 1) := by
  refine zq_dec (n := pc + 1) ?_ (by omega)
  unfold Jvm.ClassFile.Decoder.instr
  exact (zq_b (zq_u1 h)).trans rfl
theorem zq_7 {code : ByteArray} {pc : Nat} (h : zq_at code pc 7) : decode code pc = .ok ((.iconst 4), 1) := by
  refine zq_dec (n := pc + 1) ?_ (by omega)
  unfold Jvm.ClassFile.Decoder.instr
  exact (zq_b (zq_u1 h)).trans rfl
theorem zq_8 {code : ByteArray} {pc : Nat} (h : zq_at code pc 8) : decode code pc = .ok ((.iconst 5), 1) := by
  refine zq_dec (n := pc + 1) ?_ (by omega)
  unfold Jvm.ClassFile.Decoder.instr
  exact (zq_b (zq_u1 h)).trans rfl
theorem zq_9 {code : ByteArray} {pc : Nat} (h : zq_at code pc 9) : decode code pc = .ok ((.lconst 0), 1) := by
  refine zq_dec (n := pc + 1) ?_ (by omega)
  unfold Jvm.ClassFile.Decoder.instr
  exact (zq_b (zq_u1 h)).trans rfl
theorem zq_10 {code : ByteArray} {pc : Nat} (h : zq_at code pc 10) : decode code pc = .ok ((.lconst 1), 1) := by
  refine zq_dec (n := pc + 1) ?_ (by omega)
  unfold Jvm.ClassFile.Decoder.instr
  exact (zq_b (zq_u1 h)).trans rfl
theorem zq_26 {code : ByteArray} {pc : Nat} (h : zq_at code pc 26) : decode code pc = .ok ((.iload_n 0), 1) := by
  refine zq_dec (n := pc + 1) ?_ (by omega)
  unfold Jvm.ClassFile.Decoder.instr
  exact (zq_b (zq_u1 h)).trans rfl
theorem zq_27 {code : ByteArray} {pc : Nat} (h : zq_at code pc 27) : decode code pc = .ok ((.iload_n 1), 1) := by
  refine zq_dec (n := pc + 1) ?_ (by omega)
  unfold Jvm.ClassFile.Decoder.instr
  exact (zq_b (zq_u1 h)).trans rfl
theorem zq_28 {code : ByteArray} {pc : Nat} (h : zq_at code pc 28) : decode code pc = .ok ((.iload_n 2), 1) := by
  refine zq_dec (n := pc + 1) ?_ (by omega)
  unfold Jvm.ClassFile.Decoder.instr
  exact (zq_b (zq_u1 h)).trans rfl
theorem zq_29 {code : ByteArray} {pc : Nat} (h : zq_at code pc 29) : decode code pc = .ok ((.iload_n 3), 1) := by
  refine zq_dec (n := pc + 1) ?_ (by omega)
  unfold Jvm.ClassFile.Decoder.instr
  exact (zq_b (zq_u1 h)).trans rfl
theorem zq_30 {code : ByteArray} {pc : Nat} (h : zq_at code pc 30) : decode code pc = .ok ((.lload_n 0), 1) := by
  refine zq_dec (n := pc + 1) ?_ (by omega)
  unfold Jvm.ClassFile.Decoder.instr
  exact (zq_b (zq_u1 h)).trans rfl
theorem zq_31 {code : ByteArray} {pc : Nat} (h : zq_at code pc 31) : decode code pc = .ok ((.lload_n 1), 1) := by
  refine zq_dec (n := pc + 1) ?_ (by omega)
  unfold Jvm.ClassFile.Decoder.instr
  exact (zq_b (zq_u1 h)).trans rfl
theorem zq_32 {code : ByteArray} {pc : Nat} (h : zq_at code pc 32) : decode code pc = .ok ((.lload_n 2), 1) := by
  refine zq_dec (n := pc + 1) ?_ (by omega)
  unfold Jvm.ClassFile.Decoder.instr
  exact (zq_b (zq_u1 h)).trans rfl
theorem zq_33 {code : ByteArray} {pc : Nat} (h : zq_at code pc 33) : decode code pc = .ok ((.lload_n 3), 1) := by
  refine zq_dec (n := pc + 1) ?_ (by omega)
  unfold Jvm.ClassFile.Decoder.instr
  exact (zq_b (zq_u1 h)).trans rfl
theorem zq_42 {code : ByteArray} {pc : Nat} (h : zq_at code pc 42) : decode code pc = .ok ((.aload_n 0), 1) := by
  refine zq_dec (n := pc + 1) ?_ (by omega)
  unfold Jvm.ClassFile.Decoder.instr
  exact (zq_b (zq_u1 h)).trans rfl
theorem zq_43 {code : ByteArray} {pc : Nat} (h : zq_at code pc 43) : decode code pc = .ok ((.aload_n 1), 1) := by
  refine zq_dec (n := pc + 1) ?_ (by omega)
  unfold Jvm.ClassFile.Decoder.instr
  exact (zq_b (zq_u1 h)).trans rfl
theorem zq_44 {code : ByteArray} {pc : Nat} (h : zq_at code pc 44) : decode code pc = .ok ((.aload_n 2), 1) := by
  refine zq_dec (n := pc + 1) ?_ (by omega)
  unfold Jvm.ClassFile.Decoder.instr
  exact (zq_b (zq_u1 h)).trans rfl
theorem zq_45 {code : ByteArray} {pc : Nat} (h : zq_at code pc 45) : decode code pc = .ok ((.aload_n 3), 1) := by
  refine zq_dec (n := pc + 1) ?_ (by omega)
  unfold Jvm.ClassFile.Decoder.instr
  exact (zq_b (zq_u1 h)).trans rfl
theorem zq_46 {code : ByteArray} {pc : Nat} (h : zq_at code pc 46) : decode code pc = .ok ((.iaload), 1) := by
  refine zq_dec (n := pc + 1) ?_ (by omega)
  unfold Jvm.ClassFile.Decoder.instr
  exact (zq_b (zq_u1 h)).trans rfl
theorem zq_47 {code : ByteArray} {pc : Nat} (h : zq_at code pc 47) : decode code pc = .ok ((.laload), 1) := by
  refine zq_dec (n := pc + 1) ?_ (by omega)
  unfold Jvm.ClassFile.Decoder.instr
  exact (zq_b (zq_u1 h)).trans rfl
theorem zq_50 {code : ByteArray} {pc : Nat} (h : zq_at code pc 50) : decode code pc = .ok ((.aaload), 1) := by
  refine zq_dec (n := pc + 1) ?_ (by omega)
  unfold Jvm.ClassFile.Decoder.instr
  exact (zq_b (zq_u1 h)).trans rfl
theorem zq_51 {code : ByteArray} {pc : Nat} (h : zq_at code pc 51) : decode code pc = .ok ((.baload), 1) := by
  refine zq_dec (n := pc + 1) ?_ (by omega)
  unfold Jvm.ClassFile.Decoder.instr
  exact (zq_b (zq_u1 h)).trans rfl
theorem zq_52 {code : ByteArray} {pc : Nat} (h : zq_at code pc 52) : decode code pc = .ok ((.caload), 1) := by
  refine zq_dec (n := pc + 1) ?_ (by omega)
  unfold Jvm.ClassFile.Decoder.instr
  exact (zq_b (zq_u1 h)).trans rfl
theorem zq_59 {code : ByteArray} {pc : Nat} (h : zq_at code pc 59) : decode code pc = .ok ((.istore_n 0), 1) := by
  refine zq_dec (n := pc + 1) ?_ (by omega)
  unfold Jvm.ClassFile.Decoder.instr
  exact (zq_b (zq_u1 h)).trans rfl
theorem zq_60 {code : ByteArray} {pc : Nat} (h : zq_at code pc 60) : decode code pc = .ok ((.istore_n 1), 1) := by
  refine zq_dec (n := pc + 1) ?_ (by omega)
  unfold Jvm.ClassFile.Decoder.instr
  exact (zq_b (zq_u1 h)).trans rfl
theorem zq_61 {code : ByteArray} {pc : Nat} (h : zq_at code pc 61) : decode code pc = .ok ((.istore_n 2), 1) := by
  refine zq_dec (n := pc + 1) ?_ (by omega)
  unfold Jvm.ClassFile.Decoder.instr
  exact (zq_b (zq_u1 h)).trans rfl
theorem zq_62 {code : ByteArray} {pc : Nat} (h : zq_at code pc 62) : decode code pc = .ok ((.istore_n 3), 1) := by
  refine zq_dec (n := pc + 1) ?_ (by omega)
  unfold Jvm.ClassFile.Decoder.instr
  exact (zq_b (zq_u1 h)).trans rfl
theorem zq_63 {code : ByteArray} {pc : Nat} (h : zq_at code pc 63) : decode code pc = .ok ((.lstore_n 0), 1) := by
  refine zq_dec (n := pc + 1) ?_ (by omega)
  unfold Jvm.ClassFile.Decoder.instr
  exact (zq_b (zq_u1 h)).trans rfl
theorem zq_64 {code : ByteArray} {pc : Nat} (h : zq_at code pc 64) : decode code pc = .ok ((.lstore_n 1), 1) := by
  refine zq_dec (n := pc + 1) ?_ (by omega)
  unfold Jvm.ClassFile.Decoder.instr
  exact (zq_b (zq_u1 h)).trans rfl
theorem zq_65 {code : ByteArray} {pc : Nat} (h : zq_at code pc 65) : decode code pc = .ok ((.lstore_n 2), 1) := by
  refine zq_dec (n := pc + 1) ?_ (by omega)
  unfold Jvm.ClassFile.Decoder.instr
  exact (zq_b (zq_u1 h)).trans rfl
theorem zq_66 {code : ByteArray} {pc : Nat} (h : zq_at code pc 66) : decode code pc = .ok ((.lstore_n 3), 1) := by
  refine zq_dec (n := pc + 1) ?_ (by omega)
  unfold Jvm.ClassFile.Decoder.instr
  exact (zq_b (zq_u1 h)).trans rfl
theorem zq_75 {code : ByteArray} {pc : Nat} (h : zq_at code pc 75) : decode code pc = .ok ((.astore_n 0), 1) := by
  refine zq_dec (n := pc + 1) ?_ (by omega)
  unfold Jvm.ClassFile.Decoder.instr
  exact (zq_b (zq_u1 h)).trans rfl
theorem zq_76 {code : ByteArray} {pc : Nat} (h : zq_at code pc 76) : decode code pc = .ok ((.astore_n 1), 1) := by
  refine zq_dec (n := pc + 1) ?_ (by omega)
  unfold Jvm.ClassFile.Decoder.instr
  exact (zq_b (zq_u1 h)).trans rfl
theorem zq_77 {code : ByteArray} {pc : Nat} (h : zq_at code pc 77) : decode code pc = .ok ((.astore_n 2), 1) := by
  refine zq_dec (n := pc + 1) ?_ (by omega)
  unfold Jvm.ClassFile.Decoder.instr
  exact (zq_b (zq_u1 h)).trans rfl
theorem zq_78 {code : ByteArray} {pc : Nat} (h : zq_at code pc 78) : decode code pc = .ok ((.astore_n 3), 1) := by
  refine zq_dec (n := pc + 1) ?_ (by omega)
  unfold Jvm.ClassFile.Decoder.instr
  exact (zq_b (zq_u1 h)).trans rfl
theorem zq_79 {code : ByteArray} {pc : Nat} (h : zq_at code pc 79) : decode code pc = .ok ((.iastore), 1) := by
  refine zq_dec (n := pc + 1) ?_ (by omega)
  unfold Jvm.ClassFile.Decoder.instr
  exact (zq_b (zq_u1 h)).trans rfl
theorem zq_80 {code : ByteArray} {pc : Nat} (h : zq_at code pc 80) : decode code pc = .ok ((.lastore), 1) := by
  refine zq_dec (n := pc + 1) ?_ (by omega)
  unfold Jvm.ClassFile.Decoder.instr
  exact (zq_b (zq_u1 h)).trans rfl
theorem zq_83 {code : ByteArray} {pc : Nat} (h : zq_at code pc 83) : decode code pc = .ok ((.aastore), 1) := by
  refine zq_dec (n := pc + 1) ?_ (by omega)
  unfold Jvm.ClassFile.Decoder.instr
  exact (zq_b (zq_u1 h)).trans rfl
theorem zq_84 {code : ByteArray} {pc : Nat} (h : zq_at code pc 84) : decode code pc = .ok ((.bastore), 1) := by
  refine zq_dec (n := pc + 1) ?_ (by omega)
  unfold Jvm.ClassFile.Decoder.instr
  exact (zq_b (zq_u1 h)).trans rfl
theorem zq_85 {code : ByteArray} {pc : Nat} (h : zq_at code pc 85) : decode code pc = .ok ((.castore), 1) := by
  refine zq_dec (n := pc + 1) ?_ (by omega)
  unfold Jvm.ClassFile.Decoder.instr
  exact (zq_b (zq_u1 h)).trans rfl
theorem zq_87 {code : ByteArray} {pc : Nat} (h : zq_at code pc 87) : decode code pc = .ok ((.pop), 1) := by
  refine zq_dec (n := pc + 1) ?_ (by omega)
  unfold Jvm.ClassFile.Decoder.instr
  exact (zq_b (zq_u1 h)).trans rfl
theorem zq_89 {code : ByteArray} {pc : Nat} (h : zq_at code pc 89) : decode code pc = .ok ((.dup), 1) := by
  refine zq_dec (n := pc + 1) ?_ (by omega)
  unfold Jvm.ClassFile.Decoder.instr
  exact (zq_b (zq_u1 h)).trans rfl
theorem zq_92 {code : ByteArray} {pc : Nat} (h : zq_at code pc 92) : decode code pc = .ok ((.dup2), 1) := by
  refine zq_dec (n := pc + 1) ?_ (by omega)
  unfold Jvm.ClassFile.Decoder.instr
  exact (zq_b (zq_u1 h)).trans rfl
theorem zq_96 {code : ByteArray} {pc : Nat} (h : zq_at code pc 96) : decode code pc = .ok ((.iadd), 1) := by
  refine zq_dec (n := pc + 1) ?_ (by omega)
  unfold Jvm.ClassFile.Decoder.instr
  exact (zq_b (zq_u1 h)).trans rfl
theorem zq_97 {code : ByteArray} {pc : Nat} (h : zq_at code pc 97) : decode code pc = .ok ((.ladd), 1) := by
  refine zq_dec (n := pc + 1) ?_ (by omega)
  unfold Jvm.ClassFile.Decoder.instr
  exact (zq_b (zq_u1 h)).trans rfl
theorem zq_100 {code : ByteArray} {pc : Nat} (h : zq_at code pc 100) : decode code pc = .ok ((.isub), 1) := by
  refine zq_dec (n := pc + 1) ?_ (by omega)
  unfold Jvm.ClassFile.Decoder.instr
  exact (zq_b (zq_u1 h)).trans rfl
theorem zq_101 {code : ByteArray} {pc : Nat} (h : zq_at code pc 101) : decode code pc = .ok ((.lsub), 1) := by
  refine zq_dec (n := pc + 1) ?_ (by omega)
  unfold Jvm.ClassFile.Decoder.instr
  exact (zq_b (zq_u1 h)).trans rfl
theorem zq_104 {code : ByteArray} {pc : Nat} (h : zq_at code pc 104) : decode code pc = .ok ((.imul), 1) := by
  refine zq_dec (n := pc + 1) ?_ (by omega)
  unfold Jvm.ClassFile.Decoder.instr
  exact (zq_b (zq_u1 h)).trans rfl
theorem zq_105 {code : ByteArray} {pc : Nat} (h : zq_at code pc 105) : decode code pc = .ok ((.lmul), 1) := by
  refine zq_dec (n := pc + 1) ?_ (by omega)
  unfold Jvm.ClassFile.Decoder.instr
  exact (zq_b (zq_u1 h)).trans rfl
theorem zq_108 {code : ByteArray} {pc : Nat} (h : zq_at code pc 108) : decode code pc = .ok ((.idiv), 1) := by
  refine zq_dec (n := pc + 1) ?_ (by omega)
  unfold Jvm.ClassFile.Decoder.instr
  exact (zq_b (zq_u1 h)).trans rfl
theorem zq_112 {code : ByteArray} {pc : Nat} (h : zq_at code pc 112) : decode code pc = .ok ((.irem), 1) := by
  refine zq_dec (n := pc + 1) ?_ (by omega)
  unfold Jvm.ClassFile.Decoder.instr
  exact (zq_b (zq_u1 h)).trans rfl
theorem zq_116 {code : ByteArray} {pc : Nat} (h : zq_at code pc 116) : decode code pc = .ok ((.ineg), 1) := by
  refine zq_dec (n := pc + 1) ?_ (by omega)
  unfold Jvm.ClassFile.Decoder.instr
  exact (zq_b (zq_u1 h)).trans rfl
theorem zq_120 {code : ByteArray} {pc : Nat} (h : zq_at code pc 120) : decode code pc = .ok ((.ishl), 1) := by
  refine zq_dec (n := pc + 1) ?_ (by omega)
  unfold Jvm.ClassFile.Decoder.instr
  exact (zq_b (zq_u1 h)).trans rfl
theorem zq_121 {code : ByteArray} {pc : Nat} (h : zq_at code pc 121) : decode code pc = .ok ((.lshl), 1) := by
  refine zq_dec (n := pc + 1) ?_ (by omega)
  unfold Jvm.ClassFile.Decoder.instr
  exact (zq_b (zq_u1 h)).trans rfl
theorem zq_122 {code : ByteArray} {pc : Nat} (h : zq_at code pc 122) : decode code pc = .ok ((.ishr), 1) := by
  refine zq_dec (n := pc + 1) ?_ (by omega)
  unfold Jvm.ClassFile.Decoder.instr
  exact (zq_b (zq_u1 h)).trans rfl
theorem zq_123 {code : ByteArray} {pc : Nat} (h : zq_at code pc 123) : decode code pc = .ok ((.lshr), 1) := by
  refine zq_dec (n := pc + 1) ?_ (by omega)
  unfold Jvm.ClassFile.Decoder.instr
  exact (zq_b (zq_u1 h)).trans rfl
theorem zq_124 {code : ByteArray} {pc : Nat} (h : zq_at code pc 124) : decode code pc = .ok ((.iushr), 1) := by
  refine zq_dec (n := pc + 1) ?_ (by omega)
  unfold Jvm.ClassFile.Decoder.instr
  exact (zq_b (zq_u1 h)).trans rfl
theorem zq_125 {code : ByteArray} {pc : Nat} (h : zq_at code pc 125) : decode code pc = .ok ((.lushr), 1) := by
  refine zq_dec (n := pc + 1) ?_ (by omega)
  unfold Jvm.ClassFile.Decoder.instr
  exact (zq_b (zq_u1 h)).trans rfl
theorem zq_126 {code : ByteArray} {pc : Nat} (h : zq_at code pc 126) : decode code pc = .ok ((.iand), 1) := by
  refine zq_dec (n := pc + 1) ?_ (by omega)
  unfold Jvm.ClassFile.Decoder.instr
  exact (zq_b (zq_u1 h)).trans rfl
theorem zq_127 {code : ByteArray} {pc : Nat} (h : zq_at code pc 127) : decode code pc = .ok ((.land), 1) := by
  refine zq_dec (n := pc + 1) ?_ (by omega)
  unfold Jvm.ClassFile.Decoder.instr
  exact (zq_b (zq_u1 h)).trans rfl
theorem zq_128 {code : ByteArray} {pc : Nat} (h : zq_at code pc 128) : decode code pc = .ok ((.ior), 1) := by
  refine zq_dec (n := pc + 1) ?_ (by omega)
  unfold Jvm.ClassFile.Decoder.instr
  exact (zq_b (zq_u1 h)).trans rfl
theorem zq_129 {code : ByteArray} {pc : Nat} (h : zq_at code pc 129) : decode code pc = .ok ((.lor), 1) := by
  refine zq_dec (n := pc + 1) ?_ (by omega)
  unfold Jvm.ClassFile.Decoder.instr
  exact (zq_b (zq_u1 h)).trans rfl
theorem zq_130 {code : ByteArray} {pc : Nat} (h : zq_at code pc 130) : decode code pc = .ok ((.ixor), 1) := by
  refine zq_dec (n := pc + 1) ?_ (by omega)
  unfold Jvm.ClassFile.Decoder.instr
  exact (zq_b (zq_u1 h)).trans rfl
theorem zq_131 {code : ByteArray} {pc : Nat} (h : zq_at code pc 131) : decode code pc = .ok ((.lxor), 1) := by
  refine zq_dec (n := pc + 1) ?_ (by omega)
  unfold Jvm.ClassFile.Decoder.instr
  exact (zq_b (zq_u1 h)).trans rfl
theorem zq_133 {code : ByteArray} {pc : Nat} (h : zq_at code pc 133) : decode code pc = .ok ((.i2l), 1) := by
  refine zq_dec (n := pc + 1) ?_ (by omega)
  unfold Jvm.ClassFile.Decoder.instr
  exact (zq_b (zq_u1 h)).trans rfl
theorem zq_136 {code : ByteArray} {pc : Nat} (h : zq_at code pc 136) : decode code pc = .ok ((.l2i), 1) := by
  refine zq_dec (n := pc + 1) ?_ (by omega)
  unfold Jvm.ClassFile.Decoder.instr
  exact (zq_b (zq_u1 h)).trans rfl
theorem zq_145 {code : ByteArray} {pc : Nat} (h : zq_at code pc 145) : decode code pc = .ok ((.i2b), 1) := by
  refine zq_dec (n := pc + 1) ?_ (by omega)
  unfold Jvm.ClassFile.Decoder.instr
  exact (zq_b (zq_u1 h)).trans rfl
theorem zq_146 {code : ByteArray} {pc : Nat} (h : zq_at code pc 146) : decode code pc = .ok ((.i2c), 1) := by
  refine zq_dec (n := pc + 1) ?_ (by omega)
  unfold Jvm.ClassFile.Decoder.instr
  exact (zq_b (zq_u1 h)).trans rfl
theorem zq_148 {code : ByteArray} {pc : Nat} (h : zq_at code pc 148) : decode code pc = .ok ((.lcmp), 1) := by
  refine zq_dec (n := pc + 1) ?_ (by omega)
  unfold Jvm.ClassFile.Decoder.instr
  exact (zq_b (zq_u1 h)).trans rfl
theorem zq_172 {code : ByteArray} {pc : Nat} (h : zq_at code pc 172) : decode code pc = .ok ((.ireturn), 1) := by
  refine zq_dec (n := pc + 1) ?_ (by omega)
  unfold Jvm.ClassFile.Decoder.instr
  exact (zq_b (zq_u1 h)).trans rfl
theorem zq_173 {code : ByteArray} {pc : Nat} (h : zq_at code pc 173) : decode code pc = .ok ((.lreturn), 1) := by
  refine zq_dec (n := pc + 1) ?_ (by omega)
  unfold Jvm.ClassFile.Decoder.instr
  exact (zq_b (zq_u1 h)).trans rfl
theorem zq_176 {code : ByteArray} {pc : Nat} (h : zq_at code pc 176) : decode code pc = .ok ((.areturn), 1) := by
  refine zq_dec (n := pc + 1) ?_ (by omega)
  unfold Jvm.ClassFile.Decoder.instr
  exact (zq_b (zq_u1 h)).trans rfl
theorem zq_177 {code : ByteArray} {pc : Nat} (h : zq_at code pc 177) : decode code pc = .ok ((.return_), 1) := by
  refine zq_dec (n := pc + 1) ?_ (by omega)
  unfold Jvm.ClassFile.Decoder.instr
  exact (zq_b (zq_u1 h)).trans rfl
theorem zq_190 {code : ByteArray} {pc : Nat} (h : zq_at code pc 190) : decode code pc = .ok ((.arraylength), 1) := by
  refine zq_dec (n := pc + 1) ?_ (by omega)
  unfold Jvm.ClassFile.Decoder.instr
  exact (zq_b (zq_u1 h)).trans rfl
theorem zq_18 {code : ByteArray} {pc : Nat} {b : Nat} (h : zq_at code pc 18) (h1 : zq_at code (pc + 1) b) : decode code pc = .ok ((.ldc b), 2) := by
  refine zq_dec (n := pc + 1 + 1) ?_ (by omega)
  unfold Jvm.ClassFile.Decoder.instr
  exact (zq_b (zq_u1 h)).trans ((zq_b (zq_u1 h1)).trans rfl)
theorem zq_21 {code : ByteArray} {pc : Nat} {b : Nat} (h : zq_at code pc 21) (h1 : zq_at code (pc + 1) b) : decode code pc = .ok ((.iload b), 2) := by
  refine zq_dec (n := pc + 1 + 1) ?_ (by omega)
  unfold Jvm.ClassFile.Decoder.instr
  exact (zq_b (zq_u1 h)).trans ((zq_b (zq_u1 h1)).trans rfl)
theorem zq_22 {code : ByteArray} {pc : Nat} {b : Nat} (h : zq_at code pc 22) (h1 : zq_at code (pc + 1) b) : decode code pc = .ok ((.lload b), 2) := by
  refine zq_dec (n := pc + 1 + 1) ?_ (by omega)
  unfold Jvm.ClassFile.Decoder.instr
  exact (zq_b (zq_u1 h)).trans ((zq_b (zq_u1 h1)).trans rfl)
theorem zq_25 {code : ByteArray} {pc : Nat} {b : Nat} (h : zq_at code pc 25) (h1 : zq_at code (pc + 1) b) : decode code pc = .ok ((.aload b), 2) := by
  refine zq_dec (n := pc + 1 + 1) ?_ (by omega)
  unfold Jvm.ClassFile.Decoder.instr
  exact (zq_b (zq_u1 h)).trans ((zq_b (zq_u1 h1)).trans rfl)
theorem zq_54 {code : ByteArray} {pc : Nat} {b : Nat} (h : zq_at code pc 54) (h1 : zq_at code (pc + 1) b) : decode code pc = .ok ((.istore b), 2) := by
  refine zq_dec (n := pc + 1 + 1) ?_ (by omega)
  unfold Jvm.ClassFile.Decoder.instr
  exact (zq_b (zq_u1 h)).trans ((zq_b (zq_u1 h1)).trans rfl)
theorem zq_55 {code : ByteArray} {pc : Nat} {b : Nat} (h : zq_at code pc 55) (h1 : zq_at code (pc + 1) b) : decode code pc = .ok ((.lstore b), 2) := by
  refine zq_dec (n := pc + 1 + 1) ?_ (by omega)
  unfold Jvm.ClassFile.Decoder.instr
  exact (zq_b (zq_u1 h)).trans ((zq_b (zq_u1 h1)).trans rfl)
theorem zq_58 {code : ByteArray} {pc : Nat} {b : Nat} (h : zq_at code pc 58) (h1 : zq_at code (pc + 1) b) : decode code pc = .ok ((.astore b), 2) := by
  refine zq_dec (n := pc + 1 + 1) ?_ (by omega)
  unfold Jvm.ClassFile.Decoder.instr
  exact (zq_b (zq_u1 h)).trans ((zq_b (zq_u1 h1)).trans rfl)
theorem zq_16 {code : ByteArray} {pc : Nat} {b : Nat} {v : Int} (h : zq_at code pc 16) (h1 : zq_at code (pc + 1) b) (hv : Jvm.ClassFile.Reader.signed 8 b = v) : decode code pc = .ok ((.bipush v), 2) := by
  subst hv
  refine zq_dec (n := pc + 1 + 1) ?_ (by omega)
  unfold Jvm.ClassFile.Decoder.instr
  exact (zq_b (zq_u1 h)).trans ((zq_b (zq_s1 h1)).trans rfl)
theorem zq_188_4 {code : ByteArray} {pc : Nat} (h : zq_at code pc 188) (h1 : zq_at code (pc + 1) 4) : decode code pc = .ok ((.newarray .boolean), 2) := by
  refine zq_dec (n := pc + 1 + 1) ?_ (by omega)
  unfold Jvm.ClassFile.Decoder.instr
  exact (zq_b (zq_u1 h)).trans ((zq_b (zq_u1 h1)).trans rfl)
theorem zq_188_5 {code : ByteArray} {pc : Nat} (h : zq_at code pc 188) (h1 : zq_at code (pc + 1) 5) : decode code pc = .ok ((.newarray .char), 2) := by
  refine zq_dec (n := pc + 1 + 1) ?_ (by omega)
  unfold Jvm.ClassFile.Decoder.instr
  exact (zq_b (zq_u1 h)).trans ((zq_b (zq_u1 h1)).trans rfl)
theorem zq_188_8 {code : ByteArray} {pc : Nat} (h : zq_at code pc 188) (h1 : zq_at code (pc + 1) 8) : decode code pc = .ok ((.newarray .byte), 2) := by
  refine zq_dec (n := pc + 1 + 1) ?_ (by omega)
  unfold Jvm.ClassFile.Decoder.instr
  exact (zq_b (zq_u1 h)).trans ((zq_b (zq_u1 h1)).trans rfl)
theorem zq_188_10 {code : ByteArray} {pc : Nat} (h : zq_at code pc 188) (h1 : zq_at code (pc + 1) 10) : decode code pc = .ok ((.newarray .int), 2) := by
  refine zq_dec (n := pc + 1 + 1) ?_ (by omega)
  unfold Jvm.ClassFile.Decoder.instr
  exact (zq_b (zq_u1 h)).trans ((zq_b (zq_u1 h1)).trans rfl)
theorem zq_188_11 {code : ByteArray} {pc : Nat} (h : zq_at code pc 188) (h1 : zq_at code (pc + 1) 11) : decode code pc = .ok ((.newarray .long), 2) := by
  refine zq_dec (n := pc + 1 + 1) ?_ (by omega)
  unfold Jvm.ClassFile.Decoder.instr
  exact (zq_b (zq_u1 h)).trans ((zq_b (zq_u1 h1)).trans rfl)
theorem zq_20 {code : ByteArray} {pc : Nat} {a b v : Nat} (h : zq_at code pc 20) (h1 : zq_at code (pc + 1) a) (h2 : zq_at code (pc + 2) b) (hv : a * 256 + b = v) : decode code pc = .ok ((.ldc2_w v), 3) := by
  subst hv
  refine zq_dec (n := pc + 1 + 1 + 1) ?_ (by omega)
  unfold Jvm.ClassFile.Decoder.instr
  exact (zq_b (zq_u1 h)).trans ((zq_b (zq_u2 h1 h2)).trans rfl)
theorem zq_178 {code : ByteArray} {pc : Nat} {a b v : Nat} (h : zq_at code pc 178) (h1 : zq_at code (pc + 1) a) (h2 : zq_at code (pc + 2) b) (hv : a * 256 + b = v) : decode code pc = .ok ((.getstatic v), 3) := by
  subst hv
  refine zq_dec (n := pc + 1 + 1 + 1) ?_ (by omega)
  unfold Jvm.ClassFile.Decoder.instr
  exact (zq_b (zq_u1 h)).trans ((zq_b (zq_u2 h1 h2)).trans rfl)
theorem zq_180 {code : ByteArray} {pc : Nat} {a b v : Nat} (h : zq_at code pc 180) (h1 : zq_at code (pc + 1) a) (h2 : zq_at code (pc + 2) b) (hv : a * 256 + b = v) : decode code pc = .ok ((.getfield v), 3) := by
  subst hv
  refine zq_dec (n := pc + 1 + 1 + 1) ?_ (by omega)
  unfold Jvm.ClassFile.Decoder.instr
  exact (zq_b (zq_u1 h)).trans ((zq_b (zq_u2 h1 h2)).trans rfl)
theorem zq_181 {code : ByteArray} {pc : Nat} {a b v : Nat} (h : zq_at code pc 181) (h1 : zq_at code (pc + 1) a) (h2 : zq_at code (pc + 2) b) (hv : a * 256 + b = v) : decode code pc = .ok ((.putfield v), 3) := by
  subst hv
  refine zq_dec (n := pc + 1 + 1 + 1) ?_ (by omega)
  unfold Jvm.ClassFile.Decoder.instr
  exact (zq_b (zq_u1 h)).trans ((zq_b (zq_u2 h1 h2)).trans rfl)
theorem zq_182 {code : ByteArray} {pc : Nat} {a b v : Nat} (h : zq_at code pc 182) (h1 : zq_at code (pc + 1) a) (h2 : zq_at code (pc + 2) b) (hv : a * 256 + b = v) : decode code pc = .ok ((.invokevirtual v), 3) := by
  subst hv
  refine zq_dec (n := pc + 1 + 1 + 1) ?_ (by omega)
  unfold Jvm.ClassFile.Decoder.instr
  exact (zq_b (zq_u1 h)).trans ((zq_b (zq_u2 h1 h2)).trans rfl)
theorem zq_183 {code : ByteArray} {pc : Nat} {a b v : Nat} (h : zq_at code pc 183) (h1 : zq_at code (pc + 1) a) (h2 : zq_at code (pc + 2) b) (hv : a * 256 + b = v) : decode code pc = .ok ((.invokespecial v), 3) := by
  subst hv
  refine zq_dec (n := pc + 1 + 1 + 1) ?_ (by omega)
  unfold Jvm.ClassFile.Decoder.instr
  exact (zq_b (zq_u1 h)).trans ((zq_b (zq_u2 h1 h2)).trans rfl)
theorem zq_184 {code : ByteArray} {pc : Nat} {a b v : Nat} (h : zq_at code pc 184) (h1 : zq_at code (pc + 1) a) (h2 : zq_at code (pc + 2) b) (hv : a * 256 + b = v) : decode code pc = .ok ((.invokestatic v), 3) := by
  subst hv
  refine zq_dec (n := pc + 1 + 1 + 1) ?_ (by omega)
  unfold Jvm.ClassFile.Decoder.instr
  exact (zq_b (zq_u1 h)).trans ((zq_b (zq_u2 h1 h2)).trans rfl)
theorem zq_187 {code : ByteArray} {pc : Nat} {a b v : Nat} (h : zq_at code pc 187) (h1 : zq_at code (pc + 1) a) (h2 : zq_at code (pc + 2) b) (hv : a * 256 + b = v) : decode code pc = .ok ((.new v), 3) := by
  subst hv
  refine zq_dec (n := pc + 1 + 1 + 1) ?_ (by omega)
  unfold Jvm.ClassFile.Decoder.instr
  exact (zq_b (zq_u1 h)).trans ((zq_b (zq_u2 h1 h2)).trans rfl)
theorem zq_189 {code : ByteArray} {pc : Nat} {a b v : Nat} (h : zq_at code pc 189) (h1 : zq_at code (pc + 1) a) (h2 : zq_at code (pc + 2) b) (hv : a * 256 + b = v) : decode code pc = .ok ((.anewarray v), 3) := by
  subst hv
  refine zq_dec (n := pc + 1 + 1 + 1) ?_ (by omega)
  unfold Jvm.ClassFile.Decoder.instr
  exact (zq_b (zq_u1 h)).trans ((zq_b (zq_u2 h1 h2)).trans rfl)
theorem zq_17 {code : ByteArray} {pc : Nat} {a b : Nat} {v : Int} (h : zq_at code pc 17) (h1 : zq_at code (pc + 1) a) (h2 : zq_at code (pc + 2) b) (hv : Jvm.ClassFile.Reader.signed 16 (a * 256 + b) = v) : decode code pc = .ok ((.sipush v), 3) := by
  subst hv
  refine zq_dec (n := pc + 1 + 1 + 1) ?_ (by omega)
  unfold Jvm.ClassFile.Decoder.instr
  exact (zq_b (zq_u1 h)).trans ((zq_b (zq_s2 h1 h2)).trans rfl)
theorem zq_153 {code : ByteArray} {pc : Nat} {a b : Nat} {v : Int} (h : zq_at code pc 153) (h1 : zq_at code (pc + 1) a) (h2 : zq_at code (pc + 2) b) (hv : Jvm.ClassFile.Reader.signed 16 (a * 256 + b) = v) : decode code pc = .ok ((Instr.ifCond .eq v), 3) := by
  subst hv
  refine zq_dec (n := pc + 1 + 1 + 1) ?_ (by omega)
  unfold Jvm.ClassFile.Decoder.instr
  exact (zq_b (zq_u1 h)).trans ((zq_b (zq_s2 h1 h2)).trans rfl)
theorem zq_154 {code : ByteArray} {pc : Nat} {a b : Nat} {v : Int} (h : zq_at code pc 154) (h1 : zq_at code (pc + 1) a) (h2 : zq_at code (pc + 2) b) (hv : Jvm.ClassFile.Reader.signed 16 (a * 256 + b) = v) : decode code pc = .ok ((Instr.ifCond .ne v), 3) := by
  subst hv
  refine zq_dec (n := pc + 1 + 1 + 1) ?_ (by omega)
  unfold Jvm.ClassFile.Decoder.instr
  exact (zq_b (zq_u1 h)).trans ((zq_b (zq_s2 h1 h2)).trans rfl)
theorem zq_155 {code : ByteArray} {pc : Nat} {a b : Nat} {v : Int} (h : zq_at code pc 155) (h1 : zq_at code (pc + 1) a) (h2 : zq_at code (pc + 2) b) (hv : Jvm.ClassFile.Reader.signed 16 (a * 256 + b) = v) : decode code pc = .ok ((Instr.ifCond .lt v), 3) := by
  subst hv
  refine zq_dec (n := pc + 1 + 1 + 1) ?_ (by omega)
  unfold Jvm.ClassFile.Decoder.instr
  exact (zq_b (zq_u1 h)).trans ((zq_b (zq_s2 h1 h2)).trans rfl)
theorem zq_156 {code : ByteArray} {pc : Nat} {a b : Nat} {v : Int} (h : zq_at code pc 156) (h1 : zq_at code (pc + 1) a) (h2 : zq_at code (pc + 2) b) (hv : Jvm.ClassFile.Reader.signed 16 (a * 256 + b) = v) : decode code pc = .ok ((Instr.ifCond .ge v), 3) := by
  subst hv
  refine zq_dec (n := pc + 1 + 1 + 1) ?_ (by omega)
  unfold Jvm.ClassFile.Decoder.instr
  exact (zq_b (zq_u1 h)).trans ((zq_b (zq_s2 h1 h2)).trans rfl)
theorem zq_157 {code : ByteArray} {pc : Nat} {a b : Nat} {v : Int} (h : zq_at code pc 157) (h1 : zq_at code (pc + 1) a) (h2 : zq_at code (pc + 2) b) (hv : Jvm.ClassFile.Reader.signed 16 (a * 256 + b) = v) : decode code pc = .ok ((Instr.ifCond .gt v), 3) := by
  subst hv
  refine zq_dec (n := pc + 1 + 1 + 1) ?_ (by omega)
  unfold Jvm.ClassFile.Decoder.instr
  exact (zq_b (zq_u1 h)).trans ((zq_b (zq_s2 h1 h2)).trans rfl)
theorem zq_158 {code : ByteArray} {pc : Nat} {a b : Nat} {v : Int} (h : zq_at code pc 158) (h1 : zq_at code (pc + 1) a) (h2 : zq_at code (pc + 2) b) (hv : Jvm.ClassFile.Reader.signed 16 (a * 256 + b) = v) : decode code pc = .ok ((Instr.ifCond .le v), 3) := by
  subst hv
  refine zq_dec (n := pc + 1 + 1 + 1) ?_ (by omega)
  unfold Jvm.ClassFile.Decoder.instr
  exact (zq_b (zq_u1 h)).trans ((zq_b (zq_s2 h1 h2)).trans rfl)
theorem zq_159 {code : ByteArray} {pc : Nat} {a b : Nat} {v : Int} (h : zq_at code pc 159) (h1 : zq_at code (pc + 1) a) (h2 : zq_at code (pc + 2) b) (hv : Jvm.ClassFile.Reader.signed 16 (a * 256 + b) = v) : decode code pc = .ok ((Instr.if_icmp .eq v), 3) := by
  subst hv
  refine zq_dec (n := pc + 1 + 1 + 1) ?_ (by omega)
  unfold Jvm.ClassFile.Decoder.instr
  exact (zq_b (zq_u1 h)).trans ((zq_b (zq_s2 h1 h2)).trans rfl)
theorem zq_160 {code : ByteArray} {pc : Nat} {a b : Nat} {v : Int} (h : zq_at code pc 160) (h1 : zq_at code (pc + 1) a) (h2 : zq_at code (pc + 2) b) (hv : Jvm.ClassFile.Reader.signed 16 (a * 256 + b) = v) : decode code pc = .ok ((Instr.if_icmp .ne v), 3) := by
  subst hv
  refine zq_dec (n := pc + 1 + 1 + 1) ?_ (by omega)
  unfold Jvm.ClassFile.Decoder.instr
  exact (zq_b (zq_u1 h)).trans ((zq_b (zq_s2 h1 h2)).trans rfl)
theorem zq_161 {code : ByteArray} {pc : Nat} {a b : Nat} {v : Int} (h : zq_at code pc 161) (h1 : zq_at code (pc + 1) a) (h2 : zq_at code (pc + 2) b) (hv : Jvm.ClassFile.Reader.signed 16 (a * 256 + b) = v) : decode code pc = .ok ((Instr.if_icmp .lt v), 3) := by
  subst hv
  refine zq_dec (n := pc + 1 + 1 + 1) ?_ (by omega)
  unfold Jvm.ClassFile.Decoder.instr
  exact (zq_b (zq_u1 h)).trans ((zq_b (zq_s2 h1 h2)).trans rfl)
theorem zq_162 {code : ByteArray} {pc : Nat} {a b : Nat} {v : Int} (h : zq_at code pc 162) (h1 : zq_at code (pc + 1) a) (h2 : zq_at code (pc + 2) b) (hv : Jvm.ClassFile.Reader.signed 16 (a * 256 + b) = v) : decode code pc = .ok ((Instr.if_icmp .ge v), 3) := by
  subst hv
  refine zq_dec (n := pc + 1 + 1 + 1) ?_ (by omega)
  unfold Jvm.ClassFile.Decoder.instr
  exact (zq_b (zq_u1 h)).trans ((zq_b (zq_s2 h1 h2)).trans rfl)
theorem zq_163 {code : ByteArray} {pc : Nat} {a b : Nat} {v : Int} (h : zq_at code pc 163) (h1 : zq_at code (pc + 1) a) (h2 : zq_at code (pc + 2) b) (hv : Jvm.ClassFile.Reader.signed 16 (a * 256 + b) = v) : decode code pc = .ok ((Instr.if_icmp .gt v), 3) := by
  subst hv
  refine zq_dec (n := pc + 1 + 1 + 1) ?_ (by omega)
  unfold Jvm.ClassFile.Decoder.instr
  exact (zq_b (zq_u1 h)).trans ((zq_b (zq_s2 h1 h2)).trans rfl)
theorem zq_164 {code : ByteArray} {pc : Nat} {a b : Nat} {v : Int} (h : zq_at code pc 164) (h1 : zq_at code (pc + 1) a) (h2 : zq_at code (pc + 2) b) (hv : Jvm.ClassFile.Reader.signed 16 (a * 256 + b) = v) : decode code pc = .ok ((Instr.if_icmp .le v), 3) := by
  subst hv
  refine zq_dec (n := pc + 1 + 1 + 1) ?_ (by omega)
  unfold Jvm.ClassFile.Decoder.instr
  exact (zq_b (zq_u1 h)).trans ((zq_b (zq_s2 h1 h2)).trans rfl)
theorem zq_167 {code : ByteArray} {pc : Nat} {a b : Nat} {v : Int} (h : zq_at code pc 167) (h1 : zq_at code (pc + 1) a) (h2 : zq_at code (pc + 2) b) (hv : Jvm.ClassFile.Reader.signed 16 (a * 256 + b) = v) : decode code pc = .ok ((Instr.goto v), 3) := by
  subst hv
  refine zq_dec (n := pc + 1 + 1 + 1) ?_ (by omega)
  unfold Jvm.ClassFile.Decoder.instr
  exact (zq_b (zq_u1 h)).trans ((zq_b (zq_s2 h1 h2)).trans rfl)
theorem zq_132 {code : ByteArray} {pc : Nat} {a b : Nat} {v : Int} (h : zq_at code pc 132) (h1 : zq_at code (pc + 1) a) (h2 : zq_at code (pc + 2) b) (hv : Jvm.ClassFile.Reader.signed 8 b = v) : decode code pc = .ok ((.iinc a v), 3) := by
  subst hv
  refine zq_dec (n := pc + 1 + 1 + 1) ?_ (by omega)
  unfold Jvm.ClassFile.Decoder.instr
  exact (zq_b (zq_u1 h)).trans ((zq_b (zq_u1 h1)).trans ((zq_b (zq_s1 h2)).trans rfl))
