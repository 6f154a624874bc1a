/-! DECODE ROWS BY BYTES: a method's bytes are looked at in blocks, each opcode's reading is shown once -/
def byA (b : ByteArray) (pc : Nat) (bs : List Nat) : Prop := ((b.data.toList.drop pc).take bs.length).map UInt8.toNat = bs
def byq (b : ByteArray) (p0 : Nat) (L : List (Nat × List Nat)) : Bool := L.all fun r => decide ((((b.data.toList.drop p0).drop r.1).take r.2.length).map UInt8.toNat = r.2)
theorem byq_get {b : ByteArray} {p0 : Nat} {L : List (Nat × List Nat)} (h : byq b p0 L = true) (k : Nat) {d pc : Nat} {bs : List Nat} (e : L[k]? = some (d, bs)) (hp : p0 + d = pc) : byA b pc bs := by
  subst hp
  have h1 := List.all_eq_true.mp h _ (List.mem_of_getElem? e)
  have h2 := of_decide_eq_true h1
  have e2 : b.data.toList.drop (p0 + d) = (b.data.toList.drop p0).drop d := by
    first
    | (rw [List.drop_drop]; done)
    | (rw [List.drop_drop, Nat.add_comm]; done)
  unfold byA
  rw [e2]
  exact h2
theorem byA_cons {b : ByteArray} {pc x : Nat} {r : List Nat} (h : byA b pc (x :: r)) : ∃ hp : pc < b.size, (b[pc]'hp).toNat = x ∧ byA b (pc + 1) r := by
  unfold byA at h
  have hlt : pc < b.data.toList.length := by
    apply Classical.byContradiction
    intro hn
    rw [List.drop_eq_nil_of_le (by omega)] at h
    simp at h
  rw [List.drop_eq_getElem_cons hlt, List.length_cons, List.take_succ_cons, List.map_cons] at h
  injection h with h1 h2
  have hp : pc < b.size := by
    have e : b.data.toList.length = b.size := Array.length_toList
    omega
  exact ⟨hp, h1, h2⟩
theorem byA_tl {b : ByteArray} {pc x : Nat} {r : List Nat} (h : byA b pc (x :: r)) : byA b (pc + 1) r := (byA_cons h).2.2
theorem u1_run {ε : Type} [HasTruncated ε] {b : ByteArray} {pc x : Nat} {r : List Nat} (h : byA b pc (x :: r)) : (Reader.u1 : Reader ε Nat) b pc = .ok (x, pc + 1) := by
  obtain ⟨hp, e, _⟩ := byA_cons h
  have key : (Reader.u1 : Reader ε Nat) b pc = (if h : pc < b.size then (do set (pc + 1); pure (b[pc]'h).toNat : Reader ε Nat) else throw (HasTruncated.truncated pc)) b pc := rfl
  rw [key, dif_pos hp]
  show Except.ok ((b[pc]'hp).toNat, pc + 1) = _
  rw [e]
theorem bd_run {ε α β : Type} {r : Reader ε α} {f : α → Reader ε β} {b : ByteArray} {p q : Nat} {a : α} {res : Except ε (β × Nat)} (h : r b p = .ok (a, q)) (h2 : f a b q = res) : (r >>= f) b p = res := by
  show Except.bind (r b p) (fun x => f x.1 b x.2) = res
  rw [h]
  exact h2
theorem mp_run {ε α β : Type} {r : Reader ε α} {f : α → β} {b : ByteArray} {p q : Nat} {a : α} (h : r b p = .ok (a, q)) : (f <$> r : Reader ε β) b p = .ok (f a, q) := by
  show Except.bind (r b p) (fun x => Except.ok (f x.1, x.2)) = _
  rw [h]
  rfl
theorem u2_run {ε : Type} [HasTruncated ε] {b : ByteArray} {pc x y : Nat} {r : List Nat} (h : byA b pc (x :: y :: r)) : (Reader.u2 : Reader ε Nat) b pc = .ok (x * 256 + y, pc + 1 + 1) := by
  unfold Reader.u2
  exact bd_run (u1_run h) (bd_run (u1_run (byA_tl h)) rfl)
theorem s1_run {ε : Type} [HasTruncated ε] {b : ByteArray} {pc x : Nat} {r : List Nat} (h : byA b pc (x :: r)) : (Reader.s1 : Reader ε Int) b pc = .ok (Reader.signed 8 x, pc + 1) := mp_run (u1_run h)
theorem s2_run {ε : Type} [HasTruncated ε] {b : ByteArray} {pc x y : Nat} {r : List Nat} (h : byA b pc (x :: y :: r)) : (Reader.s2 : Reader ε Int) b pc = .ok (Reader.signed 16 (x * 256 + y), pc + 1 + 1) := mp_run (u2_run h)
theorem dcd {b : ByteArray} {pc q n : Nat} {i : Instr} (h : (Decoder.instr pc) b pc = .ok (i, q)) (hn : q - pc = n) : decode b pc = .ok (i, n) := by
  subst hn
  show Except.bind ((Decoder.instr pc) b pc) (fun x => Except.ok (x.1, x.2 - pc)) = _
  rw [h]
  rfl
section DC
variable {b : ByteArray} {pc y z : Nat} {F : Nat → Decoder Instr}
theorem dcA (x : Nat) {i : Instr} (h : byA b pc [x]) (e : Decoder.instr pc = (Reader.u1 >>= F : Decoder Instr)) (hm : F x = Pure.pure i) : decode b pc = .ok (i, 1) := dcd (q := pc + 1) (by rw [e]; exact bd_run (u1_run h) (by rw [hm]; rfl)) (by omega)
theorem dcB (x : Nat) (C : Nat → Instr) (h : byA b pc [x, y]) (e : Decoder.instr pc = (Reader.u1 >>= F : Decoder Instr)) (hm : F x = (Reader.u1 >>= fun a => Pure.pure (C a) : Decoder Instr)) : decode b pc = .ok (C y, 2) := dcd (q := pc + 1 + 1) (by rw [e]; exact bd_run (u1_run h) (by rw [hm]; exact bd_run (u1_run (byA_tl h)) rfl)) (by omega)
theorem dcC (x : Nat) (C : Int → Instr) (h : byA b pc [x, y]) (e : Decoder.instr pc = (Reader.u1 >>= F : Decoder Instr)) (hm : F x = (Reader.s1 >>= fun a => Pure.pure (C a) : Decoder Instr)) : decode b pc = .ok (C (Reader.signed 8 y), 2) := dcd (q := pc + 1 + 1) (by rw [e]; exact bd_run (u1_run h) (by rw [hm]; exact bd_run (s1_run (byA_tl h)) rfl)) (by omega)
theorem dcD (x : Nat) (C : Nat → Instr) (h : byA b pc [x, y, z]) (e : Decoder.instr pc = (Reader.u1 >>= F : Decoder Instr)) (hm : F x = (Reader.u2 >>= fun a => Pure.pure (C a) : Decoder Instr)) : decode b pc = .ok (C (y * 256 + z), 3) := dcd (q := pc + 1 + 1 + 1) (by rw [e]; exact bd_run (u1_run h) (by rw [hm]; exact bd_run (u2_run (byA_tl h)) rfl)) (by omega)
theorem dcE (x : Nat) (C : Int → Instr) (h : byA b pc [x, y, z]) (e : Decoder.instr pc = (Reader.u1 >>= F : Decoder Instr)) (hm : F x = (Reader.s2 >>= fun a => Pure.pure (C a) : Decoder Instr)) : decode b pc = .ok (C (Reader.signed 16 (y * 256 + z)), 3) := dcd (q := pc + 1 + 1 + 1) (by rw [e]; exact bd_run (u1_run h) (by rw [hm]; exact bd_run (s2_run (byA_tl h)) rfl)) (by omega)
theorem dcF (x : Nat) (C : Nat → Int → Instr) (h : byA b pc [x, y, z]) (e : Decoder.instr pc = (Reader.u1 >>= F : Decoder Instr)) (hm : F x = (Reader.u1 >>= fun a => Reader.s1 >>= fun c => Pure.pure (C a c) : Decoder Instr)) : decode b pc = .ok (C y (Reader.signed 8 z), 3) := dcd (q := pc + 1 + 1 + 1) (by rw [e]; exact bd_run (u1_run h) (by rw [hm]; exact bd_run (u1_run (byA_tl h)) (bd_run (s1_run (byA_tl (byA_tl h))) rfl))) (by omega)
theorem dcG (x y : Nat) {i : Instr} {G : Nat → Decoder Instr} (h : byA b pc [x, y]) (e : Decoder.instr pc = (Reader.u1 >>= F : Decoder Instr)) (hm : F x = (Reader.u1 >>= G : Decoder Instr)) (hg : G y = Pure.pure i) : decode b pc = .ok (i, 2) := dcd (q := pc + 1 + 1) (by rw [e]; exact bd_run (u1_run h) (by rw [hm]; exact bd_run (u1_run (byA_tl h)) (by rw [hg]; rfl))) (by omega)
theorem o_188_boolean (h : byA b pc [188, 4]) : decode b pc = .ok (.newarray .boolean, 2) := dcG 188 4 h rfl rfl rfl
theorem o_188_int (h : byA b pc [188, 10]) : decode b pc = .ok (.newarray .int, 2) := dcG 188 10 h rfl rfl rfl
theorem o_188_long (h : byA b pc [188, 11]) : decode b pc = .ok (.newarray .long, 2) := dcG 188 11 h rfl rfl rfl
theorem o_10 (h : byA b pc [10]) : decode b pc = .ok (.lconst 1, 1) := dcA 10 h rfl rfl
theorem o_100 (h : byA b pc [100]) : decode b pc = .ok (.isub, 1) := dcA 100 h rfl rfl
theorem o_104 (h : byA b pc [104]) : decode b pc = .ok (.imul, 1) := dcA 104 h rfl rfl
theorem o_105 (h : byA b pc [105]) : decode b pc = .ok (.lmul, 1) := dcA 105 h rfl rfl
theorem o_108 (h : byA b pc [108]) : decode b pc = .ok (.idiv, 1) := dcA 108 h rfl rfl
theorem o_109 (h : byA b pc [109]) : decode b pc = .ok (.ldiv, 1) := dcA 109 h rfl rfl
theorem o_112 (h : byA b pc [112]) : decode b pc = .ok (.irem, 1) := dcA 112 h rfl rfl
theorem o_113 (h : byA b pc [113]) : decode b pc = .ok (.lrem, 1) := dcA 113 h rfl rfl
theorem o_120 (h : byA b pc [120]) : decode b pc = .ok (.ishl, 1) := dcA 120 h rfl rfl
theorem o_121 (h : byA b pc [121]) : decode b pc = .ok (.lshl, 1) := dcA 121 h rfl rfl
theorem o_122 (h : byA b pc [122]) : decode b pc = .ok (.ishr, 1) := dcA 122 h rfl rfl
theorem o_124 (h : byA b pc [124]) : decode b pc = .ok (.iushr, 1) := dcA 124 h rfl rfl
theorem o_126 (h : byA b pc [126]) : decode b pc = .ok (.iand, 1) := dcA 126 h rfl rfl
theorem o_128 (h : byA b pc [128]) : decode b pc = .ok (.ior, 1) := dcA 128 h rfl rfl
theorem o_129 (h : byA b pc [129]) : decode b pc = .ok (.lor, 1) := dcA 129 h rfl rfl
theorem o_130 (h : byA b pc [130]) : decode b pc = .ok (.ixor, 1) := dcA 130 h rfl rfl
theorem o_132 (h : byA b pc [132, y, z]) : decode b pc = .ok (.iinc y (Reader.signed 8 z), 3) := dcF 132 (fun a c => .iinc a c) h rfl rfl
theorem o_133 (h : byA b pc [133]) : decode b pc = .ok (.i2l, 1) := dcA 133 h rfl rfl
theorem o_148 (h : byA b pc [148]) : decode b pc = .ok (.lcmp, 1) := dcA 148 h rfl rfl
theorem o_153 (h : byA b pc [153, y, z]) : decode b pc = .ok (.ifCond .eq (Reader.signed 16 (y * 256 + z)), 3) := dcE 153 (fun a => .ifCond .eq a) h rfl rfl
theorem o_154 (h : byA b pc [154, y, z]) : decode b pc = .ok (.ifCond .ne (Reader.signed 16 (y * 256 + z)), 3) := dcE 154 (fun a => .ifCond .ne a) h rfl rfl
theorem o_155 (h : byA b pc [155, y, z]) : decode b pc = .ok (.ifCond .lt (Reader.signed 16 (y * 256 + z)), 3) := dcE 155 (fun a => .ifCond .lt a) h rfl rfl
theorem o_156 (h : byA b pc [156, y, z]) : decode b pc = .ok (.ifCond .ge (Reader.signed 16 (y * 256 + z)), 3) := dcE 156 (fun a => .ifCond .ge a) h rfl rfl
theorem o_157 (h : byA b pc [157, y, z]) : decode b pc = .ok (.ifCond .gt (Reader.signed 16 (y * 256 + z)), 3) := dcE 157 (fun a => .ifCond .gt a) h rfl rfl
theorem o_158 (h : byA b pc [158, y, z]) : decode b pc = .ok (.ifCond .le (Reader.signed 16 (y * 256 + z)), 3) := dcE 158 (fun a => .ifCond .le a) h rfl rfl
theorem o_159 (h : byA b pc [159, y, z]) : decode b pc = .ok (.if_icmp .eq (Reader.signed 16 (y * 256 + z)), 3) := dcE 159 (fun a => .if_icmp .eq a) h rfl rfl
theorem o_16 (h : byA b pc [16, y]) : decode b pc = .ok (.bipush (Reader.signed 8 y), 2) := dcC 16 (fun a => .bipush a) h rfl rfl
theorem o_160 (h : byA b pc [160, y, z]) : decode b pc = .ok (.if_icmp .ne (Reader.signed 16 (y * 256 + z)), 3) := dcE 160 (fun a => .if_icmp .ne a) h rfl rfl
theorem o_161 (h : byA b pc [161, y, z]) : decode b pc = .ok (.if_icmp .lt (Reader.signed 16 (y * 256 + z)), 3) := dcE 161 (fun a => .if_icmp .lt a) h rfl rfl
theorem o_162 (h : byA b pc [162, y, z]) : decode b pc = .ok (.if_icmp .ge (Reader.signed 16 (y * 256 + z)), 3) := dcE 162 (fun a => .if_icmp .ge a) h rfl rfl
theorem o_163 (h : byA b pc [163, y, z]) : decode b pc = .ok (.if_icmp .gt (Reader.signed 16 (y * 256 + z)), 3) := dcE 163 (fun a => .if_icmp .gt a) h rfl rfl
theorem o_164 (h : byA b pc [164, y, z]) : decode b pc = .ok (.if_icmp .le (Reader.signed 16 (y * 256 + z)), 3) := dcE 164 (fun a => .if_icmp .le a) h rfl rfl
theorem o_167 (h : byA b pc [167, y, z]) : decode b pc = .ok (.goto (Reader.signed 16 (y * 256 + z)), 3) := dcE 167 (fun a => .goto a) h rfl rfl
theorem o_17 (h : byA b pc [17, y, z]) : decode b pc = .ok (.sipush (Reader.signed 16 (y * 256 + z)), 3) := dcE 17 (fun a => .sipush a) h rfl rfl
theorem o_172 (h : byA b pc [172]) : decode b pc = .ok (.ireturn, 1) := dcA 172 h rfl rfl
theorem o_173 (h : byA b pc [173]) : decode b pc = .ok (.lreturn, 1) := dcA 173 h rfl rfl
theorem o_177 (h : byA b pc [177]) : decode b pc = .ok (.return_, 1) := dcA 177 h rfl rfl
theorem o_18 (h : byA b pc [18, y]) : decode b pc = .ok (.ldc y, 2) := dcB 18 (fun a => .ldc a) h rfl rfl
theorem o_180 (h : byA b pc [180, y, z]) : decode b pc = .ok (.getfield (y * 256 + z), 3) := dcD 180 (fun a => .getfield a) h rfl rfl
theorem o_181 (h : byA b pc [181, y, z]) : decode b pc = .ok (.putfield (y * 256 + z), 3) := dcD 181 (fun a => .putfield a) h rfl rfl
theorem o_182 (h : byA b pc [182, y, z]) : decode b pc = .ok (.invokevirtual (y * 256 + z), 3) := dcD 182 (fun a => .invokevirtual a) h rfl rfl
theorem o_183 (h : byA b pc [183, y, z]) : decode b pc = .ok (.invokespecial (y * 256 + z), 3) := dcD 183 (fun a => .invokespecial a) h rfl rfl
theorem o_184 (h : byA b pc [184, y, z]) : decode b pc = .ok (.invokestatic (y * 256 + z), 3) := dcD 184 (fun a => .invokestatic a) h rfl rfl
theorem o_187 (h : byA b pc [187, y, z]) : decode b pc = .ok (.new (y * 256 + z), 3) := dcD 187 (fun a => .new a) h rfl rfl
theorem o_189 (h : byA b pc [189, y, z]) : decode b pc = .ok (.anewarray (y * 256 + z), 3) := dcD 189 (fun a => .anewarray a) h rfl rfl
theorem o_19 (h : byA b pc [19, y, z]) : decode b pc = .ok (.ldc_w (y * 256 + z), 3) := dcD 19 (fun a => .ldc_w a) h rfl rfl
theorem o_190 (h : byA b pc [190]) : decode b pc = .ok (.arraylength, 1) := dcA 190 h rfl rfl
theorem o_2 (h : byA b pc [2]) : decode b pc = .ok (.iconst (-1), 1) := dcA 2 h rfl rfl
theorem o_20 (h : byA b pc [20, y, z]) : decode b pc = .ok (.ldc2_w (y * 256 + z), 3) := dcD 20 (fun a => .ldc2_w a) h rfl rfl
theorem o_21 (h : byA b pc [21, y]) : decode b pc = .ok (.iload y, 2) := dcB 21 (fun a => .iload a) h rfl rfl
theorem o_22 (h : byA b pc [22, y]) : decode b pc = .ok (.lload y, 2) := dcB 22 (fun a => .lload a) h rfl rfl
theorem o_25 (h : byA b pc [25, y]) : decode b pc = .ok (.aload y, 2) := dcB 25 (fun a => .aload a) h rfl rfl
theorem o_26 (h : byA b pc [26]) : decode b pc = .ok (.iload_n 0, 1) := dcA 26 h rfl rfl
theorem o_27 (h : byA b pc [27]) : decode b pc = .ok (.iload_n 1, 1) := dcA 27 h rfl rfl
theorem o_28 (h : byA b pc [28]) : decode b pc = .ok (.iload_n 2, 1) := dcA 28 h rfl rfl
theorem o_29 (h : byA b pc [29]) : decode b pc = .ok (.iload_n 3, 1) := dcA 29 h rfl rfl
theorem o_3 (h : byA b pc [3]) : decode b pc = .ok (.iconst 0, 1) := dcA 3 h rfl rfl
theorem o_31 (h : byA b pc [31]) : decode b pc = .ok (.lload_n 1, 1) := dcA 31 h rfl rfl
theorem o_32 (h : byA b pc [32]) : decode b pc = .ok (.lload_n 2, 1) := dcA 32 h rfl rfl
theorem o_4 (h : byA b pc [4]) : decode b pc = .ok (.iconst 1, 1) := dcA 4 h rfl rfl
theorem o_42 (h : byA b pc [42]) : decode b pc = .ok (.aload_n 0, 1) := dcA 42 h rfl rfl
theorem o_43 (h : byA b pc [43]) : decode b pc = .ok (.aload_n 1, 1) := dcA 43 h rfl rfl
theorem o_44 (h : byA b pc [44]) : decode b pc = .ok (.aload_n 2, 1) := dcA 44 h rfl rfl
theorem o_45 (h : byA b pc [45]) : decode b pc = .ok (.aload_n 3, 1) := dcA 45 h rfl rfl
theorem o_46 (h : byA b pc [46]) : decode b pc = .ok (.iaload, 1) := dcA 46 h rfl rfl
theorem o_47 (h : byA b pc [47]) : decode b pc = .ok (.laload, 1) := dcA 47 h rfl rfl
theorem o_5 (h : byA b pc [5]) : decode b pc = .ok (.iconst 2, 1) := dcA 5 h rfl rfl
theorem o_50 (h : byA b pc [50]) : decode b pc = .ok (.aaload, 1) := dcA 50 h rfl rfl
theorem o_51 (h : byA b pc [51]) : decode b pc = .ok (.baload, 1) := dcA 51 h rfl rfl
theorem o_54 (h : byA b pc [54, y]) : decode b pc = .ok (.istore y, 2) := dcB 54 (fun a => .istore a) h rfl rfl
theorem o_55 (h : byA b pc [55, y]) : decode b pc = .ok (.lstore y, 2) := dcB 55 (fun a => .lstore a) h rfl rfl
theorem o_58 (h : byA b pc [58, y]) : decode b pc = .ok (.astore y, 2) := dcB 58 (fun a => .astore a) h rfl rfl
theorem o_59 (h : byA b pc [59]) : decode b pc = .ok (.istore_n 0, 1) := dcA 59 h rfl rfl
theorem o_6 (h : byA b pc [6]) : decode b pc = .ok (.iconst 3, 1) := dcA 6 h rfl rfl
theorem o_60 (h : byA b pc [60]) : decode b pc = .ok (.istore_n 1, 1) := dcA 60 h rfl rfl
theorem o_61 (h : byA b pc [61]) : decode b pc = .ok (.istore_n 2, 1) := dcA 61 h rfl rfl
theorem o_62 (h : byA b pc [62]) : decode b pc = .ok (.istore_n 3, 1) := dcA 62 h rfl rfl
theorem o_64 (h : byA b pc [64]) : decode b pc = .ok (.lstore_n 1, 1) := dcA 64 h rfl rfl
theorem o_65 (h : byA b pc [65]) : decode b pc = .ok (.lstore_n 2, 1) := dcA 65 h rfl rfl
theorem o_7 (h : byA b pc [7]) : decode b pc = .ok (.iconst 4, 1) := dcA 7 h rfl rfl
theorem o_76 (h : byA b pc [76]) : decode b pc = .ok (.astore_n 1, 1) := dcA 76 h rfl rfl
theorem o_77 (h : byA b pc [77]) : decode b pc = .ok (.astore_n 2, 1) := dcA 77 h rfl rfl
theorem o_79 (h : byA b pc [79]) : decode b pc = .ok (.iastore, 1) := dcA 79 h rfl rfl
theorem o_8 (h : byA b pc [8]) : decode b pc = .ok (.iconst 5, 1) := dcA 8 h rfl rfl
theorem o_80 (h : byA b pc [80]) : decode b pc = .ok (.lastore, 1) := dcA 80 h rfl rfl
theorem o_83 (h : byA b pc [83]) : decode b pc = .ok (.aastore, 1) := dcA 83 h rfl rfl
theorem o_84 (h : byA b pc [84]) : decode b pc = .ok (.bastore, 1) := dcA 84 h rfl rfl
theorem o_87 (h : byA b pc [87]) : decode b pc = .ok (.pop, 1) := dcA 87 h rfl rfl
theorem o_88 (h : byA b pc [88]) : decode b pc = .ok (.pop2, 1) := dcA 88 h rfl rfl
theorem o_89 (h : byA b pc [89]) : decode b pc = .ok (.dup, 1) := dcA 89 h rfl rfl
theorem o_9 (h : byA b pc [9]) : decode b pc = .ok (.lconst 0, 1) := dcA 9 h rfl rfl
theorem o_92 (h : byA b pc [92]) : decode b pc = .ok (.dup2, 1) := dcA 92 h rfl rfl
theorem o_96 (h : byA b pc [96]) : decode b pc = .ok (.iadd, 1) := dcA 96 h rfl rfl
theorem o_97 (h : byA b pc [97]) : decode b pc = .ok (.ladd, 1) := dcA 97 h rfl rfl
end DC
