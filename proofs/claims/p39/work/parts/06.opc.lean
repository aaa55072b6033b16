/-! decode by opcode: one rule an opcode, rows that only look at the bytes (printed by wip/gen/fastdec.py) -/
def zb1 (c : ByteArray) (p : Nat) : Option Nat := match c.data.toList.drop p with
  | a :: _ => some a.toNat
  | _ => none
def zb2 (c : ByteArray) (p : Nat) : Option (Nat × Nat) := match c.data.toList.drop p with
  | a :: b :: _ => some (a.toNat, b.toNat)
  | _ => none
def zb3 (c : ByteArray) (p : Nat) : Option (Nat × Nat × Nat) := match c.data.toList.drop p with
  | a :: b :: d :: _ => some (a.toNat, b.toNat, d.toNat)
  | _ => none
theorem zdr_at {c : ByteArray} {p : Nat} {l : List UInt8} (e : c.data.toList.drop p = l) (i : Nat) : c.data.toList[p + i]? = l[i]? := by
  have k : (c.data.toList.drop p)[i]? = c.data.toList[p + i]? := List.getElem?_drop
  rw [e] at k
  exact k.symm
theorem zb1_at {c : ByteArray} {p v : Nat} (h : zb1 c p = some v) : ∃ a : UInt8, c.data.toList[p]? = some a ∧ a.toNat = v := by
  unfold zb1 at h
  cases e : c.data.toList.drop p with
  | nil => rw [e] at h; simp at h
  | cons a t =>
    rw [e] at h
    exact ⟨a, zdr_at e 0, Option.some.inj h⟩
theorem zb2_at {c : ByteArray} {p v w : Nat} (h : zb2 c p = some (v, w)) : ∃ a b : UInt8, c.data.toList[p]? = some a ∧ c.data.toList[p + 1]? = some b ∧ a.toNat = v ∧ b.toNat = w := by
  unfold zb2 at h
  cases e : c.data.toList.drop p with
  | nil => rw [e] at h; simp at h
  | cons a t =>
    cases t with
    | nil => rw [e] at h; simp at h
    | cons b t =>
      rw [e] at h
      have q := Option.some.inj h
      exact ⟨a, b, zdr_at e 0, zdr_at e 1, congrArg Prod.fst q, congrArg Prod.snd q⟩
theorem zb3_at {c : ByteArray} {p v w x : Nat} (h : zb3 c p = some (v, w, x)) : ∃ a b d : UInt8, c.data.toList[p]? = some a ∧ c.data.toList[p + 1]? = some b ∧ c.data.toList[p + 1 + 1]? = some d ∧ a.toNat = v ∧ b.toNat = w ∧ d.toNat = x := by
  unfold zb3 at h
  cases e : c.data.toList.drop p with
  | nil => rw [e] at h; simp at h
  | cons a t =>
    cases t with
    | nil => rw [e] at h; simp at h
    | cons b t =>
      cases t with
      | nil => rw [e] at h; simp at h
      | cons d t =>
        rw [e] at h
        have q := Option.some.inj h
        exact ⟨a, b, d, zdr_at e 0, zdr_at e 1, zdr_at e 2, congrArg Prod.fst q, congrArg (fun z => z.2.1) q, congrArg (fun z => z.2.2) q⟩
theorem zrb_ok {α β : Type} {x : Decoder α} {f : α → Decoder β} {c : ByteArray} {p q : Nat} {v : α} (h : Reader.runAt x c p = .ok (v, q)) : Reader.runAt (x >>= f) c p = Reader.runAt (f v) c q := by
  have h' : x c p = Except.ok (v, q) := h
  show Except.bind (x c p) _ = _
  rw [h']
  rfl
theorem zrp_ok {α : Type} {v : α} {c : ByteArray} {p : Nat} : Reader.runAt (Pure.pure v : Decoder α) c p = .ok (v, p) := rfl
theorem zr1_ok {c : ByteArray} {p : Nat} {a : UInt8} (h : c.data.toList[p]? = some a) : Reader.runAt (Reader.u1 : Decoder Nat) c p = .ok (a.toNat, p + 1) := by
  obtain ⟨hp, e⟩ := List.getElem?_eq_some_iff.mp h
  have hs : p < c.size := hp
  have e2 : c[p]'hs = a := e
  show (dite (p < c.size) (fun h => ((do set (p + 1); Pure.pure (c[p]'h).toNat) : Decoder Nat)) (fun _ => throw (HasTruncated.truncated p)) : Decoder Nat) c p = _
  rw [dif_pos hs]
  show Except.ok ((c[p]'hs).toNat, p + 1) = _
  rw [e2]
theorem zrs1_ok {c : ByteArray} {p : Nat} {a : UInt8} (h : c.data.toList[p]? = some a) : Reader.runAt (Reader.s1 : Decoder Int) c p = .ok (Reader.signed 8 a.toNat, p + 1) := by
  have h' : (Reader.u1 : Decoder Nat) c p = Except.ok (a.toNat, p + 1) := zr1_ok h
  show Except.bind ((Reader.u1 : Decoder Nat) c p) _ = _
  rw [h']
  rfl
theorem zr2_ok {c : ByteArray} {p : Nat} {a b : UInt8} (h : c.data.toList[p]? = some a) (k : c.data.toList[p + 1]? = some b) : Reader.runAt (Reader.u2 : Decoder Nat) c p = .ok (a.toNat * 256 + b.toNat, p + 1 + 1) := by
  unfold Reader.u2
  rw [zrb_ok (zr1_ok h), zrb_ok (zr1_ok k), zrp_ok]
theorem zrs2_ok {c : ByteArray} {p : Nat} {a b : UInt8} (h : c.data.toList[p]? = some a) (k : c.data.toList[p + 1]? = some b) : Reader.runAt (Reader.s2 : Decoder Int) c p = .ok (Reader.signed 16 (a.toNat * 256 + b.toNat), p + 1 + 1) := by
  have h' : (Reader.u2 : Decoder Nat) c p = Except.ok (a.toNat * 256 + b.toNat, p + 1 + 1) := zr2_ok h k
  show Except.bind ((Reader.u2 : Decoder Nat) c p) _ = _
  rw [h']
  rfl
theorem zdec_ok {c : ByteArray} {p q : Nat} {i : Instr} (h : Reader.runAt (Decoder.instr p) c p = .ok (i, q)) : decode c p = .ok (i, q - p) := by
  unfold decode
  rw [h]
  rfl
theorem zo0_ok {c : ByteArray} {p v : Nat} {f : Nat → Decoder Instr} {i : Instr} (h : zb1 c p = some v) (hi : Decoder.instr p = Reader.u1 >>= f) (hf : f v = Pure.pure i) : decode c p = .ok (i, 1) := by
  obtain ⟨a, h1, rfl⟩ := zb1_at h
  rw [zdec_ok (i := i) (q := p + 1) (by rw [hi, zrb_ok (zr1_ok h1), hf, zrp_ok]), Nat.add_sub_cancel_left]
theorem zou1_ok {c : ByteArray} {p v w : Nat} {f : Nat → Decoder Instr} {k : Nat → Instr} (h : zb2 c p = some (v, w)) (hi : Decoder.instr p = Reader.u1 >>= f) (hf : f v = (Reader.u1 >>= fun a => Pure.pure (k a))) : decode c p = .ok (k w, 2) := by
  obtain ⟨a, b, h1, h2, rfl, rfl⟩ := zb2_at h
  rw [zdec_ok (i := k b.toNat) (q := p + 1 + 1) (by rw [hi, zrb_ok (zr1_ok h1), hf, zrb_ok (zr1_ok h2), zrp_ok]), Nat.add_assoc, Nat.add_sub_cancel_left]
theorem zos1_ok {c : ByteArray} {p v w : Nat} {z : Int} {f : Nat → Decoder Instr} {k : Int → Instr} (h : zb2 c p = some (v, w) ∧ Reader.signed 8 w = z) (hi : Decoder.instr p = Reader.u1 >>= f) (hf : f v = (Reader.s1 >>= fun a => Pure.pure (k a))) : decode c p = .ok (k z, 2) := by
  obtain ⟨h, rfl⟩ := h
  obtain ⟨a, b, h1, h2, rfl, rfl⟩ := zb2_at h
  rw [zdec_ok (i := k (Reader.signed 8 b.toNat)) (q := p + 1 + 1) (by rw [hi, zrb_ok (zr1_ok h1), hf, zrb_ok (zrs1_ok h2), zrp_ok]), Nat.add_assoc, Nat.add_sub_cancel_left]
theorem zou2_ok {c : ByteArray} {p v w x n : Nat} {f : Nat → Decoder Instr} {k : Nat → Instr} (h : zb3 c p = some (v, w, x) ∧ w * 256 + x = n) (hi : Decoder.instr p = Reader.u1 >>= f) (hf : f v = (Reader.u2 >>= fun a => Pure.pure (k a))) : decode c p = .ok (k n, 3) := by
  obtain ⟨h, rfl⟩ := h
  obtain ⟨a, b, d, h1, h2, h3, rfl, rfl, rfl⟩ := zb3_at h
  rw [zdec_ok (i := k (b.toNat * 256 + d.toNat)) (q := p + 1 + 1 + 1) (by rw [hi, zrb_ok (zr1_ok h1), hf, zrb_ok (zr2_ok h2 h3), zrp_ok]), Nat.add_assoc, Nat.add_assoc, Nat.add_sub_cancel_left]
theorem zos2_ok {c : ByteArray} {p v w x : Nat} {z : Int} {f : Nat → Decoder Instr} {k : Int → Instr} (h : zb3 c p = some (v, w, x) ∧ Reader.signed 16 (w * 256 + x) = z) (hi : Decoder.instr p = Reader.u1 >>= f) (hf : f v = (Reader.s2 >>= fun a => Pure.pure (k a))) : decode c p = .ok (k z, 3) := by
  obtain ⟨h, rfl⟩ := h
  obtain ⟨a, b, d, h1, h2, h3, rfl, rfl, rfl⟩ := zb3_at h
  rw [zdec_ok (i := k (Reader.signed 16 (b.toNat * 256 + d.toNat))) (q := p + 1 + 1 + 1) (by rw [hi, zrb_ok (zr1_ok h1), hf, zrb_ok (zrs2_ok h2 h3), zrp_ok]), Nat.add_assoc, Nat.add_assoc, Nat.add_sub_cancel_left]
theorem zo_iinc {c : ByteArray} {p w x : Nat} {z : Int} (h : zb3 c p = some (132, w, x) ∧ Reader.signed 8 x = z) : decode c p = .ok (.iinc w z, 3) := by
  obtain ⟨h, rfl⟩ := h
  obtain ⟨a, b, d, h1, h2, h3, e1, rfl, rfl⟩ := zb3_at h
  have key : ∀ f : Nat → Decoder Instr, Decoder.instr p = Reader.u1 >>= f → f 132 = (Reader.u1 >>= fun a => Reader.s1 >>= fun b => Pure.pure (.iinc a b)) → decode c p = .ok (.iinc b.toNat (Reader.signed 8 d.toNat), 3) := fun f hi hf => by
    rw [zdec_ok (i := .iinc b.toNat (Reader.signed 8 d.toNat)) (q := p + 1 + 1 + 1) (by rw [hi, zrb_ok (zr1_ok h1), e1, hf, zrb_ok (zr1_ok h2), zrb_ok (zrs1_ok h3), zrp_ok]), Nat.add_assoc, Nat.add_assoc, Nat.add_sub_cancel_left]
  exact key _ rfl rfl
theorem zo_42 {c : ByteArray} {p : Nat} (h : zb1 c p = some 42) : decode c p = .ok (.aload_n 0, 1) := zo0_ok h rfl rfl
theorem zo_183 {c : ByteArray} {p w x n : Nat} (h : zb3 c p = some (183, w, x) ∧ w * 256 + x = n) : decode c p = .ok (.invokespecial n, 3) := zou2_ok (k := fun a => .invokespecial a) h rfl rfl
theorem zo_187 {c : ByteArray} {p w x n : Nat} (h : zb3 c p = some (187, w, x) ∧ w * 256 + x = n) : decode c p = .ok (.new n, 3) := zou2_ok (k := fun a => .new a) h rfl rfl
theorem zo_89 {c : ByteArray} {p : Nat} (h : zb1 c p = some 89) : decode c p = .ok (.dup, 1) := zo0_ok h rfl rfl
theorem zo_181 {c : ByteArray} {p w x n : Nat} (h : zb3 c p = some (181, w, x) ∧ w * 256 + x = n) : decode c p = .ok (.putfield n, 3) := zou2_ok (k := fun a => .putfield a) h rfl rfl
theorem zo_16 {c : ByteArray} {p w : Nat} {z : Int} (h : zb2 c p = some (16, w) ∧ Reader.signed 8 w = z) : decode c p = .ok (.bipush z, 2) := zos1_ok (k := fun a => .bipush a) h rfl rfl
theorem zo_3 {c : ByteArray} {p : Nat} (h : zb1 c p = some 3) : decode c p = .ok (.iconst 0, 1) := zo0_ok h rfl rfl
theorem zo_2 {c : ByteArray} {p : Nat} (h : zb1 c p = some 2) : decode c p = .ok (.iconst (-1), 1) := zo0_ok h rfl rfl
theorem zo_4 {c : ByteArray} {p : Nat} (h : zb1 c p = some 4) : decode c p = .ok (.iconst 1, 1) := zo0_ok h rfl rfl
theorem zo_43 {c : ByteArray} {p : Nat} (h : zb1 c p = some 43) : decode c p = .ok (.aload_n 1, 1) := zo0_ok h rfl rfl
theorem zo_177 {c : ByteArray} {p : Nat} (h : zb1 c p = some 177) : decode c p = .ok (.return_, 1) := zo0_ok h rfl rfl
theorem zo_180 {c : ByteArray} {p w x n : Nat} (h : zb3 c p = some (180, w, x) ∧ w * 256 + x = n) : decode c p = .ok (.getfield n, 3) := zou2_ok (k := fun a => .getfield a) h rfl rfl
theorem zo_182 {c : ByteArray} {p w x n : Nat} (h : zb3 c p = some (182, w, x) ∧ w * 256 + x = n) : decode c p = .ok (.invokevirtual n, 3) := zou2_ok (k := fun a => .invokevirtual a) h rfl rfl
theorem zo_184 {c : ByteArray} {p w x n : Nat} (h : zb3 c p = some (184, w, x) ∧ w * 256 + x = n) : decode c p = .ok (.invokestatic n, 3) := zou2_ok (k := fun a => .invokestatic a) h rfl rfl
theorem zo_27 {c : ByteArray} {p : Nat} (h : zb1 c p = some 27) : decode c p = .ok (.iload_n 1, 1) := zo0_ok h rfl rfl
theorem zo_160 {c : ByteArray} {p w x : Nat} {z : Int} (h : zb3 c p = some (160, w, x) ∧ Reader.signed 16 (w * 256 + x) = z) : decode c p = .ok (.if_icmp .ne z, 3) := zos2_ok (k := fun a => .if_icmp .ne a) h rfl rfl
theorem zo_5 {c : ByteArray} {p : Nat} (h : zb1 c p = some 5) : decode c p = .ok (.iconst 2, 1) := zo0_ok h rfl rfl
theorem zo_167 {c : ByteArray} {p w x : Nat} {z : Int} (h : zb3 c p = some (167, w, x) ∧ Reader.signed 16 (w * 256 + x) = z) : decode c p = .ok (.goto z, 3) := zos2_ok (k := fun a => .goto a) h rfl rfl
theorem zo_28 {c : ByteArray} {p : Nat} (h : zb1 c p = some 28) : decode c p = .ok (.iload_n 2, 1) := zo0_ok h rfl rfl
theorem zo_6 {c : ByteArray} {p : Nat} (h : zb1 c p = some 6) : decode c p = .ok (.iconst 3, 1) := zo0_ok h rfl rfl
theorem zo_159 {c : ByteArray} {p w x : Nat} {z : Int} (h : zb3 c p = some (159, w, x) ∧ Reader.signed 16 (w * 256 + x) = z) : decode c p = .ok (.if_icmp .eq z, 3) := zos2_ok (k := fun a => .if_icmp .eq a) h rfl rfl
theorem zo_7 {c : ByteArray} {p : Nat} (h : zb1 c p = some 7) : decode c p = .ok (.iconst 4, 1) := zo0_ok h rfl rfl
theorem zo_8 {c : ByteArray} {p : Nat} (h : zb1 c p = some 8) : decode c p = .ok (.iconst 5, 1) := zo0_ok h rfl rfl
theorem zo_61 {c : ByteArray} {p : Nat} (h : zb1 c p = some 61) : decode c p = .ok (.istore_n 2, 1) := zo0_ok h rfl rfl
theorem zo_162 {c : ByteArray} {p w x : Nat} {z : Int} (h : zb3 c p = some (162, w, x) ∧ Reader.signed 16 (w * 256 + x) = z) : decode c p = .ok (.if_icmp .ge z, 3) := zos2_ok (k := fun a => .if_icmp .ge a) h rfl rfl
theorem zo_62 {c : ByteArray} {p : Nat} (h : zb1 c p = some 62) : decode c p = .ok (.istore_n 3, 1) := zo0_ok h rfl rfl
theorem zo_29 {c : ByteArray} {p : Nat} (h : zb1 c p = some 29) : decode c p = .ok (.iload_n 3, 1) := zo0_ok h rfl rfl
theorem zo_153 {c : ByteArray} {p w x : Nat} {z : Int} (h : zb3 c p = some (153, w, x) ∧ Reader.signed 16 (w * 256 + x) = z) : decode c p = .ok (.ifCond .eq z, 3) := zos2_ok (k := fun a => .ifCond .eq a) h rfl rfl
theorem zo_96 {c : ByteArray} {p : Nat} (h : zb1 c p = some 96) : decode c p = .ok (.iadd, 1) := zo0_ok h rfl rfl
theorem zo_54 {c : ByteArray} {p w : Nat} (h : zb2 c p = some (54, w)) : decode c p = .ok (.istore w, 2) := zou1_ok (k := fun a => .istore a) h rfl rfl
theorem zo_21 {c : ByteArray} {p w : Nat} (h : zb2 c p = some (21, w)) : decode c p = .ok (.iload w, 2) := zou1_ok (k := fun a => .iload a) h rfl rfl
theorem zo_154 {c : ByteArray} {p w x : Nat} {z : Int} (h : zb3 c p = some (154, w, x) ∧ Reader.signed 16 (w * 256 + x) = z) : decode c p = .ok (.ifCond .ne z, 3) := zos2_ok (k := fun a => .ifCond .ne a) h rfl rfl
theorem zo_172 {c : ByteArray} {p : Nat} (h : zb1 c p = some 172) : decode c p = .ok (.ireturn, 1) := zo0_ok h rfl rfl
theorem zo_158 {c : ByteArray} {p w x : Nat} {z : Int} (h : zb3 c p = some (158, w, x) ∧ Reader.signed 16 (w * 256 + x) = z) : decode c p = .ok (.ifCond .le z, 3) := zos2_ok (k := fun a => .ifCond .le a) h rfl rfl
theorem zo_161 {c : ByteArray} {p w x : Nat} {z : Int} (h : zb3 c p = some (161, w, x) ∧ Reader.signed 16 (w * 256 + x) = z) : decode c p = .ok (.if_icmp .lt z, 3) := zos2_ok (k := fun a => .if_icmp .lt a) h rfl rfl
theorem zo_20 {c : ByteArray} {p w x n : Nat} (h : zb3 c p = some (20, w, x) ∧ w * 256 + x = n) : decode c p = .ok (.ldc2_w n, 3) := zou2_ok (k := fun a => .ldc2_w a) h rfl rfl
theorem zo_105 {c : ByteArray} {p : Nat} (h : zb1 c p = some 105) : decode c p = .ok (.lmul, 1) := zo0_ok h rfl rfl
theorem zo_97 {c : ByteArray} {p : Nat} (h : zb1 c p = some 97) : decode c p = .ok (.ladd, 1) := zo0_ok h rfl rfl
theorem zo_127 {c : ByteArray} {p : Nat} (h : zb1 c p = some 127) : decode c p = .ok (.land, 1) := zo0_ok h rfl rfl
theorem zo_109 {c : ByteArray} {p : Nat} (h : zb1 c p = some 109) : decode c p = .ok (.ldiv, 1) := zo0_ok h rfl rfl
theorem zo_113 {c : ByteArray} {p : Nat} (h : zb1 c p = some 113) : decode c p = .ok (.lrem, 1) := zo0_ok h rfl rfl
theorem zo_133 {c : ByteArray} {p : Nat} (h : zb1 c p = some 133) : decode c p = .ok (.i2l, 1) := zo0_ok h rfl rfl
theorem zo_148 {c : ByteArray} {p : Nat} (h : zb1 c p = some 148) : decode c p = .ok (.lcmp, 1) := zo0_ok h rfl rfl
theorem zo_156 {c : ByteArray} {p w x : Nat} {z : Int} (h : zb3 c p = some (156, w, x) ∧ Reader.signed 16 (w * 256 + x) = z) : decode c p = .ok (.ifCond .ge z, 3) := zos2_ok (k := fun a => .ifCond .ge a) h rfl rfl
theorem zo_155 {c : ByteArray} {p w x : Nat} {z : Int} (h : zb3 c p = some (155, w, x) ∧ Reader.signed 16 (w * 256 + x) = z) : decode c p = .ok (.ifCond .lt z, 3) := zos2_ok (k := fun a => .ifCond .lt a) h rfl rfl
theorem zo_104 {c : ByteArray} {p : Nat} (h : zb1 c p = some 104) : decode c p = .ok (.imul, 1) := zo0_ok h rfl rfl
theorem zo_100 {c : ByteArray} {p : Nat} (h : zb1 c p = some 100) : decode c p = .ok (.isub, 1) := zo0_ok h rfl rfl
theorem zo_108 {c : ByteArray} {p : Nat} (h : zb1 c p = some 108) : decode c p = .ok (.idiv, 1) := zo0_ok h rfl rfl
theorem zo_164 {c : ByteArray} {p w x : Nat} {z : Int} (h : zb3 c p = some (164, w, x) ∧ Reader.signed 16 (w * 256 + x) = z) : decode c p = .ok (.if_icmp .le z, 3) := zos2_ok (k := fun a => .if_icmp .le a) h rfl rfl
theorem zo_60 {c : ByteArray} {p : Nat} (h : zb1 c p = some 60) : decode c p = .ok (.istore_n 1, 1) := zo0_ok h rfl rfl
theorem zo_65 {c : ByteArray} {p : Nat} (h : zb1 c p = some 65) : decode c p = .ok (.lstore_n 2, 1) := zo0_ok h rfl rfl
theorem zo_32 {c : ByteArray} {p : Nat} (h : zb1 c p = some 32) : decode c p = .ok (.lload_n 2, 1) := zo0_ok h rfl rfl
theorem zo_9 {c : ByteArray} {p : Nat} (h : zb1 c p = some 9) : decode c p = .ok (.lconst 0, 1) := zo0_ok h rfl rfl
theorem zo_55 {c : ByteArray} {p w : Nat} (h : zb2 c p = some (55, w)) : decode c p = .ok (.lstore w, 2) := zou1_ok (k := fun a => .lstore a) h rfl rfl
theorem zo_22 {c : ByteArray} {p w : Nat} (h : zb2 c p = some (22, w)) : decode c p = .ok (.lload w, 2) := zou1_ok (k := fun a => .lload a) h rfl rfl
theorem zo_136 {c : ByteArray} {p : Nat} (h : zb1 c p = some 136) : decode c p = .ok (.l2i, 1) := zo0_ok h rfl rfl
theorem zo_30 {c : ByteArray} {p : Nat} (h : zb1 c p = some 30) : decode c p = .ok (.lload_n 0, 1) := zo0_ok h rfl rfl
theorem zo_173 {c : ByteArray} {p : Nat} (h : zb1 c p = some 173) : decode c p = .ok (.lreturn, 1) := zo0_ok h rfl rfl
theorem zo_190 {c : ByteArray} {p : Nat} (h : zb1 c p = some 190) : decode c p = .ok (.arraylength, 1) := zo0_ok h rfl rfl
theorem zo_80 {c : ByteArray} {p : Nat} (h : zb1 c p = some 80) : decode c p = .ok (.lastore, 1) := zo0_ok h rfl rfl
theorem zo_79 {c : ByteArray} {p : Nat} (h : zb1 c p = some 79) : decode c p = .ok (.iastore, 1) := zo0_ok h rfl rfl
theorem zo_157 {c : ByteArray} {p w x : Nat} {z : Int} (h : zb3 c p = some (157, w, x) ∧ Reader.signed 16 (w * 256 + x) = z) : decode c p = .ok (.ifCond .gt z, 3) := zos2_ok (k := fun a => .ifCond .gt a) h rfl rfl
theorem zo_47 {c : ByteArray} {p : Nat} (h : zb1 c p = some 47) : decode c p = .ok (.laload, 1) := zo0_ok h rfl rfl
theorem zo_26 {c : ByteArray} {p : Nat} (h : zb1 c p = some 26) : decode c p = .ok (.iload_n 0, 1) := zo0_ok h rfl rfl
theorem zo_44 {c : ByteArray} {p : Nat} (h : zb1 c p = some 44) : decode c p = .ok (.aload_n 2, 1) := zo0_ok h rfl rfl
theorem zo_31 {c : ByteArray} {p : Nat} (h : zb1 c p = some 31) : decode c p = .ok (.lload_n 1, 1) := zo0_ok h rfl rfl
theorem zo_33 {c : ByteArray} {p : Nat} (h : zb1 c p = some 33) : decode c p = .ok (.lload_n 3, 1) := zo0_ok h rfl rfl
theorem zo_101 {c : ByteArray} {p : Nat} (h : zb1 c p = some 101) : decode c p = .ok (.lsub, 1) := zo0_ok h rfl rfl
theorem zo_117 {c : ByteArray} {p : Nat} (h : zb1 c p = some 117) : decode c p = .ok (.lneg, 1) := zo0_ok h rfl rfl
theorem zo_10 {c : ByteArray} {p : Nat} (h : zb1 c p = some 10) : decode c p = .ok (.lconst 1, 1) := zo0_ok h rfl rfl
theorem zo_18 {c : ByteArray} {p w : Nat} (h : zb2 c p = some (18, w)) : decode c p = .ok (.ldc w, 2) := zou1_ok (k := fun a => .ldc a) h rfl rfl
theorem zo_120 {c : ByteArray} {p : Nat} (h : zb1 c p = some 120) : decode c p = .ok (.ishl, 1) := zo0_ok h rfl rfl
theorem zo_128 {c : ByteArray} {p : Nat} (h : zb1 c p = some 128) : decode c p = .ok (.ior, 1) := zo0_ok h rfl rfl
theorem zo_130 {c : ByteArray} {p : Nat} (h : zb1 c p = some 130) : decode c p = .ok (.ixor, 1) := zo0_ok h rfl rfl
theorem zo_126 {c : ByteArray} {p : Nat} (h : zb1 c p = some 126) : decode c p = .ok (.iand, 1) := zo0_ok h rfl rfl
theorem zo_122 {c : ByteArray} {p : Nat} (h : zb1 c p = some 122) : decode c p = .ok (.ishr, 1) := zo0_ok h rfl rfl
theorem zo_163 {c : ByteArray} {p w x : Nat} {z : Int} (h : zb3 c p = some (163, w, x) ∧ Reader.signed 16 (w * 256 + x) = z) : decode c p = .ok (.if_icmp .gt z, 3) := zos2_ok (k := fun a => .if_icmp .gt a) h rfl rfl
theorem zo_17 {c : ByteArray} {p w x : Nat} {z : Int} (h : zb3 c p = some (17, w, x) ∧ Reader.signed 16 (w * 256 + x) = z) : decode c p = .ok (.sipush z, 3) := zos2_ok (k := fun a => .sipush a) h rfl rfl
theorem zo_77 {c : ByteArray} {p : Nat} (h : zb1 c p = some 77) : decode c p = .ok (.astore_n 2, 1) := zo0_ok h rfl rfl
theorem zo_46 {c : ByteArray} {p : Nat} (h : zb1 c p = some 46) : decode c p = .ok (.iaload, 1) := zo0_ok h rfl rfl
theorem zo_45 {c : ByteArray} {p : Nat} (h : zb1 c p = some 45) : decode c p = .ok (.aload_n 3, 1) := zo0_ok h rfl rfl
theorem zo_112 {c : ByteArray} {p : Nat} (h : zb1 c p = some 112) : decode c p = .ok (.irem, 1) := zo0_ok h rfl rfl
theorem zo_51 {c : ByteArray} {p : Nat} (h : zb1 c p = some 51) : decode c p = .ok (.baload, 1) := zo0_ok h rfl rfl
theorem zo_145 {c : ByteArray} {p : Nat} (h : zb1 c p = some 145) : decode c p = .ok (.i2b, 1) := zo0_ok h rfl rfl
theorem zo_84 {c : ByteArray} {p : Nat} (h : zb1 c p = some 84) : decode c p = .ok (.bastore, 1) := zo0_ok h rfl rfl
theorem zo_191 {c : ByteArray} {p : Nat} (h : zb1 c p = some 191) : decode c p = .ok (.athrow, 1) := zo0_ok h rfl rfl
theorem zo_116 {c : ByteArray} {p : Nat} (h : zb1 c p = some 116) : decode c p = .ok (.ineg, 1) := zo0_ok h rfl rfl
theorem zo_124 {c : ByteArray} {p : Nat} (h : zb1 c p = some 124) : decode c p = .ok (.iushr, 1) := zo0_ok h rfl rfl
theorem zo_19 {c : ByteArray} {p w x n : Nat} (h : zb3 c p = some (19, w, x) ∧ w * 256 + x = n) : decode c p = .ok (.ldc_w n, 3) := zou2_ok (k := fun a => .ldc_w a) h rfl rfl
theorem zo_59 {c : ByteArray} {p : Nat} (h : zb1 c p = some 59) : decode c p = .ok (.istore_n 0, 1) := zo0_ok h rfl rfl
theorem zo_178 {c : ByteArray} {p w x n : Nat} (h : zb3 c p = some (178, w, x) ∧ w * 256 + x = n) : decode c p = .ok (.getstatic n, 3) := zou2_ok (k := fun a => .getstatic a) h rfl rfl
theorem zo_87 {c : ByteArray} {p : Nat} (h : zb1 c p = some 87) : decode c p = .ok (.pop, 1) := zo0_ok h rfl rfl
theorem zo_146 {c : ByteArray} {p : Nat} (h : zb1 c p = some 146) : decode c p = .ok (.i2c, 1) := zo0_ok h rfl rfl
theorem zo_92 {c : ByteArray} {p : Nat} (h : zb1 c p = some 92) : decode c p = .ok (.dup2, 1) := zo0_ok h rfl rfl
theorem zo_66 {c : ByteArray} {p : Nat} (h : zb1 c p = some 66) : decode c p = .ok (.lstore_n 3, 1) := zo0_ok h rfl rfl
theorem zo_76 {c : ByteArray} {p : Nat} (h : zb1 c p = some 76) : decode c p = .ok (.astore_n 1, 1) := zo0_ok h rfl rfl
theorem zo_78 {c : ByteArray} {p : Nat} (h : zb1 c p = some 78) : decode c p = .ok (.astore_n 3, 1) := zo0_ok h rfl rfl
