/-! decode rows of a method by one walk over its bytes -/
theorem dq_bind {α β : Type} {r : Jvm.ClassFile.Decoder α} {f : α → Jvm.ClassFile.Decoder β} {c : ByteArray} {p : Nat} {v : α} {p1 : Nat} (h : r c p = .ok (v, p1)) : (r >>= f) c p = f v c p1 := by
  show (Bind.bind (r c p) _ : Except _ _) = _
  rw [h]
  rfl
theorem dq_map {α β : Type} {r : Jvm.ClassFile.Decoder α} {g : α → β} {c : ByteArray} {p : Nat} {v : α} {p1 : Nat} (h : r c p = .ok (v, p1)) : (g <$> r) c p = .ok (g v, p1) := by
  first
    | (show (Bind.bind (r c p) _ : Except _ _) = _; rw [h]; rfl)
    | (show (Functor.map _ (r c p) : Except _ _) = _; rw [h]; rfl)
theorem dq_u1 {c : ByteArray} {p : Nat} {b : UInt8} (h : c.data.toList[p]? = some b) : (Jvm.ClassFile.Reader.u1 : Jvm.ClassFile.Decoder Nat) c p = .ok (b.toNat, p + 1) := by
  obtain ⟨d⟩ := c
  obtain ⟨hp, hb⟩ := List.getElem?_eq_some_iff.mp h
  have hs : p < (ByteArray.mk d).size := hp
  have e2 : (ByteArray.mk d)[p] = b := hb
  show (dite (p < (ByteArray.mk d).size) _ _ : Jvm.ClassFile.Decoder Nat) (ByteArray.mk d) p = _
  rw [dif_pos hs, ← e2]
  rfl
theorem dq_s1 {c : ByteArray} {p : Nat} {b : UInt8} (h : c.data.toList[p]? = some b) : (Jvm.ClassFile.Reader.s1 : Jvm.ClassFile.Decoder Int) c p = .ok (Jvm.ClassFile.Reader.signed 8 b.toNat, p + 1) := dq_map (dq_u1 h)
theorem dq_u2 {c : ByteArray} {p : Nat} {b b' : UInt8} (h : c.data.toList[p]? = some b) (h' : c.data.toList[p + 1]? = some b') : (Jvm.ClassFile.Reader.u2 : Jvm.ClassFile.Decoder Nat) c p = .ok (b.toNat * 256 + b'.toNat, p + 2) := by
  show (Jvm.ClassFile.Reader.u1 >>= fun hi => Jvm.ClassFile.Reader.u1 >>= fun lo => pure (hi * 256 + lo) : Jvm.ClassFile.Decoder Nat) c p = _
  rw [dq_bind (dq_u1 h), dq_bind (dq_u1 h')]
  rfl
theorem dq_s2 {c : ByteArray} {p : Nat} {b b' : UInt8} (h : c.data.toList[p]? = some b) (h' : c.data.toList[p + 1]? = some b') : (Jvm.ClassFile.Reader.s2 : Jvm.ClassFile.Decoder Int) c p = .ok (Jvm.ClassFile.Reader.signed 16 (b.toNat * 256 + b'.toNat), p + 2) := dq_map (dq_u2 h h')
theorem dq_dec {c : ByteArray} {pc nx : Nat} {I : Jvm.ClassFile.Instr} (h : Jvm.ClassFile.Decoder.instr pc c pc = .ok (I, nx)) : decode c pc = .ok (I, nx - pc) := by
  show (Bind.bind (Jvm.ClassFile.Decoder.instr pc c pc) _ : Except _ _) = _
  rw [h]
  rfl
section
variable {c : ByteArray} {pc b : Nat} {f : Nat → Jvm.ClassFile.Decoder Jvm.ClassFile.Instr} {x y z : UInt8}
theorem dq_o0 {I : Jvm.ClassFile.Instr} (hd : Jvm.ClassFile.Decoder.instr pc = (Jvm.ClassFile.Reader.u1 >>= f)) (hf : f b = Pure.pure I) (h0 : c.data.toList[pc]? = some x) (hx : x.toNat = b) : decode c pc = .ok (I, 1) := by
  have e : Jvm.ClassFile.Decoder.instr pc c pc = .ok (I, pc + 1) := by
    rw [hd, dq_bind (dq_u1 h0), hx, hf]
    rfl
  rw [dq_dec e, Nat.add_sub_cancel_left]
theorem dq_o1 {g : Nat → Jvm.ClassFile.Instr} (hd : Jvm.ClassFile.Decoder.instr pc = (Jvm.ClassFile.Reader.u1 >>= f)) (hf : f b = (Jvm.ClassFile.Reader.u1 >>= fun v => pure (g v))) (h0 : c.data.toList[pc]? = some x) (hx : x.toNat = b) (h1 : c.data.toList[pc + 1]? = some y) : decode c pc = .ok (g y.toNat, 2) := by
  have e : Jvm.ClassFile.Decoder.instr pc c pc = .ok (g y.toNat, pc + 2) := by
    rw [hd, dq_bind (dq_u1 h0), hx, hf, dq_bind (dq_u1 h1)]
    rfl
  rw [dq_dec e, Nat.add_sub_cancel_left]
theorem dq_o1s {g : Int → Jvm.ClassFile.Instr} (hd : Jvm.ClassFile.Decoder.instr pc = (Jvm.ClassFile.Reader.u1 >>= f)) (hf : f b = (Jvm.ClassFile.Reader.s1 >>= fun v => pure (g v))) (h0 : c.data.toList[pc]? = some x) (hx : x.toNat = b) (h1 : c.data.toList[pc + 1]? = some y) : decode c pc = .ok (g (Jvm.ClassFile.Reader.signed 8 y.toNat), 2) := by
  have e : Jvm.ClassFile.Decoder.instr pc c pc = .ok (g (Jvm.ClassFile.Reader.signed 8 y.toNat), pc + 2) := by
    rw [hd, dq_bind (dq_u1 h0), hx, hf, dq_bind (dq_s1 h1)]
    rfl
  rw [dq_dec e, Nat.add_sub_cancel_left]
theorem dq_o2 {g : Nat → Jvm.ClassFile.Instr} (hd : Jvm.ClassFile.Decoder.instr pc = (Jvm.ClassFile.Reader.u1 >>= f)) (hf : f b = (Jvm.ClassFile.Reader.u2 >>= fun v => pure (g v))) (h0 : c.data.toList[pc]? = some x) (hx : x.toNat = b) (h1 : c.data.toList[pc + 1]? = some y) (h2 : c.data.toList[pc + 2]? = some z) : decode c pc = .ok (g (y.toNat * 256 + z.toNat), 3) := by
  have e : Jvm.ClassFile.Decoder.instr pc c pc = .ok (g (y.toNat * 256 + z.toNat), pc + 3) := by
    rw [hd, dq_bind (dq_u1 h0), hx, hf, dq_bind (dq_u2 h1 h2)]
    rfl
  rw [dq_dec e, Nat.add_sub_cancel_left]
theorem dq_o2s {g : Int → Jvm.ClassFile.Instr} (hd : Jvm.ClassFile.Decoder.instr pc = (Jvm.ClassFile.Reader.u1 >>= f)) (hf : f b = (Jvm.ClassFile.Reader.s2 >>= fun v => pure (g v))) (h0 : c.data.toList[pc]? = some x) (hx : x.toNat = b) (h1 : c.data.toList[pc + 1]? = some y) (h2 : c.data.toList[pc + 2]? = some z) : decode c pc = .ok (g (Jvm.ClassFile.Reader.signed 16 (y.toNat * 256 + z.toNat)), 3) := by
  have e : Jvm.ClassFile.Decoder.instr pc c pc = .ok (g (Jvm.ClassFile.Reader.signed 16 (y.toNat * 256 + z.toNat)), pc + 3) := by
    rw [hd, dq_bind (dq_u1 h0), hx, hf, dq_bind (dq_s2 h1 h2)]
    rfl
  rw [dq_dec e, Nat.add_sub_cancel_left]
theorem dq_o2i {g : Nat → Int → Jvm.ClassFile.Instr} (hd : Jvm.ClassFile.Decoder.instr pc = (Jvm.ClassFile.Reader.u1 >>= f)) (hf : f b = (Jvm.ClassFile.Reader.u1 >>= fun u => Jvm.ClassFile.Reader.s1 >>= fun v => pure (g u v))) (h0 : c.data.toList[pc]? = some x) (hx : x.toNat = b) (h1 : c.data.toList[pc + 1]? = some y) (h2 : c.data.toList[pc + 2]? = some z) : decode c pc = .ok (g y.toNat (Jvm.ClassFile.Reader.signed 8 z.toNat), 3) := by
  have e : Jvm.ClassFile.Decoder.instr pc c pc = .ok (g y.toNat (Jvm.ClassFile.Reader.signed 8 z.toNat), pc + 3) := by
    rw [hd, dq_bind (dq_u1 h0), hx, hf, dq_bind (dq_u1 h1), dq_bind (dq_s1 h2)]
    rfl
  rw [dq_dec e, Nat.add_sub_cancel_left]
end
noncomputable abbrev dqO0 (b : Nat) (I : Jvm.ClassFile.Instr) : Prop := ∀ (c : ByteArray) (pc : Nat) (x : UInt8), c.data.toList[pc]? = some x → x.toNat = b → decode c pc = .ok (I, 1)
noncomputable abbrev dqO1 (b : Nat) (f : Nat → Jvm.ClassFile.Instr) : Prop := ∀ (c : ByteArray) (pc : Nat) (x y : UInt8), c.data.toList[pc]? = some x → x.toNat = b → c.data.toList[pc + 1]? = some y → decode c pc = .ok (f y.toNat, 2)
noncomputable abbrev dqO2 (b : Nat) (f : Nat → Nat → Jvm.ClassFile.Instr) : Prop := ∀ (c : ByteArray) (pc : Nat) (x y z : UInt8), c.data.toList[pc]? = some x → x.toNat = b → c.data.toList[pc + 1]? = some y → c.data.toList[pc + 2]? = some z → decode c pc = .ok (f y.toNat z.toNat, 3)
theorem dq_cons {α : Type} {P : α → Prop} {a : α} {l : List α} (h : P a) (hl : ∀ x ∈ l, P x) : ∀ x ∈ a :: l, P x := fun x hx => (List.mem_cons.mp hx).elim (fun e => e ▸ h) (hl x)
theorem dq_nil {α : Type} {P : α → Prop} : ∀ x ∈ ([] : List α), P x := fun _ h => absurd h List.not_mem_nil
noncomputable def dqL {α : Type} : List (Nat × α) → Nat → Option α
  | [], _ => none
  | a :: l, b => cond (Nat.beq a.1 b) (some a.2) (dqL l b)
theorem dqL_mem {α : Type} {b : Nat} {v : α} : ∀ {l : List (Nat × α)}, dqL l b = some v → (b, v) ∈ l
  | [], h => by cases h
  | a :: l, h => by
    cases q : Nat.beq a.1 b with
    | true =>
      have h2 : cond (Nat.beq a.1 b) (some a.2) (dqL l b) = some v := h
      rw [q] at h2
      have h3 : a.2 = v := Option.some.inj h2
      have h4 : a.1 = b := Nat.eq_of_beq_eq_true q
      rw [← h3, ← h4]
      exact List.mem_cons_self
    | false =>
      have h2 : cond (Nat.beq a.1 b) (some a.2) (dqL l b) = some v := h
      rw [q] at h2
      exact List.mem_cons_of_mem _ (dqL_mem h2)
noncomputable def dq0 : List (Nat × Jvm.ClassFile.Instr) := [(42, .aload_n 0), (27, .iload_n 1), (172, .ireturn), (29, .iload_n 3), (4, .iconst 1), (3, .iconst 0), (96, .iadd), (46, .iaload), (28, .iload_n 2), (5, .iconst 2), (87, .pop), (2, .iconst (-1)), (43, .aload_n 1), (6, .iconst 3), (104, .imul), (79, .iastore), (62, .istore_n 3), (126, .iand), (44, .aload_n 2), (133, .i2l), (61, .istore_n 2), (26, .iload_n 0), (100, .isub), (120, .ishl), (128, .ior), (7, .iconst 4), (177, .return_), (60, .istore_n 1), (89, .dup), (9, .lconst 0), (122, .ishr), (173, .lreturn), (51, .baload), (124, .iushr), (8, .iconst 5), (50, .aaload), (92, .dup2), (32, .lload_n 2), (130, .ixor), (30, .lload_n 0), (148, .lcmp), (84, .bastore), (190, .arraylength), (10, .lconst 1), (112, .irem), (88, .pop2), (59, .istore_n 0), (77, .astore_n 2), (97, .ladd), (145, .i2b), (76, .astore_n 1), (105, .lmul), (101, .lsub), (109, .ldiv), (147, .i2s), (116, .ineg), (146, .i2c), (191, .athrow), (83, .aastore), (78, .astore_n 3), (45, .aload_n 3), (113, .lrem), (65, .lstore_n 2), (108, .idiv), (176, .areturn)]
theorem dq_c42 : dqO0 42 (.aload_n 0) := fun c pc x h0 hx => dq_o0 (b := 42) (I := .aload_n 0) rfl rfl h0 hx
theorem dq_c27 : dqO0 27 (.iload_n 1) := fun c pc x h0 hx => dq_o0 (b := 27) (I := .iload_n 1) rfl rfl h0 hx
theorem dq_c172 : dqO0 172 (.ireturn) := fun c pc x h0 hx => dq_o0 (b := 172) (I := .ireturn) rfl rfl h0 hx
theorem dq_c29 : dqO0 29 (.iload_n 3) := fun c pc x h0 hx => dq_o0 (b := 29) (I := .iload_n 3) rfl rfl h0 hx
theorem dq_c4 : dqO0 4 (.iconst 1) := fun c pc x h0 hx => dq_o0 (b := 4) (I := .iconst 1) rfl rfl h0 hx
theorem dq_c3 : dqO0 3 (.iconst 0) := fun c pc x h0 hx => dq_o0 (b := 3) (I := .iconst 0) rfl rfl h0 hx
theorem dq_c96 : dqO0 96 (.iadd) := fun c pc x h0 hx => dq_o0 (b := 96) (I := .iadd) rfl rfl h0 hx
theorem dq_c46 : dqO0 46 (.iaload) := fun c pc x h0 hx => dq_o0 (b := 46) (I := .iaload) rfl rfl h0 hx
theorem dq_c28 : dqO0 28 (.iload_n 2) := fun c pc x h0 hx => dq_o0 (b := 28) (I := .iload_n 2) rfl rfl h0 hx
theorem dq_c5 : dqO0 5 (.iconst 2) := fun c pc x h0 hx => dq_o0 (b := 5) (I := .iconst 2) rfl rfl h0 hx
theorem dq_c87 : dqO0 87 (.pop) := fun c pc x h0 hx => dq_o0 (b := 87) (I := .pop) rfl rfl h0 hx
theorem dq_c2 : dqO0 2 (.iconst (-1)) := fun c pc x h0 hx => dq_o0 (b := 2) (I := .iconst (-1)) rfl rfl h0 hx
theorem dq_c43 : dqO0 43 (.aload_n 1) := fun c pc x h0 hx => dq_o0 (b := 43) (I := .aload_n 1) rfl rfl h0 hx
theorem dq_c6 : dqO0 6 (.iconst 3) := fun c pc x h0 hx => dq_o0 (b := 6) (I := .iconst 3) rfl rfl h0 hx
theorem dq_c104 : dqO0 104 (.imul) := fun c pc x h0 hx => dq_o0 (b := 104) (I := .imul) rfl rfl h0 hx
theorem dq_c79 : dqO0 79 (.iastore) := fun c pc x h0 hx => dq_o0 (b := 79) (I := .iastore) rfl rfl h0 hx
theorem dq_c62 : dqO0 62 (.istore_n 3) := fun c pc x h0 hx => dq_o0 (b := 62) (I := .istore_n 3) rfl rfl h0 hx
theorem dq_c126 : dqO0 126 (.iand) := fun c pc x h0 hx => dq_o0 (b := 126) (I := .iand) rfl rfl h0 hx
theorem dq_c44 : dqO0 44 (.aload_n 2) := fun c pc x h0 hx => dq_o0 (b := 44) (I := .aload_n 2) rfl rfl h0 hx
theorem dq_c133 : dqO0 133 (.i2l) := fun c pc x h0 hx => dq_o0 (b := 133) (I := .i2l) rfl rfl h0 hx
theorem dq_c61 : dqO0 61 (.istore_n 2) := fun c pc x h0 hx => dq_o0 (b := 61) (I := .istore_n 2) rfl rfl h0 hx
theorem dq_c26 : dqO0 26 (.iload_n 0) := fun c pc x h0 hx => dq_o0 (b := 26) (I := .iload_n 0) rfl rfl h0 hx
theorem dq_c100 : dqO0 100 (.isub) := fun c pc x h0 hx => dq_o0 (b := 100) (I := .isub) rfl rfl h0 hx
theorem dq_c120 : dqO0 120 (.ishl) := fun c pc x h0 hx => dq_o0 (b := 120) (I := .ishl) rfl rfl h0 hx
theorem dq_c128 : dqO0 128 (.ior) := fun c pc x h0 hx => dq_o0 (b := 128) (I := .ior) rfl rfl h0 hx
theorem dq_c7 : dqO0 7 (.iconst 4) := fun c pc x h0 hx => dq_o0 (b := 7) (I := .iconst 4) rfl rfl h0 hx
theorem dq_c177 : dqO0 177 (.return_) := fun c pc x h0 hx => dq_o0 (b := 177) (I := .return_) rfl rfl h0 hx
theorem dq_c60 : dqO0 60 (.istore_n 1) := fun c pc x h0 hx => dq_o0 (b := 60) (I := .istore_n 1) rfl rfl h0 hx
theorem dq_c89 : dqO0 89 (.dup) := fun c pc x h0 hx => dq_o0 (b := 89) (I := .dup) rfl rfl h0 hx
theorem dq_c9 : dqO0 9 (.lconst 0) := fun c pc x h0 hx => dq_o0 (b := 9) (I := .lconst 0) rfl rfl h0 hx
theorem dq_c122 : dqO0 122 (.ishr) := fun c pc x h0 hx => dq_o0 (b := 122) (I := .ishr) rfl rfl h0 hx
theorem dq_c173 : dqO0 173 (.lreturn) := fun c pc x h0 hx => dq_o0 (b := 173) (I := .lreturn) rfl rfl h0 hx
theorem dq_c51 : dqO0 51 (.baload) := fun c pc x h0 hx => dq_o0 (b := 51) (I := .baload) rfl rfl h0 hx
theorem dq_c124 : dqO0 124 (.iushr) := fun c pc x h0 hx => dq_o0 (b := 124) (I := .iushr) rfl rfl h0 hx
theorem dq_c8 : dqO0 8 (.iconst 5) := fun c pc x h0 hx => dq_o0 (b := 8) (I := .iconst 5) rfl rfl h0 hx
theorem dq_c50 : dqO0 50 (.aaload) := fun c pc x h0 hx => dq_o0 (b := 50) (I := .aaload) rfl rfl h0 hx
theorem dq_c92 : dqO0 92 (.dup2) := fun c pc x h0 hx => dq_o0 (b := 92) (I := .dup2) rfl rfl h0 hx
theorem dq_c32 : dqO0 32 (.lload_n 2) := fun c pc x h0 hx => dq_o0 (b := 32) (I := .lload_n 2) rfl rfl h0 hx
theorem dq_c130 : dqO0 130 (.ixor) := fun c pc x h0 hx => dq_o0 (b := 130) (I := .ixor) rfl rfl h0 hx
theorem dq_c30 : dqO0 30 (.lload_n 0) := fun c pc x h0 hx => dq_o0 (b := 30) (I := .lload_n 0) rfl rfl h0 hx
theorem dq_c148 : dqO0 148 (.lcmp) := fun c pc x h0 hx => dq_o0 (b := 148) (I := .lcmp) rfl rfl h0 hx
theorem dq_c84 : dqO0 84 (.bastore) := fun c pc x h0 hx => dq_o0 (b := 84) (I := .bastore) rfl rfl h0 hx
theorem dq_c190 : dqO0 190 (.arraylength) := fun c pc x h0 hx => dq_o0 (b := 190) (I := .arraylength) rfl rfl h0 hx
theorem dq_c10 : dqO0 10 (.lconst 1) := fun c pc x h0 hx => dq_o0 (b := 10) (I := .lconst 1) rfl rfl h0 hx
theorem dq_c112 : dqO0 112 (.irem) := fun c pc x h0 hx => dq_o0 (b := 112) (I := .irem) rfl rfl h0 hx
theorem dq_c88 : dqO0 88 (.pop2) := fun c pc x h0 hx => dq_o0 (b := 88) (I := .pop2) rfl rfl h0 hx
theorem dq_c59 : dqO0 59 (.istore_n 0) := fun c pc x h0 hx => dq_o0 (b := 59) (I := .istore_n 0) rfl rfl h0 hx
theorem dq_c77 : dqO0 77 (.astore_n 2) := fun c pc x h0 hx => dq_o0 (b := 77) (I := .astore_n 2) rfl rfl h0 hx
theorem dq_c97 : dqO0 97 (.ladd) := fun c pc x h0 hx => dq_o0 (b := 97) (I := .ladd) rfl rfl h0 hx
theorem dq_c145 : dqO0 145 (.i2b) := fun c pc x h0 hx => dq_o0 (b := 145) (I := .i2b) rfl rfl h0 hx
theorem dq_c76 : dqO0 76 (.astore_n 1) := fun c pc x h0 hx => dq_o0 (b := 76) (I := .astore_n 1) rfl rfl h0 hx
theorem dq_c105 : dqO0 105 (.lmul) := fun c pc x h0 hx => dq_o0 (b := 105) (I := .lmul) rfl rfl h0 hx
theorem dq_c101 : dqO0 101 (.lsub) := fun c pc x h0 hx => dq_o0 (b := 101) (I := .lsub) rfl rfl h0 hx
theorem dq_c109 : dqO0 109 (.ldiv) := fun c pc x h0 hx => dq_o0 (b := 109) (I := .ldiv) rfl rfl h0 hx
theorem dq_c147 : dqO0 147 (.i2s) := fun c pc x h0 hx => dq_o0 (b := 147) (I := .i2s) rfl rfl h0 hx
theorem dq_c116 : dqO0 116 (.ineg) := fun c pc x h0 hx => dq_o0 (b := 116) (I := .ineg) rfl rfl h0 hx
theorem dq_c146 : dqO0 146 (.i2c) := fun c pc x h0 hx => dq_o0 (b := 146) (I := .i2c) rfl rfl h0 hx
theorem dq_c191 : dqO0 191 (.athrow) := fun c pc x h0 hx => dq_o0 (b := 191) (I := .athrow) rfl rfl h0 hx
theorem dq_c83 : dqO0 83 (.aastore) := fun c pc x h0 hx => dq_o0 (b := 83) (I := .aastore) rfl rfl h0 hx
theorem dq_c78 : dqO0 78 (.astore_n 3) := fun c pc x h0 hx => dq_o0 (b := 78) (I := .astore_n 3) rfl rfl h0 hx
theorem dq_c45 : dqO0 45 (.aload_n 3) := fun c pc x h0 hx => dq_o0 (b := 45) (I := .aload_n 3) rfl rfl h0 hx
theorem dq_c113 : dqO0 113 (.lrem) := fun c pc x h0 hx => dq_o0 (b := 113) (I := .lrem) rfl rfl h0 hx
theorem dq_c65 : dqO0 65 (.lstore_n 2) := fun c pc x h0 hx => dq_o0 (b := 65) (I := .lstore_n 2) rfl rfl h0 hx
theorem dq_c108 : dqO0 108 (.idiv) := fun c pc x h0 hx => dq_o0 (b := 108) (I := .idiv) rfl rfl h0 hx
theorem dq_c176 : dqO0 176 (.areturn) := fun c pc x h0 hx => dq_o0 (b := 176) (I := .areturn) rfl rfl h0 hx
theorem dq0_ok : ∀ x ∈ dq0, dqO0 x.1 x.2 := (dq_cons dq_c42 (dq_cons dq_c27 (dq_cons dq_c172 (dq_cons dq_c29 (dq_cons dq_c4 (dq_cons dq_c3 (dq_cons dq_c96 (dq_cons dq_c46 (dq_cons dq_c28 (dq_cons dq_c5 (dq_cons dq_c87 (dq_cons dq_c2 (dq_cons dq_c43 (dq_cons dq_c6 (dq_cons dq_c104 (dq_cons dq_c79 (dq_cons dq_c62 (dq_cons dq_c126 (dq_cons dq_c44 (dq_cons dq_c133 (dq_cons dq_c61 (dq_cons dq_c26 (dq_cons dq_c100 (dq_cons dq_c120 (dq_cons dq_c128 (dq_cons dq_c7 (dq_cons dq_c177 (dq_cons dq_c60 (dq_cons dq_c89 (dq_cons dq_c9 (dq_cons dq_c122 (dq_cons dq_c173 (dq_cons dq_c51 (dq_cons dq_c124 (dq_cons dq_c8 (dq_cons dq_c50 (dq_cons dq_c92 (dq_cons dq_c32 (dq_cons dq_c130 (dq_cons dq_c30 (dq_cons dq_c148 (dq_cons dq_c84 (dq_cons dq_c190 (dq_cons dq_c10 (dq_cons dq_c112 (dq_cons dq_c88 (dq_cons dq_c59 (dq_cons dq_c77 (dq_cons dq_c97 (dq_cons dq_c145 (dq_cons dq_c76 (dq_cons dq_c105 (dq_cons dq_c101 (dq_cons dq_c109 (dq_cons dq_c147 (dq_cons dq_c116 (dq_cons dq_c146 (dq_cons dq_c191 (dq_cons dq_c83 (dq_cons dq_c78 (dq_cons dq_c45 (dq_cons dq_c113 (dq_cons dq_c65 (dq_cons dq_c108 (dq_cons dq_c176 dq_nil)))))))))))))))))))))))))))))))))))))))))))))))))))))))))))))))))
noncomputable def dq1 : List (Nat × (Nat → Jvm.ClassFile.Instr)) := [(21, fun x => .iload x), (16, fun x => .bipush (Jvm.ClassFile.Reader.signed 8 x)), (54, fun x => .istore x), (22, fun x => .lload x), (55, fun x => .lstore x), (25, fun x => .aload x), (18, fun x => .ldc x), (58, fun x => .astore x)]
theorem dq_c21 : dqO1 21 (fun x => .iload x) := fun c pc x y h0 hx h1 => dq_o1 (b := 21) (g := fun v => .iload v) rfl rfl h0 hx h1
theorem dq_c16 : dqO1 16 (fun x => .bipush (Jvm.ClassFile.Reader.signed 8 x)) := fun c pc x y h0 hx h1 => dq_o1s (b := 16) (g := fun v => .bipush v) rfl rfl h0 hx h1
theorem dq_c54 : dqO1 54 (fun x => .istore x) := fun c pc x y h0 hx h1 => dq_o1 (b := 54) (g := fun v => .istore v) rfl rfl h0 hx h1
theorem dq_c22 : dqO1 22 (fun x => .lload x) := fun c pc x y h0 hx h1 => dq_o1 (b := 22) (g := fun v => .lload v) rfl rfl h0 hx h1
theorem dq_c55 : dqO1 55 (fun x => .lstore x) := fun c pc x y h0 hx h1 => dq_o1 (b := 55) (g := fun v => .lstore v) rfl rfl h0 hx h1
theorem dq_c25 : dqO1 25 (fun x => .aload x) := fun c pc x y h0 hx h1 => dq_o1 (b := 25) (g := fun v => .aload v) rfl rfl h0 hx h1
theorem dq_c18 : dqO1 18 (fun x => .ldc x) := fun c pc x y h0 hx h1 => dq_o1 (b := 18) (g := fun v => .ldc v) rfl rfl h0 hx h1
theorem dq_c58 : dqO1 58 (fun x => .astore x) := fun c pc x y h0 hx h1 => dq_o1 (b := 58) (g := fun v => .astore v) rfl rfl h0 hx h1
theorem dq1_ok : ∀ x ∈ dq1, dqO1 x.1 x.2 := (dq_cons dq_c21 (dq_cons dq_c16 (dq_cons dq_c54 (dq_cons dq_c22 (dq_cons dq_c55 (dq_cons dq_c25 (dq_cons dq_c18 (dq_cons dq_c58 dq_nil))))))))
noncomputable def dq2 : List (Nat × (Nat → Nat → Jvm.ClassFile.Instr)) := [(180, fun x y => .getfield (x * 256 + y)), (182, fun x y => .invokevirtual (x * 256 + y)), (167, fun x y => .goto (Jvm.ClassFile.Reader.signed 16 (x * 256 + y))), (153, fun x y => .ifCond .eq (Jvm.ClassFile.Reader.signed 16 (x * 256 + y))), (184, fun x y => .invokestatic (x * 256 + y)), (181, fun x y => .putfield (x * 256 + y)), (154, fun x y => .ifCond .ne (Jvm.ClassFile.Reader.signed 16 (x * 256 + y))), (132, fun x y => .iinc x (Jvm.ClassFile.Reader.signed 8 y)), (162, fun x y => .if_icmp .ge (Jvm.ClassFile.Reader.signed 16 (x * 256 + y))), (160, fun x y => .if_icmp .ne (Jvm.ClassFile.Reader.signed 16 (x * 256 + y))), (163, fun x y => .if_icmp .gt (Jvm.ClassFile.Reader.signed 16 (x * 256 + y))), (20, fun x y => .ldc2_w (x * 256 + y)), (155, fun x y => .ifCond .lt (Jvm.ClassFile.Reader.signed 16 (x * 256 + y))), (17, fun x y => .sipush (Jvm.ClassFile.Reader.signed 16 (x * 256 + y))), (183, fun x y => .invokespecial (x * 256 + y)), (159, fun x y => .if_icmp .eq (Jvm.ClassFile.Reader.signed 16 (x * 256 + y))), (161, fun x y => .if_icmp .lt (Jvm.ClassFile.Reader.signed 16 (x * 256 + y))), (164, fun x y => .if_icmp .le (Jvm.ClassFile.Reader.signed 16 (x * 256 + y))), (187, fun x y => .new (x * 256 + y)), (19, fun x y => .ldc_w (x * 256 + y)), (158, fun x y => .ifCond .le (Jvm.ClassFile.Reader.signed 16 (x * 256 + y))), (178, fun x y => .getstatic (x * 256 + y)), (156, fun x y => .ifCond .ge (Jvm.ClassFile.Reader.signed 16 (x * 256 + y))), (189, fun x y => .anewarray (x * 256 + y)), (157, fun x y => .ifCond .gt (Jvm.ClassFile.Reader.signed 16 (x * 256 + y)))]
theorem dq_c180 : dqO2 180 (fun x y => .getfield (x * 256 + y)) := fun c pc x y z h0 hx h1 h2 => dq_o2 (b := 180) (g := fun v => .getfield v) rfl rfl h0 hx h1 h2
theorem dq_c182 : dqO2 182 (fun x y => .invokevirtual (x * 256 + y)) := fun c pc x y z h0 hx h1 h2 => dq_o2 (b := 182) (g := fun v => .invokevirtual v) rfl rfl h0 hx h1 h2
theorem dq_c167 : dqO2 167 (fun x y => .goto (Jvm.ClassFile.Reader.signed 16 (x * 256 + y))) := fun c pc x y z h0 hx h1 h2 => dq_o2s (b := 167) (g := fun v => .goto v) rfl rfl h0 hx h1 h2
theorem dq_c153 : dqO2 153 (fun x y => .ifCond .eq (Jvm.ClassFile.Reader.signed 16 (x * 256 + y))) := fun c pc x y z h0 hx h1 h2 => dq_o2s (b := 153) (g := fun v => .ifCond .eq v) rfl rfl h0 hx h1 h2
theorem dq_c184 : dqO2 184 (fun x y => .invokestatic (x * 256 + y)) := fun c pc x y z h0 hx h1 h2 => dq_o2 (b := 184) (g := fun v => .invokestatic v) rfl rfl h0 hx h1 h2
theorem dq_c181 : dqO2 181 (fun x y => .putfield (x * 256 + y)) := fun c pc x y z h0 hx h1 h2 => dq_o2 (b := 181) (g := fun v => .putfield v) rfl rfl h0 hx h1 h2
theorem dq_c154 : dqO2 154 (fun x y => .ifCond .ne (Jvm.ClassFile.Reader.signed 16 (x * 256 + y))) := fun c pc x y z h0 hx h1 h2 => dq_o2s (b := 154) (g := fun v => .ifCond .ne v) rfl rfl h0 hx h1 h2
theorem dq_c132 : dqO2 132 (fun x y => .iinc x (Jvm.ClassFile.Reader.signed 8 y)) := fun c pc x y z h0 hx h1 h2 => dq_o2i (b := 132) (g := fun u v => .iinc u v) rfl rfl h0 hx h1 h2
theorem dq_c162 : dqO2 162 (fun x y => .if_icmp .ge (Jvm.ClassFile.Reader.signed 16 (x * 256 + y))) := fun c pc x y z h0 hx h1 h2 => dq_o2s (b := 162) (g := fun v => .if_icmp .ge v) rfl rfl h0 hx h1 h2
theorem dq_c160 : dqO2 160 (fun x y => .if_icmp .ne (Jvm.ClassFile.Reader.signed 16 (x * 256 + y))) := fun c pc x y z h0 hx h1 h2 => dq_o2s (b := 160) (g := fun v => .if_icmp .ne v) rfl rfl h0 hx h1 h2
theorem dq_c163 : dqO2 163 (fun x y => .if_icmp .gt (Jvm.ClassFile.Reader.signed 16 (x * 256 + y))) := fun c pc x y z h0 hx h1 h2 => dq_o2s (b := 163) (g := fun v => .if_icmp .gt v) rfl rfl h0 hx h1 h2
theorem dq_c20 : dqO2 20 (fun x y => .ldc2_w (x * 256 + y)) := fun c pc x y z h0 hx h1 h2 => dq_o2 (b := 20) (g := fun v => .ldc2_w v) rfl rfl h0 hx h1 h2
theorem dq_c155 : dqO2 155 (fun x y => .ifCond .lt (Jvm.ClassFile.Reader.signed 16 (x * 256 + y))) := fun c pc x y z h0 hx h1 h2 => dq_o2s (b := 155) (g := fun v => .ifCond .lt v) rfl rfl h0 hx h1 h2
theorem dq_c17 : dqO2 17 (fun x y => .sipush (Jvm.ClassFile.Reader.signed 16 (x * 256 + y))) := fun c pc x y z h0 hx h1 h2 => dq_o2s (b := 17) (g := fun v => .sipush v) rfl rfl h0 hx h1 h2
theorem dq_c183 : dqO2 183 (fun x y => .invokespecial (x * 256 + y)) := fun c pc x y z h0 hx h1 h2 => dq_o2 (b := 183) (g := fun v => .invokespecial v) rfl rfl h0 hx h1 h2
theorem dq_c159 : dqO2 159 (fun x y => .if_icmp .eq (Jvm.ClassFile.Reader.signed 16 (x * 256 + y))) := fun c pc x y z h0 hx h1 h2 => dq_o2s (b := 159) (g := fun v => .if_icmp .eq v) rfl rfl h0 hx h1 h2
theorem dq_c161 : dqO2 161 (fun x y => .if_icmp .lt (Jvm.ClassFile.Reader.signed 16 (x * 256 + y))) := fun c pc x y z h0 hx h1 h2 => dq_o2s (b := 161) (g := fun v => .if_icmp .lt v) rfl rfl h0 hx h1 h2
theorem dq_c164 : dqO2 164 (fun x y => .if_icmp .le (Jvm.ClassFile.Reader.signed 16 (x * 256 + y))) := fun c pc x y z h0 hx h1 h2 => dq_o2s (b := 164) (g := fun v => .if_icmp .le v) rfl rfl h0 hx h1 h2
theorem dq_c187 : dqO2 187 (fun x y => .new (x * 256 + y)) := fun c pc x y z h0 hx h1 h2 => dq_o2 (b := 187) (g := fun v => .new v) rfl rfl h0 hx h1 h2
theorem dq_c19 : dqO2 19 (fun x y => .ldc_w (x * 256 + y)) := fun c pc x y z h0 hx h1 h2 => dq_o2 (b := 19) (g := fun v => .ldc_w v) rfl rfl h0 hx h1 h2
theorem dq_c158 : dqO2 158 (fun x y => .ifCond .le (Jvm.ClassFile.Reader.signed 16 (x * 256 + y))) := fun c pc x y z h0 hx h1 h2 => dq_o2s (b := 158) (g := fun v => .ifCond .le v) rfl rfl h0 hx h1 h2
theorem dq_c178 : dqO2 178 (fun x y => .getstatic (x * 256 + y)) := fun c pc x y z h0 hx h1 h2 => dq_o2 (b := 178) (g := fun v => .getstatic v) rfl rfl h0 hx h1 h2
theorem dq_c156 : dqO2 156 (fun x y => .ifCond .ge (Jvm.ClassFile.Reader.signed 16 (x * 256 + y))) := fun c pc x y z h0 hx h1 h2 => dq_o2s (b := 156) (g := fun v => .ifCond .ge v) rfl rfl h0 hx h1 h2
theorem dq_c189 : dqO2 189 (fun x y => .anewarray (x * 256 + y)) := fun c pc x y z h0 hx h1 h2 => dq_o2 (b := 189) (g := fun v => .anewarray v) rfl rfl h0 hx h1 h2
theorem dq_c157 : dqO2 157 (fun x y => .ifCond .gt (Jvm.ClassFile.Reader.signed 16 (x * 256 + y))) := fun c pc x y z h0 hx h1 h2 => dq_o2s (b := 157) (g := fun v => .ifCond .gt v) rfl rfl h0 hx h1 h2
theorem dq2_ok : ∀ x ∈ dq2, dqO2 x.1 x.2 := (dq_cons dq_c180 (dq_cons dq_c182 (dq_cons dq_c167 (dq_cons dq_c153 (dq_cons dq_c184 (dq_cons dq_c181 (dq_cons dq_c154 (dq_cons dq_c132 (dq_cons dq_c162 (dq_cons dq_c160 (dq_cons dq_c163 (dq_cons dq_c20 (dq_cons dq_c155 (dq_cons dq_c17 (dq_cons dq_c183 (dq_cons dq_c159 (dq_cons dq_c161 (dq_cons dq_c164 (dq_cons dq_c187 (dq_cons dq_c19 (dq_cons dq_c158 (dq_cons dq_c178 (dq_cons dq_c156 (dq_cons dq_c189 (dq_cons dq_c157 dq_nil)))))))))))))))))))))))))
noncomputable def dqD : List UInt8 → Option (Jvm.ClassFile.Instr × Nat)
  | [] => none
  | b :: r =>
    match dqL dq0 b.toNat with
    | some I => some (I, 1)
    | none =>
      match r with
      | [] => none
      | x :: r2 =>
        match dqL dq1 b.toNat with
        | some f => some (f x.toNat, 2)
        | none =>
          match r2 with
          | [] => none
          | y :: _ =>
            match dqL dq2 b.toNat with
            | some f => some (f x.toNat y.toNat, 3)
            | none => none
theorem dq_at {L l : List UInt8} {j : Nat} (hl : L.drop j = l) (k : Nat) : L[j + k]? = l[k]? := by rw [← hl, List.getElem?_drop]
theorem dqD_ok {c : ByteArray} {j : Nat} {v : Jvm.ClassFile.Instr × Nat} : ∀ {l : List UInt8}, c.data.toList.drop j = l → dqD l = some v → decode c j = .ok v
  | [], _, h => by cases h
  | b :: r, hl, h => by
    have h0 : c.data.toList[j]? = some b := dq_at hl 0
    unfold dqD at h
    dsimp only at h
    cases q0 : dqL dq0 b.toNat with
    | some I =>
      rw [q0] at h
      have h2 : (I, 1) = v := Option.some.inj h
      rw [← h2]
      exact dq0_ok _ (dqL_mem q0) c j b h0 rfl
    | none =>
      rw [q0] at h
      cases r with
      | nil => cases h
      | cons x r2 =>
        have h1 : c.data.toList[j + 1]? = some x := dq_at hl 1
        cases q1 : dqL dq1 b.toNat with
        | some f =>
          dsimp only at h
          rw [q1] at h
          have h2 : (f x.toNat, 2) = v := Option.some.inj h
          rw [← h2]
          exact dq1_ok _ (dqL_mem q1) c j b x h0 rfl h1
        | none =>
          dsimp only at h
          rw [q1] at h
          cases r2 with
          | nil => cases h
          | cons y r3 =>
            have h3 : c.data.toList[j + 2]? = some y := dq_at hl 2
            dsimp only at h
            cases q2 : dqL dq2 b.toNat with
            | some f =>
              rw [q2] at h
              have h2 : (f x.toNat y.toNat, 3) = v := Option.some.inj h
              rw [← h2]
              exact dq2_ok _ (dqL_mem q2) c j b x y h0 rfl h1 h3
            | none =>
              rw [q2] at h
              cases h
noncomputable def dqK : List UInt8 → Nat → List (Nat × Jvm.ClassFile.Instr × Nat) → Bool
  | [], _, r => r.isEmpty
  | b :: l, p, r =>
    match r with
    | [] => true
    | x :: r' => cond (Nat.beq p x.1) (decide (dqD (b :: l) = some x.2) && dqK l (p + 1) r') (dqK l (p + 1) (x :: r'))
theorem dqK_ok {c : ByteArray} : ∀ (l : List UInt8) (p : Nat) (r : List (Nat × Jvm.ClassFile.Instr × Nat)), c.data.toList.drop p = l → dqK l p r = true → ∀ x ∈ r, decode c x.1 = .ok x.2
  | _, _, [], _, _ => dq_nil
  | [], _, x :: r, _, h => by cases h
  | b :: l, p, x :: r, hl, h => by
    have hl2 : c.data.toList.drop (p + 1) = l := by rw [List.drop_add_one_eq_tail_drop, hl]; rfl
    have h2 : cond (Nat.beq p x.1) (decide (dqD (b :: l) = some x.2) && dqK l (p + 1) r) (dqK l (p + 1) (x :: r)) = true := h
    cases q : Nat.beq p x.1 with
    | true =>
      rw [q, cond_true, Bool.and_eq_true] at h2
      refine dq_cons ?_ (dqK_ok l (p + 1) r hl2 h2.2)
      rw [← Nat.eq_of_beq_eq_true q]
      exact dqD_ok hl (of_decide_eq_true h2.1)
    | false =>
      rw [q, cond_false] at h2
      exact dqK_ok l (p + 1) (x :: r) hl2 h2
theorem dq_get {c : ByteArray} {l : List (Nat × Jvm.ClassFile.Instr × Nat)} (h : dqK c.data.toList 0 l = true) (k : Nat) {pc : Nat} {v : Jvm.ClassFile.Instr × Nat} (hk : l[k]? = some (pc, v)) : decode c pc = .ok v := dqK_ok _ 0 l rfl h (pc, v) (List.mem_of_getElem? hk)
