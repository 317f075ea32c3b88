/-! ===== an instruction by its bytes ===== -/
def ezd_by (code : ByteArray) (p : Nat) : Nat := match code.data[p]? with
  | some u => u.toNat
  | none => 256
theorem ezd_u {code : ByteArray} {p b : Nat} (h : ezd_by code p = b) (hb : b ≠ 256) : (ClassFile.Reader.u1 : ClassFile.Decoder Nat) code p = .ok (b, p + 1) := by
  unfold ezd_by at h
  by_cases hp : p < code.size
  · have hp2 : p < code.data.size := hp
    rw [Array.getElem?_eq_getElem hp2] at h
    show (dite (p < code.size) _ _ : ClassFile.Decoder Nat) code p = _
    rw [dif_pos hp, ← h]
    rfl
  · have hp2 : ¬ p < code.data.size := hp
    rw [Array.getElem?_eq_none (Nat.le_of_not_lt hp2)] at h
    exact absurd h.symm hb
theorem ezd_b {α β : Type} {r : ClassFile.Decoder α} {f : α → ClassFile.Decoder β} {code : ByteArray} {p q : Nat} {v : α} (h : r code p = .ok (v, q)) : (bind r f) code p = f v code q := by
  have e : (bind r f) code p = Except.bind (r code p) (fun x => f x.1 code x.2) := rfl
  rw [e, h]
  rfl
theorem ezd_u2 {code : ByteArray} {p a b : Nat} (h1 : (ClassFile.Reader.u1 : ClassFile.Decoder Nat) code p = .ok (a, p + 1)) (h2 : (ClassFile.Reader.u1 : ClassFile.Decoder Nat) code (p + 1) = .ok (b, p + 2)) : (ClassFile.Reader.u2 : ClassFile.Decoder Nat) code p = .ok (a * 256 + b, p + 2) := (ezd_b h1).trans (ezd_b h2)
theorem ezd_s1 {code : ByteArray} {p a q : Nat} (h : (ClassFile.Reader.u1 : ClassFile.Decoder Nat) code p = .ok (a, q)) : (ClassFile.Reader.s1 : ClassFile.Decoder Int) code p = .ok (ClassFile.Reader.signed 8 a, q) := by
  have e : (ClassFile.Reader.s1 : ClassFile.Decoder Int) code p = Except.bind ((ClassFile.Reader.u1 : ClassFile.Decoder Nat) code p) (fun x => .ok (ClassFile.Reader.signed 8 x.1, x.2)) := rfl
  rw [e, h]
  rfl
theorem ezd_s2 {code : ByteArray} {p a q : Nat} (h : (ClassFile.Reader.u2 : ClassFile.Decoder Nat) code p = .ok (a, q)) : (ClassFile.Reader.s2 : ClassFile.Decoder Int) code p = .ok (ClassFile.Reader.signed 16 a, q) := by
  have e : (ClassFile.Reader.s2 : ClassFile.Decoder Int) code p = Except.bind ((ClassFile.Reader.u2 : ClassFile.Decoder Nat) code p) (fun x => .ok (ClassFile.Reader.signed 16 x.1, x.2)) := rfl
  rw [e, h]
  rfl
theorem ezd_d {code : ByteArray} {pc q n : Nat} {i : Instr} (h : ClassFile.Decoder.instr pc code pc = .ok (i, q)) (hn : q = pc + n) : decode code pc = .ok (i, n) := by
  have e : decode code pc = Except.bind (ClassFile.Decoder.instr pc code pc) (fun x => .ok (x.1, x.2 - pc)) := rfl
  rw [e, h, hn]
  show Except.ok (i, pc + n - pc) = _
  rw [Nat.add_sub_cancel_left]
def ezd_c (c : ClassFile.Cond) : Nat := match c with
  | .eq => 0
  | .ne => 1
  | .lt => 2
  | .ge => 3
  | .gt => 4
  | .le => 5
theorem ezd_ne {a b : Nat} (h : Nat.beq a b = false) : a ≠ b := fun e => by
  rw [e, Nat.beq_refl] at h
  exact Bool.noConfusion h
def ezd_vf (g : Nat → Nat) (i : Instr) (n : Nat) : Bool := match i with
  | .aload_n k => Nat.beq (g 0) (42 + k.val) && Nat.beq n 1
  | .iconst v => Nat.beq (g 0) (v + 3).toNat && (decide (-1 ≤ v ∧ v ≤ 5) && Nat.beq n 1)
  | .iload_n k => Nat.beq (g 0) (26 + k.val) && Nat.beq n 1
  | .getfield x0 => Nat.beq (g 0) 180 && (!(Nat.beq (g 1) 256) && !(Nat.beq (g 2) 256) && Nat.beq (g 1 * 256 + g 2) x0 && Nat.beq n 3)
  | .invokevirtual x0 => Nat.beq (g 0) 182 && (!(Nat.beq (g 1) 256) && !(Nat.beq (g 2) 256) && Nat.beq (g 1 * 256 + g 2) x0 && Nat.beq n 3)
  | .bipush x0 => Nat.beq (g 0) 16 && (!(Nat.beq (g 1) 256) && decide (ClassFile.Reader.signed 8 (g 1) = x0) && Nat.beq n 2)
  | .iload x0 => Nat.beq (g 0) 21 && (!(Nat.beq (g 1) 256) && Nat.beq (g 1) x0 && Nat.beq n 2)
  | .goto x0 => Nat.beq (g 0) 167 && (!(Nat.beq (g 1) 256) && !(Nat.beq (g 2) 256) && decide (ClassFile.Reader.signed 16 (g 1 * 256 + g 2) = x0) && Nat.beq n 3)
  | .ifCond c x0 => Nat.beq (g 0) (153 + ezd_c c) && (!(Nat.beq (g 1) 256) && !(Nat.beq (g 2) 256) && decide (ClassFile.Reader.signed 16 (g 1 * 256 + g 2) = x0) && Nat.beq n 3)
  | .if_icmp c x0 => Nat.beq (g 0) (159 + ezd_c c) && (!(Nat.beq (g 1) 256) && !(Nat.beq (g 2) 256) && decide (ClassFile.Reader.signed 16 (g 1 * 256 + g 2) = x0) && Nat.beq n 3)
  | .iadd => Nat.beq (g 0) 96 && (Nat.beq n 1)
  | .ireturn => Nat.beq (g 0) 172 && (Nat.beq n 1)
  | .iaload => Nat.beq (g 0) 46 && (Nat.beq n 1)
  | .invokestatic x0 => Nat.beq (g 0) 184 && (!(Nat.beq (g 1) 256) && !(Nat.beq (g 2) 256) && Nat.beq (g 1 * 256 + g 2) x0 && Nat.beq n 3)
  | .putfield x0 => Nat.beq (g 0) 181 && (!(Nat.beq (g 1) 256) && !(Nat.beq (g 2) 256) && Nat.beq (g 1 * 256 + g 2) x0 && Nat.beq n 3)
  | .istore x0 => Nat.beq (g 0) 54 && (!(Nat.beq (g 1) 256) && Nat.beq (g 1) x0 && Nat.beq n 2)
  | .istore_n k => Nat.beq (g 0) (59 + k.val) && Nat.beq n 1
  | .return_ => Nat.beq (g 0) 177 && (Nat.beq n 1)
  | .isub => Nat.beq (g 0) 100 && (Nat.beq n 1)
  | .iinc x0 x1 => Nat.beq (g 0) 132 && (!(Nat.beq (g 1) 256) && Nat.beq (g 1) x0 && !(Nat.beq (g 2) 256) && decide (ClassFile.Reader.signed 8 (g 2) = x1) && Nat.beq n 3)
  | .dup => Nat.beq (g 0) 89 && (Nat.beq n 1)
  | .iastore => Nat.beq (g 0) 79 && (Nat.beq n 1)
  | .sipush x0 => Nat.beq (g 0) 17 && (!(Nat.beq (g 1) 256) && !(Nat.beq (g 2) 256) && decide (ClassFile.Reader.signed 16 (g 1 * 256 + g 2) = x0) && Nat.beq n 3)
  | .ldc2_w x0 => Nat.beq (g 0) 20 && (!(Nat.beq (g 1) 256) && !(Nat.beq (g 2) 256) && Nat.beq (g 1 * 256 + g 2) x0 && Nat.beq n 3)
  | .imul => Nat.beq (g 0) 104 && (Nat.beq n 1)
  | .pop => Nat.beq (g 0) 87 && (Nat.beq n 1)
  | .lload_n k => Nat.beq (g 0) (30 + k.val) && Nat.beq n 1
  | .i2l => Nat.beq (g 0) 133 && (Nat.beq n 1)
  | .lastore => Nat.beq (g 0) 80 && (Nat.beq n 1)
  | .lload x0 => Nat.beq (g 0) 22 && (!(Nat.beq (g 1) 256) && Nat.beq (g 1) x0 && Nat.beq n 2)
  | .lstore_n k => Nat.beq (g 0) (63 + k.val) && Nat.beq n 1
  | .iand => Nat.beq (g 0) 126 && (Nat.beq n 1)
  | .invokespecial x0 => Nat.beq (g 0) 183 && (!(Nat.beq (g 1) 256) && !(Nat.beq (g 2) 256) && Nat.beq (g 1 * 256 + g 2) x0 && Nat.beq n 3)
  | .lmul => Nat.beq (g 0) 105 && (Nat.beq n 1)
  | .ishl => Nat.beq (g 0) 120 && (Nat.beq n 1)
  | .lconst k => Nat.beq (g 0) (9 + k.val) && Nat.beq n 1
  | .lstore x0 => Nat.beq (g 0) 55 && (!(Nat.beq (g 1) 256) && Nat.beq (g 1) x0 && Nat.beq n 2)
  | .irem => Nat.beq (g 0) 112 && (Nat.beq n 1)
  | .l2i => Nat.beq (g 0) 136 && (Nat.beq n 1)
  | .lcmp => Nat.beq (g 0) 148 && (Nat.beq n 1)
  | .arraylength => Nat.beq (g 0) 190 && (Nat.beq n 1)
  | .ladd => Nat.beq (g 0) 97 && (Nat.beq n 1)
  | .new x0 => Nat.beq (g 0) 187 && (!(Nat.beq (g 1) 256) && !(Nat.beq (g 2) 256) && Nat.beq (g 1 * 256 + g 2) x0 && Nat.beq n 3)
  | .ishr => Nat.beq (g 0) 122 && (Nat.beq n 1)
  | .land => Nat.beq (g 0) 127 && (Nat.beq n 1)
  | .laload => Nat.beq (g 0) 47 && (Nat.beq n 1)
  | .lreturn => Nat.beq (g 0) 173 && (Nat.beq n 1)
  | .lshl => Nat.beq (g 0) 121 && (Nat.beq n 1)
  | .lor => Nat.beq (g 0) 129 && (Nat.beq n 1)
  | .ior => Nat.beq (g 0) 128 && (Nat.beq n 1)
  | .idiv => Nat.beq (g 0) 108 && (Nat.beq n 1)
  | .dup2 => Nat.beq (g 0) 92 && (Nat.beq n 1)
  | .ixor => Nat.beq (g 0) 130 && (Nat.beq n 1)
  | .lshr => Nat.beq (g 0) 123 && (Nat.beq n 1)
  | .ldiv => Nat.beq (g 0) 109 && (Nat.beq n 1)
  | .getstatic x0 => Nat.beq (g 0) 178 && (!(Nat.beq (g 1) 256) && !(Nat.beq (g 2) 256) && Nat.beq (g 1 * 256 + g 2) x0 && Nat.beq n 3)
  | .ineg => Nat.beq (g 0) 116 && (Nat.beq n 1)
  | .ldc x0 => Nat.beq (g 0) 18 && (!(Nat.beq (g 1) 256) && Nat.beq (g 1) x0 && Nat.beq n 2)
  | .iushr => Nat.beq (g 0) 124 && (Nat.beq n 1)
  | .ldc_w x0 => Nat.beq (g 0) 19 && (!(Nat.beq (g 1) 256) && !(Nat.beq (g 2) 256) && Nat.beq (g 1 * 256 + g 2) x0 && Nat.beq n 3)
  | .ifnull x0 => Nat.beq (g 0) 198 && (!(Nat.beq (g 1) 256) && !(Nat.beq (g 2) 256) && decide (ClassFile.Reader.signed 16 (g 1 * 256 + g 2) = x0) && Nat.beq n 3)
  | .astore_n k => Nat.beq (g 0) (75 + k.val) && Nat.beq n 1
  | .lrem => Nat.beq (g 0) 113 && (Nat.beq n 1)
  | .baload => Nat.beq (g 0) 51 && (Nat.beq n 1)
  | .i2c => Nat.beq (g 0) 146 && (Nat.beq n 1)
  | .athrow => Nat.beq (g 0) 191 && (Nat.beq n 1)
  | .bastore => Nat.beq (g 0) 84 && (Nat.beq n 1)
  | .checkcast x0 => Nat.beq (g 0) 192 && (!(Nat.beq (g 1) 256) && !(Nat.beq (g 2) 256) && Nat.beq (g 1 * 256 + g 2) x0 && Nat.beq n 3)
  | .lushr => Nat.beq (g 0) 125 && (Nat.beq n 1)
  | .i2b => Nat.beq (g 0) 145 && (Nat.beq n 1)
  | .lsub => Nat.beq (g 0) 101 && (Nat.beq n 1)
  | .aload x0 => Nat.beq (g 0) 25 && (!(Nat.beq (g 1) 256) && Nat.beq (g 1) x0 && Nat.beq n 2)
  | .astore x0 => Nat.beq (g 0) 58 && (!(Nat.beq (g 1) 256) && Nat.beq (g 1) x0 && Nat.beq n 2)
  | .areturn => Nat.beq (g 0) 176 && (Nat.beq n 1)
  | .ifnonnull x0 => Nat.beq (g 0) 199 && (!(Nat.beq (g 1) 256) && !(Nat.beq (g 2) 256) && decide (ClassFile.Reader.signed 16 (g 1 * 256 + g 2) = x0) && Nat.beq n 3)
  | .aastore => Nat.beq (g 0) 83 && (Nat.beq n 1)
  | .aaload => Nat.beq (g 0) 50 && (Nat.beq n 1)
  | .aconst_null => Nat.beq (g 0) 1 && (Nat.beq n 1)
  | .pop2 => Nat.beq (g 0) 88 && (Nat.beq n 1)
  | .dup_x1 => Nat.beq (g 0) 90 && (Nat.beq n 1)
  | .lneg => Nat.beq (g 0) 117 && (Nat.beq n 1)
  | .lxor => Nat.beq (g 0) 131 && (Nat.beq n 1)
  | .caload => Nat.beq (g 0) 52 && (Nat.beq n 1)
  | .castore => Nat.beq (g 0) 85 && (Nat.beq n 1)
  | _ => false
theorem ezd_o42 {code : ByteArray} {pc : Nat} (h0 : ezd_by code pc = 42) : decode code pc = .ok (.aload_n 0, 1) := ezd_d ((ezd_b (ezd_u (p := pc) h0 (by decide)))) rfl
theorem ezd_o43 {code : ByteArray} {pc : Nat} (h0 : ezd_by code pc = 43) : decode code pc = .ok (.aload_n 1, 1) := ezd_d ((ezd_b (ezd_u (p := pc) h0 (by decide)))) rfl
theorem ezd_o44 {code : ByteArray} {pc : Nat} (h0 : ezd_by code pc = 44) : decode code pc = .ok (.aload_n 2, 1) := ezd_d ((ezd_b (ezd_u (p := pc) h0 (by decide)))) rfl
theorem ezd_o45 {code : ByteArray} {pc : Nat} (h0 : ezd_by code pc = 45) : decode code pc = .ok (.aload_n 3, 1) := ezd_d ((ezd_b (ezd_u (p := pc) h0 (by decide)))) rfl
theorem ezd_c_aload_n {code : ByteArray} {pc n : Nat} {k : Fin 4} (h : ezd_vf (fun k => ezd_by code (pc + k)) (.aload_n k) n = true) : decode code pc = .ok (.aload_n k, n) := by
  simp only [ezd_vf, Bool.and_eq_true] at h
  obtain ⟨h0, q2⟩ := h
  replace q2 := Nat.eq_of_beq_eq_true q2
  subst q2
  replace h0 := Nat.eq_of_beq_eq_true h0
  match k, h0 with
  | 0, h0 => exact ezd_o42 h0
  | 1, h0 => exact ezd_o43 h0
  | 2, h0 => exact ezd_o44 h0
  | 3, h0 => exact ezd_o45 h0
theorem ezd_o2 {code : ByteArray} {pc : Nat} (h0 : ezd_by code pc = 2) : decode code pc = .ok (.iconst (-1), 1) := ezd_d ((ezd_b (ezd_u (p := pc) h0 (by decide)))) rfl
theorem ezd_o3 {code : ByteArray} {pc : Nat} (h0 : ezd_by code pc = 3) : decode code pc = .ok (.iconst 0, 1) := ezd_d ((ezd_b (ezd_u (p := pc) h0 (by decide)))) rfl
theorem ezd_o4 {code : ByteArray} {pc : Nat} (h0 : ezd_by code pc = 4) : decode code pc = .ok (.iconst 1, 1) := ezd_d ((ezd_b (ezd_u (p := pc) h0 (by decide)))) rfl
theorem ezd_o5 {code : ByteArray} {pc : Nat} (h0 : ezd_by code pc = 5) : decode code pc = .ok (.iconst 2, 1) := ezd_d ((ezd_b (ezd_u (p := pc) h0 (by decide)))) rfl
theorem ezd_o6 {code : ByteArray} {pc : Nat} (h0 : ezd_by code pc = 6) : decode code pc = .ok (.iconst 3, 1) := ezd_d ((ezd_b (ezd_u (p := pc) h0 (by decide)))) rfl
theorem ezd_o7 {code : ByteArray} {pc : Nat} (h0 : ezd_by code pc = 7) : decode code pc = .ok (.iconst 4, 1) := ezd_d ((ezd_b (ezd_u (p := pc) h0 (by decide)))) rfl
theorem ezd_o8 {code : ByteArray} {pc : Nat} (h0 : ezd_by code pc = 8) : decode code pc = .ok (.iconst 5, 1) := ezd_d ((ezd_b (ezd_u (p := pc) h0 (by decide)))) rfl
theorem ezd_c_iconst {code : ByteArray} {pc n : Nat} {v : Int} (h : ezd_vf (fun k => ezd_by code (pc + k)) (.iconst v) n = true) : decode code pc = .ok (.iconst v, n) := by
  simp only [ezd_vf, Bool.and_eq_true, decide_eq_true_eq] at h
  obtain ⟨h0, q1, q2⟩ := h
  replace q2 := Nat.eq_of_beq_eq_true q2
  subst q2
  replace h0 := Nat.eq_of_beq_eq_true h0
  rcases (show v = -1 ∨ v = 0 ∨ v = 1 ∨ v = 2 ∨ v = 3 ∨ v = 4 ∨ v = 5 by omega) with rfl | rfl | rfl | rfl | rfl | rfl | rfl
  · exact ezd_o2 h0
  · exact ezd_o3 h0
  · exact ezd_o4 h0
  · exact ezd_o5 h0
  · exact ezd_o6 h0
  · exact ezd_o7 h0
  · exact ezd_o8 h0
theorem ezd_o26 {code : ByteArray} {pc : Nat} (h0 : ezd_by code pc = 26) : decode code pc = .ok (.iload_n 0, 1) := ezd_d ((ezd_b (ezd_u (p := pc) h0 (by decide)))) rfl
theorem ezd_o27 {code : ByteArray} {pc : Nat} (h0 : ezd_by code pc = 27) : decode code pc = .ok (.iload_n 1, 1) := ezd_d ((ezd_b (ezd_u (p := pc) h0 (by decide)))) rfl
theorem ezd_o28 {code : ByteArray} {pc : Nat} (h0 : ezd_by code pc = 28) : decode code pc = .ok (.iload_n 2, 1) := ezd_d ((ezd_b (ezd_u (p := pc) h0 (by decide)))) rfl
theorem ezd_o29 {code : ByteArray} {pc : Nat} (h0 : ezd_by code pc = 29) : decode code pc = .ok (.iload_n 3, 1) := ezd_d ((ezd_b (ezd_u (p := pc) h0 (by decide)))) rfl
theorem ezd_c_iload_n {code : ByteArray} {pc n : Nat} {k : Fin 4} (h : ezd_vf (fun k => ezd_by code (pc + k)) (.iload_n k) n = true) : decode code pc = .ok (.iload_n k, n) := by
  simp only [ezd_vf, Bool.and_eq_true] at h
  obtain ⟨h0, q2⟩ := h
  replace q2 := Nat.eq_of_beq_eq_true q2
  subst q2
  replace h0 := Nat.eq_of_beq_eq_true h0
  match k, h0 with
  | 0, h0 => exact ezd_o26 h0
  | 1, h0 => exact ezd_o27 h0
  | 2, h0 => exact ezd_o28 h0
  | 3, h0 => exact ezd_o29 h0
theorem ezd_o180 {code : ByteArray} {pc : Nat} (h0 : ezd_by code pc = 180) (g1 : ezd_by code (pc + 1) ≠ 256) (g2 : ezd_by code (pc + 2) ≠ 256) : decode code pc = .ok (.getfield (ezd_by code (pc + 1) * 256 + ezd_by code (pc + 2)), 3) := ezd_d ((ezd_b (ezd_u (p := pc) h0 (by decide))).trans ((ezd_b (ezd_u2 (ezd_u (p := pc + 1) rfl g1) (ezd_u (p := pc + 2) rfl g2))))) rfl
theorem ezd_c_getfield {code : ByteArray} {pc n : Nat} {x0 : Nat} (h : ezd_vf (fun k => ezd_by code (pc + k)) (.getfield x0) n = true) : decode code pc = .ok (.getfield x0, n) := by
  simp only [ezd_vf, Bool.and_eq_true, decide_eq_true_eq, Bool.not_eq_true'] at h
  obtain ⟨h0, ⟨⟨⟨q1, q2⟩, q3⟩, q4⟩⟩ := h
  replace q1 := ezd_ne q1
  replace q2 := ezd_ne q2
  replace q3 := Nat.eq_of_beq_eq_true q3
  replace q4 := Nat.eq_of_beq_eq_true q4
  subst q3 q4
  exact ezd_o180 (Nat.eq_of_beq_eq_true h0) q1 q2
theorem ezd_o182 {code : ByteArray} {pc : Nat} (h0 : ezd_by code pc = 182) (g1 : ezd_by code (pc + 1) ≠ 256) (g2 : ezd_by code (pc + 2) ≠ 256) : decode code pc = .ok (.invokevirtual (ezd_by code (pc + 1) * 256 + ezd_by code (pc + 2)), 3) := ezd_d ((ezd_b (ezd_u (p := pc) h0 (by decide))).trans ((ezd_b (ezd_u2 (ezd_u (p := pc + 1) rfl g1) (ezd_u (p := pc + 2) rfl g2))))) rfl
theorem ezd_c_invokevirtual {code : ByteArray} {pc n : Nat} {x0 : Nat} (h : ezd_vf (fun k => ezd_by code (pc + k)) (.invokevirtual x0) n = true) : decode code pc = .ok (.invokevirtual x0, n) := by
  simp only [ezd_vf, Bool.and_eq_true, decide_eq_true_eq, Bool.not_eq_true'] at h
  obtain ⟨h0, ⟨⟨⟨q1, q2⟩, q3⟩, q4⟩⟩ := h
  replace q1 := ezd_ne q1
  replace q2 := ezd_ne q2
  replace q3 := Nat.eq_of_beq_eq_true q3
  replace q4 := Nat.eq_of_beq_eq_true q4
  subst q3 q4
  exact ezd_o182 (Nat.eq_of_beq_eq_true h0) q1 q2
theorem ezd_o16 {code : ByteArray} {pc : Nat} (h0 : ezd_by code pc = 16) (g1 : ezd_by code (pc + 1) ≠ 256) : decode code pc = .ok (.bipush (ClassFile.Reader.signed 8 (ezd_by code (pc + 1))), 2) := ezd_d ((ezd_b (ezd_u (p := pc) h0 (by decide))).trans ((ezd_b (ezd_s1 (ezd_u (p := pc + 1) rfl g1))))) rfl
theorem ezd_c_bipush {code : ByteArray} {pc n : Nat} {x0 : Int} (h : ezd_vf (fun k => ezd_by code (pc + k)) (.bipush x0) n = true) : decode code pc = .ok (.bipush x0, n) := by
  simp only [ezd_vf, Bool.and_eq_true, decide_eq_true_eq, Bool.not_eq_true'] at h
  obtain ⟨h0, ⟨⟨q1, q2⟩, q3⟩⟩ := h
  replace q1 := ezd_ne q1
  replace q3 := Nat.eq_of_beq_eq_true q3
  subst q2 q3
  exact ezd_o16 (Nat.eq_of_beq_eq_true h0) q1
theorem ezd_o21 {code : ByteArray} {pc : Nat} (h0 : ezd_by code pc = 21) (g1 : ezd_by code (pc + 1) ≠ 256) : decode code pc = .ok (.iload (ezd_by code (pc + 1)), 2) := ezd_d ((ezd_b (ezd_u (p := pc) h0 (by decide))).trans ((ezd_b (ezd_u (p := pc + 1) rfl g1)))) rfl
theorem ezd_c_iload {code : ByteArray} {pc n : Nat} {x0 : Nat} (h : ezd_vf (fun k => ezd_by code (pc + k)) (.iload x0) n = true) : decode code pc = .ok (.iload x0, n) := by
  simp only [ezd_vf, Bool.and_eq_true, decide_eq_true_eq, Bool.not_eq_true'] at h
  obtain ⟨h0, ⟨⟨q1, q2⟩, q3⟩⟩ := h
  replace q1 := ezd_ne q1
  replace q2 := Nat.eq_of_beq_eq_true q2
  replace q3 := Nat.eq_of_beq_eq_true q3
  subst q2 q3
  exact ezd_o21 (Nat.eq_of_beq_eq_true h0) q1
theorem ezd_o167 {code : ByteArray} {pc : Nat} (h0 : ezd_by code pc = 167) (g1 : ezd_by code (pc + 1) ≠ 256) (g2 : ezd_by code (pc + 2) ≠ 256) : decode code pc = .ok (.goto (ClassFile.Reader.signed 16 (ezd_by code (pc + 1) * 256 + ezd_by code (pc + 2))), 3) := ezd_d ((ezd_b (ezd_u (p := pc) h0 (by decide))).trans ((ezd_b (ezd_s2 (ezd_u2 (ezd_u (p := pc + 1) rfl g1) (ezd_u (p := pc + 2) rfl g2)))))) rfl
theorem ezd_c_goto {code : ByteArray} {pc n : Nat} {x0 : Int} (h : ezd_vf (fun k => ezd_by code (pc + k)) (.goto x0) n = true) : decode code pc = .ok (.goto x0, n) := by
  simp only [ezd_vf, Bool.and_eq_true, decide_eq_true_eq, Bool.not_eq_true'] at h
  obtain ⟨h0, ⟨⟨⟨q1, q2⟩, q3⟩, q4⟩⟩ := h
  replace q1 := ezd_ne q1
  replace q2 := ezd_ne q2
  replace q4 := Nat.eq_of_beq_eq_true q4
  subst q3 q4
  exact ezd_o167 (Nat.eq_of_beq_eq_true h0) q1 q2
theorem ezd_o153 {code : ByteArray} {pc : Nat} (h0 : ezd_by code pc = 153) (g1 : ezd_by code (pc + 1) ≠ 256) (g2 : ezd_by code (pc + 2) ≠ 256) : decode code pc = .ok (.ifCond .eq (ClassFile.Reader.signed 16 (ezd_by code (pc + 1) * 256 + ezd_by code (pc + 2))), 3) := ezd_d ((ezd_b (ezd_u (p := pc) h0 (by decide))).trans ((ezd_b (ezd_s2 (ezd_u2 (ezd_u (p := pc + 1) rfl g1) (ezd_u (p := pc + 2) rfl g2)))))) rfl
theorem ezd_o154 {code : ByteArray} {pc : Nat} (h0 : ezd_by code pc = 154) (g1 : ezd_by code (pc + 1) ≠ 256) (g2 : ezd_by code (pc + 2) ≠ 256) : decode code pc = .ok (.ifCond .ne (ClassFile.Reader.signed 16 (ezd_by code (pc + 1) * 256 + ezd_by code (pc + 2))), 3) := ezd_d ((ezd_b (ezd_u (p := pc) h0 (by decide))).trans ((ezd_b (ezd_s2 (ezd_u2 (ezd_u (p := pc + 1) rfl g1) (ezd_u (p := pc + 2) rfl g2)))))) rfl
theorem ezd_o155 {code : ByteArray} {pc : Nat} (h0 : ezd_by code pc = 155) (g1 : ezd_by code (pc + 1) ≠ 256) (g2 : ezd_by code (pc + 2) ≠ 256) : decode code pc = .ok (.ifCond .lt (ClassFile.Reader.signed 16 (ezd_by code (pc + 1) * 256 + ezd_by code (pc + 2))), 3) := ezd_d ((ezd_b (ezd_u (p := pc) h0 (by decide))).trans ((ezd_b (ezd_s2 (ezd_u2 (ezd_u (p := pc + 1) rfl g1) (ezd_u (p := pc + 2) rfl g2)))))) rfl
theorem ezd_o156 {code : ByteArray} {pc : Nat} (h0 : ezd_by code pc = 156) (g1 : ezd_by code (pc + 1) ≠ 256) (g2 : ezd_by code (pc + 2) ≠ 256) : decode code pc = .ok (.ifCond .ge (ClassFile.Reader.signed 16 (ezd_by code (pc + 1) * 256 + ezd_by code (pc + 2))), 3) := ezd_d ((ezd_b (ezd_u (p := pc) h0 (by decide))).trans ((ezd_b (ezd_s2 (ezd_u2 (ezd_u (p := pc + 1) rfl g1) (ezd_u (p := pc + 2) rfl g2)))))) rfl
theorem ezd_o157 {code : ByteArray} {pc : Nat} (h0 : ezd_by code pc = 157) (g1 : ezd_by code (pc + 1) ≠ 256) (g2 : ezd_by code (pc + 2) ≠ 256) : decode code pc = .ok (.ifCond .gt (ClassFile.Reader.signed 16 (ezd_by code (pc + 1) * 256 + ezd_by code (pc + 2))), 3) := ezd_d ((ezd_b (ezd_u (p := pc) h0 (by decide))).trans ((ezd_b (ezd_s2 (ezd_u2 (ezd_u (p := pc + 1) rfl g1) (ezd_u (p := pc + 2) rfl g2)))))) rfl
theorem ezd_o158 {code : ByteArray} {pc : Nat} (h0 : ezd_by code pc = 158) (g1 : ezd_by code (pc + 1) ≠ 256) (g2 : ezd_by code (pc + 2) ≠ 256) : decode code pc = .ok (.ifCond .le (ClassFile.Reader.signed 16 (ezd_by code (pc + 1) * 256 + ezd_by code (pc + 2))), 3) := ezd_d ((ezd_b (ezd_u (p := pc) h0 (by decide))).trans ((ezd_b (ezd_s2 (ezd_u2 (ezd_u (p := pc + 1) rfl g1) (ezd_u (p := pc + 2) rfl g2)))))) rfl
theorem ezd_c_ifCond {code : ByteArray} {pc n : Nat} {c : ClassFile.Cond} {x0 : Int} (h : ezd_vf (fun k => ezd_by code (pc + k)) (.ifCond c x0) n = true) : decode code pc = .ok (.ifCond c x0, n) := by
  simp only [ezd_vf, Bool.and_eq_true, decide_eq_true_eq, Bool.not_eq_true'] at h
  obtain ⟨h0, ⟨⟨q1, q2⟩, q3⟩, q4⟩ := h
  replace q1 := ezd_ne q1
  replace q2 := ezd_ne q2
  replace q4 := Nat.eq_of_beq_eq_true q4
  subst q3 q4
  replace h0 := Nat.eq_of_beq_eq_true h0
  cases c
  · exact ezd_o153 h0 q1 q2
  · exact ezd_o154 h0 q1 q2
  · exact ezd_o155 h0 q1 q2
  · exact ezd_o156 h0 q1 q2
  · exact ezd_o157 h0 q1 q2
  · exact ezd_o158 h0 q1 q2
theorem ezd_o159 {code : ByteArray} {pc : Nat} (h0 : ezd_by code pc = 159) (g1 : ezd_by code (pc + 1) ≠ 256) (g2 : ezd_by code (pc + 2) ≠ 256) : decode code pc = .ok (.if_icmp .eq (ClassFile.Reader.signed 16 (ezd_by code (pc + 1) * 256 + ezd_by code (pc + 2))), 3) := ezd_d ((ezd_b (ezd_u (p := pc) h0 (by decide))).trans ((ezd_b (ezd_s2 (ezd_u2 (ezd_u (p := pc + 1) rfl g1) (ezd_u (p := pc + 2) rfl g2)))))) rfl
theorem ezd_o160 {code : ByteArray} {pc : Nat} (h0 : ezd_by code pc = 160) (g1 : ezd_by code (pc + 1) ≠ 256) (g2 : ezd_by code (pc + 2) ≠ 256) : decode code pc = .ok (.if_icmp .ne (ClassFile.Reader.signed 16 (ezd_by code (pc + 1) * 256 + ezd_by code (pc + 2))), 3) := ezd_d ((ezd_b (ezd_u (p := pc) h0 (by decide))).trans ((ezd_b (ezd_s2 (ezd_u2 (ezd_u (p := pc + 1) rfl g1) (ezd_u (p := pc + 2) rfl g2)))))) rfl
theorem ezd_o161 {code : ByteArray} {pc : Nat} (h0 : ezd_by code pc = 161) (g1 : ezd_by code (pc + 1) ≠ 256) (g2 : ezd_by code (pc + 2) ≠ 256) : decode code pc = .ok (.if_icmp .lt (ClassFile.Reader.signed 16 (ezd_by code (pc + 1) * 256 + ezd_by code (pc + 2))), 3) := ezd_d ((ezd_b (ezd_u (p := pc) h0 (by decide))).trans ((ezd_b (ezd_s2 (ezd_u2 (ezd_u (p := pc + 1) rfl g1) (ezd_u (p := pc + 2) rfl g2)))))) rfl
theorem ezd_o162 {code : ByteArray} {pc : Nat} (h0 : ezd_by code pc = 162) (g1 : ezd_by code (pc + 1) ≠ 256) (g2 : ezd_by code (pc + 2) ≠ 256) : decode code pc = .ok (.if_icmp .ge (ClassFile.Reader.signed 16 (ezd_by code (pc + 1) * 256 + ezd_by code (pc + 2))), 3) := ezd_d ((ezd_b (ezd_u (p := pc) h0 (by decide))).trans ((ezd_b (ezd_s2 (ezd_u2 (ezd_u (p := pc + 1) rfl g1) (ezd_u (p := pc + 2) rfl g2)))))) rfl
theorem ezd_o163 {code : ByteArray} {pc : Nat} (h0 : ezd_by code pc = 163) (g1 : ezd_by code (pc + 1) ≠ 256) (g2 : ezd_by code (pc + 2) ≠ 256) : decode code pc = .ok (.if_icmp .gt (ClassFile.Reader.signed 16 (ezd_by code (pc + 1) * 256 + ezd_by code (pc + 2))), 3) := ezd_d ((ezd_b (ezd_u (p := pc) h0 (by decide))).trans ((ezd_b (ezd_s2 (ezd_u2 (ezd_u (p := pc + 1) rfl g1) (ezd_u (p := pc + 2) rfl g2)))))) rfl
theorem ezd_o164 {code : ByteArray} {pc : Nat} (h0 : ezd_by code pc = 164) (g1 : ezd_by code (pc + 1) ≠ 256) (g2 : ezd_by code (pc + 2) ≠ 256) : decode code pc = .ok (.if_icmp .le (ClassFile.Reader.signed 16 (ezd_by code (pc + 1) * 256 + ezd_by code (pc + 2))), 3) := ezd_d ((ezd_b (ezd_u (p := pc) h0 (by decide))).trans ((ezd_b (ezd_s2 (ezd_u2 (ezd_u (p := pc + 1) rfl g1) (ezd_u (p := pc + 2) rfl g2)))))) rfl
theorem ezd_c_if_icmp {code : ByteArray} {pc n : Nat} {c : ClassFile.Cond} {x0 : Int} (h : ezd_vf (fun k => ezd_by code (pc + k)) (.if_icmp c x0) n = true) : decode code pc = .ok (.if_icmp c x0, n) := by
  simp only [ezd_vf, Bool.and_eq_true, decide_eq_true_eq, Bool.not_eq_true'] at h
  obtain ⟨h0, ⟨⟨q1, q2⟩, q3⟩, q4⟩ := h
  replace q1 := ezd_ne q1
  replace q2 := ezd_ne q2
  replace q4 := Nat.eq_of_beq_eq_true q4
  subst q3 q4
  replace h0 := Nat.eq_of_beq_eq_true h0
  cases c
  · exact ezd_o159 h0 q1 q2
  · exact ezd_o160 h0 q1 q2
  · exact ezd_o161 h0 q1 q2
  · exact ezd_o162 h0 q1 q2
  · exact ezd_o163 h0 q1 q2
  · exact ezd_o164 h0 q1 q2
theorem ezd_o96 {code : ByteArray} {pc : Nat} (h0 : ezd_by code pc = 96) : decode code pc = .ok (.iadd, 1) := ezd_d ((ezd_b (ezd_u (p := pc) h0 (by decide)))) rfl
theorem ezd_c_iadd {code : ByteArray} {pc n : Nat} (h : ezd_vf (fun k => ezd_by code (pc + k)) (.iadd) n = true) : decode code pc = .ok (.iadd, n) := by
  simp only [ezd_vf, Bool.and_eq_true, decide_eq_true_eq, Bool.not_eq_true'] at h
  obtain ⟨h0, q1⟩ := h
  replace q1 := Nat.eq_of_beq_eq_true q1
  subst q1
  exact ezd_o96 (Nat.eq_of_beq_eq_true h0)
theorem ezd_o172 {code : ByteArray} {pc : Nat} (h0 : ezd_by code pc = 172) : decode code pc = .ok (.ireturn, 1) := ezd_d ((ezd_b (ezd_u (p := pc) h0 (by decide)))) rfl
theorem ezd_c_ireturn {code : ByteArray} {pc n : Nat} (h : ezd_vf (fun k => ezd_by code (pc + k)) (.ireturn) n = true) : decode code pc = .ok (.ireturn, n) := by
  simp only [ezd_vf, Bool.and_eq_true, decide_eq_true_eq, Bool.not_eq_true'] at h
  obtain ⟨h0, q1⟩ := h
  replace q1 := Nat.eq_of_beq_eq_true q1
  subst q1
  exact ezd_o172 (Nat.eq_of_beq_eq_true h0)
theorem ezd_o46 {code : ByteArray} {pc : Nat} (h0 : ezd_by code pc = 46) : decode code pc = .ok (.iaload, 1) := ezd_d ((ezd_b (ezd_u (p := pc) h0 (by decide)))) rfl
theorem ezd_c_iaload {code : ByteArray} {pc n : Nat} (h : ezd_vf (fun k => ezd_by code (pc + k)) (.iaload) n = true) : decode code pc = .ok (.iaload, n) := by
  simp only [ezd_vf, Bool.and_eq_true, decide_eq_true_eq, Bool.not_eq_true'] at h
  obtain ⟨h0, q1⟩ := h
  replace q1 := Nat.eq_of_beq_eq_true q1
  subst q1
  exact ezd_o46 (Nat.eq_of_beq_eq_true h0)
theorem ezd_o184 {code : ByteArray} {pc : Nat} (h0 : ezd_by code pc = 184) (g1 : ezd_by code (pc + 1) ≠ 256) (g2 : ezd_by code (pc + 2) ≠ 256) : decode code pc = .ok (.invokestatic (ezd_by code (pc + 1) * 256 + ezd_by code (pc + 2)), 3) := ezd_d ((ezd_b (ezd_u (p := pc) h0 (by decide))).trans ((ezd_b (ezd_u2 (ezd_u (p := pc + 1) rfl g1) (ezd_u (p := pc + 2) rfl g2))))) rfl
theorem ezd_c_invokestatic {code : ByteArray} {pc n : Nat} {x0 : Nat} (h : ezd_vf (fun k => ezd_by code (pc + k)) (.invokestatic x0) n = true) : decode code pc = .ok (.invokestatic x0, n) := by
  simp only [ezd_vf, Bool.and_eq_true, decide_eq_true_eq, Bool.not_eq_true'] at h
  obtain ⟨h0, ⟨⟨⟨q1, q2⟩, q3⟩, q4⟩⟩ := h
  replace q1 := ezd_ne q1
  replace q2 := ezd_ne q2
  replace q3 := Nat.eq_of_beq_eq_true q3
  replace q4 := Nat.eq_of_beq_eq_true q4
  subst q3 q4
  exact ezd_o184 (Nat.eq_of_beq_eq_true h0) q1 q2
theorem ezd_o181 {code : ByteArray} {pc : Nat} (h0 : ezd_by code pc = 181) (g1 : ezd_by code (pc + 1) ≠ 256) (g2 : ezd_by code (pc + 2) ≠ 256) : decode code pc = .ok (.putfield (ezd_by code (pc + 1) * 256 + ezd_by code (pc + 2)), 3) := ezd_d ((ezd_b (ezd_u (p := pc) h0 (by decide))).trans ((ezd_b (ezd_u2 (ezd_u (p := pc + 1) rfl g1) (ezd_u (p := pc + 2) rfl g2))))) rfl
theorem ezd_c_putfield {code : ByteArray} {pc n : Nat} {x0 : Nat} (h : ezd_vf (fun k => ezd_by code (pc + k)) (.putfield x0) n = true) : decode code pc = .ok (.putfield x0, n) := by
  simp only [ezd_vf, Bool.and_eq_true, decide_eq_true_eq, Bool.not_eq_true'] at h
  obtain ⟨h0, ⟨⟨⟨q1, q2⟩, q3⟩, q4⟩⟩ := h
  replace q1 := ezd_ne q1
  replace q2 := ezd_ne q2
  replace q3 := Nat.eq_of_beq_eq_true q3
  replace q4 := Nat.eq_of_beq_eq_true q4
  subst q3 q4
  exact ezd_o181 (Nat.eq_of_beq_eq_true h0) q1 q2
theorem ezd_o54 {code : ByteArray} {pc : Nat} (h0 : ezd_by code pc = 54) (g1 : ezd_by code (pc + 1) ≠ 256) : decode code pc = .ok (.istore (ezd_by code (pc + 1)), 2) := ezd_d ((ezd_b (ezd_u (p := pc) h0 (by decide))).trans ((ezd_b (ezd_u (p := pc + 1) rfl g1)))) rfl
theorem ezd_c_istore {code : ByteArray} {pc n : Nat} {x0 : Nat} (h : ezd_vf (fun k => ezd_by code (pc + k)) (.istore x0) n = true) : decode code pc = .ok (.istore x0, n) := by
  simp only [ezd_vf, Bool.and_eq_true, decide_eq_true_eq, Bool.not_eq_true'] at h
  obtain ⟨h0, ⟨⟨q1, q2⟩, q3⟩⟩ := h
  replace q1 := ezd_ne q1
  replace q2 := Nat.eq_of_beq_eq_true q2
  replace q3 := Nat.eq_of_beq_eq_true q3
  subst q2 q3
  exact ezd_o54 (Nat.eq_of_beq_eq_true h0) q1
theorem ezd_o59 {code : ByteArray} {pc : Nat} (h0 : ezd_by code pc = 59) : decode code pc = .ok (.istore_n 0, 1) := ezd_d ((ezd_b (ezd_u (p := pc) h0 (by decide)))) rfl
theorem ezd_o60 {code : ByteArray} {pc : Nat} (h0 : ezd_by code pc = 60) : decode code pc = .ok (.istore_n 1, 1) := ezd_d ((ezd_b (ezd_u (p := pc) h0 (by decide)))) rfl
theorem ezd_o61 {code : ByteArray} {pc : Nat} (h0 : ezd_by code pc = 61) : decode code pc = .ok (.istore_n 2, 1) := ezd_d ((ezd_b (ezd_u (p := pc) h0 (by decide)))) rfl
theorem ezd_o62 {code : ByteArray} {pc : Nat} (h0 : ezd_by code pc = 62) : decode code pc = .ok (.istore_n 3, 1) := ezd_d ((ezd_b (ezd_u (p := pc) h0 (by decide)))) rfl
theorem ezd_c_istore_n {code : ByteArray} {pc n : Nat} {k : Fin 4} (h : ezd_vf (fun k => ezd_by code (pc + k)) (.istore_n k) n = true) : decode code pc = .ok (.istore_n k, n) := by
  simp only [ezd_vf, Bool.and_eq_true] at h
  obtain ⟨h0, q2⟩ := h
  replace q2 := Nat.eq_of_beq_eq_true q2
  subst q2
  replace h0 := Nat.eq_of_beq_eq_true h0
  match k, h0 with
  | 0, h0 => exact ezd_o59 h0
  | 1, h0 => exact ezd_o60 h0
  | 2, h0 => exact ezd_o61 h0
  | 3, h0 => exact ezd_o62 h0
theorem ezd_o177 {code : ByteArray} {pc : Nat} (h0 : ezd_by code pc = 177) : decode code pc = .ok (.return_, 1) := ezd_d ((ezd_b (ezd_u (p := pc) h0 (by decide)))) rfl
theorem ezd_c_return_ {code : ByteArray} {pc n : Nat} (h : ezd_vf (fun k => ezd_by code (pc + k)) (.return_) n = true) : decode code pc = .ok (.return_, n) := by
  simp only [ezd_vf, Bool.and_eq_true, decide_eq_true_eq, Bool.not_eq_true'] at h
  obtain ⟨h0, q1⟩ := h
  replace q1 := Nat.eq_of_beq_eq_true q1
  subst q1
  exact ezd_o177 (Nat.eq_of_beq_eq_true h0)
theorem ezd_o100 {code : ByteArray} {pc : Nat} (h0 : ezd_by code pc = 100) : decode code pc = .ok (.isub, 1) := ezd_d ((ezd_b (ezd_u (p := pc) h0 (by decide)))) rfl
theorem ezd_c_isub {code : ByteArray} {pc n : Nat} (h : ezd_vf (fun k => ezd_by code (pc + k)) (.isub) n = true) : decode code pc = .ok (.isub, n) := by
  simp only [ezd_vf, Bool.and_eq_true, decide_eq_true_eq, Bool.not_eq_true'] at h
  obtain ⟨h0, q1⟩ := h
  replace q1 := Nat.eq_of_beq_eq_true q1
  subst q1
  exact ezd_o100 (Nat.eq_of_beq_eq_true h0)
theorem ezd_o132 {code : ByteArray} {pc : Nat} (h0 : ezd_by code pc = 132) (g1 : ezd_by code (pc + 1) ≠ 256) (g2 : ezd_by code (pc + 2) ≠ 256) : decode code pc = .ok (.iinc (ezd_by code (pc + 1)) (ClassFile.Reader.signed 8 (ezd_by code (pc + 2))), 3) := ezd_d ((ezd_b (ezd_u (p := pc) h0 (by decide))).trans ((ezd_b (ezd_u (p := pc + 1) rfl g1)).trans ((ezd_b (ezd_s1 (ezd_u (p := pc + 2) rfl g2)))))) rfl
theorem ezd_c_iinc {code : ByteArray} {pc n : Nat} {x0 : Nat} {x1 : Int} (h : ezd_vf (fun k => ezd_by code (pc + k)) (.iinc x0 x1) n = true) : decode code pc = .ok (.iinc x0 x1, n) := by
  simp only [ezd_vf, Bool.and_eq_true, decide_eq_true_eq, Bool.not_eq_true'] at h
  obtain ⟨h0, ⟨⟨⟨⟨q1, q2⟩, q3⟩, q4⟩, q5⟩⟩ := h
  replace q1 := ezd_ne q1
  replace q2 := Nat.eq_of_beq_eq_true q2
  replace q3 := ezd_ne q3
  replace q5 := Nat.eq_of_beq_eq_true q5
  subst q2 q4 q5
  exact ezd_o132 (Nat.eq_of_beq_eq_true h0) q1 q3
theorem ezd_o89 {code : ByteArray} {pc : Nat} (h0 : ezd_by code pc = 89) : decode code pc = .ok (.dup, 1) := ezd_d ((ezd_b (ezd_u (p := pc) h0 (by decide)))) rfl
theorem ezd_c_dup {code : ByteArray} {pc n : Nat} (h : ezd_vf (fun k => ezd_by code (pc + k)) (.dup) n = true) : decode code pc = .ok (.dup, n) := by
  simp only [ezd_vf, Bool.and_eq_true, decide_eq_true_eq, Bool.not_eq_true'] at h
  obtain ⟨h0, q1⟩ := h
  replace q1 := Nat.eq_of_beq_eq_true q1
  subst q1
  exact ezd_o89 (Nat.eq_of_beq_eq_true h0)
theorem ezd_o79 {code : ByteArray} {pc : Nat} (h0 : ezd_by code pc = 79) : decode code pc = .ok (.iastore, 1) := ezd_d ((ezd_b (ezd_u (p := pc) h0 (by decide)))) rfl
theorem ezd_c_iastore {code : ByteArray} {pc n : Nat} (h : ezd_vf (fun k => ezd_by code (pc + k)) (.iastore) n = true) : decode code pc = .ok (.iastore, n) := by
  simp only [ezd_vf, Bool.and_eq_true, decide_eq_true_eq, Bool.not_eq_true'] at h
  obtain ⟨h0, q1⟩ := h
  replace q1 := Nat.eq_of_beq_eq_true q1
  subst q1
  exact ezd_o79 (Nat.eq_of_beq_eq_true h0)
theorem ezd_o17 {code : ByteArray} {pc : Nat} (h0 : ezd_by code pc = 17) (g1 : ezd_by code (pc + 1) ≠ 256) (g2 : ezd_by code (pc + 2) ≠ 256) : decode code pc = .ok (.sipush (ClassFile.Reader.signed 16 (ezd_by code (pc + 1) * 256 + ezd_by code (pc + 2))), 3) := ezd_d ((ezd_b (ezd_u (p := pc) h0 (by decide))).trans ((ezd_b (ezd_s2 (ezd_u2 (ezd_u (p := pc + 1) rfl g1) (ezd_u (p := pc + 2) rfl g2)))))) rfl
theorem ezd_c_sipush {code : ByteArray} {pc n : Nat} {x0 : Int} (h : ezd_vf (fun k => ezd_by code (pc + k)) (.sipush x0) n = true) : decode code pc = .ok (.sipush x0, n) := by
  simp only [ezd_vf, Bool.and_eq_true, decide_eq_true_eq, Bool.not_eq_true'] at h
  obtain ⟨h0, ⟨⟨⟨q1, q2⟩, q3⟩, q4⟩⟩ := h
  replace q1 := ezd_ne q1
  replace q2 := ezd_ne q2
  replace q4 := Nat.eq_of_beq_eq_true q4
  subst q3 q4
  exact ezd_o17 (Nat.eq_of_beq_eq_true h0) q1 q2
theorem ezd_o20 {code : ByteArray} {pc : Nat} (h0 : ezd_by code pc = 20) (g1 : ezd_by code (pc + 1) ≠ 256) (g2 : ezd_by code (pc + 2) ≠ 256) : decode code pc = .ok (.ldc2_w (ezd_by code (pc + 1) * 256 + ezd_by code (pc + 2)), 3) := ezd_d ((ezd_b (ezd_u (p := pc) h0 (by decide))).trans ((ezd_b (ezd_u2 (ezd_u (p := pc + 1) rfl g1) (ezd_u (p := pc + 2) rfl g2))))) rfl
theorem ezd_c_ldc2_w {code : ByteArray} {pc n : Nat} {x0 : Nat} (h : ezd_vf (fun k => ezd_by code (pc + k)) (.ldc2_w x0) n = true) : decode code pc = .ok (.ldc2_w x0, n) := by
  simp only [ezd_vf, Bool.and_eq_true, decide_eq_true_eq, Bool.not_eq_true'] at h
  obtain ⟨h0, ⟨⟨⟨q1, q2⟩, q3⟩, q4⟩⟩ := h
  replace q1 := ezd_ne q1
  replace q2 := ezd_ne q2
  replace q3 := Nat.eq_of_beq_eq_true q3
  replace q4 := Nat.eq_of_beq_eq_true q4
  subst q3 q4
  exact ezd_o20 (Nat.eq_of_beq_eq_true h0) q1 q2
theorem ezd_o104 {code : ByteArray} {pc : Nat} (h0 : ezd_by code pc = 104) : decode code pc = .ok (.imul, 1) := ezd_d ((ezd_b (ezd_u (p := pc) h0 (by decide)))) rfl
theorem ezd_c_imul {code : ByteArray} {pc n : Nat} (h : ezd_vf (fun k => ezd_by code (pc + k)) (.imul) n = true) : decode code pc = .ok (.imul, n) := by
  simp only [ezd_vf, Bool.and_eq_true, decide_eq_true_eq, Bool.not_eq_true'] at h
  obtain ⟨h0, q1⟩ := h
  replace q1 := Nat.eq_of_beq_eq_true q1
  subst q1
  exact ezd_o104 (Nat.eq_of_beq_eq_true h0)
theorem ezd_o87 {code : ByteArray} {pc : Nat} (h0 : ezd_by code pc = 87) : decode code pc = .ok (.pop, 1) := ezd_d ((ezd_b (ezd_u (p := pc) h0 (by decide)))) rfl
theorem ezd_c_pop {code : ByteArray} {pc n : Nat} (h : ezd_vf (fun k => ezd_by code (pc + k)) (.pop) n = true) : decode code pc = .ok (.pop, n) := by
  simp only [ezd_vf, Bool.and_eq_true, decide_eq_true_eq, Bool.not_eq_true'] at h
  obtain ⟨h0, q1⟩ := h
  replace q1 := Nat.eq_of_beq_eq_true q1
  subst q1
  exact ezd_o87 (Nat.eq_of_beq_eq_true h0)
theorem ezd_o30 {code : ByteArray} {pc : Nat} (h0 : ezd_by code pc = 30) : decode code pc = .ok (.lload_n 0, 1) := ezd_d ((ezd_b (ezd_u (p := pc) h0 (by decide)))) rfl
theorem ezd_o31 {code : ByteArray} {pc : Nat} (h0 : ezd_by code pc = 31) : decode code pc = .ok (.lload_n 1, 1) := ezd_d ((ezd_b (ezd_u (p := pc) h0 (by decide)))) rfl
theorem ezd_o32 {code : ByteArray} {pc : Nat} (h0 : ezd_by code pc = 32) : decode code pc = .ok (.lload_n 2, 1) := ezd_d ((ezd_b (ezd_u (p := pc) h0 (by decide)))) rfl
theorem ezd_o33 {code : ByteArray} {pc : Nat} (h0 : ezd_by code pc = 33) : decode code pc = .ok (.lload_n 3, 1) := ezd_d ((ezd_b (ezd_u (p := pc) h0 (by decide)))) rfl
theorem ezd_c_lload_n {code : ByteArray} {pc n : Nat} {k : Fin 4} (h : ezd_vf (fun k => ezd_by code (pc + k)) (.lload_n k) n = true) : decode code pc = .ok (.lload_n k, n) := by
  simp only [ezd_vf, Bool.and_eq_true] at h
  obtain ⟨h0, q2⟩ := h
  replace q2 := Nat.eq_of_beq_eq_true q2
  subst q2
  replace h0 := Nat.eq_of_beq_eq_true h0
  match k, h0 with
  | 0, h0 => exact ezd_o30 h0
  | 1, h0 => exact ezd_o31 h0
  | 2, h0 => exact ezd_o32 h0
  | 3, h0 => exact ezd_o33 h0
theorem ezd_o133 {code : ByteArray} {pc : Nat} (h0 : ezd_by code pc = 133) : decode code pc = .ok (.i2l, 1) := ezd_d ((ezd_b (ezd_u (p := pc) h0 (by decide)))) rfl
theorem ezd_c_i2l {code : ByteArray} {pc n : Nat} (h : ezd_vf (fun k => ezd_by code (pc + k)) (.i2l) n = true) : decode code pc = .ok (.i2l, n) := by
  simp only [ezd_vf, Bool.and_eq_true, decide_eq_true_eq, Bool.not_eq_true'] at h
  obtain ⟨h0, q1⟩ := h
  replace q1 := Nat.eq_of_beq_eq_true q1
  subst q1
  exact ezd_o133 (Nat.eq_of_beq_eq_true h0)
theorem ezd_o80 {code : ByteArray} {pc : Nat} (h0 : ezd_by code pc = 80) : decode code pc = .ok (.lastore, 1) := ezd_d ((ezd_b (ezd_u (p := pc) h0 (by decide)))) rfl
theorem ezd_c_lastore {code : ByteArray} {pc n : Nat} (h : ezd_vf (fun k => ezd_by code (pc + k)) (.lastore) n = true) : decode code pc = .ok (.lastore, n) := by
  simp only [ezd_vf, Bool.and_eq_true, decide_eq_true_eq, Bool.not_eq_true'] at h
  obtain ⟨h0, q1⟩ := h
  replace q1 := Nat.eq_of_beq_eq_true q1
  subst q1
  exact ezd_o80 (Nat.eq_of_beq_eq_true h0)
theorem ezd_o22 {code : ByteArray} {pc : Nat} (h0 : ezd_by code pc = 22) (g1 : ezd_by code (pc + 1) ≠ 256) : decode code pc = .ok (.lload (ezd_by code (pc + 1)), 2) := ezd_d ((ezd_b (ezd_u (p := pc) h0 (by decide))).trans ((ezd_b (ezd_u (p := pc + 1) rfl g1)))) rfl
theorem ezd_c_lload {code : ByteArray} {pc n : Nat} {x0 : Nat} (h : ezd_vf (fun k => ezd_by code (pc + k)) (.lload x0) n = true) : decode code pc = .ok (.lload x0, n) := by
  simp only [ezd_vf, Bool.and_eq_true, decide_eq_true_eq, Bool.not_eq_true'] at h
  obtain ⟨h0, ⟨⟨q1, q2⟩, q3⟩⟩ := h
  replace q1 := ezd_ne q1
  replace q2 := Nat.eq_of_beq_eq_true q2
  replace q3 := Nat.eq_of_beq_eq_true q3
  subst q2 q3
  exact ezd_o22 (Nat.eq_of_beq_eq_true h0) q1
theorem ezd_o63 {code : ByteArray} {pc : Nat} (h0 : ezd_by code pc = 63) : decode code pc = .ok (.lstore_n 0, 1) := ezd_d ((ezd_b (ezd_u (p := pc) h0 (by decide)))) rfl
theorem ezd_o64 {code : ByteArray} {pc : Nat} (h0 : ezd_by code pc = 64) : decode code pc = .ok (.lstore_n 1, 1) := ezd_d ((ezd_b (ezd_u (p := pc) h0 (by decide)))) rfl
theorem ezd_o65 {code : ByteArray} {pc : Nat} (h0 : ezd_by code pc = 65) : decode code pc = .ok (.lstore_n 2, 1) := ezd_d ((ezd_b (ezd_u (p := pc) h0 (by decide)))) rfl
theorem ezd_o66 {code : ByteArray} {pc : Nat} (h0 : ezd_by code pc = 66) : decode code pc = .ok (.lstore_n 3, 1) := ezd_d ((ezd_b (ezd_u (p := pc) h0 (by decide)))) rfl
theorem ezd_c_lstore_n {code : ByteArray} {pc n : Nat} {k : Fin 4} (h : ezd_vf (fun k => ezd_by code (pc + k)) (.lstore_n k) n = true) : decode code pc = .ok (.lstore_n k, n) := by
  simp only [ezd_vf, Bool.and_eq_true] at h
  obtain ⟨h0, q2⟩ := h
  replace q2 := Nat.eq_of_beq_eq_true q2
  subst q2
  replace h0 := Nat.eq_of_beq_eq_true h0
  match k, h0 with
  | 0, h0 => exact ezd_o63 h0
  | 1, h0 => exact ezd_o64 h0
  | 2, h0 => exact ezd_o65 h0
  | 3, h0 => exact ezd_o66 h0
theorem ezd_o126 {code : ByteArray} {pc : Nat} (h0 : ezd_by code pc = 126) : decode code pc = .ok (.iand, 1) := ezd_d ((ezd_b (ezd_u (p := pc) h0 (by decide)))) rfl
theorem ezd_c_iand {code : ByteArray} {pc n : Nat} (h : ezd_vf (fun k => ezd_by code (pc + k)) (.iand) n = true) : decode code pc = .ok (.iand, n) := by
  simp only [ezd_vf, Bool.and_eq_true, decide_eq_true_eq, Bool.not_eq_true'] at h
  obtain ⟨h0, q1⟩ := h
  replace q1 := Nat.eq_of_beq_eq_true q1
  subst q1
  exact ezd_o126 (Nat.eq_of_beq_eq_true h0)
theorem ezd_o183 {code : ByteArray} {pc : Nat} (h0 : ezd_by code pc = 183) (g1 : ezd_by code (pc + 1) ≠ 256) (g2 : ezd_by code (pc + 2) ≠ 256) : decode code pc = .ok (.invokespecial (ezd_by code (pc + 1) * 256 + ezd_by code (pc + 2)), 3) := ezd_d ((ezd_b (ezd_u (p := pc) h0 (by decide))).trans ((ezd_b (ezd_u2 (ezd_u (p := pc + 1) rfl g1) (ezd_u (p := pc + 2) rfl g2))))) rfl
theorem ezd_c_invokespecial {code : ByteArray} {pc n : Nat} {x0 : Nat} (h : ezd_vf (fun k => ezd_by code (pc + k)) (.invokespecial x0) n = true) : decode code pc = .ok (.invokespecial x0, n) := by
  simp only [ezd_vf, Bool.and_eq_true, decide_eq_true_eq, Bool.not_eq_true'] at h
  obtain ⟨h0, ⟨⟨⟨q1, q2⟩, q3⟩, q4⟩⟩ := h
  replace q1 := ezd_ne q1
  replace q2 := ezd_ne q2
  replace q3 := Nat.eq_of_beq_eq_true q3
  replace q4 := Nat.eq_of_beq_eq_true q4
  subst q3 q4
  exact ezd_o183 (Nat.eq_of_beq_eq_true h0) q1 q2
theorem ezd_o105 {code : ByteArray} {pc : Nat} (h0 : ezd_by code pc = 105) : decode code pc = .ok (.lmul, 1) := ezd_d ((ezd_b (ezd_u (p := pc) h0 (by decide)))) rfl
theorem ezd_c_lmul {code : ByteArray} {pc n : Nat} (h : ezd_vf (fun k => ezd_by code (pc + k)) (.lmul) n = true) : decode code pc = .ok (.lmul, n) := by
  simp only [ezd_vf, Bool.and_eq_true, decide_eq_true_eq, Bool.not_eq_true'] at h
  obtain ⟨h0, q1⟩ := h
  replace q1 := Nat.eq_of_beq_eq_true q1
  subst q1
  exact ezd_o105 (Nat.eq_of_beq_eq_true h0)
theorem ezd_o120 {code : ByteArray} {pc : Nat} (h0 : ezd_by code pc = 120) : decode code pc = .ok (.ishl, 1) := ezd_d ((ezd_b (ezd_u (p := pc) h0 (by decide)))) rfl
theorem ezd_c_ishl {code : ByteArray} {pc n : Nat} (h : ezd_vf (fun k => ezd_by code (pc + k)) (.ishl) n = true) : decode code pc = .ok (.ishl, n) := by
  simp only [ezd_vf, Bool.and_eq_true, decide_eq_true_eq, Bool.not_eq_true'] at h
  obtain ⟨h0, q1⟩ := h
  replace q1 := Nat.eq_of_beq_eq_true q1
  subst q1
  exact ezd_o120 (Nat.eq_of_beq_eq_true h0)
theorem ezd_o9 {code : ByteArray} {pc : Nat} (h0 : ezd_by code pc = 9) : decode code pc = .ok (.lconst 0, 1) := ezd_d ((ezd_b (ezd_u (p := pc) h0 (by decide)))) rfl
theorem ezd_o10 {code : ByteArray} {pc : Nat} (h0 : ezd_by code pc = 10) : decode code pc = .ok (.lconst 1, 1) := ezd_d ((ezd_b (ezd_u (p := pc) h0 (by decide)))) rfl
theorem ezd_c_lconst {code : ByteArray} {pc n : Nat} {k : Fin 2} (h : ezd_vf (fun k => ezd_by code (pc + k)) (.lconst k) n = true) : decode code pc = .ok (.lconst k, n) := by
  simp only [ezd_vf, Bool.and_eq_true] at h
  obtain ⟨h0, q2⟩ := h
  replace q2 := Nat.eq_of_beq_eq_true q2
  subst q2
  replace h0 := Nat.eq_of_beq_eq_true h0
  match k, h0 with
  | 0, h0 => exact ezd_o9 h0
  | 1, h0 => exact ezd_o10 h0
theorem ezd_o55 {code : ByteArray} {pc : Nat} (h0 : ezd_by code pc = 55) (g1 : ezd_by code (pc + 1) ≠ 256) : decode code pc = .ok (.lstore (ezd_by code (pc + 1)), 2) := ezd_d ((ezd_b (ezd_u (p := pc) h0 (by decide))).trans ((ezd_b (ezd_u (p := pc + 1) rfl g1)))) rfl
theorem ezd_c_lstore {code : ByteArray} {pc n : Nat} {x0 : Nat} (h : ezd_vf (fun k => ezd_by code (pc + k)) (.lstore x0) n = true) : decode code pc = .ok (.lstore x0, n) := by
  simp only [ezd_vf, Bool.and_eq_true, decide_eq_true_eq, Bool.not_eq_true'] at h
  obtain ⟨h0, ⟨⟨q1, q2⟩, q3⟩⟩ := h
  replace q1 := ezd_ne q1
  replace q2 := Nat.eq_of_beq_eq_true q2
  replace q3 := Nat.eq_of_beq_eq_true q3
  subst q2 q3
  exact ezd_o55 (Nat.eq_of_beq_eq_true h0) q1
theorem ezd_o112 {code : ByteArray} {pc : Nat} (h0 : ezd_by code pc = 112) : decode code pc = .ok (.irem, 1) := ezd_d ((ezd_b (ezd_u (p := pc) h0 (by decide)))) rfl
theorem ezd_c_irem {code : ByteArray} {pc n : Nat} (h : ezd_vf (fun k => ezd_by code (pc + k)) (.irem) n = true) : decode code pc = .ok (.irem, n) := by
  simp only [ezd_vf, Bool.and_eq_true, decide_eq_true_eq, Bool.not_eq_true'] at h
  obtain ⟨h0, q1⟩ := h
  replace q1 := Nat.eq_of_beq_eq_true q1
  subst q1
  exact ezd_o112 (Nat.eq_of_beq_eq_true h0)
theorem ezd_o136 {code : ByteArray} {pc : Nat} (h0 : ezd_by code pc = 136) : decode code pc = .ok (.l2i, 1) := ezd_d ((ezd_b (ezd_u (p := pc) h0 (by decide)))) rfl
theorem ezd_c_l2i {code : ByteArray} {pc n : Nat} (h : ezd_vf (fun k => ezd_by code (pc + k)) (.l2i) n = true) : decode code pc = .ok (.l2i, n) := by
  simp only [ezd_vf, Bool.and_eq_true, decide_eq_true_eq, Bool.not_eq_true'] at h
  obtain ⟨h0, q1⟩ := h
  replace q1 := Nat.eq_of_beq_eq_true q1
  subst q1
  exact ezd_o136 (Nat.eq_of_beq_eq_true h0)
theorem ezd_o148 {code : ByteArray} {pc : Nat} (h0 : ezd_by code pc = 148) : decode code pc = .ok (.lcmp, 1) := ezd_d ((ezd_b (ezd_u (p := pc) h0 (by decide)))) rfl
theorem ezd_c_lcmp {code : ByteArray} {pc n : Nat} (h : ezd_vf (fun k => ezd_by code (pc + k)) (.lcmp) n = true) : decode code pc = .ok (.lcmp, n) := by
  simp only [ezd_vf, Bool.and_eq_true, decide_eq_true_eq, Bool.not_eq_true'] at h
  obtain ⟨h0, q1⟩ := h
  replace q1 := Nat.eq_of_beq_eq_true q1
  subst q1
  exact ezd_o148 (Nat.eq_of_beq_eq_true h0)
theorem ezd_o190 {code : ByteArray} {pc : Nat} (h0 : ezd_by code pc = 190) : decode code pc = .ok (.arraylength, 1) := ezd_d ((ezd_b (ezd_u (p := pc) h0 (by decide)))) rfl
theorem ezd_c_arraylength {code : ByteArray} {pc n : Nat} (h : ezd_vf (fun k => ezd_by code (pc + k)) (.arraylength) n = true) : decode code pc = .ok (.arraylength, n) := by
  simp only [ezd_vf, Bool.and_eq_true, decide_eq_true_eq, Bool.not_eq_true'] at h
  obtain ⟨h0, q1⟩ := h
  replace q1 := Nat.eq_of_beq_eq_true q1
  subst q1
  exact ezd_o190 (Nat.eq_of_beq_eq_true h0)
theorem ezd_o97 {code : ByteArray} {pc : Nat} (h0 : ezd_by code pc = 97) : decode code pc = .ok (.ladd, 1) := ezd_d ((ezd_b (ezd_u (p := pc) h0 (by decide)))) rfl
theorem ezd_c_ladd {code : ByteArray} {pc n : Nat} (h : ezd_vf (fun k => ezd_by code (pc + k)) (.ladd) n = true) : decode code pc = .ok (.ladd, n) := by
  simp only [ezd_vf, Bool.and_eq_true, decide_eq_true_eq, Bool.not_eq_true'] at h
  obtain ⟨h0, q1⟩ := h
  replace q1 := Nat.eq_of_beq_eq_true q1
  subst q1
  exact ezd_o97 (Nat.eq_of_beq_eq_true h0)
theorem ezd_o187 {code : ByteArray} {pc : Nat} (h0 : ezd_by code pc = 187) (g1 : ezd_by code (pc + 1) ≠ 256) (g2 : ezd_by code (pc + 2) ≠ 256) : decode code pc = .ok (.new (ezd_by code (pc + 1) * 256 + ezd_by code (pc + 2)), 3) := ezd_d ((ezd_b (ezd_u (p := pc) h0 (by decide))).trans ((ezd_b (ezd_u2 (ezd_u (p := pc + 1) rfl g1) (ezd_u (p := pc + 2) rfl g2))))) rfl
theorem ezd_c_new {code : ByteArray} {pc n : Nat} {x0 : Nat} (h : ezd_vf (fun k => ezd_by code (pc + k)) (.new x0) n = true) : decode code pc = .ok (.new x0, n) := by
  simp only [ezd_vf, Bool.and_eq_true, decide_eq_true_eq, Bool.not_eq_true'] at h
  obtain ⟨h0, ⟨⟨⟨q1, q2⟩, q3⟩, q4⟩⟩ := h
  replace q1 := ezd_ne q1
  replace q2 := ezd_ne q2
  replace q3 := Nat.eq_of_beq_eq_true q3
  replace q4 := Nat.eq_of_beq_eq_true q4
  subst q3 q4
  exact ezd_o187 (Nat.eq_of_beq_eq_true h0) q1 q2
theorem ezd_o122 {code : ByteArray} {pc : Nat} (h0 : ezd_by code pc = 122) : decode code pc = .ok (.ishr, 1) := ezd_d ((ezd_b (ezd_u (p := pc) h0 (by decide)))) rfl
theorem ezd_c_ishr {code : ByteArray} {pc n : Nat} (h : ezd_vf (fun k => ezd_by code (pc + k)) (.ishr) n = true) : decode code pc = .ok (.ishr, n) := by
  simp only [ezd_vf, Bool.and_eq_true, decide_eq_true_eq, Bool.not_eq_true'] at h
  obtain ⟨h0, q1⟩ := h
  replace q1 := Nat.eq_of_beq_eq_true q1
  subst q1
  exact ezd_o122 (Nat.eq_of_beq_eq_true h0)
theorem ezd_o127 {code : ByteArray} {pc : Nat} (h0 : ezd_by code pc = 127) : decode code pc = .ok (.land, 1) := ezd_d ((ezd_b (ezd_u (p := pc) h0 (by decide)))) rfl
theorem ezd_c_land {code : ByteArray} {pc n : Nat} (h : ezd_vf (fun k => ezd_by code (pc + k)) (.land) n = true) : decode code pc = .ok (.land, n) := by
  simp only [ezd_vf, Bool.and_eq_true, decide_eq_true_eq, Bool.not_eq_true'] at h
  obtain ⟨h0, q1⟩ := h
  replace q1 := Nat.eq_of_beq_eq_true q1
  subst q1
  exact ezd_o127 (Nat.eq_of_beq_eq_true h0)
theorem ezd_o47 {code : ByteArray} {pc : Nat} (h0 : ezd_by code pc = 47) : decode code pc = .ok (.laload, 1) := ezd_d ((ezd_b (ezd_u (p := pc) h0 (by decide)))) rfl
theorem ezd_c_laload {code : ByteArray} {pc n : Nat} (h : ezd_vf (fun k => ezd_by code (pc + k)) (.laload) n = true) : decode code pc = .ok (.laload, n) := by
  simp only [ezd_vf, Bool.and_eq_true, decide_eq_true_eq, Bool.not_eq_true'] at h
  obtain ⟨h0, q1⟩ := h
  replace q1 := Nat.eq_of_beq_eq_true q1
  subst q1
  exact ezd_o47 (Nat.eq_of_beq_eq_true h0)
theorem ezd_o173 {code : ByteArray} {pc : Nat} (h0 : ezd_by code pc = 173) : decode code pc = .ok (.lreturn, 1) := ezd_d ((ezd_b (ezd_u (p := pc) h0 (by decide)))) rfl
theorem ezd_c_lreturn {code : ByteArray} {pc n : Nat} (h : ezd_vf (fun k => ezd_by code (pc + k)) (.lreturn) n = true) : decode code pc = .ok (.lreturn, n) := by
  simp only [ezd_vf, Bool.and_eq_true, decide_eq_true_eq, Bool.not_eq_true'] at h
  obtain ⟨h0, q1⟩ := h
  replace q1 := Nat.eq_of_beq_eq_true q1
  subst q1
  exact ezd_o173 (Nat.eq_of_beq_eq_true h0)
theorem ezd_o121 {code : ByteArray} {pc : Nat} (h0 : ezd_by code pc = 121) : decode code pc = .ok (.lshl, 1) := ezd_d ((ezd_b (ezd_u (p := pc) h0 (by decide)))) rfl
theorem ezd_c_lshl {code : ByteArray} {pc n : Nat} (h : ezd_vf (fun k => ezd_by code (pc + k)) (.lshl) n = true) : decode code pc = .ok (.lshl, n) := by
  simp only [ezd_vf, Bool.and_eq_true, decide_eq_true_eq, Bool.not_eq_true'] at h
  obtain ⟨h0, q1⟩ := h
  replace q1 := Nat.eq_of_beq_eq_true q1
  subst q1
  exact ezd_o121 (Nat.eq_of_beq_eq_true h0)
theorem ezd_o129 {code : ByteArray} {pc : Nat} (h0 : ezd_by code pc = 129) : decode code pc = .ok (.lor, 1) := ezd_d ((ezd_b (ezd_u (p := pc) h0 (by decide)))) rfl
theorem ezd_c_lor {code : ByteArray} {pc n : Nat} (h : ezd_vf (fun k => ezd_by code (pc + k)) (.lor) n = true) : decode code pc = .ok (.lor, n) := by
  simp only [ezd_vf, Bool.and_eq_true, decide_eq_true_eq, Bool.not_eq_true'] at h
  obtain ⟨h0, q1⟩ := h
  replace q1 := Nat.eq_of_beq_eq_true q1
  subst q1
  exact ezd_o129 (Nat.eq_of_beq_eq_true h0)
theorem ezd_o128 {code : ByteArray} {pc : Nat} (h0 : ezd_by code pc = 128) : decode code pc = .ok (.ior, 1) := ezd_d ((ezd_b (ezd_u (p := pc) h0 (by decide)))) rfl
theorem ezd_c_ior {code : ByteArray} {pc n : Nat} (h : ezd_vf (fun k => ezd_by code (pc + k)) (.ior) n = true) : decode code pc = .ok (.ior, n) := by
  simp only [ezd_vf, Bool.and_eq_true, decide_eq_true_eq, Bool.not_eq_true'] at h
  obtain ⟨h0, q1⟩ := h
  replace q1 := Nat.eq_of_beq_eq_true q1
  subst q1
  exact ezd_o128 (Nat.eq_of_beq_eq_true h0)
theorem ezd_o108 {code : ByteArray} {pc : Nat} (h0 : ezd_by code pc = 108) : decode code pc = .ok (.idiv, 1) := ezd_d ((ezd_b (ezd_u (p := pc) h0 (by decide)))) rfl
theorem ezd_c_idiv {code : ByteArray} {pc n : Nat} (h : ezd_vf (fun k => ezd_by code (pc + k)) (.idiv) n = true) : decode code pc = .ok (.idiv, n) := by
  simp only [ezd_vf, Bool.and_eq_true, decide_eq_true_eq, Bool.not_eq_true'] at h
  obtain ⟨h0, q1⟩ := h
  replace q1 := Nat.eq_of_beq_eq_true q1
  subst q1
  exact ezd_o108 (Nat.eq_of_beq_eq_true h0)
theorem ezd_o92 {code : ByteArray} {pc : Nat} (h0 : ezd_by code pc = 92) : decode code pc = .ok (.dup2, 1) := ezd_d ((ezd_b (ezd_u (p := pc) h0 (by decide)))) rfl
theorem ezd_c_dup2 {code : ByteArray} {pc n : Nat} (h : ezd_vf (fun k => ezd_by code (pc + k)) (.dup2) n = true) : decode code pc = .ok (.dup2, n) := by
  simp only [ezd_vf, Bool.and_eq_true, decide_eq_true_eq, Bool.not_eq_true'] at h
  obtain ⟨h0, q1⟩ := h
  replace q1 := Nat.eq_of_beq_eq_true q1
  subst q1
  exact ezd_o92 (Nat.eq_of_beq_eq_true h0)
theorem ezd_o130 {code : ByteArray} {pc : Nat} (h0 : ezd_by code pc = 130) : decode code pc = .ok (.ixor, 1) := ezd_d ((ezd_b (ezd_u (p := pc) h0 (by decide)))) rfl
theorem ezd_c_ixor {code : ByteArray} {pc n : Nat} (h : ezd_vf (fun k => ezd_by code (pc + k)) (.ixor) n = true) : decode code pc = .ok (.ixor, n) := by
  simp only [ezd_vf, Bool.and_eq_true, decide_eq_true_eq, Bool.not_eq_true'] at h
  obtain ⟨h0, q1⟩ := h
  replace q1 := Nat.eq_of_beq_eq_true q1
  subst q1
  exact ezd_o130 (Nat.eq_of_beq_eq_true h0)
theorem ezd_o123 {code : ByteArray} {pc : Nat} (h0 : ezd_by code pc = 123) : decode code pc = .ok (.lshr, 1) := ezd_d ((ezd_b (ezd_u (p := pc) h0 (by decide)))) rfl
theorem ezd_c_lshr {code : ByteArray} {pc n : Nat} (h : ezd_vf (fun k => ezd_by code (pc + k)) (.lshr) n = true) : decode code pc = .ok (.lshr, n) := by
  simp only [ezd_vf, Bool.and_eq_true, decide_eq_true_eq, Bool.not_eq_true'] at h
  obtain ⟨h0, q1⟩ := h
  replace q1 := Nat.eq_of_beq_eq_true q1
  subst q1
  exact ezd_o123 (Nat.eq_of_beq_eq_true h0)
theorem ezd_o109 {code : ByteArray} {pc : Nat} (h0 : ezd_by code pc = 109) : decode code pc = .ok (.ldiv, 1) := ezd_d ((ezd_b (ezd_u (p := pc) h0 (by decide)))) rfl
theorem ezd_c_ldiv {code : ByteArray} {pc n : Nat} (h : ezd_vf (fun k => ezd_by code (pc + k)) (.ldiv) n = true) : decode code pc = .ok (.ldiv, n) := by
  simp only [ezd_vf, Bool.and_eq_true, decide_eq_true_eq, Bool.not_eq_true'] at h
  obtain ⟨h0, q1⟩ := h
  replace q1 := Nat.eq_of_beq_eq_true q1
  subst q1
  exact ezd_o109 (Nat.eq_of_beq_eq_true h0)
theorem ezd_o178 {code : ByteArray} {pc : Nat} (h0 : ezd_by code pc = 178) (g1 : ezd_by code (pc + 1) ≠ 256) (g2 : ezd_by code (pc + 2) ≠ 256) : decode code pc = .ok (.getstatic (ezd_by code (pc + 1) * 256 + ezd_by code (pc + 2)), 3) := ezd_d ((ezd_b (ezd_u (p := pc) h0 (by decide))).trans ((ezd_b (ezd_u2 (ezd_u (p := pc + 1) rfl g1) (ezd_u (p := pc + 2) rfl g2))))) rfl
theorem ezd_c_getstatic {code : ByteArray} {pc n : Nat} {x0 : Nat} (h : ezd_vf (fun k => ezd_by code (pc + k)) (.getstatic x0) n = true) : decode code pc = .ok (.getstatic x0, n) := by
  simp only [ezd_vf, Bool.and_eq_true, decide_eq_true_eq, Bool.not_eq_true'] at h
  obtain ⟨h0, ⟨⟨⟨q1, q2⟩, q3⟩, q4⟩⟩ := h
  replace q1 := ezd_ne q1
  replace q2 := ezd_ne q2
  replace q3 := Nat.eq_of_beq_eq_true q3
  replace q4 := Nat.eq_of_beq_eq_true q4
  subst q3 q4
  exact ezd_o178 (Nat.eq_of_beq_eq_true h0) q1 q2
theorem ezd_o116 {code : ByteArray} {pc : Nat} (h0 : ezd_by code pc = 116) : decode code pc = .ok (.ineg, 1) := ezd_d ((ezd_b (ezd_u (p := pc) h0 (by decide)))) rfl
theorem ezd_c_ineg {code : ByteArray} {pc n : Nat} (h : ezd_vf (fun k => ezd_by code (pc + k)) (.ineg) n = true) : decode code pc = .ok (.ineg, n) := by
  simp only [ezd_vf, Bool.and_eq_true, decide_eq_true_eq, Bool.not_eq_true'] at h
  obtain ⟨h0, q1⟩ := h
  replace q1 := Nat.eq_of_beq_eq_true q1
  subst q1
  exact ezd_o116 (Nat.eq_of_beq_eq_true h0)
theorem ezd_o18 {code : ByteArray} {pc : Nat} (h0 : ezd_by code pc = 18) (g1 : ezd_by code (pc + 1) ≠ 256) : decode code pc = .ok (.ldc (ezd_by code (pc + 1)), 2) := ezd_d ((ezd_b (ezd_u (p := pc) h0 (by decide))).trans ((ezd_b (ezd_u (p := pc + 1) rfl g1)))) rfl
theorem ezd_c_ldc {code : ByteArray} {pc n : Nat} {x0 : Nat} (h : ezd_vf (fun k => ezd_by code (pc + k)) (.ldc x0) n = true) : decode code pc = .ok (.ldc x0, n) := by
  simp only [ezd_vf, Bool.and_eq_true, decide_eq_true_eq, Bool.not_eq_true'] at h
  obtain ⟨h0, ⟨⟨q1, q2⟩, q3⟩⟩ := h
  replace q1 := ezd_ne q1
  replace q2 := Nat.eq_of_beq_eq_true q2
  replace q3 := Nat.eq_of_beq_eq_true q3
  subst q2 q3
  exact ezd_o18 (Nat.eq_of_beq_eq_true h0) q1
theorem ezd_o124 {code : ByteArray} {pc : Nat} (h0 : ezd_by code pc = 124) : decode code pc = .ok (.iushr, 1) := ezd_d ((ezd_b (ezd_u (p := pc) h0 (by decide)))) rfl
theorem ezd_c_iushr {code : ByteArray} {pc n : Nat} (h : ezd_vf (fun k => ezd_by code (pc + k)) (.iushr) n = true) : decode code pc = .ok (.iushr, n) := by
  simp only [ezd_vf, Bool.and_eq_true, decide_eq_true_eq, Bool.not_eq_true'] at h
  obtain ⟨h0, q1⟩ := h
  replace q1 := Nat.eq_of_beq_eq_true q1
  subst q1
  exact ezd_o124 (Nat.eq_of_beq_eq_true h0)
theorem ezd_o19 {code : ByteArray} {pc : Nat} (h0 : ezd_by code pc = 19) (g1 : ezd_by code (pc + 1) ≠ 256) (g2 : ezd_by code (pc + 2) ≠ 256) : decode code pc = .ok (.ldc_w (ezd_by code (pc + 1) * 256 + ezd_by code (pc + 2)), 3) := ezd_d ((ezd_b (ezd_u (p := pc) h0 (by decide))).trans ((ezd_b (ezd_u2 (ezd_u (p := pc + 1) rfl g1) (ezd_u (p := pc + 2) rfl g2))))) rfl
theorem ezd_c_ldc_w {code : ByteArray} {pc n : Nat} {x0 : Nat} (h : ezd_vf (fun k => ezd_by code (pc + k)) (.ldc_w x0) n = true) : decode code pc = .ok (.ldc_w x0, n) := by
  simp only [ezd_vf, Bool.and_eq_true, decide_eq_true_eq, Bool.not_eq_true'] at h
  obtain ⟨h0, ⟨⟨⟨q1, q2⟩, q3⟩, q4⟩⟩ := h
  replace q1 := ezd_ne q1
  replace q2 := ezd_ne q2
  replace q3 := Nat.eq_of_beq_eq_true q3
  replace q4 := Nat.eq_of_beq_eq_true q4
  subst q3 q4
  exact ezd_o19 (Nat.eq_of_beq_eq_true h0) q1 q2
theorem ezd_o198 {code : ByteArray} {pc : Nat} (h0 : ezd_by code pc = 198) (g1 : ezd_by code (pc + 1) ≠ 256) (g2 : ezd_by code (pc + 2) ≠ 256) : decode code pc = .ok (.ifnull (ClassFile.Reader.signed 16 (ezd_by code (pc + 1) * 256 + ezd_by code (pc + 2))), 3) := ezd_d ((ezd_b (ezd_u (p := pc) h0 (by decide))).trans ((ezd_b (ezd_s2 (ezd_u2 (ezd_u (p := pc + 1) rfl g1) (ezd_u (p := pc + 2) rfl g2)))))) rfl
theorem ezd_c_ifnull {code : ByteArray} {pc n : Nat} {x0 : Int} (h : ezd_vf (fun k => ezd_by code (pc + k)) (.ifnull x0) n = true) : decode code pc = .ok (.ifnull x0, n) := by
  simp only [ezd_vf, Bool.and_eq_true, decide_eq_true_eq, Bool.not_eq_true'] at h
  obtain ⟨h0, ⟨⟨⟨q1, q2⟩, q3⟩, q4⟩⟩ := h
  replace q1 := ezd_ne q1
  replace q2 := ezd_ne q2
  replace q4 := Nat.eq_of_beq_eq_true q4
  subst q3 q4
  exact ezd_o198 (Nat.eq_of_beq_eq_true h0) q1 q2
theorem ezd_o75 {code : ByteArray} {pc : Nat} (h0 : ezd_by code pc = 75) : decode code pc = .ok (.astore_n 0, 1) := ezd_d ((ezd_b (ezd_u (p := pc) h0 (by decide)))) rfl
theorem ezd_o76 {code : ByteArray} {pc : Nat} (h0 : ezd_by code pc = 76) : decode code pc = .ok (.astore_n 1, 1) := ezd_d ((ezd_b (ezd_u (p := pc) h0 (by decide)))) rfl
theorem ezd_o77 {code : ByteArray} {pc : Nat} (h0 : ezd_by code pc = 77) : decode code pc = .ok (.astore_n 2, 1) := ezd_d ((ezd_b (ezd_u (p := pc) h0 (by decide)))) rfl
theorem ezd_o78 {code : ByteArray} {pc : Nat} (h0 : ezd_by code pc = 78) : decode code pc = .ok (.astore_n 3, 1) := ezd_d ((ezd_b (ezd_u (p := pc) h0 (by decide)))) rfl
theorem ezd_c_astore_n {code : ByteArray} {pc n : Nat} {k : Fin 4} (h : ezd_vf (fun k => ezd_by code (pc + k)) (.astore_n k) n = true) : decode code pc = .ok (.astore_n k, n) := by
  simp only [ezd_vf, Bool.and_eq_true] at h
  obtain ⟨h0, q2⟩ := h
  replace q2 := Nat.eq_of_beq_eq_true q2
  subst q2
  replace h0 := Nat.eq_of_beq_eq_true h0
  match k, h0 with
  | 0, h0 => exact ezd_o75 h0
  | 1, h0 => exact ezd_o76 h0
  | 2, h0 => exact ezd_o77 h0
  | 3, h0 => exact ezd_o78 h0
theorem ezd_o113 {code : ByteArray} {pc : Nat} (h0 : ezd_by code pc = 113) : decode code pc = .ok (.lrem, 1) := ezd_d ((ezd_b (ezd_u (p := pc) h0 (by decide)))) rfl
theorem ezd_c_lrem {code : ByteArray} {pc n : Nat} (h : ezd_vf (fun k => ezd_by code (pc + k)) (.lrem) n = true) : decode code pc = .ok (.lrem, n) := by
  simp only [ezd_vf, Bool.and_eq_true, decide_eq_true_eq, Bool.not_eq_true'] at h
  obtain ⟨h0, q1⟩ := h
  replace q1 := Nat.eq_of_beq_eq_true q1
  subst q1
  exact ezd_o113 (Nat.eq_of_beq_eq_true h0)
theorem ezd_o51 {code : ByteArray} {pc : Nat} (h0 : ezd_by code pc = 51) : decode code pc = .ok (.baload, 1) := ezd_d ((ezd_b (ezd_u (p := pc) h0 (by decide)))) rfl
theorem ezd_c_baload {code : ByteArray} {pc n : Nat} (h : ezd_vf (fun k => ezd_by code (pc + k)) (.baload) n = true) : decode code pc = .ok (.baload, n) := by
  simp only [ezd_vf, Bool.and_eq_true, decide_eq_true_eq, Bool.not_eq_true'] at h
  obtain ⟨h0, q1⟩ := h
  replace q1 := Nat.eq_of_beq_eq_true q1
  subst q1
  exact ezd_o51 (Nat.eq_of_beq_eq_true h0)
theorem ezd_o146 {code : ByteArray} {pc : Nat} (h0 : ezd_by code pc = 146) : decode code pc = .ok (.i2c, 1) := ezd_d ((ezd_b (ezd_u (p := pc) h0 (by decide)))) rfl
theorem ezd_c_i2c {code : ByteArray} {pc n : Nat} (h : ezd_vf (fun k => ezd_by code (pc + k)) (.i2c) n = true) : decode code pc = .ok (.i2c, n) := by
  simp only [ezd_vf, Bool.and_eq_true, decide_eq_true_eq, Bool.not_eq_true'] at h
  obtain ⟨h0, q1⟩ := h
  replace q1 := Nat.eq_of_beq_eq_true q1
  subst q1
  exact ezd_o146 (Nat.eq_of_beq_eq_true h0)
theorem ezd_o191 {code : ByteArray} {pc : Nat} (h0 : ezd_by code pc = 191) : decode code pc = .ok (.athrow, 1) := ezd_d ((ezd_b (ezd_u (p := pc) h0 (by decide)))) rfl
theorem ezd_c_athrow {code : ByteArray} {pc n : Nat} (h : ezd_vf (fun k => ezd_by code (pc + k)) (.athrow) n = true) : decode code pc = .ok (.athrow, n) := by
  simp only [ezd_vf, Bool.and_eq_true, decide_eq_true_eq, Bool.not_eq_true'] at h
  obtain ⟨h0, q1⟩ := h
  replace q1 := Nat.eq_of_beq_eq_true q1
  subst q1
  exact ezd_o191 (Nat.eq_of_beq_eq_true h0)
theorem ezd_o84 {code : ByteArray} {pc : Nat} (h0 : ezd_by code pc = 84) : decode code pc = .ok (.bastore, 1) := ezd_d ((ezd_b (ezd_u (p := pc) h0 (by decide)))) rfl
theorem ezd_c_bastore {code : ByteArray} {pc n : Nat} (h : ezd_vf (fun k => ezd_by code (pc + k)) (.bastore) n = true) : decode code pc = .ok (.bastore, n) := by
  simp only [ezd_vf, Bool.and_eq_true, decide_eq_true_eq, Bool.not_eq_true'] at h
  obtain ⟨h0, q1⟩ := h
  replace q1 := Nat.eq_of_beq_eq_true q1
  subst q1
  exact ezd_o84 (Nat.eq_of_beq_eq_true h0)
theorem ezd_o192 {code : ByteArray} {pc : Nat} (h0 : ezd_by code pc = 192) (g1 : ezd_by code (pc + 1) ≠ 256) (g2 : ezd_by code (pc + 2) ≠ 256) : decode code pc = .ok (.checkcast (ezd_by code (pc + 1) * 256 + ezd_by code (pc + 2)), 3) := ezd_d ((ezd_b (ezd_u (p := pc) h0 (by decide))).trans ((ezd_b (ezd_u2 (ezd_u (p := pc + 1) rfl g1) (ezd_u (p := pc + 2) rfl g2))))) rfl
theorem ezd_c_checkcast {code : ByteArray} {pc n : Nat} {x0 : Nat} (h : ezd_vf (fun k => ezd_by code (pc + k)) (.checkcast x0) n = true) : decode code pc = .ok (.checkcast x0, n) := by
  simp only [ezd_vf, Bool.and_eq_true, decide_eq_true_eq, Bool.not_eq_true'] at h
  obtain ⟨h0, ⟨⟨⟨q1, q2⟩, q3⟩, q4⟩⟩ := h
  replace q1 := ezd_ne q1
  replace q2 := ezd_ne q2
  replace q3 := Nat.eq_of_beq_eq_true q3
  replace q4 := Nat.eq_of_beq_eq_true q4
  subst q3 q4
  exact ezd_o192 (Nat.eq_of_beq_eq_true h0) q1 q2
theorem ezd_o125 {code : ByteArray} {pc : Nat} (h0 : ezd_by code pc = 125) : decode code pc = .ok (.lushr, 1) := ezd_d ((ezd_b (ezd_u (p := pc) h0 (by decide)))) rfl
theorem ezd_c_lushr {code : ByteArray} {pc n : Nat} (h : ezd_vf (fun k => ezd_by code (pc + k)) (.lushr) n = true) : decode code pc = .ok (.lushr, n) := by
  simp only [ezd_vf, Bool.and_eq_true, decide_eq_true_eq, Bool.not_eq_true'] at h
  obtain ⟨h0, q1⟩ := h
  replace q1 := Nat.eq_of_beq_eq_true q1
  subst q1
  exact ezd_o125 (Nat.eq_of_beq_eq_true h0)
theorem ezd_o145 {code : ByteArray} {pc : Nat} (h0 : ezd_by code pc = 145) : decode code pc = .ok (.i2b, 1) := ezd_d ((ezd_b (ezd_u (p := pc) h0 (by decide)))) rfl
theorem ezd_c_i2b {code : ByteArray} {pc n : Nat} (h : ezd_vf (fun k => ezd_by code (pc + k)) (.i2b) n = true) : decode code pc = .ok (.i2b, n) := by
  simp only [ezd_vf, Bool.and_eq_true, decide_eq_true_eq, Bool.not_eq_true'] at h
  obtain ⟨h0, q1⟩ := h
  replace q1 := Nat.eq_of_beq_eq_true q1
  subst q1
  exact ezd_o145 (Nat.eq_of_beq_eq_true h0)
theorem ezd_o101 {code : ByteArray} {pc : Nat} (h0 : ezd_by code pc = 101) : decode code pc = .ok (.lsub, 1) := ezd_d ((ezd_b (ezd_u (p := pc) h0 (by decide)))) rfl
theorem ezd_c_lsub {code : ByteArray} {pc n : Nat} (h : ezd_vf (fun k => ezd_by code (pc + k)) (.lsub) n = true) : decode code pc = .ok (.lsub, n) := by
  simp only [ezd_vf, Bool.and_eq_true, decide_eq_true_eq, Bool.not_eq_true'] at h
  obtain ⟨h0, q1⟩ := h
  replace q1 := Nat.eq_of_beq_eq_true q1
  subst q1
  exact ezd_o101 (Nat.eq_of_beq_eq_true h0)
theorem ezd_o25 {code : ByteArray} {pc : Nat} (h0 : ezd_by code pc = 25) (g1 : ezd_by code (pc + 1) ≠ 256) : decode code pc = .ok (.aload (ezd_by code (pc + 1)), 2) := ezd_d ((ezd_b (ezd_u (p := pc) h0 (by decide))).trans ((ezd_b (ezd_u (p := pc + 1) rfl g1)))) rfl
theorem ezd_c_aload {code : ByteArray} {pc n : Nat} {x0 : Nat} (h : ezd_vf (fun k => ezd_by code (pc + k)) (.aload x0) n = true) : decode code pc = .ok (.aload x0, n) := by
  simp only [ezd_vf, Bool.and_eq_true, decide_eq_true_eq, Bool.not_eq_true'] at h
  obtain ⟨h0, ⟨⟨q1, q2⟩, q3⟩⟩ := h
  replace q1 := ezd_ne q1
  replace q2 := Nat.eq_of_beq_eq_true q2
  replace q3 := Nat.eq_of_beq_eq_true q3
  subst q2 q3
  exact ezd_o25 (Nat.eq_of_beq_eq_true h0) q1
theorem ezd_o58 {code : ByteArray} {pc : Nat} (h0 : ezd_by code pc = 58) (g1 : ezd_by code (pc + 1) ≠ 256) : decode code pc = .ok (.astore (ezd_by code (pc + 1)), 2) := ezd_d ((ezd_b (ezd_u (p := pc) h0 (by decide))).trans ((ezd_b (ezd_u (p := pc + 1) rfl g1)))) rfl
theorem ezd_c_astore {code : ByteArray} {pc n : Nat} {x0 : Nat} (h : ezd_vf (fun k => ezd_by code (pc + k)) (.astore x0) n = true) : decode code pc = .ok (.astore x0, n) := by
  simp only [ezd_vf, Bool.and_eq_true, decide_eq_true_eq, Bool.not_eq_true'] at h
  obtain ⟨h0, ⟨⟨q1, q2⟩, q3⟩⟩ := h
  replace q1 := ezd_ne q1
  replace q2 := Nat.eq_of_beq_eq_true q2
  replace q3 := Nat.eq_of_beq_eq_true q3
  subst q2 q3
  exact ezd_o58 (Nat.eq_of_beq_eq_true h0) q1
theorem ezd_o176 {code : ByteArray} {pc : Nat} (h0 : ezd_by code pc = 176) : decode code pc = .ok (.areturn, 1) := ezd_d ((ezd_b (ezd_u (p := pc) h0 (by decide)))) rfl
theorem ezd_c_areturn {code : ByteArray} {pc n : Nat} (h : ezd_vf (fun k => ezd_by code (pc + k)) (.areturn) n = true) : decode code pc = .ok (.areturn, n) := by
  simp only [ezd_vf, Bool.and_eq_true, decide_eq_true_eq, Bool.not_eq_true'] at h
  obtain ⟨h0, q1⟩ := h
  replace q1 := Nat.eq_of_beq_eq_true q1
  subst q1
  exact ezd_o176 (Nat.eq_of_beq_eq_true h0)
theorem ezd_o199 {code : ByteArray} {pc : Nat} (h0 : ezd_by code pc = 199) (g1 : ezd_by code (pc + 1) ≠ 256) (g2 : ezd_by code (pc + 2) ≠ 256) : decode code pc = .ok (.ifnonnull (ClassFile.Reader.signed 16 (ezd_by code (pc + 1) * 256 + ezd_by code (pc + 2))), 3) := ezd_d ((ezd_b (ezd_u (p := pc) h0 (by decide))).trans ((ezd_b (ezd_s2 (ezd_u2 (ezd_u (p := pc + 1) rfl g1) (ezd_u (p := pc + 2) rfl g2)))))) rfl
theorem ezd_c_ifnonnull {code : ByteArray} {pc n : Nat} {x0 : Int} (h : ezd_vf (fun k => ezd_by code (pc + k)) (.ifnonnull x0) n = true) : decode code pc = .ok (.ifnonnull x0, n) := by
  simp only [ezd_vf, Bool.and_eq_true, decide_eq_true_eq, Bool.not_eq_true'] at h
  obtain ⟨h0, ⟨⟨⟨q1, q2⟩, q3⟩, q4⟩⟩ := h
  replace q1 := ezd_ne q1
  replace q2 := ezd_ne q2
  replace q4 := Nat.eq_of_beq_eq_true q4
  subst q3 q4
  exact ezd_o199 (Nat.eq_of_beq_eq_true h0) q1 q2
theorem ezd_o83 {code : ByteArray} {pc : Nat} (h0 : ezd_by code pc = 83) : decode code pc = .ok (.aastore, 1) := ezd_d ((ezd_b (ezd_u (p := pc) h0 (by decide)))) rfl
theorem ezd_c_aastore {code : ByteArray} {pc n : Nat} (h : ezd_vf (fun k => ezd_by code (pc + k)) (.aastore) n = true) : decode code pc = .ok (.aastore, n) := by
  simp only [ezd_vf, Bool.and_eq_true, decide_eq_true_eq, Bool.not_eq_true'] at h
  obtain ⟨h0, q1⟩ := h
  replace q1 := Nat.eq_of_beq_eq_true q1
  subst q1
  exact ezd_o83 (Nat.eq_of_beq_eq_true h0)
theorem ezd_o50 {code : ByteArray} {pc : Nat} (h0 : ezd_by code pc = 50) : decode code pc = .ok (.aaload, 1) := ezd_d ((ezd_b (ezd_u (p := pc) h0 (by decide)))) rfl
theorem ezd_c_aaload {code : ByteArray} {pc n : Nat} (h : ezd_vf (fun k => ezd_by code (pc + k)) (.aaload) n = true) : decode code pc = .ok (.aaload, n) := by
  simp only [ezd_vf, Bool.and_eq_true, decide_eq_true_eq, Bool.not_eq_true'] at h
  obtain ⟨h0, q1⟩ := h
  replace q1 := Nat.eq_of_beq_eq_true q1
  subst q1
  exact ezd_o50 (Nat.eq_of_beq_eq_true h0)
theorem ezd_o1 {code : ByteArray} {pc : Nat} (h0 : ezd_by code pc = 1) : decode code pc = .ok (.aconst_null, 1) := ezd_d ((ezd_b (ezd_u (p := pc) h0 (by decide)))) rfl
theorem ezd_c_aconst_null {code : ByteArray} {pc n : Nat} (h : ezd_vf (fun k => ezd_by code (pc + k)) (.aconst_null) n = true) : decode code pc = .ok (.aconst_null, n) := by
  simp only [ezd_vf, Bool.and_eq_true, decide_eq_true_eq, Bool.not_eq_true'] at h
  obtain ⟨h0, q1⟩ := h
  replace q1 := Nat.eq_of_beq_eq_true q1
  subst q1
  exact ezd_o1 (Nat.eq_of_beq_eq_true h0)
theorem ezd_o88 {code : ByteArray} {pc : Nat} (h0 : ezd_by code pc = 88) : decode code pc = .ok (.pop2, 1) := ezd_d ((ezd_b (ezd_u (p := pc) h0 (by decide)))) rfl
theorem ezd_c_pop2 {code : ByteArray} {pc n : Nat} (h : ezd_vf (fun k => ezd_by code (pc + k)) (.pop2) n = true) : decode code pc = .ok (.pop2, n) := by
  simp only [ezd_vf, Bool.and_eq_true, decide_eq_true_eq, Bool.not_eq_true'] at h
  obtain ⟨h0, q1⟩ := h
  replace q1 := Nat.eq_of_beq_eq_true q1
  subst q1
  exact ezd_o88 (Nat.eq_of_beq_eq_true h0)
theorem ezd_o90 {code : ByteArray} {pc : Nat} (h0 : ezd_by code pc = 90) : decode code pc = .ok (.dup_x1, 1) := ezd_d ((ezd_b (ezd_u (p := pc) h0 (by decide)))) rfl
theorem ezd_c_dup_x1 {code : ByteArray} {pc n : Nat} (h : ezd_vf (fun k => ezd_by code (pc + k)) (.dup_x1) n = true) : decode code pc = .ok (.dup_x1, n) := by
  simp only [ezd_vf, Bool.and_eq_true, decide_eq_true_eq, Bool.not_eq_true'] at h
  obtain ⟨h0, q1⟩ := h
  replace q1 := Nat.eq_of_beq_eq_true q1
  subst q1
  exact ezd_o90 (Nat.eq_of_beq_eq_true h0)
theorem ezd_o117 {code : ByteArray} {pc : Nat} (h0 : ezd_by code pc = 117) : decode code pc = .ok (.lneg, 1) := ezd_d ((ezd_b (ezd_u (p := pc) h0 (by decide)))) rfl
theorem ezd_c_lneg {code : ByteArray} {pc n : Nat} (h : ezd_vf (fun k => ezd_by code (pc + k)) (.lneg) n = true) : decode code pc = .ok (.lneg, n) := by
  simp only [ezd_vf, Bool.and_eq_true, decide_eq_true_eq, Bool.not_eq_true'] at h
  obtain ⟨h0, q1⟩ := h
  replace q1 := Nat.eq_of_beq_eq_true q1
  subst q1
  exact ezd_o117 (Nat.eq_of_beq_eq_true h0)
theorem ezd_o131 {code : ByteArray} {pc : Nat} (h0 : ezd_by code pc = 131) : decode code pc = .ok (.lxor, 1) := ezd_d ((ezd_b (ezd_u (p := pc) h0 (by decide)))) rfl
theorem ezd_c_lxor {code : ByteArray} {pc n : Nat} (h : ezd_vf (fun k => ezd_by code (pc + k)) (.lxor) n = true) : decode code pc = .ok (.lxor, n) := by
  simp only [ezd_vf, Bool.and_eq_true, decide_eq_true_eq, Bool.not_eq_true'] at h
  obtain ⟨h0, q1⟩ := h
  replace q1 := Nat.eq_of_beq_eq_true q1
  subst q1
  exact ezd_o131 (Nat.eq_of_beq_eq_true h0)
theorem ezd_o52 {code : ByteArray} {pc : Nat} (h0 : ezd_by code pc = 52) : decode code pc = .ok (.caload, 1) := ezd_d ((ezd_b (ezd_u (p := pc) h0 (by decide)))) rfl
theorem ezd_c_caload {code : ByteArray} {pc n : Nat} (h : ezd_vf (fun k => ezd_by code (pc + k)) (.caload) n = true) : decode code pc = .ok (.caload, n) := by
  simp only [ezd_vf, Bool.and_eq_true, decide_eq_true_eq, Bool.not_eq_true'] at h
  obtain ⟨h0, q1⟩ := h
  replace q1 := Nat.eq_of_beq_eq_true q1
  subst q1
  exact ezd_o52 (Nat.eq_of_beq_eq_true h0)
theorem ezd_o85 {code : ByteArray} {pc : Nat} (h0 : ezd_by code pc = 85) : decode code pc = .ok (.castore, 1) := ezd_d ((ezd_b (ezd_u (p := pc) h0 (by decide)))) rfl
theorem ezd_c_castore {code : ByteArray} {pc n : Nat} (h : ezd_vf (fun k => ezd_by code (pc + k)) (.castore) n = true) : decode code pc = .ok (.castore, n) := by
  simp only [ezd_vf, Bool.and_eq_true, decide_eq_true_eq, Bool.not_eq_true'] at h
  obtain ⟨h0, q1⟩ := h
  replace q1 := Nat.eq_of_beq_eq_true q1
  subst q1
  exact ezd_o85 (Nat.eq_of_beq_eq_true h0)
theorem ezd_ok {code : ByteArray} {pc n : Nat} {i : Instr} (h : ezd_vf (fun k => ezd_by code (pc + k)) i n = true) : decode code pc = .ok (i, n) := by
  cases i
  case aload_n _ => exact ezd_c_aload_n h
  case iconst _ => exact ezd_c_iconst h
  case iload_n _ => exact ezd_c_iload_n h
  case getfield _ => exact ezd_c_getfield h
  case invokevirtual _ => exact ezd_c_invokevirtual h
  case bipush _ => exact ezd_c_bipush h
  case iload _ => exact ezd_c_iload h
  case goto _ => exact ezd_c_goto h
  case ifCond _ _ => exact ezd_c_ifCond h
  case if_icmp _ _ => exact ezd_c_if_icmp h
  case iadd => exact ezd_c_iadd h
  case ireturn => exact ezd_c_ireturn h
  case iaload => exact ezd_c_iaload h
  case invokestatic _ => exact ezd_c_invokestatic h
  case putfield _ => exact ezd_c_putfield h
  case istore _ => exact ezd_c_istore h
  case istore_n _ => exact ezd_c_istore_n h
  case return_ => exact ezd_c_return_ h
  case isub => exact ezd_c_isub h
  case iinc _ _ => exact ezd_c_iinc h
  case dup => exact ezd_c_dup h
  case iastore => exact ezd_c_iastore h
  case sipush _ => exact ezd_c_sipush h
  case ldc2_w _ => exact ezd_c_ldc2_w h
  case imul => exact ezd_c_imul h
  case pop => exact ezd_c_pop h
  case lload_n _ => exact ezd_c_lload_n h
  case i2l => exact ezd_c_i2l h
  case lastore => exact ezd_c_lastore h
  case lload _ => exact ezd_c_lload h
  case lstore_n _ => exact ezd_c_lstore_n h
  case iand => exact ezd_c_iand h
  case invokespecial _ => exact ezd_c_invokespecial h
  case lmul => exact ezd_c_lmul h
  case ishl => exact ezd_c_ishl h
  case lconst _ => exact ezd_c_lconst h
  case lstore _ => exact ezd_c_lstore h
  case irem => exact ezd_c_irem h
  case l2i => exact ezd_c_l2i h
  case lcmp => exact ezd_c_lcmp h
  case arraylength => exact ezd_c_arraylength h
  case ladd => exact ezd_c_ladd h
  case new _ => exact ezd_c_new h
  case ishr => exact ezd_c_ishr h
  case land => exact ezd_c_land h
  case laload => exact ezd_c_laload h
  case lreturn => exact ezd_c_lreturn h
  case lshl => exact ezd_c_lshl h
  case lor => exact ezd_c_lor h
  case ior => exact ezd_c_ior h
  case idiv => exact ezd_c_idiv h
  case dup2 => exact ezd_c_dup2 h
  case ixor => exact ezd_c_ixor h
  case lshr => exact ezd_c_lshr h
  case ldiv => exact ezd_c_ldiv h
  case getstatic _ => exact ezd_c_getstatic h
  case ineg => exact ezd_c_ineg h
  case ldc _ => exact ezd_c_ldc h
  case iushr => exact ezd_c_iushr h
  case ldc_w _ => exact ezd_c_ldc_w h
  case ifnull _ => exact ezd_c_ifnull h
  case astore_n _ => exact ezd_c_astore_n h
  case lrem => exact ezd_c_lrem h
  case baload => exact ezd_c_baload h
  case i2c => exact ezd_c_i2c h
  case athrow => exact ezd_c_athrow h
  case bastore => exact ezd_c_bastore h
  case checkcast _ => exact ezd_c_checkcast h
  case lushr => exact ezd_c_lushr h
  case i2b => exact ezd_c_i2b h
  case lsub => exact ezd_c_lsub h
  case aload _ => exact ezd_c_aload h
  case astore _ => exact ezd_c_astore h
  case areturn => exact ezd_c_areturn h
  case ifnonnull _ => exact ezd_c_ifnonnull h
  case aastore => exact ezd_c_aastore h
  case aaload => exact ezd_c_aaload h
  case aconst_null => exact ezd_c_aconst_null h
  case pop2 => exact ezd_c_pop2 h
  case dup_x1 => exact ezd_c_dup_x1 h
  case lneg => exact ezd_c_lneg h
  case lxor => exact ezd_c_lxor h
  case caload => exact ezd_c_caload h
  case castore => exact ezd_c_castore h
  all_goals exact Bool.noConfusion h
