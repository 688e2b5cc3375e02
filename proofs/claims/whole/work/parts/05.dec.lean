/-! ===== a method's bytes against a list of instructions (drafted by tools/dec.py) ===== -/
theorem ps_u1 {cc : ByteArray} {pc : Nat} {b : UInt8} (h : cc.data[pc]? = some b) : (Jvm.ClassFile.Reader.u1 : Jvm.ClassFile.Decoder Nat) cc pc = .ok (b.toNat, pc + 1) := by
  have hlt : pc < cc.size := by
    rcases Array.getElem?_eq_some_iff.mp h with ⟨h1, h2⟩
    exact h1
  have hg : cc[pc] = b := by
    rcases Array.getElem?_eq_some_iff.mp h with ⟨h1, h2⟩
    exact h2
  unfold Jvm.ClassFile.Reader.u1
  show (dite _ _ _ : Jvm.ClassFile.Decoder Nat) cc pc = _
  rw [dif_pos hlt]
  show Except.ok (cc[pc].toNat, pc + 1) = _
  rw [hg]
theorem ps_bk {ε α β : Type} {x : Except ε α} {a : α} (f : α → Except ε β) (h : x = .ok a) : Except.bind x f = f a := by rw [h]; rfl
/-- the byte at a place, as a number -/
def ps_by (cc : ByteArray) (pc b : Nat) : Prop := ∃ x : UInt8, cc.data[pc]? = some x ∧ x.toNat = b
theorem ps_r1 {cc : ByteArray} {pc b : Nat} (h : ps_by cc pc b) : (Jvm.ClassFile.Reader.u1 : Jvm.ClassFile.Decoder Nat) cc pc = .ok (b, pc + 1) := by
  obtain ⟨x, h1, h2⟩ := h
  rw [ps_u1 h1, h2]
theorem ps_r2 {cc : ByteArray} {pc a b : Nat} (h1 : ps_by cc pc a) (h2 : ps_by cc (pc + 1) b) : (Jvm.ClassFile.Reader.u2 : Jvm.ClassFile.Decoder Nat) cc pc = .ok (a * 256 + b, pc + 2) := by
  refine (ps_bk _ (ps_r1 h1)).trans ?_
  exact (ps_bk _ (ps_r1 h2)).trans rfl
theorem ps_rs1 {cc : ByteArray} {pc b : Nat} (h : ps_by cc pc b) : (Jvm.ClassFile.Reader.s1 : Jvm.ClassFile.Decoder Int) cc pc = .ok (Jvm.ClassFile.Reader.signed 8 b, pc + 1) := (ps_bk _ (ps_r1 h)).trans rfl
theorem ps_rs2 {cc : ByteArray} {pc a b : Nat} (h1 : ps_by cc pc a) (h2 : ps_by cc (pc + 1) b) : (Jvm.ClassFile.Reader.s2 : Jvm.ClassFile.Decoder Int) cc pc = .ok (Jvm.ClassFile.Reader.signed 16 (a * 256 + b), pc + 2) := (ps_bk _ (ps_r2 h1 h2)).trans rfl
theorem ps_fin {cc : ByteArray} {pc n : Nat} {i : Instr} (h : (Jvm.ClassFile.Decoder.instr pc) cc pc = .ok (i, pc + n)) : decode cc pc = .ok (i, n) := by
  refine (ps_bk _ h).trans ?_
  show Except.ok (i, pc + n - pc) = _
  rw [Nat.add_sub_cancel_left]

def ps_ckb (bs : List UInt8) (j b : Nat) : Bool := match bs[j]? with
  | some x => x.toNat == b
  | none => false
def ps_ckw (bs : List UInt8) (j k : Nat) : Bool := match bs[j]?, bs[j + 1]? with
  | some x, some y => x.toNat * 256 + y.toNat == k
  | _, _ => false
def ps_cks (bs : List UInt8) (j : Nat) (z : Int) : Bool := match bs[j]? with
  | some x => Jvm.ClassFile.Reader.signed 8 x.toNat == z
  | _ => false
def ps_ckz (bs : List UInt8) (j : Nat) (z : Int) : Bool := match bs[j]?, bs[j + 1]? with
  | some x, some y => Jvm.ClassFile.Reader.signed 16 (x.toNat * 256 + y.toNat) == z
  | _, _ => false
theorem ps_dr {cc : ByteArray} {pc j : Nat} : (cc.data.toList.drop pc)[j]? = cc.data[pc + j]? := by
  rw [List.getElem?_drop, Array.getElem?_toList]
theorem ps_ckb_ok {cc : ByteArray} {pc j b : Nat} (h : ps_ckb (cc.data.toList.drop pc) j b = true) : ps_by cc (pc + j) b := by
  unfold ps_ckb at h
  rw [ps_dr] at h
  cases e : cc.data[pc + j]? with
  | none => rw [e] at h; exact absurd h (by simp)
  | some x => rw [e] at h; exact ⟨x, e, by simpa using h⟩
theorem ps_cks_ok {cc : ByteArray} {pc j : Nat} {z : Int} (h : ps_cks (cc.data.toList.drop pc) j z = true) : (Jvm.ClassFile.Reader.s1 : Jvm.ClassFile.Decoder Int) cc (pc + j) = .ok (z, pc + j + 1) := by
  unfold ps_cks at h
  rw [ps_dr] at h
  cases e : cc.data[pc + j]? with
  | none => rw [e] at h; exact absurd h (by simp)
  | some x =>
    rw [e] at h
    rw [ps_rs1 ⟨x, e, rfl⟩, show Jvm.ClassFile.Reader.signed 8 x.toNat = z by simpa using h]
theorem ps_ckw_ok {cc : ByteArray} {pc j k : Nat} (h : ps_ckw (cc.data.toList.drop pc) j k = true) : (Jvm.ClassFile.Reader.u2 : Jvm.ClassFile.Decoder Nat) cc (pc + j) = .ok (k, pc + j + 2) := by
  unfold ps_ckw at h
  rw [ps_dr, ps_dr] at h
  cases e : cc.data[pc + j]? with
  | none => rw [e] at h; exact absurd h (by simp)
  | some x =>
    cases e2 : cc.data[pc + (j + 1)]? with
    | none => rw [e, e2] at h; exact absurd h (by simp)
    | some y =>
      rw [e, e2] at h
      rw [ps_r2 ⟨x, e, rfl⟩ ⟨y, e2, rfl⟩, show x.toNat * 256 + y.toNat = k by simpa using h]
theorem ps_ckz_ok {cc : ByteArray} {pc j : Nat} {z : Int} (h : ps_ckz (cc.data.toList.drop pc) j z = true) : (Jvm.ClassFile.Reader.s2 : Jvm.ClassFile.Decoder Int) cc (pc + j) = .ok (z, pc + j + 2) := by
  unfold ps_ckz at h
  rw [ps_dr, ps_dr] at h
  cases e : cc.data[pc + j]? with
  | none => rw [e] at h; exact absurd h (by simp)
  | some x =>
    cases e2 : cc.data[pc + (j + 1)]? with
    | none => rw [e, e2] at h; exact absurd h (by simp)
    | some y =>
      rw [e, e2] at h
      rw [ps_rs2 ⟨x, e, rfl⟩ ⟨y, e2, rfl⟩, show Jvm.ClassFile.Reader.signed 16 (x.toNat * 256 + y.toNat) = z by simpa using h]
def ps_ck (i : Instr) (n : Nat) (bs : List UInt8) : Bool := match i with
  | .nop => n == 1 && ps_ckb bs 0 0
  | .aconst_null => n == 1 && ps_ckb bs 0 1
  | .iaload => n == 1 && ps_ckb bs 0 46
  | .laload => n == 1 && ps_ckb bs 0 47
  | .aaload => n == 1 && ps_ckb bs 0 50
  | .baload => n == 1 && ps_ckb bs 0 51
  | .iastore => n == 1 && ps_ckb bs 0 79
  | .lastore => n == 1 && ps_ckb bs 0 80
  | .aastore => n == 1 && ps_ckb bs 0 83
  | .bastore => n == 1 && ps_ckb bs 0 84
  | .pop => n == 1 && ps_ckb bs 0 87
  | .dup => n == 1 && ps_ckb bs 0 89
  | .dup2 => n == 1 && ps_ckb bs 0 92
  | .iadd => n == 1 && ps_ckb bs 0 96
  | .ladd => n == 1 && ps_ckb bs 0 97
  | .isub => n == 1 && ps_ckb bs 0 100
  | .lsub => n == 1 && ps_ckb bs 0 101
  | .imul => n == 1 && ps_ckb bs 0 104
  | .lmul => n == 1 && ps_ckb bs 0 105
  | .idiv => n == 1 && ps_ckb bs 0 108
  | .ldiv => n == 1 && ps_ckb bs 0 109
  | .irem => n == 1 && ps_ckb bs 0 112
  | .lrem => n == 1 && ps_ckb bs 0 113
  | .ineg => n == 1 && ps_ckb bs 0 116
  | .lneg => n == 1 && ps_ckb bs 0 117
  | .ishl => n == 1 && ps_ckb bs 0 120
  | .lshl => n == 1 && ps_ckb bs 0 121
  | .ishr => n == 1 && ps_ckb bs 0 122
  | .lshr => n == 1 && ps_ckb bs 0 123
  | .iushr => n == 1 && ps_ckb bs 0 124
  | .lushr => n == 1 && ps_ckb bs 0 125
  | .iand => n == 1 && ps_ckb bs 0 126
  | .land => n == 1 && ps_ckb bs 0 127
  | .ior => n == 1 && ps_ckb bs 0 128
  | .lor => n == 1 && ps_ckb bs 0 129
  | .ixor => n == 1 && ps_ckb bs 0 130
  | .lxor => n == 1 && ps_ckb bs 0 131
  | .i2l => n == 1 && ps_ckb bs 0 133
  | .l2i => n == 1 && ps_ckb bs 0 136
  | .lcmp => n == 1 && ps_ckb bs 0 148
  | .ireturn => n == 1 && ps_ckb bs 0 172
  | .lreturn => n == 1 && ps_ckb bs 0 173
  | .areturn => n == 1 && ps_ckb bs 0 176
  | .return_ => n == 1 && ps_ckb bs 0 177
  | .arraylength => n == 1 && ps_ckb bs 0 190
  | .athrow => n == 1 && ps_ckb bs 0 191
  | .ldc k => n == 2 && (ps_ckb bs 0 18 && ps_ckb bs 1 k)
  | .iload k => n == 2 && (ps_ckb bs 0 21 && ps_ckb bs 1 k)
  | .lload k => n == 2 && (ps_ckb bs 0 22 && ps_ckb bs 1 k)
  | .aload k => n == 2 && (ps_ckb bs 0 25 && ps_ckb bs 1 k)
  | .istore k => n == 2 && (ps_ckb bs 0 54 && ps_ckb bs 1 k)
  | .lstore k => n == 2 && (ps_ckb bs 0 55 && ps_ckb bs 1 k)
  | .astore k => n == 2 && (ps_ckb bs 0 58 && ps_ckb bs 1 k)
  | .ldc_w k => n == 3 && (ps_ckb bs 0 19 && ps_ckw bs 1 k)
  | .ldc2_w k => n == 3 && (ps_ckb bs 0 20 && ps_ckw bs 1 k)
  | .getstatic k => n == 3 && (ps_ckb bs 0 178 && ps_ckw bs 1 k)
  | .getfield k => n == 3 && (ps_ckb bs 0 180 && ps_ckw bs 1 k)
  | .putfield k => n == 3 && (ps_ckb bs 0 181 && ps_ckw bs 1 k)
  | .invokevirtual k => n == 3 && (ps_ckb bs 0 182 && ps_ckw bs 1 k)
  | .invokespecial k => n == 3 && (ps_ckb bs 0 183 && ps_ckw bs 1 k)
  | .invokestatic k => n == 3 && (ps_ckb bs 0 184 && ps_ckw bs 1 k)
  | .new k => n == 3 && (ps_ckb bs 0 187 && ps_ckw bs 1 k)
  | .anewarray k => n == 3 && (ps_ckb bs 0 189 && ps_ckw bs 1 k)
  | .checkcast k => n == 3 && (ps_ckb bs 0 192 && ps_ckw bs 1 k)
  | .sipush z => n == 3 && (ps_ckb bs 0 17 && ps_ckz bs 1 z)
  | .goto z => n == 3 && (ps_ckb bs 0 167 && ps_ckz bs 1 z)
  | .ifnull z => n == 3 && (ps_ckb bs 0 198 && ps_ckz bs 1 z)
  | .ifnonnull z => n == 3 && (ps_ckb bs 0 199 && ps_ckz bs 1 z)
  | .bipush z => n == 2 && (ps_ckb bs 0 16 && ps_cks bs 1 z)
  | .iinc k z => n == 3 && (ps_ckb bs 0 132 && (ps_ckb bs 1 k && ps_cks bs 2 z))
  | .multianewarray k q => n == 4 && (ps_ckb bs 0 197 && (ps_ckw bs 1 k && (ps_ckb bs 3 2 && q == 2)))
  | .ifCond c z => n == 3 && (ps_ckb bs 0 (match c with | .eq => 153 | .ne => 154 | .lt => 155 | .ge => 156 | .gt => 157 | .le => 158) && ps_ckz bs 1 z)
  | .if_icmp c z => n == 3 && (ps_ckb bs 0 (match c with | .eq => 159 | .ne => 160 | .lt => 161 | .ge => 162 | .gt => 163 | .le => 164) && ps_ckz bs 1 z)
  | .if_acmp c z => n == 3 && (ps_ckb bs 0 (match c with | .eq => 165 | .ne => 166) && ps_ckz bs 1 z)
  | .iload_n k => n == 1 && ps_ckb bs 0 (26 + k.val)
  | .lload_n k => n == 1 && ps_ckb bs 0 (30 + k.val)
  | .aload_n k => n == 1 && ps_ckb bs 0 (42 + k.val)
  | .istore_n k => n == 1 && ps_ckb bs 0 (59 + k.val)
  | .lstore_n k => n == 1 && ps_ckb bs 0 (63 + k.val)
  | .astore_n k => n == 1 && ps_ckb bs 0 (75 + k.val)
  | .lconst k => n == 1 && ps_ckb bs 0 (9 + k.val)
  | .iconst z => n == 1 && (match z with | -1 => ps_ckb bs 0 2 | 0 => ps_ckb bs 0 3 | 1 => ps_ckb bs 0 4 | 2 => ps_ckb bs 0 5 | 3 => ps_ckb bs 0 6 | 4 => ps_ckb bs 0 7 | 5 => ps_ckb bs 0 8 | _ => false)
  | .newarray a => n == 2 && (ps_ckb bs 0 188 && (match a with | .boolean => ps_ckb bs 1 4 | .int => ps_ckb bs 1 10 | .long => ps_ckb bs 1 11 | _ => false))
  | _ => false
set_option maxRecDepth 100000 in
set_option maxHeartbeats 4000000 in
theorem ps_ck_ok {i : Instr} {n : Nat} {cc : ByteArray} {pc : Nat} (h : ps_ck i n (cc.data.toList.drop pc) = true) : decode cc pc = .ok (i, n) := by
  cases i with
  | nop =>
    simp only [ps_ck, Bool.and_eq_true, beq_iff_eq] at h
    obtain ⟨h1, h2⟩ := h
    subst h1
    exact ps_fin ((ps_bk _ (ps_r1 (ps_ckb_ok (j := 0) h2))).trans rfl)
  | aconst_null =>
    simp only [ps_ck, Bool.and_eq_true, beq_iff_eq] at h
    obtain ⟨h1, h2⟩ := h
    subst h1
    exact ps_fin ((ps_bk _ (ps_r1 (ps_ckb_ok (j := 0) h2))).trans rfl)
  | iaload =>
    simp only [ps_ck, Bool.and_eq_true, beq_iff_eq] at h
    obtain ⟨h1, h2⟩ := h
    subst h1
    exact ps_fin ((ps_bk _ (ps_r1 (ps_ckb_ok (j := 0) h2))).trans rfl)
  | laload =>
    simp only [ps_ck, Bool.and_eq_true, beq_iff_eq] at h
    obtain ⟨h1, h2⟩ := h
    subst h1
    exact ps_fin ((ps_bk _ (ps_r1 (ps_ckb_ok (j := 0) h2))).trans rfl)
  | aaload =>
    simp only [ps_ck, Bool.and_eq_true, beq_iff_eq] at h
    obtain ⟨h1, h2⟩ := h
    subst h1
    exact ps_fin ((ps_bk _ (ps_r1 (ps_ckb_ok (j := 0) h2))).trans rfl)
  | baload =>
    simp only [ps_ck, Bool.and_eq_true, beq_iff_eq] at h
    obtain ⟨h1, h2⟩ := h
    subst h1
    exact ps_fin ((ps_bk _ (ps_r1 (ps_ckb_ok (j := 0) h2))).trans rfl)
  | iastore =>
    simp only [ps_ck, Bool.and_eq_true, beq_iff_eq] at h
    obtain ⟨h1, h2⟩ := h
    subst h1
    exact ps_fin ((ps_bk _ (ps_r1 (ps_ckb_ok (j := 0) h2))).trans rfl)
  | lastore =>
    simp only [ps_ck, Bool.and_eq_true, beq_iff_eq] at h
    obtain ⟨h1, h2⟩ := h
    subst h1
    exact ps_fin ((ps_bk _ (ps_r1 (ps_ckb_ok (j := 0) h2))).trans rfl)
  | aastore =>
    simp only [ps_ck, Bool.and_eq_true, beq_iff_eq] at h
    obtain ⟨h1, h2⟩ := h
    subst h1
    exact ps_fin ((ps_bk _ (ps_r1 (ps_ckb_ok (j := 0) h2))).trans rfl)
  | bastore =>
    simp only [ps_ck, Bool.and_eq_true, beq_iff_eq] at h
    obtain ⟨h1, h2⟩ := h
    subst h1
    exact ps_fin ((ps_bk _ (ps_r1 (ps_ckb_ok (j := 0) h2))).trans rfl)
  | pop =>
    simp only [ps_ck, Bool.and_eq_true, beq_iff_eq] at h
    obtain ⟨h1, h2⟩ := h
    subst h1
    exact ps_fin ((ps_bk _ (ps_r1 (ps_ckb_ok (j := 0) h2))).trans rfl)
  | dup =>
    simp only [ps_ck, Bool.and_eq_true, beq_iff_eq] at h
    obtain ⟨h1, h2⟩ := h
    subst h1
    exact ps_fin ((ps_bk _ (ps_r1 (ps_ckb_ok (j := 0) h2))).trans rfl)
  | dup2 =>
    simp only [ps_ck, Bool.and_eq_true, beq_iff_eq] at h
    obtain ⟨h1, h2⟩ := h
    subst h1
    exact ps_fin ((ps_bk _ (ps_r1 (ps_ckb_ok (j := 0) h2))).trans rfl)
  | iadd =>
    simp only [ps_ck, Bool.and_eq_true, beq_iff_eq] at h
    obtain ⟨h1, h2⟩ := h
    subst h1
    exact ps_fin ((ps_bk _ (ps_r1 (ps_ckb_ok (j := 0) h2))).trans rfl)
  | ladd =>
    simp only [ps_ck, Bool.and_eq_true, beq_iff_eq] at h
    obtain ⟨h1, h2⟩ := h
    subst h1
    exact ps_fin ((ps_bk _ (ps_r1 (ps_ckb_ok (j := 0) h2))).trans rfl)
  | isub =>
    simp only [ps_ck, Bool.and_eq_true, beq_iff_eq] at h
    obtain ⟨h1, h2⟩ := h
    subst h1
    exact ps_fin ((ps_bk _ (ps_r1 (ps_ckb_ok (j := 0) h2))).trans rfl)
  | lsub =>
    simp only [ps_ck, Bool.and_eq_true, beq_iff_eq] at h
    obtain ⟨h1, h2⟩ := h
    subst h1
    exact ps_fin ((ps_bk _ (ps_r1 (ps_ckb_ok (j := 0) h2))).trans rfl)
  | imul =>
    simp only [ps_ck, Bool.and_eq_true, beq_iff_eq] at h
    obtain ⟨h1, h2⟩ := h
    subst h1
    exact ps_fin ((ps_bk _ (ps_r1 (ps_ckb_ok (j := 0) h2))).trans rfl)
  | lmul =>
    simp only [ps_ck, Bool.and_eq_true, beq_iff_eq] at h
    obtain ⟨h1, h2⟩ := h
    subst h1
    exact ps_fin ((ps_bk _ (ps_r1 (ps_ckb_ok (j := 0) h2))).trans rfl)
  | idiv =>
    simp only [ps_ck, Bool.and_eq_true, beq_iff_eq] at h
    obtain ⟨h1, h2⟩ := h
    subst h1
    exact ps_fin ((ps_bk _ (ps_r1 (ps_ckb_ok (j := 0) h2))).trans rfl)
  | ldiv =>
    simp only [ps_ck, Bool.and_eq_true, beq_iff_eq] at h
    obtain ⟨h1, h2⟩ := h
    subst h1
    exact ps_fin ((ps_bk _ (ps_r1 (ps_ckb_ok (j := 0) h2))).trans rfl)
  | irem =>
    simp only [ps_ck, Bool.and_eq_true, beq_iff_eq] at h
    obtain ⟨h1, h2⟩ := h
    subst h1
    exact ps_fin ((ps_bk _ (ps_r1 (ps_ckb_ok (j := 0) h2))).trans rfl)
  | lrem =>
    simp only [ps_ck, Bool.and_eq_true, beq_iff_eq] at h
    obtain ⟨h1, h2⟩ := h
    subst h1
    exact ps_fin ((ps_bk _ (ps_r1 (ps_ckb_ok (j := 0) h2))).trans rfl)
  | ineg =>
    simp only [ps_ck, Bool.and_eq_true, beq_iff_eq] at h
    obtain ⟨h1, h2⟩ := h
    subst h1
    exact ps_fin ((ps_bk _ (ps_r1 (ps_ckb_ok (j := 0) h2))).trans rfl)
  | lneg =>
    simp only [ps_ck, Bool.and_eq_true, beq_iff_eq] at h
    obtain ⟨h1, h2⟩ := h
    subst h1
    exact ps_fin ((ps_bk _ (ps_r1 (ps_ckb_ok (j := 0) h2))).trans rfl)
  | ishl =>
    simp only [ps_ck, Bool.and_eq_true, beq_iff_eq] at h
    obtain ⟨h1, h2⟩ := h
    subst h1
    exact ps_fin ((ps_bk _ (ps_r1 (ps_ckb_ok (j := 0) h2))).trans rfl)
  | lshl =>
    simp only [ps_ck, Bool.and_eq_true, beq_iff_eq] at h
    obtain ⟨h1, h2⟩ := h
    subst h1
    exact ps_fin ((ps_bk _ (ps_r1 (ps_ckb_ok (j := 0) h2))).trans rfl)
  | ishr =>
    simp only [ps_ck, Bool.and_eq_true, beq_iff_eq] at h
    obtain ⟨h1, h2⟩ := h
    subst h1
    exact ps_fin ((ps_bk _ (ps_r1 (ps_ckb_ok (j := 0) h2))).trans rfl)
  | lshr =>
    simp only [ps_ck, Bool.and_eq_true, beq_iff_eq] at h
    obtain ⟨h1, h2⟩ := h
    subst h1
    exact ps_fin ((ps_bk _ (ps_r1 (ps_ckb_ok (j := 0) h2))).trans rfl)
  | iushr =>
    simp only [ps_ck, Bool.and_eq_true, beq_iff_eq] at h
    obtain ⟨h1, h2⟩ := h
    subst h1
    exact ps_fin ((ps_bk _ (ps_r1 (ps_ckb_ok (j := 0) h2))).trans rfl)
  | lushr =>
    simp only [ps_ck, Bool.and_eq_true, beq_iff_eq] at h
    obtain ⟨h1, h2⟩ := h
    subst h1
    exact ps_fin ((ps_bk _ (ps_r1 (ps_ckb_ok (j := 0) h2))).trans rfl)
  | iand =>
    simp only [ps_ck, Bool.and_eq_true, beq_iff_eq] at h
    obtain ⟨h1, h2⟩ := h
    subst h1
    exact ps_fin ((ps_bk _ (ps_r1 (ps_ckb_ok (j := 0) h2))).trans rfl)
  | land =>
    simp only [ps_ck, Bool.and_eq_true, beq_iff_eq] at h
    obtain ⟨h1, h2⟩ := h
    subst h1
    exact ps_fin ((ps_bk _ (ps_r1 (ps_ckb_ok (j := 0) h2))).trans rfl)
  | ior =>
    simp only [ps_ck, Bool.and_eq_true, beq_iff_eq] at h
    obtain ⟨h1, h2⟩ := h
    subst h1
    exact ps_fin ((ps_bk _ (ps_r1 (ps_ckb_ok (j := 0) h2))).trans rfl)
  | lor =>
    simp only [ps_ck, Bool.and_eq_true, beq_iff_eq] at h
    obtain ⟨h1, h2⟩ := h
    subst h1
    exact ps_fin ((ps_bk _ (ps_r1 (ps_ckb_ok (j := 0) h2))).trans rfl)
  | ixor =>
    simp only [ps_ck, Bool.and_eq_true, beq_iff_eq] at h
    obtain ⟨h1, h2⟩ := h
    subst h1
    exact ps_fin ((ps_bk _ (ps_r1 (ps_ckb_ok (j := 0) h2))).trans rfl)
  | lxor =>
    simp only [ps_ck, Bool.and_eq_true, beq_iff_eq] at h
    obtain ⟨h1, h2⟩ := h
    subst h1
    exact ps_fin ((ps_bk _ (ps_r1 (ps_ckb_ok (j := 0) h2))).trans rfl)
  | i2l =>
    simp only [ps_ck, Bool.and_eq_true, beq_iff_eq] at h
    obtain ⟨h1, h2⟩ := h
    subst h1
    exact ps_fin ((ps_bk _ (ps_r1 (ps_ckb_ok (j := 0) h2))).trans rfl)
  | l2i =>
    simp only [ps_ck, Bool.and_eq_true, beq_iff_eq] at h
    obtain ⟨h1, h2⟩ := h
    subst h1
    exact ps_fin ((ps_bk _ (ps_r1 (ps_ckb_ok (j := 0) h2))).trans rfl)
  | lcmp =>
    simp only [ps_ck, Bool.and_eq_true, beq_iff_eq] at h
    obtain ⟨h1, h2⟩ := h
    subst h1
    exact ps_fin ((ps_bk _ (ps_r1 (ps_ckb_ok (j := 0) h2))).trans rfl)
  | ireturn =>
    simp only [ps_ck, Bool.and_eq_true, beq_iff_eq] at h
    obtain ⟨h1, h2⟩ := h
    subst h1
    exact ps_fin ((ps_bk _ (ps_r1 (ps_ckb_ok (j := 0) h2))).trans rfl)
  | lreturn =>
    simp only [ps_ck, Bool.and_eq_true, beq_iff_eq] at h
    obtain ⟨h1, h2⟩ := h
    subst h1
    exact ps_fin ((ps_bk _ (ps_r1 (ps_ckb_ok (j := 0) h2))).trans rfl)
  | areturn =>
    simp only [ps_ck, Bool.and_eq_true, beq_iff_eq] at h
    obtain ⟨h1, h2⟩ := h
    subst h1
    exact ps_fin ((ps_bk _ (ps_r1 (ps_ckb_ok (j := 0) h2))).trans rfl)
  | return_ =>
    simp only [ps_ck, Bool.and_eq_true, beq_iff_eq] at h
    obtain ⟨h1, h2⟩ := h
    subst h1
    exact ps_fin ((ps_bk _ (ps_r1 (ps_ckb_ok (j := 0) h2))).trans rfl)
  | arraylength =>
    simp only [ps_ck, Bool.and_eq_true, beq_iff_eq] at h
    obtain ⟨h1, h2⟩ := h
    subst h1
    exact ps_fin ((ps_bk _ (ps_r1 (ps_ckb_ok (j := 0) h2))).trans rfl)
  | athrow =>
    simp only [ps_ck, Bool.and_eq_true, beq_iff_eq] at h
    obtain ⟨h1, h2⟩ := h
    subst h1
    exact ps_fin ((ps_bk _ (ps_r1 (ps_ckb_ok (j := 0) h2))).trans rfl)
  | ldc k =>
    simp only [ps_ck, Bool.and_eq_true, beq_iff_eq] at h
    obtain ⟨h1, h2, h3⟩ := h
    subst h1
    exact ps_fin ((ps_bk _ (ps_r1 (ps_ckb_ok (j := 0) h2))).trans ((ps_bk _ (ps_r1 (ps_ckb_ok (j := 1) h3))).trans rfl))
  | iload k =>
    simp only [ps_ck, Bool.and_eq_true, beq_iff_eq] at h
    obtain ⟨h1, h2, h3⟩ := h
    subst h1
    exact ps_fin ((ps_bk _ (ps_r1 (ps_ckb_ok (j := 0) h2))).trans ((ps_bk _ (ps_r1 (ps_ckb_ok (j := 1) h3))).trans rfl))
  | lload k =>
    simp only [ps_ck, Bool.and_eq_true, beq_iff_eq] at h
    obtain ⟨h1, h2, h3⟩ := h
    subst h1
    exact ps_fin ((ps_bk _ (ps_r1 (ps_ckb_ok (j := 0) h2))).trans ((ps_bk _ (ps_r1 (ps_ckb_ok (j := 1) h3))).trans rfl))
  | aload k =>
    simp only [ps_ck, Bool.and_eq_true, beq_iff_eq] at h
    obtain ⟨h1, h2, h3⟩ := h
    subst h1
    exact ps_fin ((ps_bk _ (ps_r1 (ps_ckb_ok (j := 0) h2))).trans ((ps_bk _ (ps_r1 (ps_ckb_ok (j := 1) h3))).trans rfl))
  | istore k =>
    simp only [ps_ck, Bool.and_eq_true, beq_iff_eq] at h
    obtain ⟨h1, h2, h3⟩ := h
    subst h1
    exact ps_fin ((ps_bk _ (ps_r1 (ps_ckb_ok (j := 0) h2))).trans ((ps_bk _ (ps_r1 (ps_ckb_ok (j := 1) h3))).trans rfl))
  | lstore k =>
    simp only [ps_ck, Bool.and_eq_true, beq_iff_eq] at h
    obtain ⟨h1, h2, h3⟩ := h
    subst h1
    exact ps_fin ((ps_bk _ (ps_r1 (ps_ckb_ok (j := 0) h2))).trans ((ps_bk _ (ps_r1 (ps_ckb_ok (j := 1) h3))).trans rfl))
  | astore k =>
    simp only [ps_ck, Bool.and_eq_true, beq_iff_eq] at h
    obtain ⟨h1, h2, h3⟩ := h
    subst h1
    exact ps_fin ((ps_bk _ (ps_r1 (ps_ckb_ok (j := 0) h2))).trans ((ps_bk _ (ps_r1 (ps_ckb_ok (j := 1) h3))).trans rfl))
  | ldc_w k =>
    simp only [ps_ck, Bool.and_eq_true, beq_iff_eq] at h
    obtain ⟨h1, h2, h3⟩ := h
    subst h1
    exact ps_fin ((ps_bk _ (ps_r1 (ps_ckb_ok (j := 0) h2))).trans ((ps_bk _ (ps_ckw_ok (j := 1) h3)).trans rfl))
  | ldc2_w k =>
    simp only [ps_ck, Bool.and_eq_true, beq_iff_eq] at h
    obtain ⟨h1, h2, h3⟩ := h
    subst h1
    exact ps_fin ((ps_bk _ (ps_r1 (ps_ckb_ok (j := 0) h2))).trans ((ps_bk _ (ps_ckw_ok (j := 1) h3)).trans rfl))
  | getstatic k =>
    simp only [ps_ck, Bool.and_eq_true, beq_iff_eq] at h
    obtain ⟨h1, h2, h3⟩ := h
    subst h1
    exact ps_fin ((ps_bk _ (ps_r1 (ps_ckb_ok (j := 0) h2))).trans ((ps_bk _ (ps_ckw_ok (j := 1) h3)).trans rfl))
  | getfield k =>
    simp only [ps_ck, Bool.and_eq_true, beq_iff_eq] at h
    obtain ⟨h1, h2, h3⟩ := h
    subst h1
    exact ps_fin ((ps_bk _ (ps_r1 (ps_ckb_ok (j := 0) h2))).trans ((ps_bk _ (ps_ckw_ok (j := 1) h3)).trans rfl))
  | putfield k =>
    simp only [ps_ck, Bool.and_eq_true, beq_iff_eq] at h
    obtain ⟨h1, h2, h3⟩ := h
    subst h1
    exact ps_fin ((ps_bk _ (ps_r1 (ps_ckb_ok (j := 0) h2))).trans ((ps_bk _ (ps_ckw_ok (j := 1) h3)).trans rfl))
  | invokevirtual k =>
    simp only [ps_ck, Bool.and_eq_true, beq_iff_eq] at h
    obtain ⟨h1, h2, h3⟩ := h
    subst h1
    exact ps_fin ((ps_bk _ (ps_r1 (ps_ckb_ok (j := 0) h2))).trans ((ps_bk _ (ps_ckw_ok (j := 1) h3)).trans rfl))
  | invokespecial k =>
    simp only [ps_ck, Bool.and_eq_true, beq_iff_eq] at h
    obtain ⟨h1, h2, h3⟩ := h
    subst h1
    exact ps_fin ((ps_bk _ (ps_r1 (ps_ckb_ok (j := 0) h2))).trans ((ps_bk _ (ps_ckw_ok (j := 1) h3)).trans rfl))
  | invokestatic k =>
    simp only [ps_ck, Bool.and_eq_true, beq_iff_eq] at h
    obtain ⟨h1, h2, h3⟩ := h
    subst h1
    exact ps_fin ((ps_bk _ (ps_r1 (ps_ckb_ok (j := 0) h2))).trans ((ps_bk _ (ps_ckw_ok (j := 1) h3)).trans rfl))
  | new k =>
    simp only [ps_ck, Bool.and_eq_true, beq_iff_eq] at h
    obtain ⟨h1, h2, h3⟩ := h
    subst h1
    exact ps_fin ((ps_bk _ (ps_r1 (ps_ckb_ok (j := 0) h2))).trans ((ps_bk _ (ps_ckw_ok (j := 1) h3)).trans rfl))
  | anewarray k =>
    simp only [ps_ck, Bool.and_eq_true, beq_iff_eq] at h
    obtain ⟨h1, h2, h3⟩ := h
    subst h1
    exact ps_fin ((ps_bk _ (ps_r1 (ps_ckb_ok (j := 0) h2))).trans ((ps_bk _ (ps_ckw_ok (j := 1) h3)).trans rfl))
  | checkcast k =>
    simp only [ps_ck, Bool.and_eq_true, beq_iff_eq] at h
    obtain ⟨h1, h2, h3⟩ := h
    subst h1
    exact ps_fin ((ps_bk _ (ps_r1 (ps_ckb_ok (j := 0) h2))).trans ((ps_bk _ (ps_ckw_ok (j := 1) h3)).trans rfl))
  | sipush z =>
    simp only [ps_ck, Bool.and_eq_true, beq_iff_eq] at h
    obtain ⟨h1, h2, h3⟩ := h
    subst h1
    exact ps_fin ((ps_bk _ (ps_r1 (ps_ckb_ok (j := 0) h2))).trans ((ps_bk _ (ps_ckz_ok (j := 1) h3)).trans rfl))
  | goto z =>
    simp only [ps_ck, Bool.and_eq_true, beq_iff_eq] at h
    obtain ⟨h1, h2, h3⟩ := h
    subst h1
    exact ps_fin ((ps_bk _ (ps_r1 (ps_ckb_ok (j := 0) h2))).trans ((ps_bk _ (ps_ckz_ok (j := 1) h3)).trans rfl))
  | ifnull z =>
    simp only [ps_ck, Bool.and_eq_true, beq_iff_eq] at h
    obtain ⟨h1, h2, h3⟩ := h
    subst h1
    exact ps_fin ((ps_bk _ (ps_r1 (ps_ckb_ok (j := 0) h2))).trans ((ps_bk _ (ps_ckz_ok (j := 1) h3)).trans rfl))
  | ifnonnull z =>
    simp only [ps_ck, Bool.and_eq_true, beq_iff_eq] at h
    obtain ⟨h1, h2, h3⟩ := h
    subst h1
    exact ps_fin ((ps_bk _ (ps_r1 (ps_ckb_ok (j := 0) h2))).trans ((ps_bk _ (ps_ckz_ok (j := 1) h3)).trans rfl))
  | bipush z =>
    simp only [ps_ck, Bool.and_eq_true, beq_iff_eq] at h
    obtain ⟨h1, h2, h3⟩ := h
    subst h1
    exact ps_fin ((ps_bk _ (ps_r1 (ps_ckb_ok (j := 0) h2))).trans ((ps_bk _ (ps_cks_ok (j := 1) h3)).trans rfl))
  | iinc k z =>
    simp only [ps_ck, Bool.and_eq_true, beq_iff_eq] at h
    obtain ⟨h1, h2, h3, h4⟩ := h
    subst h1
    exact ps_fin ((ps_bk _ (ps_r1 (ps_ckb_ok (j := 0) h2))).trans ((ps_bk _ (ps_r1 (ps_ckb_ok (j := 1) h3))).trans ((ps_bk _ (ps_cks_ok (j := 2) h4)).trans rfl)))
  | multianewarray k q =>
    simp only [ps_ck, Bool.and_eq_true, beq_iff_eq] at h
    obtain ⟨h1, h2, h3, h4, h5⟩ := h
    subst h1
    subst h5
    exact ps_fin ((ps_bk _ (ps_r1 (ps_ckb_ok (j := 0) h2))).trans ((ps_bk _ (ps_ckw_ok (j := 1) h3)).trans ((ps_bk _ (ps_r1 (ps_ckb_ok (j := 3) h4))).trans rfl)))
  | ifCond c z =>
    simp only [ps_ck, Bool.and_eq_true, beq_iff_eq] at h
    obtain ⟨h1, h2, h3⟩ := h
    subst h1
    cases c <;> exact ps_fin ((ps_bk _ (ps_r1 (ps_ckb_ok (j := 0) h2))).trans ((ps_bk _ (ps_ckz_ok (j := 1) h3)).trans rfl))
  | if_icmp c z =>
    simp only [ps_ck, Bool.and_eq_true, beq_iff_eq] at h
    obtain ⟨h1, h2, h3⟩ := h
    subst h1
    cases c <;> exact ps_fin ((ps_bk _ (ps_r1 (ps_ckb_ok (j := 0) h2))).trans ((ps_bk _ (ps_ckz_ok (j := 1) h3)).trans rfl))
  | if_acmp c z =>
    simp only [ps_ck, Bool.and_eq_true, beq_iff_eq] at h
    obtain ⟨h1, h2, h3⟩ := h
    subst h1
    cases c <;> exact ps_fin ((ps_bk _ (ps_r1 (ps_ckb_ok (j := 0) h2))).trans ((ps_bk _ (ps_ckz_ok (j := 1) h3)).trans rfl))
  | iload_n k =>
    simp only [ps_ck, Bool.and_eq_true, beq_iff_eq] at h
    obtain ⟨h1, h2⟩ := h
    subst h1
    match k, h2 with
    | 0, h2 => exact ps_fin ((ps_bk _ (ps_r1 (ps_ckb_ok (j := 0) h2))).trans rfl)
    | 1, h2 => exact ps_fin ((ps_bk _ (ps_r1 (ps_ckb_ok (j := 0) h2))).trans rfl)
    | 2, h2 => exact ps_fin ((ps_bk _ (ps_r1 (ps_ckb_ok (j := 0) h2))).trans rfl)
    | 3, h2 => exact ps_fin ((ps_bk _ (ps_r1 (ps_ckb_ok (j := 0) h2))).trans rfl)
  | lload_n k =>
    simp only [ps_ck, Bool.and_eq_true, beq_iff_eq] at h
    obtain ⟨h1, h2⟩ := h
    subst h1
    match k, h2 with
    | 0, h2 => exact ps_fin ((ps_bk _ (ps_r1 (ps_ckb_ok (j := 0) h2))).trans rfl)
    | 1, h2 => exact ps_fin ((ps_bk _ (ps_r1 (ps_ckb_ok (j := 0) h2))).trans rfl)
    | 2, h2 => exact ps_fin ((ps_bk _ (ps_r1 (ps_ckb_ok (j := 0) h2))).trans rfl)
    | 3, h2 => exact ps_fin ((ps_bk _ (ps_r1 (ps_ckb_ok (j := 0) h2))).trans rfl)
  | aload_n k =>
    simp only [ps_ck, Bool.and_eq_true, beq_iff_eq] at h
    obtain ⟨h1, h2⟩ := h
    subst h1
    match k, h2 with
    | 0, h2 => exact ps_fin ((ps_bk _ (ps_r1 (ps_ckb_ok (j := 0) h2))).trans rfl)
    | 1, h2 => exact ps_fin ((ps_bk _ (ps_r1 (ps_ckb_ok (j := 0) h2))).trans rfl)
    | 2, h2 => exact ps_fin ((ps_bk _ (ps_r1 (ps_ckb_ok (j := 0) h2))).trans rfl)
    | 3, h2 => exact ps_fin ((ps_bk _ (ps_r1 (ps_ckb_ok (j := 0) h2))).trans rfl)
  | istore_n k =>
    simp only [ps_ck, Bool.and_eq_true, beq_iff_eq] at h
    obtain ⟨h1, h2⟩ := h
    subst h1
    match k, h2 with
    | 0, h2 => exact ps_fin ((ps_bk _ (ps_r1 (ps_ckb_ok (j := 0) h2))).trans rfl)
    | 1, h2 => exact ps_fin ((ps_bk _ (ps_r1 (ps_ckb_ok (j := 0) h2))).trans rfl)
    | 2, h2 => exact ps_fin ((ps_bk _ (ps_r1 (ps_ckb_ok (j := 0) h2))).trans rfl)
    | 3, h2 => exact ps_fin ((ps_bk _ (ps_r1 (ps_ckb_ok (j := 0) h2))).trans rfl)
  | lstore_n k =>
    simp only [ps_ck, Bool.and_eq_true, beq_iff_eq] at h
    obtain ⟨h1, h2⟩ := h
    subst h1
    match k, h2 with
    | 0, h2 => exact ps_fin ((ps_bk _ (ps_r1 (ps_ckb_ok (j := 0) h2))).trans rfl)
    | 1, h2 => exact ps_fin ((ps_bk _ (ps_r1 (ps_ckb_ok (j := 0) h2))).trans rfl)
    | 2, h2 => exact ps_fin ((ps_bk _ (ps_r1 (ps_ckb_ok (j := 0) h2))).trans rfl)
    | 3, h2 => exact ps_fin ((ps_bk _ (ps_r1 (ps_ckb_ok (j := 0) h2))).trans rfl)
  | astore_n k =>
    simp only [ps_ck, Bool.and_eq_true, beq_iff_eq] at h
    obtain ⟨h1, h2⟩ := h
    subst h1
    match k, h2 with
    | 0, h2 => exact ps_fin ((ps_bk _ (ps_r1 (ps_ckb_ok (j := 0) h2))).trans rfl)
    | 1, h2 => exact ps_fin ((ps_bk _ (ps_r1 (ps_ckb_ok (j := 0) h2))).trans rfl)
    | 2, h2 => exact ps_fin ((ps_bk _ (ps_r1 (ps_ckb_ok (j := 0) h2))).trans rfl)
    | 3, h2 => exact ps_fin ((ps_bk _ (ps_r1 (ps_ckb_ok (j := 0) h2))).trans rfl)
  | lconst k =>
    simp only [ps_ck, Bool.and_eq_true, beq_iff_eq] at h
    obtain ⟨h1, h2⟩ := h
    subst h1
    match k, h2 with
    | 0, h2 => exact ps_fin ((ps_bk _ (ps_r1 (ps_ckb_ok (j := 0) h2))).trans rfl)
    | 1, h2 => exact ps_fin ((ps_bk _ (ps_r1 (ps_ckb_ok (j := 0) h2))).trans rfl)
  | iconst z =>
    simp only [ps_ck, Bool.and_eq_true, beq_iff_eq] at h
    obtain ⟨h1, h2⟩ := h
    subst h1
    split at h2
    all_goals first
      | exact ps_fin ((ps_bk _ (ps_r1 (ps_ckb_ok (j := 0) h2))).trans rfl)
      | exact absurd h2 (by decide)
  | newarray a =>
    simp only [ps_ck, Bool.and_eq_true, beq_iff_eq] at h
    obtain ⟨h1, h2, h3⟩ := h
    subst h1
    split at h3
    all_goals first
      | exact ps_fin ((ps_bk _ (ps_r1 (ps_ckb_ok (j := 0) h2))).trans ((ps_bk _ (ps_r1 (ps_ckb_ok (j := 1) h3))).trans rfl))
      | exact absurd h3 (by decide)
  | _ => exact absurd h (by simp [ps_ck])
/-- the instructions is stand from pc on -/
def ps_ckl : List (Instr × Nat) → List UInt8 → Bool
  | [], _ => true
  | (i, n) :: r, bs => ps_ck i n bs && ps_ckl r (bs.drop n)
def ps_D (cc : ByteArray) (pc : Nat) (is : List (Instr × Nat)) : Prop := ps_ckl is (cc.data.toList.drop pc) = true
theorem ps_D_hd {cc : ByteArray} {pc n : Nat} {i : Instr} {r : List (Instr × Nat)} (h : ps_D cc pc ((i, n) :: r)) : decode cc pc = .ok (i, n) := by
  unfold ps_D ps_ckl at h
  rw [Bool.and_eq_true] at h
  exact ps_ck_ok h.1
theorem ps_D_tl {cc : ByteArray} {pc n : Nat} {i : Instr} {r : List (Instr × Nat)} (h : ps_D cc pc ((i, n) :: r)) : ps_D cc (pc + n) r := by
  unfold ps_D ps_ckl at h
  rw [Bool.and_eq_true, List.drop_drop] at h
  exact h.2
