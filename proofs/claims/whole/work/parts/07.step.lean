/-! ===== one instruction, continued (drafted by tools/step.py) ===== -/
def ps_c1 (c : Jvm.ClassFile.Cond) (x : Int32) : Prop := match c with
  | .eq => x = 0
  | .ne => ¬ x = 0
  | .lt => x < 0
  | .ge => 0 ≤ x
  | .gt => 0 < x
  | .le => x ≤ 0
def ps_c2 (c : Jvm.ClassFile.Cond) (x y : Int32) : Prop := match c with
  | .eq => x = y
  | .ne => ¬ x = y
  | .lt => x < y
  | .ge => y ≤ x
  | .gt => y < x
  | .le => x ≤ y
def ps_cst (o : ps_O) (f : Value → Prop) : Prop := match o with
  | .inr (.inr (.inl v)) => f v
  | _ => False
def ps_num (o : ps_O) (f : Nat → Prop) : Prop := match o with
  | .inr (.inr (.inr n)) => f n
  | _ => False
def ps_fld (o : ps_O) (f : Nat → Nat → Prop) : Prop := match o with
  | .inl (ci, k) => f ci k
  | _ => False
def ps_sa (st : List Value) (f : Nat → List Value → Prop) : Prop := match st with
  | .ref a :: r => f a r
  | _ => False
def ps_sia (st : List Value) (f : Nat → Int32 → List Value → Prop) : Prop := match st with
  | .int i :: .ref a :: r => f a i r
  | _ => False
def ps_siia (st : List Value) (f : Nat → Int32 → Int32 → List Value → Prop) : Prop := match st with
  | .int x :: .int i :: .ref a :: r => f a i x r
  | _ => False
def ps_slia (st : List Value) (f : Nat → Int32 → Int64 → List Value → Prop) : Prop := match st with
  | .long x :: .int i :: .ref a :: r => f a i x r
  | _ => False
def ps_sqia (st : List Value) (f : Nat → Int32 → Option Nat → List Value → Prop) : Prop := ∃ a i x r, st = va_rf x :: .int i :: .ref a :: r ∧ f a i x r
def ps_sva (st : List Value) (f : Value → Nat → List Value → Prop) : Prop := match st with
  | v :: .ref a :: r => f v a r
  | _ => False
def ps_scp (st : List Value) (f : Nat → Int32 → Nat → Int32 → Int32 → List Value → Prop) : Prop := match st with
  | .int n :: .int dp :: .ref a :: .int sp :: .ref a0 :: r => f a0 sp a dp n r
  | _ => False
theorem ps_sa_e {st : List Value} {f : Nat → List Value → Prop} (h : ps_sa st f) : ∃ a r, st = .ref a :: r ∧ f a r := by
  unfold ps_sa at h; split at h
  · exact ⟨_, _, rfl, h⟩
  · exact h.elim
theorem ps_sia_e {st : List Value} {f : Nat → Int32 → List Value → Prop} (h : ps_sia st f) : ∃ a i r, st = .int i :: .ref a :: r ∧ f a i r := by
  unfold ps_sia at h; split at h
  · exact ⟨_, _, _, rfl, h⟩
  · exact h.elim
theorem ps_siia_e {st : List Value} {f : Nat → Int32 → Int32 → List Value → Prop} (h : ps_siia st f) : ∃ a i x r, st = .int x :: .int i :: .ref a :: r ∧ f a i x r := by
  unfold ps_siia at h; split at h
  · exact ⟨_, _, _, _, rfl, h⟩
  · exact h.elim
theorem ps_slia_e {st : List Value} {f : Nat → Int32 → Int64 → List Value → Prop} (h : ps_slia st f) : ∃ a i x r, st = .long x :: .int i :: .ref a :: r ∧ f a i x r := by
  unfold ps_slia at h; split at h
  · exact ⟨_, _, _, _, rfl, h⟩
  · exact h.elim
theorem ps_sqia_e {st : List Value} {f : Nat → Int32 → Option Nat → List Value → Prop} (h : ps_sqia st f) : ∃ a i x r, st = va_rf x :: .int i :: .ref a :: r ∧ f a i x r := h
theorem ps_sva_e {st : List Value} {f : Value → Nat → List Value → Prop} (h : ps_sva st f) : ∃ v a r, st = v :: .ref a :: r ∧ f v a r := by
  unfold ps_sva at h; split at h
  · exact ⟨_, _, _, rfl, h⟩
  · exact h.elim
theorem ps_scp_e {st : List Value} {f : Nat → Int32 → Nat → Int32 → Int32 → List Value → Prop} (h : ps_scp st f) : ∃ a0 sp a dp n r, st = .int n :: .int dp :: .ref a :: .int sp :: .ref a0 :: r ∧ f a0 sp a dp n r := by
  unfold ps_scp at h; split at h
  · exact ⟨_, _, _, _, _, _, rfl, h⟩
  · exact h.elim
/-- n arguments off the stack: they and the rest -/
def ps_ct : Nat → List Value → List Value → (List Value → List Value → Prop) → Prop
  | 0, acc, st, f => f acc st
  | n + 1, acc, v :: st, f => ps_ct n (v :: acc) st f
  | _ + 1, _, [], _ => False
theorem ps_ct_e {n : Nat} {acc st : List Value} {f : List Value → List Value → Prop} (h : ps_ct n acc st f) : ∃ t r, st = t ++ r ∧ t.length = n ∧ f (t.reverse ++ acc) r := by
  induction n generalizing acc st with
  | zero => exact ⟨[], st, rfl, rfl, h⟩
  | succ n ih =>
    cases st with
    | nil => exact h.elim
    | cons v st =>
      obtain ⟨t, r, e1, e2, e3⟩ := ih h
      refine ⟨v :: t, r, by rw [e1]; rfl, by rw [List.length_cons, e2], ?_⟩
      rw [List.reverse_cons, List.append_assoc]; exact e3
def ps_pp (n mL : Nat) (st : List Value) (f : List Value → List Value → Prop) : Prop := ps_ct n [] st fun av r => match (Nat.ble (ps_wd2 av) mL && Nat.ble (ps_wd2 r) 8) with
  | true => f av r
  | false => False
def ps_pv (n mL : Nat) (st : List Value) (f : Nat → List Value → List Value → Prop) : Prop := ps_ct n [] st fun av r => match r with
  | .ref a :: r => (match (Nat.ble (ps_wd2 (.ref a :: av)) mL && Nat.ble (ps_wd2 r) 8) with
    | true => f a av r
    | false => False)
  | _ => False
theorem ps_pp_e {n mL : Nat} {st : List Value} {f : List Value → List Value → Prop} (h : ps_pp n mL st f) : ∃ av r, st = av.reverse ++ r ∧ av.length = n ∧ ps_wd2 av ≤ mL ∧ ps_wd2 r ≤ 8 ∧ f av r := by
  obtain ⟨t, r, e1, e2, h⟩ := ps_ct_e h
  rw [List.append_nil] at h
  split at h
  · rename_i e
    simp only [Bool.and_eq_true, Nat.ble_eq] at e
    exact ⟨_, _, by rw [List.reverse_reverse, e1], by rw [List.length_reverse, e2], e.1, e.2, h⟩
  · exact h.elim
theorem ps_pv_e {n mL : Nat} {st : List Value} {f : Nat → List Value → List Value → Prop} (h : ps_pv n mL st f) : ∃ a av r, st = av.reverse ++ .ref a :: r ∧ av.length = n ∧ ps_wd2 (.ref a :: av) ≤ mL ∧ ps_wd2 r ≤ 8 ∧ f a av r := by
  obtain ⟨t, r, e1, e2, h⟩ := ps_ct_e h
  rw [List.append_nil] at h
  split at h
  · rename_i a r
    split at h
    · rename_i e
      simp only [Bool.and_eq_true, Nat.ble_eq] at e
      exact ⟨_, _, _, by rw [List.reverse_reverse, e1], by rw [List.length_reverse, e2], e.1, e.2, h⟩
    · exact h.elim
  · exact h.elim
def ps_cal (o : ps_O) (f : Nat → Nat → ps_M → Prop) : Prop := match o with
  | .inr (.inl (n, c, M')) => f n c M'
  | _ => False
def ps_dd (d : Nat) (f : Nat → Prop) : Prop := match d with
  | 0 => False
  | d + 1 => f d
theorem ps_dd_e {d : Nat} {f : Nat → Prop} (h : ps_dd d f) : ∃ d', d = d' + 1 ∧ f d' := by
  cases d with
  | zero => exact h.elim
  | succ d => exact ⟨d, rfl, h⟩
/-- behind a call -/
def ps_af (s : List Value) (K : List Value → ps_G → Prop) (T : String → ps_G → Prop) : ps_Rs → ps_G → Prop := fun r g => match r with
  | .inl (some v) => K (v :: s) g
  | .inl none => K s g
  | .inr E => T E g
def ps_rt (M : ps_M) (x : Int32) (P : Prop) : Prop := match M.2.2.2.1 with
  | some .int => P
  | some .boolean => (x = 0 ∨ x = 1) ∧ P
  | _ => False
theorem ps_rt_e {M : ps_M} {x : Int32} {P : Prop} (h : ps_rt M x P) : ∃ ty, M.2.2.2.1 = some ty ∧ narrow ty (.int x) = .int x ∧ P := by
  unfold ps_rt at h; split at h
  · exact ⟨_, by assumption, rfl, h⟩
  · refine ⟨_, by assumption, ?_, h.2⟩
    rcases h.1 with e | e <;> rw [e] <;> decide
  · exact h.elim
def ps_lk (M : ps_M) (i : Instr) (o : ps_O) : Prop := match i with
  | .getfield idx => (match o with | .inl (ci, k) => ps_Lf M.1.cls idx ci k | _ => True)
  | .putfield idx => (match o with | .inl (ci, k) => ps_Lf M.1.cls idx ci k ∧ ps_Lq M.1.name M.1.cls ci k | _ => True)
  | .getstatic idx => (match o with | .inr (.inr (.inr k)) => ps_Ls M.1.cls idx k | _ => True)
  | .new idx => (match o with | .inr (.inr (.inr ci)) => ps_Ln M.1.cls idx ci | _ => True)
  | .anewarray idx => (match o with | .inr (.inr (.inr k)) => (k = 3 ∧ Cond.classLink M.1.cls idx "PictureStudio$Layer" ∈ ps_W) ∨ (k = 4 ∧ Cond.classLink M.1.cls idx "PictureStudio$Stand" ∈ ps_W) | _ => True)
  | .multianewarray idx _ => Cond.classLink M.1.cls idx "[[I" ∈ ps_W
  | .checkcast idx => Cond.classLink M.1.cls idx "[I" ∈ ps_W
  | .ldc idx => (match o with | .inr (.inr (.inl (.int x))) => Cond.constant M.1.cls idx x ∈ ps_W | _ => False)
  | .ldc_w idx => (match o with | .inr (.inr (.inl (.int x))) => Cond.constant M.1.cls idx x ∈ ps_W | _ => False)
  | .ldc2_w idx => (match o with | .inr (.inr (.inl (.long x))) => Cond.constantLong M.1.cls idx x ∈ ps_W | _ => False)
  | .invokestatic idx => (match o with
    | .inr (.inl (n, 0, M')) => ps_Lm M' n ∧ Cond.methodLink M.1.cls idx M'.1 ∈ ps_W ∧ Cond.static M'.1 ∈ ps_W ∧ M.2.2.2.2 = []
    | .inr (.inl (n, 2, M')) => ps_LmH M' n ∧ Cond.methodLink M.1.cls idx M'.1 ∈ ps_W ∧ Cond.static M'.1 ∈ ps_W
    | .inr (.inl (n, 1, M')) => ps_Lm M' n ∧ (∃ host, Cond.methodLinkNest M.1.cls idx M'.1 host ∈ ps_N) ∧ Cond.static M'.1 ∈ ps_W
    | .inr (.inl (_, _ + 3, _)) => False
    | _ => ps_Ly M.1.cls idx)
  | .invokevirtual idx => (match o with
    | .inr (.inl (n, ci, M')) => ps_Lm M' n ∧ Cond.methodLink M.1.cls idx M'.1 ∈ ps_W ∧ Cond.instanceMethod M'.1 ∈ ps_W ∧ Cond.selects M'.1.cls M'.1 M'.1 ∈ ps_W ∧ (∃ T N, vwCl[ci]? = some (M'.1.cls, T, N)) ∧ M.2.2.2.2 = []
    | _ => ps_Lz M.1.cls idx)
  | .invokespecial idx => (match o with
    | .inr (.inl (n, _, M')) => ps_Lm M' n ∧ (Cond.methodLink M.1.cls idx M'.1 ∈ ps_W ∨ ∃ host, Cond.methodLinkNest M.1.cls idx M'.1 host ∈ ps_N) ∧ Cond.instanceMethod M'.1 ∈ ps_W ∧ M'.1.name = "<init>" ∧ M'.2.2.2.1 = none
    | _ => Cond.methodLink M.1.cls idx Lib.objectInit ∈ ps_W ∧ Cond.instanceMethod Lib.objectInit ∈ ps_W ∧ Cond.code Lib.objectInit ⟨#[0xb1]⟩ 1 none ∈ ps_W)
  | _ => True
def ps_st1 (M : ps_M) (d : Nat) (Q : ps_Rs → ps_G → Prop) (i : Instr) (o : ps_O) (pc : Nat) (lv : ps_LV) (st : List Value) (g : ps_G) (K : ps_LV → List Value → ps_G → Prop) : Prop := match i with
  | .iconst z => K lv (.int (Int32.ofInt z) :: st) g
  | .bipush z => K lv (.int (Int8.ofInt z).toInt32 :: st) g
  | .sipush z => K lv (.int (Int16.ofInt z).toInt32 :: st) g
  | .lconst z => K lv (.long (Int64.ofNat z.val) :: st) g
  | .aconst_null => K lv (.null :: st) g
  | .iload k => ps_gi lv k fun x => K lv (.int x :: st) g
  | .iload_n k => ps_gi lv k.val fun x => K lv (.int x :: st) g
  | .lload k => ps_gl lv k fun x => K lv (.long x :: st) g
  | .lload_n k => ps_gl lv k.val fun x => K lv (.long x :: st) g
  | .aload k => ps_gq lv k fun v => K lv (v :: st) g
  | .aload_n k => ps_gq lv k.val fun v => K lv (v :: st) g
  | .istore k => ps_si st fun x r => k < M.2.2.1 ∧ K (ps_set1 lv k (.int x)) r g
  | .istore_n k => ps_si st fun x r => k.val < M.2.2.1 ∧ K (ps_set1 lv k.val (.int x)) r g
  | .lstore k => ps_sl st fun x r => k + 1 < M.2.2.1 ∧ K (ps_set2 lv k (.long x)) r g
  | .lstore_n k => ps_sl st fun x r => k.val + 1 < M.2.2.1 ∧ K (ps_set2 lv k.val (.long x)) r g
  | .astore k => ps_sq st fun x r => k < M.2.2.1 ∧ K (ps_set1 lv k (va_rf x)) r g
  | .astore_n k => ps_sq st fun x r => k.val < M.2.2.1 ∧ K (ps_set1 lv k.val (va_rf x)) r g
  | .iinc k z => ps_gi lv k fun x => k < M.2.2.1 ∧ K (ps_set1 lv k (.int (x + Int32.ofInt z))) st g
  | .iadd => ps_sii st fun x y r => K lv (.int (x + y) :: r) g
  | .isub => ps_sii st fun x y r => K lv (.int (x - y) :: r) g
  | .imul => ps_sii st fun x y r => K lv (.int (x * y) :: r) g
  | .iand => ps_sii st fun x y r => K lv (.int (x &&& y) :: r) g
  | .ior => ps_sii st fun x y r => K lv (.int (x ||| y) :: r) g
  | .ixor => ps_sii st fun x y r => K lv (.int (x ^^^ y) :: r) g
  | .ishl => ps_sii st fun x y r => K lv (.int (x <<< (y &&& 31)) :: r) g
  | .ishr => ps_sii st fun x y r => K lv (.int (x >>> (y &&& 31)) :: r) g
  | .iushr => ps_sii st fun x y r => K lv (.int (x.toUInt32 >>> (y.toUInt32 &&& Int32.toUInt32 31)).toInt32 :: r) g
  | .idiv => ps_sii st fun x y r => ¬ y = 0 ∧ ∃ z9, x / y = z9 ∧ K lv (.int z9 :: r) g
  | .irem => ps_sii st fun x y r => ¬ y = 0 ∧ ∃ z9, x - x / y * y = z9 ∧ K lv (.int z9 :: r) g
  | .ineg => ps_si st fun x r => K lv (.int (-x) :: r) g
  | .ladd => ps_sll st fun x y r => K lv (.long (x + y) :: r) g
  | .lsub => ps_sll st fun x y r => K lv (.long (x - y) :: r) g
  | .lmul => ps_sll st fun x y r => K lv (.long (x * y) :: r) g
  | .lor => ps_sll st fun x y r => K lv (.long (x ||| y) :: r) g
  | .ldiv => ps_sll st fun x y r => ¬ y = 0 ∧ ∃ z9, x / y = z9 ∧ K lv (.long z9 :: r) g
  | .lneg => ps_sl st fun x r => K lv (.long (-x) :: r) g
  | .lshl => ps_sli st fun x y r => K lv (.long (x <<< (y.toInt64 &&& 63)) :: r) g
  | .lcmp => ps_sll st fun x y r => K lv (.int (lg_cmp x y) :: r) g
  | .i2l => ps_si st fun x r => K lv (.long x.toInt64 :: r) g
  | .l2i => ps_sl st fun x r => K lv (.int x.toInt32 :: r) g
  | .dup => ps_sv1 st fun v r => K lv (v :: v :: r) g
  | .pop => ps_sv1 st fun _ r => K lv r g
  | .dup2 => ps_sv2 st fun v w r => K lv (v :: w :: v :: w :: r) g
  | .goto z => ps_At M d (ps_tg pc z) lv st g Q
  | .ifCond c z => ps_si st fun x r => (ps_c1 c x → ps_At M d (ps_tg pc z) lv r g Q) ∧ (¬ ps_c1 c x → K lv r g)
  | .if_icmp c z => ps_sii st fun x y r => (ps_c2 c x y → ps_At M d (ps_tg pc z) lv r g Q) ∧ (¬ ps_c2 c x y → K lv r g)
  | .ifnull z => ps_sq st fun x r => (x = none → ps_At M d (ps_tg pc z) lv r g Q) ∧ (¬ x = none → K lv r g)
  | .ifnonnull z => ps_sq st fun x r => (¬ x = none → ps_At M d (ps_tg pc z) lv r g Q) ∧ (x = none → K lv r g)
  | .getfield idx => ps_fld o fun ci k => ps_sa st fun a r => ∃ fs v, g.2.2 a = .inr (ci, fs) ∧ fs[k]? = some v ∧ K lv (v :: r) g
  | .putfield idx => ps_fld o fun ci k => ps_sva st fun v a r => ∃ fs, g.2.2 a = .inr (ci, fs) ∧ k < fs.length ∧ narrow (ps_fty ci k) v = v ∧ fits (ps_fty ci k) v = true ∧ ∃ g9, ps_up g a (.inr (ci, fs.set k v)) = g9 ∧ K lv r g9
  | .getstatic idx => ps_num o fun k => K lv (.ref k :: st) g
  | .new idx => ps_num o fun ci => K lv (.ref g.1 :: st) (ps_nw g (ps_cN ci) (.inr (ci, ps_df ci)))
  | .iaload => ps_sia st fun a i r => ∃ N f, g.2.2 a = .inl (0, (N, .inl f)) ∧ vp_in i N ∧ ∃ v9, f i.toNatClampNeg = v9 ∧ K lv (.int v9 :: r) g
  | .laload => ps_sia st fun a i r => ∃ N f, g.2.2 a = .inl (1, (N, .inr (.inl f))) ∧ vp_in i N ∧ ∃ v9, f i.toNatClampNeg = v9 ∧ K lv (.long v9 :: r) g
  | .baload => ps_sia st fun a i r => ∃ N f, g.2.2 a = .inl (2, (N, .inl f)) ∧ vp_in i N ∧ ∃ v9, f i.toNatClampNeg = v9 ∧ K lv (.int v9 :: r) g
  | .aaload => ps_sia st fun a i r => ∃ k N f o, g.2.2 a = .inl (k, (N, .inr (.inr (.inr (.inr f))))) ∧ 3 ≤ k ∧ k < 6 ∧ vp_in i N ∧ f i.toNatClampNeg = o ∧ K lv (va_rf o :: r) g
  | .iastore => ps_siia st fun a i x r => ∃ N f, g.2.2 a = .inl (0, (N, .inl f)) ∧ 8 ≤ a ∧ vp_in i N ∧ ∃ g9, ps_up g a (.inl (0, (N, .inl (upd f i.toNatClampNeg x)))) = g9 ∧ K lv r g9
  | .lastore => ps_slia st fun a i x r => ∃ N f, g.2.2 a = .inl (1, (N, .inr (.inl f))) ∧ vp_in i N ∧ ∃ g9, ps_up g a (.inl (1, (N, .inr (.inl (vp_updL f i.toNatClampNeg x))))) = g9 ∧ K lv r g9
  | .bastore => ps_siia st fun a i x r => ∃ N f, g.2.2 a = .inl (2, (N, .inl f)) ∧ vp_in i N ∧ ∃ g9, ps_up g a (.inl (2, (N, .inl (upd f i.toNatClampNeg (vp_nar .boolean x))))) = g9 ∧ K lv r g9
  | .aastore => ps_sqia st fun a i x r => ∃ k N f, g.2.2 a = .inl (k, (N, .inr (.inr (.inr (.inr f))))) ∧ vp_in i N ∧ (x = none → (k = 3 ∨ k = 4)) ∧ (∀ b, x = some b → ∃ ci vs, g.2.2 b = .inr (ci, vs) ∧ ((k = 3 ∧ ci = 4) ∨ (k = 4 ∧ ci = 9))) ∧ ∃ g9, ps_up g a (.inl (k, (N, .inr (.inr (.inr (.inr (va_up f i.toNatClampNeg x))))))) = g9 ∧ K lv r g9
  | .arraylength => ps_sa st fun a r => ∃ k x, g.2.2 a = .inl (k, x) ∧ k < 6 ∧ ∃ v9, Int32.ofNat x.1 = v9 ∧ K lv (.int v9 :: r) g
  | .newarray t => ps_si st fun x r => (t = .int ∨ t = .long ∨ t = .boolean) ∧ ¬ x < 0 ∧ x.toNatClampNeg ≤ 1000000 ∧ ∃ g9, ps_nw g x.toNatClampNeg (.inl (ps_ak t, (x.toNatClampNeg, ps_az t))) = g9 ∧ K lv (.ref g.1 :: r) g9
  | .anewarray idx => ps_num o fun k => ps_si st fun x r => ¬ x < 0 ∧ x.toNatClampNeg ≤ 1000000 ∧ ∃ g9, ps_nw g x.toNatClampNeg (.inl (k, (x.toNatClampNeg, .inr (.inr (.inr (.inr fun _ => none)))))) = g9 ∧ K lv (.ref g.1 :: r) g9
  | .multianewarray idx q => ps_sii st fun x y r => q = 2 ∧ ¬ x < 0 ∧ ¬ y < 0 ∧ x.toNatClampNeg ≤ 1000 ∧ y.toNatClampNeg ≤ 100000 ∧ ∃ g9, ps_gr g x.toNatClampNeg y.toNatClampNeg = g9 ∧ K lv (.ref g.1 :: r) g9
  | .checkcast idx => ps_sa st fun a r => ∃ N f, g.2.2 a = .inl (0, (N, .inl f)) ∧ 8 ≤ a ∧ K lv (.ref a :: r) g
  | .ldc idx => ps_cst o fun v => K lv (v :: st) g
  | .ldc_w idx => ps_cst o fun v => K lv (v :: st) g
  | .ldc2_w idx => ps_cst o fun v => K lv (v :: st) g
  | .if_acmp c z => ps_sqq st fun x y r => c = .ne ∧ (∀ a, x = some a → 8 ≤ a) ∧ (∀ a, y = some a → 8 ≤ a) ∧ (¬ x = y → ps_At M d (ps_tg pc z) lv r g Q) ∧ (x = y → K lv r g)
  | .ireturn => ps_si st fun x r => r = [] ∧ ps_rt M x (Q (.inl (some (.int x))) g)
  | .lreturn => ps_sl st fun x r => r = [] ∧ M.2.2.2.1 = some .long ∧ Q (.inl (some (.long x))) g
  | .areturn => ps_sq st fun x r => r = [] ∧ (∃ ty, M.2.2.2.1 = some ty ∧ ((∃ n, ty = .object n) ∨ ∃ t, ty = .array t)) ∧ Q (.inl (some (va_rf x))) g
  | .return_ => st = [] ∧ M.2.2.2.1 = none ∧ Q (.inl none) g
  | .invokestatic idx => match o with | .inr (.inl (n, c, M')) => (ps_dd d fun d' => ps_pp n M'.2.2.1 st fun av r => ps_Ok M' d' av g (ps_af r (fun s g1 => K lv s g1) (fun E g1 => c = 0 ∧ Q (.inr E) g1))) | _ => (ps_dd d fun d1 => ps_dd d1 fun _ => ps_scp st fun a0 sp a dp n r => ∃ n0 f n1 f1, g.2.2 a0 = .inl (0, (n0, .inl f)) ∧ g.2.2 a = .inl (0, (n1, .inl f1)) ∧ 8 ≤ a0 ∧ 8 ≤ a ∧ ¬ sp < 0 ∧ ¬ dp < 0 ∧ ¬ n < 0 ∧ sp.toNatClampNeg + n.toNatClampNeg ≤ n0 ∧ dp.toNatClampNeg + n.toNatClampNeg ≤ n1 ∧ ps_wd2 r ≤ 8 ∧ ∃ g9, ps_up g a (.inl (0, (n1, .inl (va_cpy f f1 sp.toNatClampNeg dp.toNatClampNeg n.toNatClampNeg)))) = g9 ∧ K lv r g9)
  | .invokevirtual idx => match o with | .inr (.inl (n, ci, M')) => (ps_dd d fun d' => ps_pv n M'.2.2.1 st fun a av r => (∃ fs, g.2.2 a = .inr (ci, fs)) ∧ ps_Ok M' d' (.ref a :: av) g (ps_af r (fun s g1 => K lv s g1) (fun E g1 => Q (.inr E) g1))) | _ => (ps_dd d fun d1 => ps_dd d1 fun _ => ps_sa st fun a r => ∃ N f, g.2.2 a = .inl (0, (N, .inl f)) ∧ 8 ≤ a ∧ ps_wd2 r ≤ 8 ∧ ∃ g9, ps_nw g N (.inl (0, (N, .inl f))) = g9 ∧ K lv (.ref g.1 :: r) g9)
  | .invokespecial idx => match o with | .inr (.inl (n, _, M')) => (ps_dd d fun d' => ps_pv n M'.2.2.1 st fun a av r => ps_Ok M' d' (.ref a :: av) g (ps_af r (fun s g1 => K lv s g1) (fun _ _ => False))) | _ => (ps_dd d fun _ => ps_sa st fun _ r => ps_wd2 r ≤ 8 ∧ K lv r g)
  | _ => False
/-- what a branch's place must be, for the step to be looked at -/
def ps_zok (i : Instr) (pc : Nat) : Bool := match i with
  | .goto z => decide (0 ≤ (pc : Int) + z)
  | .ifCond _ z => decide (0 ≤ (pc : Int) + z)
  | .if_icmp _ z => decide (0 ≤ (pc : Int) + z)
  | .if_acmp _ z => decide (0 ≤ (pc : Int) + z)
  | .ifnull z => decide (0 ≤ (pc : Int) + z)
  | .ifnonnull z => decide (0 ≤ (pc : Int) + z)
  | _ => true
theorem ps_get_ix {X : ps_X} {lv : ps_LV} {k : Nat} {x : Int32} (h : ps_get lv k = some (.int x)) : ∃ j : Nat, (ps_lv X lv)[j]? = some (k, Value.int x) := by
  unfold ps_get at h
  cases e : lv.find? (fun q => q.1 == k) with
  | none => rw [e] at h; cases h
  | some q =>
    rw [e] at h
    have h1 : q.2 = .int x := Option.some.inj h
    have h2 : q.1 = k := by simpa using List.find?_some e
    have h3 : (q.1, ps_v X q.2) ∈ ps_lv X lv := List.mem_map.mpr ⟨q, List.mem_of_find?_eq_some e, rfl⟩
    rw [h1, h2] at h3
    obtain ⟨j, hj, hj2⟩ := List.mem_iff_getElem.mp h3
    exact ⟨j, by rw [List.getElem?_eq_getElem hj, hj2]; rfl⟩
theorem ps_Ok.mono {M : ps_M} {d : Nat} {av : List Value} {g : ps_G} {Q Q' : ps_Rs → ps_G → Prop} (h : ps_Ok M d av g Q) (hq : ∀ r g, Q r g → Q' r g) : ps_Ok M d av g Q' := by
  obtain ⟨r, g', h1, h2⟩ := h
  exact ⟨r, g', hq r g' h1, h2⟩
set_option maxRecDepth 100000 in
set_option maxHeartbeats 4000000 in
theorem ps_st1_ok {M : ps_M} {d : Nat} {Q : ps_Rs → ps_G → Prop} {i : Instr} {n : Nat} {o : ps_O} {pc : Nat} {lv : ps_LV} {st : List Value} {g : ps_G} {K : ps_LV → List Value → ps_G → Prop} (hn : ps_ck i n (M.2.1.data.toList.drop pc) = true) (hz : ps_zok i pc = true) (hlk : ps_lk M i o)
    (h : ps_st1 M d Q i o pc lv st g K) (hk : ∀ lv st g, K lv st g → ps_At M d (pc + n) lv st g Q) : ps_At M d pc lv st g Q := by
  have hd := ps_ck_ok hn
  cases i with
  | iconst z =>
    have hn1 : n = 1 := by simp only [ps_ck, Bool.and_eq_true, beq_iff_eq] at hn; exact hn.1
    subst hn1
    have h : K lv (.int (Int32.ofInt z) :: st) g := h
    exact ps_pass (fun X p l e R s m args below meth c H locs ls cells slots Qm hK _ _ _ _ _ k => lv_iconst hK.2.1 hK.2.2.1 hd rfl k) (hk _ _ _ h)
  | bipush z =>
    have hn1 : n = 2 := by simp only [ps_ck, Bool.and_eq_true, beq_iff_eq] at hn; exact hn.1
    subst hn1
    have h : K lv (.int (Int8.ofInt z).toInt32 :: st) g := h
    exact ps_pass (fun X p l e R s m args below meth c H locs ls cells slots Qm hK _ _ _ _ _ k => lv_bipush hK.2.1 hK.2.2.1 hd rfl k) (hk _ _ _ h)
  | sipush z =>
    have hn1 : n = 3 := by simp only [ps_ck, Bool.and_eq_true, beq_iff_eq] at hn; exact hn.1
    subst hn1
    have h : K lv (.int (Int16.ofInt z).toInt32 :: st) g := h
    exact ps_pass (fun X p l e R s m args below meth c H locs ls cells slots Qm hK _ _ _ _ _ k => lv_sipush hK.2.1 hK.2.2.1 hd rfl k) (hk _ _ _ h)
  | lconst z =>
    have hn1 : n = 1 := by simp only [ps_ck, Bool.and_eq_true, beq_iff_eq] at hn; exact hn.1
    subst hn1
    have h : K lv (.long (Int64.ofNat z.val) :: st) g := h
    exact ps_pass (fun X p l e R s m args below meth c H locs ls cells slots Qm hK _ _ _ _ _ k => lv_lconst hK.2.1 hK.2.2.1 hd rfl k) (hk _ _ _ h)
  | aconst_null =>
    have hn1 : n = 1 := by simp only [ps_ck, Bool.and_eq_true, beq_iff_eq] at hn; exact hn.1
    subst hn1
    have h : K lv (.null :: st) g := h
    exact ps_pass (fun X p l e R s m args below meth c H locs ls cells slots Qm hK _ _ _ _ _ k => lv_null hK.2.1 hK.2.2.1 hd k) (hk _ _ _ h)
  | iload k =>
    have hn1 : n = 2 := by simp only [ps_ck, Bool.and_eq_true, beq_iff_eq] at hn; exact hn.1
    subst hn1
    have h : ps_gi lv k fun x => K lv (.int x :: st) g := h
    obtain ⟨x, h1, h2⟩ := ps_gi_e h
    exact ps_pass (fun X p l e R s m args below meth c H locs ls cells slots Qm hK _ _ hl _ _ k => lv_iload hK.2.1 hK.2.2.1 hd (ps_get_at hl h1) k) (hk _ _ _ h2)
  | iload_n k =>
    have hn1 : n = 1 := by simp only [ps_ck, Bool.and_eq_true, beq_iff_eq] at hn; exact hn.1
    subst hn1
    have h : ps_gi lv k.val fun x => K lv (.int x :: st) g := h
    obtain ⟨x, h1, h2⟩ := ps_gi_e h
    exact ps_pass (fun X p l e R s m args below meth c H locs ls cells slots Qm hK _ _ hl _ _ k => lv_iload_n hK.2.1 hK.2.2.1 hd rfl (ps_get_at hl h1) k) (hk _ _ _ h2)
  | lload k =>
    have hn1 : n = 2 := by simp only [ps_ck, Bool.and_eq_true, beq_iff_eq] at hn; exact hn.1
    subst hn1
    have h : ps_gl lv k fun x => K lv (.long x :: st) g := h
    obtain ⟨x, h1, h2⟩ := ps_gl_e h
    exact ps_pass (fun X p l e R s m args below meth c H locs ls cells slots Qm hK _ _ hl _ _ k => lv_lload hK.2.1 hK.2.2.1 hd (ps_get_at hl h1) k) (hk _ _ _ h2)
  | lload_n k =>
    have hn1 : n = 1 := by simp only [ps_ck, Bool.and_eq_true, beq_iff_eq] at hn; exact hn.1
    subst hn1
    have h : ps_gl lv k.val fun x => K lv (.long x :: st) g := h
    obtain ⟨x, h1, h2⟩ := ps_gl_e h
    exact ps_pass (fun X p l e R s m args below meth c H locs ls cells slots Qm hK _ _ hl _ _ k => lv_lload_n hK.2.1 hK.2.2.1 hd rfl (ps_get_at hl h1) k) (hk _ _ _ h2)
  | aload k =>
    have hn1 : n = 2 := by simp only [ps_ck, Bool.and_eq_true, beq_iff_eq] at hn; exact hn.1
    subst hn1
    have h : ps_gq lv k fun v => K lv (v :: st) g := h
    obtain ⟨x, h1, h2⟩ := ps_gq_e h
    cases x with
    | none => exact ps_pass (fun X p l e R s m args below meth c H locs ls cells slots Qm hK _ _ hl _ _ k => lv_aloadN hK.2.1 hK.2.2.1 hd (ps_get_at hl h1) k) (hk _ _ _ h2)
    | some a => exact ps_pass (fun X p l e R s m args below meth c H locs ls cells slots Qm hK _ _ hl _ _ k => lv_aload hK.2.1 hK.2.2.1 hd (ps_get_at hl h1) k) (hk _ _ _ h2)
  | aload_n k =>
    have hn1 : n = 1 := by simp only [ps_ck, Bool.and_eq_true, beq_iff_eq] at hn; exact hn.1
    subst hn1
    have h : ps_gq lv k.val fun v => K lv (v :: st) g := h
    obtain ⟨x, h1, h2⟩ := ps_gq_e h
    cases x with
    | none => exact ps_pass (fun X p l e R s m args below meth c H locs ls cells slots Qm hK _ _ hl _ _ k => lv_aload_nN hK.2.1 hK.2.2.1 hd rfl (ps_get_at hl h1) k) (hk _ _ _ h2)
    | some a => exact ps_pass (fun X p l e R s m args below meth c H locs ls cells slots Qm hK _ _ hl _ _ k => lv_aload_n hK.2.1 hK.2.2.1 hd rfl (ps_get_at hl h1) k) (hk _ _ _ h2)
  | istore k =>
    have hn1 : n = 2 := by simp only [ps_ck, Bool.and_eq_true, beq_iff_eq] at hn; exact hn.1
    subst hn1
    have h : ps_si st fun x r => k < M.2.2.1 ∧ K (ps_set1 lv k (.int x)) r g := h
    obtain ⟨x, r, rfl, h1, h2⟩ := ps_si_e h
    exact ps_store (fun X p l e R s m args below meth c H locs ls cells slots Qm hK hl k => lv_istore hK.2.1 hK.2.2.1 hd hl h1 (ps_lv_set1 X lv _ (.int x)) k) (hk _ _ _ h2)
  | istore_n k =>
    have hn1 : n = 1 := by simp only [ps_ck, Bool.and_eq_true, beq_iff_eq] at hn; exact hn.1
    subst hn1
    have h : ps_si st fun x r => k.val < M.2.2.1 ∧ K (ps_set1 lv k.val (.int x)) r g := h
    obtain ⟨x, r, rfl, h1, h2⟩ := ps_si_e h
    exact ps_store (fun X p l e R s m args below meth c H locs ls cells slots Qm hK hl k => lv_istore_n hK.2.1 hK.2.2.1 hd rfl hl h1 (ps_lv_set1 X lv _ (.int x)) k) (hk _ _ _ h2)
  | lstore k =>
    have hn1 : n = 2 := by simp only [ps_ck, Bool.and_eq_true, beq_iff_eq] at hn; exact hn.1
    subst hn1
    have h : ps_sl st fun x r => k + 1 < M.2.2.1 ∧ K (ps_set2 lv k (.long x)) r g := h
    obtain ⟨x, r, rfl, h1, h2⟩ := ps_sl_e h
    exact ps_store (fun X p l e R s m args below meth c H locs ls cells slots Qm hK hl k => lv_lstore hK.2.1 hK.2.2.1 hd hl h1 (ps_lv_set2 X lv _ (.long x)) k) (hk _ _ _ h2)
  | lstore_n k =>
    have hn1 : n = 1 := by simp only [ps_ck, Bool.and_eq_true, beq_iff_eq] at hn; exact hn.1
    subst hn1
    have h : ps_sl st fun x r => k.val + 1 < M.2.2.1 ∧ K (ps_set2 lv k.val (.long x)) r g := h
    obtain ⟨x, r, rfl, h1, h2⟩ := ps_sl_e h
    exact ps_store (fun X p l e R s m args below meth c H locs ls cells slots Qm hK hl k => lv_lstore_n hK.2.1 hK.2.2.1 hd rfl hl h1 (ps_lv_set2 X lv _ (.long x)) k) (hk _ _ _ h2)
  | astore k =>
    have hn1 : n = 2 := by simp only [ps_ck, Bool.and_eq_true, beq_iff_eq] at hn; exact hn.1
    subst hn1
    have h : ps_sq st fun x r => k < M.2.2.1 ∧ K (ps_set1 lv k (va_rf x)) r g := h
    obtain ⟨x, r, rfl, h1, h2⟩ := ps_sq_e h
    cases x with
    | none => exact ps_store (fun X p l e R s m args below meth c H locs ls cells slots Qm hK hl k => lv_astoreN hK.2.1 hK.2.2.1 hd hl h1 (ps_lv_set1 X lv _ .null) k) (hk _ _ _ h2)
    | some a => exact ps_store (fun X p l e R s m args below meth c H locs ls cells slots Qm hK hl k => lv_astore hK.2.1 hK.2.2.1 hd hl h1 (ps_lv_set1 X lv _ (.ref a)) k) (hk _ _ _ h2)
  | astore_n k =>
    have hn1 : n = 1 := by simp only [ps_ck, Bool.and_eq_true, beq_iff_eq] at hn; exact hn.1
    subst hn1
    have h : ps_sq st fun x r => k.val < M.2.2.1 ∧ K (ps_set1 lv k.val (va_rf x)) r g := h
    obtain ⟨x, r, rfl, h1, h2⟩ := ps_sq_e h
    cases x with
    | none => exact ps_store (fun X p l e R s m args below meth c H locs ls cells slots Qm hK hl k => lv_astore_nN hK.2.1 hK.2.2.1 hd rfl hl h1 (ps_lv_set1 X lv _ .null) k) (hk _ _ _ h2)
    | some a => exact ps_store (fun X p l e R s m args below meth c H locs ls cells slots Qm hK hl k => lv_astore_n hK.2.1 hK.2.2.1 hd rfl hl h1 (ps_lv_set1 X lv _ (.ref a)) k) (hk _ _ _ h2)
  | iinc k z =>
    have hn1 : n = 3 := by simp only [ps_ck, Bool.and_eq_true, beq_iff_eq] at hn; exact hn.1
    subst hn1
    have h : ps_gi lv k fun x => k < M.2.2.1 ∧ K (ps_set1 lv k (.int (x + Int32.ofInt z))) st g := h
    obtain ⟨x, h1, h2, h3⟩ := ps_gi_e h
    refine ps_store (fun X p l e R s m args below meth c H locs ls cells slots Qm hK hl kk => ?_) (hk _ _ _ h3)
    obtain ⟨j, hj⟩ := ps_get_ix (X := X) h1
    exact lv_iinc hK.2.1 hK.2.2.1 hd hl (k := j) hj rfl h2 (ps_lv_set1 X lv _ (.int (x + Int32.ofInt z))) kk
  | iadd =>
    have hn1 : n = 1 := by simp only [ps_ck, Bool.and_eq_true, beq_iff_eq] at hn; exact hn.1
    subst hn1
    have h : ps_sii st fun x y r => K lv (.int (x + y) :: r) g := h
    obtain ⟨x, y, r, rfl, h1⟩ := ps_sii_e h
    exact ps_pass (fun X p l e R s m args below meth c H locs ls cells slots Qm hK _ _ _ _ _ k => lv_iadd hK.2.1 hK.2.2.1 hd k) (hk _ _ _ h1)
  | isub =>
    have hn1 : n = 1 := by simp only [ps_ck, Bool.and_eq_true, beq_iff_eq] at hn; exact hn.1
    subst hn1
    have h : ps_sii st fun x y r => K lv (.int (x - y) :: r) g := h
    obtain ⟨x, y, r, rfl, h1⟩ := ps_sii_e h
    exact ps_pass (fun X p l e R s m args below meth c H locs ls cells slots Qm hK _ _ _ _ _ k => lv_isub hK.2.1 hK.2.2.1 hd k) (hk _ _ _ h1)
  | imul =>
    have hn1 : n = 1 := by simp only [ps_ck, Bool.and_eq_true, beq_iff_eq] at hn; exact hn.1
    subst hn1
    have h : ps_sii st fun x y r => K lv (.int (x * y) :: r) g := h
    obtain ⟨x, y, r, rfl, h1⟩ := ps_sii_e h
    exact ps_pass (fun X p l e R s m args below meth c H locs ls cells slots Qm hK _ _ _ _ _ k => lv_imul hK.2.1 hK.2.2.1 hd k) (hk _ _ _ h1)
  | iand =>
    have hn1 : n = 1 := by simp only [ps_ck, Bool.and_eq_true, beq_iff_eq] at hn; exact hn.1
    subst hn1
    have h : ps_sii st fun x y r => K lv (.int (x &&& y) :: r) g := h
    obtain ⟨x, y, r, rfl, h1⟩ := ps_sii_e h
    exact ps_pass (fun X p l e R s m args below meth c H locs ls cells slots Qm hK _ _ _ _ _ k => lv_iand hK.2.1 hK.2.2.1 hd k) (hk _ _ _ h1)
  | ior =>
    have hn1 : n = 1 := by simp only [ps_ck, Bool.and_eq_true, beq_iff_eq] at hn; exact hn.1
    subst hn1
    have h : ps_sii st fun x y r => K lv (.int (x ||| y) :: r) g := h
    obtain ⟨x, y, r, rfl, h1⟩ := ps_sii_e h
    exact ps_pass (fun X p l e R s m args below meth c H locs ls cells slots Qm hK _ _ _ _ _ k => lv_ior hK.2.1 hK.2.2.1 hd k) (hk _ _ _ h1)
  | ixor =>
    have hn1 : n = 1 := by simp only [ps_ck, Bool.and_eq_true, beq_iff_eq] at hn; exact hn.1
    subst hn1
    have h : ps_sii st fun x y r => K lv (.int (x ^^^ y) :: r) g := h
    obtain ⟨x, y, r, rfl, h1⟩ := ps_sii_e h
    exact ps_pass (fun X p l e R s m args below meth c H locs ls cells slots Qm hK _ _ _ _ _ k => lv_ixor hK.2.1 hK.2.2.1 hd k) (hk _ _ _ h1)
  | ishl =>
    have hn1 : n = 1 := by simp only [ps_ck, Bool.and_eq_true, beq_iff_eq] at hn; exact hn.1
    subst hn1
    have h : ps_sii st fun x y r => K lv (.int (x <<< (y &&& 31)) :: r) g := h
    obtain ⟨x, y, r, rfl, h1⟩ := ps_sii_e h
    exact ps_pass (fun X p l e R s m args below meth c H locs ls cells slots Qm hK _ _ _ _ _ k => lv_ishl hK.2.1 hK.2.2.1 hd k) (hk _ _ _ h1)
  | ishr =>
    have hn1 : n = 1 := by simp only [ps_ck, Bool.and_eq_true, beq_iff_eq] at hn; exact hn.1
    subst hn1
    have h : ps_sii st fun x y r => K lv (.int (x >>> (y &&& 31)) :: r) g := h
    obtain ⟨x, y, r, rfl, h1⟩ := ps_sii_e h
    exact ps_pass (fun X p l e R s m args below meth c H locs ls cells slots Qm hK _ _ _ _ _ k => lv_ishr hK.2.1 hK.2.2.1 hd k) (hk _ _ _ h1)
  | iushr =>
    have hn1 : n = 1 := by simp only [ps_ck, Bool.and_eq_true, beq_iff_eq] at hn; exact hn.1
    subst hn1
    have h : ps_sii st fun x y r => K lv (.int (x.toUInt32 >>> (y.toUInt32 &&& Int32.toUInt32 31)).toInt32 :: r) g := h
    obtain ⟨x, y, r, rfl, h1⟩ := ps_sii_e h
    exact ps_pass (fun X p l e R s m args below meth c H locs ls cells slots Qm hK _ _ _ _ _ k => lv_iushr hK.2.1 hK.2.2.1 hd rfl k) (hk _ _ _ h1)
  | idiv =>
    have hn1 : n = 1 := by simp only [ps_ck, Bool.and_eq_true, beq_iff_eq] at hn; exact hn.1
    subst hn1
    have h : ps_sii st fun x y r => ¬ y = 0 ∧ ∃ z9, x / y = z9 ∧ K lv (.int z9 :: r) g := h
    obtain ⟨x, y, r, rfl, h0, z9, rfl, h1⟩ := ps_sii_e h
    exact ps_pass (fun X p l e R s m args below meth c H locs ls cells slots Qm hK _ _ _ _ _ k => lv_idiv hK.2.1 hK.2.2.1 hd h0 k) (hk _ _ _ h1)
  | irem =>
    have hn1 : n = 1 := by simp only [ps_ck, Bool.and_eq_true, beq_iff_eq] at hn; exact hn.1
    subst hn1
    have h : ps_sii st fun x y r => ¬ y = 0 ∧ ∃ z9, x - x / y * y = z9 ∧ K lv (.int z9 :: r) g := h
    obtain ⟨x, y, r, rfl, h0, z9, rfl, h1⟩ := ps_sii_e h
    exact ps_pass (fun X p l e R s m args below meth c H locs ls cells slots Qm hK _ _ _ _ _ k => lv_irem hK.2.1 hK.2.2.1 hd h0 k) (hk _ _ _ h1)
  | ineg =>
    have hn1 : n = 1 := by simp only [ps_ck, Bool.and_eq_true, beq_iff_eq] at hn; exact hn.1
    subst hn1
    have h : ps_si st fun x r => K lv (.int (-x) :: r) g := h
    obtain ⟨x, r, rfl, h1⟩ := ps_si_e h
    exact ps_pass (fun X p l e R s m args below meth c H locs ls cells slots Qm hK _ _ _ _ _ k => lv_ineg hK.2.1 hK.2.2.1 hd k) (hk _ _ _ h1)
  | ladd =>
    have hn1 : n = 1 := by simp only [ps_ck, Bool.and_eq_true, beq_iff_eq] at hn; exact hn.1
    subst hn1
    have h : ps_sll st fun x y r => K lv (.long (x + y) :: r) g := h
    obtain ⟨x, y, r, rfl, h1⟩ := ps_sll_e h
    exact ps_pass (fun X p l e R s m args below meth c H locs ls cells slots Qm hK _ _ _ _ _ k => lv_ladd hK.2.1 hK.2.2.1 hd k) (hk _ _ _ h1)
  | lsub =>
    have hn1 : n = 1 := by simp only [ps_ck, Bool.and_eq_true, beq_iff_eq] at hn; exact hn.1
    subst hn1
    have h : ps_sll st fun x y r => K lv (.long (x - y) :: r) g := h
    obtain ⟨x, y, r, rfl, h1⟩ := ps_sll_e h
    exact ps_pass (fun X p l e R s m args below meth c H locs ls cells slots Qm hK _ _ _ _ _ k => lv_lsub hK.2.1 hK.2.2.1 hd k) (hk _ _ _ h1)
  | lmul =>
    have hn1 : n = 1 := by simp only [ps_ck, Bool.and_eq_true, beq_iff_eq] at hn; exact hn.1
    subst hn1
    have h : ps_sll st fun x y r => K lv (.long (x * y) :: r) g := h
    obtain ⟨x, y, r, rfl, h1⟩ := ps_sll_e h
    exact ps_pass (fun X p l e R s m args below meth c H locs ls cells slots Qm hK _ _ _ _ _ k => lv_lmul hK.2.1 hK.2.2.1 hd k) (hk _ _ _ h1)
  | lor =>
    have hn1 : n = 1 := by simp only [ps_ck, Bool.and_eq_true, beq_iff_eq] at hn; exact hn.1
    subst hn1
    have h : ps_sll st fun x y r => K lv (.long (x ||| y) :: r) g := h
    obtain ⟨x, y, r, rfl, h1⟩ := ps_sll_e h
    exact ps_pass (fun X p l e R s m args below meth c H locs ls cells slots Qm hK _ _ _ _ _ k => lv_lor hK.2.1 hK.2.2.1 hd k) (hk _ _ _ h1)
  | ldiv =>
    have hn1 : n = 1 := by simp only [ps_ck, Bool.and_eq_true, beq_iff_eq] at hn; exact hn.1
    subst hn1
    have h : ps_sll st fun x y r => ¬ y = 0 ∧ ∃ z9, x / y = z9 ∧ K lv (.long z9 :: r) g := h
    obtain ⟨x, y, r, rfl, h0, z9, rfl, h1⟩ := ps_sll_e h
    exact ps_pass (fun X p l e R s m args below meth c H locs ls cells slots Qm hK _ _ _ _ _ k => lv_ldiv hK.2.1 hK.2.2.1 hd h0 k) (hk _ _ _ h1)
  | lneg =>
    have hn1 : n = 1 := by simp only [ps_ck, Bool.and_eq_true, beq_iff_eq] at hn; exact hn.1
    subst hn1
    have h : ps_sl st fun x r => K lv (.long (-x) :: r) g := h
    obtain ⟨x, r, rfl, h1⟩ := ps_sl_e h
    exact ps_pass (fun X p l e R s m args below meth c H locs ls cells slots Qm hK _ _ _ _ _ k => lv_lneg hK.2.1 hK.2.2.1 hd k) (hk _ _ _ h1)
  | lshl =>
    have hn1 : n = 1 := by simp only [ps_ck, Bool.and_eq_true, beq_iff_eq] at hn; exact hn.1
    subst hn1
    have h : ps_sli st fun x y r => K lv (.long (x <<< (y.toInt64 &&& 63)) :: r) g := h
    obtain ⟨x, y, r, rfl, h1⟩ := ps_sli_e h
    exact ps_pass (fun X p l e R s m args below meth c H locs ls cells slots Qm hK _ _ _ _ _ k => lv_lshl hK.2.1 hK.2.2.1 hd rfl k) (hk _ _ _ h1)
  | lcmp =>
    have hn1 : n = 1 := by simp only [ps_ck, Bool.and_eq_true, beq_iff_eq] at hn; exact hn.1
    subst hn1
    have h : ps_sll st fun x y r => K lv (.int (lg_cmp x y) :: r) g := h
    obtain ⟨x, y, r, rfl, h1⟩ := ps_sll_e h
    exact ps_pass (fun X p l e R s m args below meth c H locs ls cells slots Qm hK _ _ _ _ _ k => W.lcmp hK.2.1 hK.2.2.1 hd k) (hk _ _ _ h1)
  | i2l =>
    have hn1 : n = 1 := by simp only [ps_ck, Bool.and_eq_true, beq_iff_eq] at hn; exact hn.1
    subst hn1
    have h : ps_si st fun x r => K lv (.long x.toInt64 :: r) g := h
    obtain ⟨x, r, rfl, h1⟩ := ps_si_e h
    exact ps_pass (fun X p l e R s m args below meth c H locs ls cells slots Qm hK _ _ _ _ _ k => lv_i2l hK.2.1 hK.2.2.1 hd rfl k) (hk _ _ _ h1)
  | l2i =>
    have hn1 : n = 1 := by simp only [ps_ck, Bool.and_eq_true, beq_iff_eq] at hn; exact hn.1
    subst hn1
    have h : ps_sl st fun x r => K lv (.int x.toInt32 :: r) g := h
    obtain ⟨x, r, rfl, h1⟩ := ps_sl_e h
    exact ps_pass (fun X p l e R s m args below meth c H locs ls cells slots Qm hK _ _ _ _ _ k => lv_l2i hK.2.1 hK.2.2.1 hd rfl k) (hk _ _ _ h1)
  | dup =>
    have hn1 : n = 1 := by simp only [ps_ck, Bool.and_eq_true, beq_iff_eq] at hn; exact hn.1
    subst hn1
    have h : ps_sv1 st fun v r => K lv (v :: v :: r) g := h
    obtain ⟨v, r, rfl, h0, h1⟩ := ps_sv1_e h
    exact ps_pass (fun X p l e R s m args below meth c H locs ls cells slots Qm hK _ _ _ _ _ k => lv_dup hK.2.1 hK.2.2.1 hd ((ps_cat X v).trans h0) k) (hk _ _ _ h1)
  | pop =>
    have hn1 : n = 1 := by simp only [ps_ck, Bool.and_eq_true, beq_iff_eq] at hn; exact hn.1
    subst hn1
    have h : ps_sv1 st fun _ r => K lv r g := h
    obtain ⟨v, r, rfl, h0, h1⟩ := ps_sv1_e h
    exact ps_pass (fun X p l e R s m args below meth c H locs ls cells slots Qm hK _ _ _ _ _ k => lv_pop hK.2.1 hK.2.2.1 hd ((ps_cat X v).trans h0) k) (hk _ _ _ h1)
  | dup2 =>
    have hn1 : n = 1 := by simp only [ps_ck, Bool.and_eq_true, beq_iff_eq] at hn; exact hn.1
    subst hn1
    have h : ps_sv2 st fun v w r => K lv (v :: w :: v :: w :: r) g := h
    obtain ⟨v, w, r, rfl, h0, h9, h1⟩ := ps_sv2_e h
    exact ps_pass (fun X p l e R s m args below meth c H locs ls cells slots Qm hK _ _ _ _ _ k => lv_dup2_11 hK.2.1 hK.2.2.1 hd ((ps_cat X v).trans h0) ((ps_cat X w).trans h9) k) (hk _ _ _ h1)
  | goto z =>
    have hn1 : n = 3 := by simp only [ps_ck, Bool.and_eq_true, beq_iff_eq] at hn; exact hn.1
    subst hn1
    have h : ps_At M d (ps_tg pc z) lv st g Q := h
    exact ps_pass (fun X p l e R s m args below meth c H locs ls cells slots Qm hK _ _ _ _ _ k => lv_goto hK.2.1 hK.2.2.1 hd (ps_tg_ok hz) k) h
  | ifCond c z =>
    have hn1 : n = 3 := by simp only [ps_ck, Bool.and_eq_true, beq_iff_eq] at hn; exact hn.1
    subst hn1
    have h : ps_si st fun x r => (ps_c1 c x → ps_At M d (ps_tg pc z) lv r g Q) ∧ (¬ ps_c1 c x → K lv r g) := h
    obtain ⟨x, r, rfl, h1, h2⟩ := ps_si_e h
    refine ps_two (ps_c1 c x) (fun X p l e R s m args below meth cd H locs ls cells slots Qm hK hR k1 k2 => ?_) h1 (fun q => hk _ _ _ (h2 q))
    cases c with
    | eq => exact lv_if_eq hK.2.1 hK.2.2.1 hd (ps_tg_ok hz) k1 k2
    | ne => exact lv_if_ne hK.2.1 hK.2.2.1 hd (ps_tg_ok hz) k1 (fun q => k2 (fun hn => hn q))
    | lt => exact lv_if_lt hK.2.1 hK.2.2.1 hd (ps_tg_ok hz) k1 k2
    | ge => exact lv_if_ge hK.2.1 hK.2.2.1 hd (ps_tg_ok hz) k1 k2
    | gt => exact lv_if_gt hK.2.1 hK.2.2.1 hd (ps_tg_ok hz) k1 k2
    | le => exact lv_if_le hK.2.1 hK.2.2.1 hd (ps_tg_ok hz) k1 k2
  | if_icmp c z =>
    have hn1 : n = 3 := by simp only [ps_ck, Bool.and_eq_true, beq_iff_eq] at hn; exact hn.1
    subst hn1
    have h : ps_sii st fun x y r => (ps_c2 c x y → ps_At M d (ps_tg pc z) lv r g Q) ∧ (¬ ps_c2 c x y → K lv r g) := h
    obtain ⟨x, y, r, rfl, h1, h2⟩ := ps_sii_e h
    refine ps_two (ps_c2 c x y) (fun X p l e R s m args below meth cd H locs ls cells slots Qm hK hR k1 k2 => ?_) h1 (fun q => hk _ _ _ (h2 q))
    cases c with
    | eq => exact lv_icmp_eq hK.2.1 hK.2.2.1 hd (ps_tg_ok hz) k1 k2
    | ne => exact lv_icmp_ne hK.2.1 hK.2.2.1 hd (ps_tg_ok hz) k1 (fun q => k2 (fun hn => hn q))
    | lt => exact lv_icmp_lt hK.2.1 hK.2.2.1 hd (ps_tg_ok hz) k1 k2
    | ge => exact lv_icmp_ge hK.2.1 hK.2.2.1 hd (ps_tg_ok hz) k1 k2
    | gt => exact lv_icmp_gt hK.2.1 hK.2.2.1 hd (ps_tg_ok hz) k1 k2
    | le => exact lv_icmp_le hK.2.1 hK.2.2.1 hd (ps_tg_ok hz) k1 k2
  | ifnull z =>
    have hn1 : n = 3 := by simp only [ps_ck, Bool.and_eq_true, beq_iff_eq] at hn; exact hn.1
    subst hn1
    have h : ps_sq st fun x r => (x = none → ps_At M d (ps_tg pc z) lv r g Q) ∧ (¬ x = none → K lv r g) := h
    obtain ⟨x, r, rfl, h1, h2⟩ := ps_sq_e h
    cases x with
    | none => exact ps_pass (fun X p l e R s m args below meth c H locs ls cells slots Qm hK _ _ _ _ _ k => lv_ifnullN hK.2.1 hK.2.2.1 hd (ps_tg_ok hz) k) (h1 rfl)
    | some a => exact ps_pass (fun X p l e R s m args below meth c H locs ls cells slots Qm hK _ _ _ _ _ k => lv_ifnull hK.2.1 hK.2.2.1 hd k) (hk _ _ _ (h2 (fun q => nomatch q)))
  | ifnonnull z =>
    have hn1 : n = 3 := by simp only [ps_ck, Bool.and_eq_true, beq_iff_eq] at hn; exact hn.1
    subst hn1
    have h : ps_sq st fun x r => (¬ x = none → ps_At M d (ps_tg pc z) lv r g Q) ∧ (x = none → K lv r g) := h
    obtain ⟨x, r, rfl, h1, h2⟩ := ps_sq_e h
    cases x with
    | none => exact ps_pass (fun X p l e R s m args below meth c H locs ls cells slots Qm hK _ _ _ _ _ k => lv_ifnonnullN hK.2.1 hK.2.2.1 hd k) (hk _ _ _ (h2 rfl))
    | some a => exact ps_pass (fun X p l e R s m args below meth c H locs ls cells slots Qm hK _ _ _ _ _ k => lv_ifnonnull hK.2.1 hK.2.2.1 hd (ps_tg_ok hz) k) (h1 (fun q => nomatch q))
  | getfield idx =>
    have hn1 : n = 3 := by simp only [ps_ck, Bool.and_eq_true, beq_iff_eq] at hn; exact hn.1
    subst hn1
    have h : ps_fld o fun ci k => ps_sa st fun a r => ∃ fs v, g.2.2 a = .inr (ci, fs) ∧ fs[k]? = some v ∧ K lv (v :: r) g := h
    match o, h, hlk with
    | .inl (ci, k), h, hlk =>
      obtain ⟨a, r, rfl, fs, v, h1, h2, h3⟩ := ps_sa_e (show ps_sa st fun a r => ∃ fs v, g.2.2 a = .inr (ci, fs) ∧ fs[k]? = some v ∧ K lv (v :: r) g from h)
      exact ps_getf hd hlk h1 h2 (hk _ _ _ h3)
    | .inr _, h, _ => exact (show False from h).elim
  | putfield idx =>
    have hn1 : n = 3 := by simp only [ps_ck, Bool.and_eq_true, beq_iff_eq] at hn; exact hn.1
    subst hn1
    have h : ps_fld o fun ci k => ps_sva st fun v a r => ∃ fs, g.2.2 a = .inr (ci, fs) ∧ k < fs.length ∧ narrow (ps_fty ci k) v = v ∧ fits (ps_fty ci k) v = true ∧ ∃ g9, ps_up g a (.inr (ci, fs.set k v)) = g9 ∧ K lv r g9 := h
    match o, h, hlk with
    | .inl (ci, k), h, hlk =>
      obtain ⟨v, a, r, rfl, fs, h1, h2, h3, h4, g9, rfl, h5⟩ := ps_sva_e (show ps_sva st fun v a r => ∃ fs, g.2.2 a = .inr (ci, fs) ∧ k < fs.length ∧ narrow (ps_fty ci k) v = v ∧ fits (ps_fty ci k) v = true ∧ ∃ g9, ps_up g a (.inr (ci, fs.set k v)) = g9 ∧ K lv r g9 from h)
      exact ps_putf hd hlk.1 hlk.2 h1 h2 h3 h4 (hk _ _ _ h5)
    | .inr _, h, _ => exact (show False from h).elim
  | getstatic idx =>
    have hn1 : n = 3 := by simp only [ps_ck, Bool.and_eq_true, beq_iff_eq] at hn; exact hn.1
    subst hn1
    have h : ps_num o fun k => K lv (.ref k :: st) g := h
    match o, h, hlk with
    | .inr (.inr (.inr k)), h, hlk => exact ps_gets hd hlk (hk _ _ _ h)
    | .inl _, h, _ => exact (show False from h).elim
    | .inr (.inl _), h, _ => exact (show False from h).elim
    | .inr (.inr (.inl _)), h, _ => exact (show False from h).elim
  | new idx =>
    have hn1 : n = 3 := by simp only [ps_ck, Bool.and_eq_true, beq_iff_eq] at hn; exact hn.1
    subst hn1
    have h : ps_num o fun ci => K lv (.ref g.1 :: st) (ps_nw g (ps_cN ci) (.inr (ci, ps_df ci))) := h
    match o, h, hlk with
    | .inr (.inr (.inr ci)), h, hlk => exact ps_newc hd hlk (hk _ _ _ h)
    | .inl _, h, _ => exact (show False from h).elim
    | .inr (.inl _), h, _ => exact (show False from h).elim
    | .inr (.inr (.inl _)), h, _ => exact (show False from h).elim
  | iaload =>
    have hn1 : n = 1 := by simp only [ps_ck, Bool.and_eq_true, beq_iff_eq] at hn; exact hn.1
    subst hn1
    have h : ps_sia st fun a i r => ∃ N f, g.2.2 a = .inl (0, (N, .inl f)) ∧ vp_in i N ∧ ∃ v9, f i.toNatClampNeg = v9 ∧ K lv (.int v9 :: r) g := h
    obtain ⟨a, i, r, rfl, N, f, h1, h2, v9, rfl, h3⟩ := ps_sia_e h
    exact ps_iald hd h1 h2 (hk _ _ _ h3)
  | laload =>
    have hn1 : n = 1 := by simp only [ps_ck, Bool.and_eq_true, beq_iff_eq] at hn; exact hn.1
    subst hn1
    have h : ps_sia st fun a i r => ∃ N f, g.2.2 a = .inl (1, (N, .inr (.inl f))) ∧ vp_in i N ∧ ∃ v9, f i.toNatClampNeg = v9 ∧ K lv (.long v9 :: r) g := h
    obtain ⟨a, i, r, rfl, N, f, h1, h2, v9, rfl, h3⟩ := ps_sia_e h
    exact ps_lald hd h1 h2 (hk _ _ _ h3)
  | baload =>
    have hn1 : n = 1 := by simp only [ps_ck, Bool.and_eq_true, beq_iff_eq] at hn; exact hn.1
    subst hn1
    have h : ps_sia st fun a i r => ∃ N f, g.2.2 a = .inl (2, (N, .inl f)) ∧ vp_in i N ∧ ∃ v9, f i.toNatClampNeg = v9 ∧ K lv (.int v9 :: r) g := h
    obtain ⟨a, i, r, rfl, N, f, h1, h2, v9, rfl, h3⟩ := ps_sia_e h
    exact ps_zald hd h1 h2 (hk _ _ _ h3)
  | aaload =>
    have hn1 : n = 1 := by simp only [ps_ck, Bool.and_eq_true, beq_iff_eq] at hn; exact hn.1
    subst hn1
    have h : ps_sia st fun a i r => ∃ k N f o, g.2.2 a = .inl (k, (N, .inr (.inr (.inr (.inr f))))) ∧ 3 ≤ k ∧ k < 6 ∧ vp_in i N ∧ f i.toNatClampNeg = o ∧ K lv (va_rf o :: r) g := h
    obtain ⟨a, i, r, rfl, k, N, f, o, h1, h2, h3, h4, h5, h6⟩ := ps_sia_e h
    refine ps_aald hd h1 h2 h3 h4 ?_
    rw [h5]
    exact hk _ _ _ h6
  | iastore =>
    have hn1 : n = 1 := by simp only [ps_ck, Bool.and_eq_true, beq_iff_eq] at hn; exact hn.1
    subst hn1
    have h : ps_siia st fun a i x r => ∃ N f, g.2.2 a = .inl (0, (N, .inl f)) ∧ 8 ≤ a ∧ vp_in i N ∧ ∃ g9, ps_up g a (.inl (0, (N, .inl (upd f i.toNatClampNeg x)))) = g9 ∧ K lv r g9 := h
    obtain ⟨a, i, x, r, rfl, N, f, h1, h2, h3, g9, rfl, h4⟩ := ps_siia_e h
    exact ps_iast hd h1 h2 h3 (hk _ _ _ h4)
  | lastore =>
    have hn1 : n = 1 := by simp only [ps_ck, Bool.and_eq_true, beq_iff_eq] at hn; exact hn.1
    subst hn1
    have h : ps_slia st fun a i x r => ∃ N f, g.2.2 a = .inl (1, (N, .inr (.inl f))) ∧ vp_in i N ∧ ∃ g9, ps_up g a (.inl (1, (N, .inr (.inl (vp_updL f i.toNatClampNeg x))))) = g9 ∧ K lv r g9 := h
    obtain ⟨a, i, x, r, rfl, N, f, h1, h2, g9, rfl, h3⟩ := ps_slia_e h
    exact ps_last hd h1 h2 (hk _ _ _ h3)
  | bastore =>
    have hn1 : n = 1 := by simp only [ps_ck, Bool.and_eq_true, beq_iff_eq] at hn; exact hn.1
    subst hn1
    have h : ps_siia st fun a i x r => ∃ N f, g.2.2 a = .inl (2, (N, .inl f)) ∧ vp_in i N ∧ ∃ g9, ps_up g a (.inl (2, (N, .inl (upd f i.toNatClampNeg (vp_nar .boolean x))))) = g9 ∧ K lv r g9 := h
    obtain ⟨a, i, x, r, rfl, N, f, h1, h2, g9, rfl, h3⟩ := ps_siia_e h
    exact ps_zast hd h1 h2 (hk _ _ _ h3)
  | aastore =>
    have hn1 : n = 1 := by simp only [ps_ck, Bool.and_eq_true, beq_iff_eq] at hn; exact hn.1
    subst hn1
    have h : ps_sqia st fun a i x r => ∃ k N f, g.2.2 a = .inl (k, (N, .inr (.inr (.inr (.inr f))))) ∧ vp_in i N ∧ (x = none → (k = 3 ∨ k = 4)) ∧ (∀ b, x = some b → ∃ ci vs, g.2.2 b = .inr (ci, vs) ∧ ((k = 3 ∧ ci = 4) ∨ (k = 4 ∧ ci = 9))) ∧ ∃ g9, ps_up g a (.inl (k, (N, .inr (.inr (.inr (.inr (va_up f i.toNatClampNeg x))))))) = g9 ∧ K lv r g9 := h
    obtain ⟨a, i, x, r, rfl, k, N, f, h1, h2, h3, h4, g9, rfl, h5⟩ := ps_sqia_e h
    cases x with
    | none => exact ps_aastN hd h1 (h3 rfl) h2 (hk _ _ _ h5)
    | some b =>
      obtain ⟨ci, vs, q1, q2⟩ := h4 b rfl
      exact ps_aast hd h1 q1 q2 h2 (hk _ _ _ h5)
  | arraylength =>
    have hn1 : n = 1 := by simp only [ps_ck, Bool.and_eq_true, beq_iff_eq] at hn; exact hn.1
    subst hn1
    have h : ps_sa st fun a r => ∃ k x, g.2.2 a = .inl (k, x) ∧ k < 6 ∧ ∃ v9, Int32.ofNat x.1 = v9 ∧ K lv (.int v9 :: r) g := h
    obtain ⟨a, r, rfl, k, x, h1, h2, v9, rfl, h3⟩ := ps_sa_e h
    exact ps_alen hd h1 h2 (hk _ _ _ h3)
  | newarray t =>
    have hn1 : n = 2 := by simp only [ps_ck, Bool.and_eq_true, beq_iff_eq] at hn; exact hn.1
    subst hn1
    have h : ps_si st fun x r => (t = .int ∨ t = .long ∨ t = .boolean) ∧ ¬ x < 0 ∧ x.toNatClampNeg ≤ 1000000 ∧ ∃ g9, ps_nw g x.toNatClampNeg (.inl (ps_ak t, (x.toNatClampNeg, ps_az t))) = g9 ∧ K lv (.ref g.1 :: r) g9 := h
    obtain ⟨x, r, rfl, h1, h2, h3, g9, rfl, h4⟩ := ps_si_e h
    exact ps_newa hd h1 h2 h3 (hk _ _ _ h4)
  | anewarray idx =>
    have hn1 : n = 3 := by simp only [ps_ck, Bool.and_eq_true, beq_iff_eq] at hn; exact hn.1
    subst hn1
    have h : ps_num o fun k => ps_si st fun x r => ¬ x < 0 ∧ x.toNatClampNeg ≤ 1000000 ∧ ∃ g9, ps_nw g x.toNatClampNeg (.inl (k, (x.toNatClampNeg, .inr (.inr (.inr (.inr fun _ => none)))))) = g9 ∧ K lv (.ref g.1 :: r) g9 := h
    match o, h, hlk with
    | .inr (.inr (.inr k)), h, hlk =>
      obtain ⟨x, r, rfl, h1, h2, g9, rfl, h3⟩ := ps_si_e (show ps_si st fun x r => ¬ x < 0 ∧ x.toNatClampNeg ≤ 1000000 ∧ ∃ g9, ps_nw g x.toNatClampNeg (.inl (k, (x.toNatClampNeg, .inr (.inr (.inr (.inr fun _ => none)))))) = g9 ∧ K lv (.ref g.1 :: r) g9 from h)
      exact ps_anew hd hlk h1 h2 (hk _ _ _ h3)
    | .inl _, h, _ => exact (show False from h).elim
    | .inr (.inl _), h, _ => exact (show False from h).elim
    | .inr (.inr (.inl _)), h, _ => exact (show False from h).elim
  | multianewarray idx q =>
    have hn1 : n = 4 := by simp only [ps_ck, Bool.and_eq_true, beq_iff_eq] at hn; exact hn.1
    subst hn1
    have h : ps_sii st fun x y r => q = 2 ∧ ¬ x < 0 ∧ ¬ y < 0 ∧ x.toNatClampNeg ≤ 1000 ∧ y.toNatClampNeg ≤ 100000 ∧ ∃ g9, ps_gr g x.toNatClampNeg y.toNatClampNeg = g9 ∧ K lv (.ref g.1 :: r) g9 := h
    obtain ⟨x, y, r, rfl, h0, h1, h2, h3, h4, g9, rfl, h5⟩ := ps_sii_e h
    subst h0
    exact ps_mna hd hlk h1 h2 h3 h4 (hk _ _ _ h5)
  | checkcast idx =>
    have hn1 : n = 3 := by simp only [ps_ck, Bool.and_eq_true, beq_iff_eq] at hn; exact hn.1
    subst hn1
    have h : ps_sa st fun a r => ∃ N f, g.2.2 a = .inl (0, (N, .inl f)) ∧ 8 ≤ a ∧ K lv (.ref a :: r) g := h
    obtain ⟨a, r, rfl, N, f, h1, h2, h3⟩ := ps_sa_e h
    exact ps_castA hd hlk h1 h2 (hk _ _ _ h3)
  | ldc idx =>
    have hn1 : n = 2 := by simp only [ps_ck, Bool.and_eq_true, beq_iff_eq] at hn; exact hn.1
    subst hn1
    have h : ps_cst o fun v => K lv (v :: st) g := h
    match o, h, hlk with
    | .inr (.inr (.inl (.int x))), h, hlk => exact ps_pass (fun X p l e R s m args below meth c H locs ls cells slots Qm hK _ _ _ _ _ k => lv_ldc hK.2.1 hK.2.2.1 hK.own (ps_wd hK.C hlk args) hd k) (hk _ _ _ h)
    | .inl _, h, _ => exact (show False from h).elim
    | .inr (.inl _), h, _ => exact (show False from h).elim
    | .inr (.inr (.inr _)), h, _ => exact (show False from h).elim
    | .inr (.inr (.inl (.long _))), _, hlk => exact (show False from hlk).elim
    | .inr (.inr (.inl (.float _))), _, hlk => exact (show False from hlk).elim
    | .inr (.inr (.inl (.double _))), _, hlk => exact (show False from hlk).elim
    | .inr (.inr (.inl (.ref _))), _, hlk => exact (show False from hlk).elim
    | .inr (.inr (.inl .null)), _, hlk => exact (show False from hlk).elim
  | ldc_w idx =>
    have hn1 : n = 3 := by simp only [ps_ck, Bool.and_eq_true, beq_iff_eq] at hn; exact hn.1
    subst hn1
    have h : ps_cst o fun v => K lv (v :: st) g := h
    match o, h, hlk with
    | .inr (.inr (.inl (.int x))), h, hlk => exact ps_pass (fun X p l e R s m args below meth c H locs ls cells slots Qm hK _ _ _ _ _ k => lv_ldcw hK.2.1 hK.2.2.1 hK.own (ps_wd hK.C hlk args) hd k) (hk _ _ _ h)
    | .inl _, h, _ => exact (show False from h).elim
    | .inr (.inl _), h, _ => exact (show False from h).elim
    | .inr (.inr (.inr _)), h, _ => exact (show False from h).elim
    | .inr (.inr (.inl (.long _))), _, hlk => exact (show False from hlk).elim
    | .inr (.inr (.inl (.float _))), _, hlk => exact (show False from hlk).elim
    | .inr (.inr (.inl (.double _))), _, hlk => exact (show False from hlk).elim
    | .inr (.inr (.inl (.ref _))), _, hlk => exact (show False from hlk).elim
    | .inr (.inr (.inl .null)), _, hlk => exact (show False from hlk).elim
  | ldc2_w idx =>
    have hn1 : n = 3 := by simp only [ps_ck, Bool.and_eq_true, beq_iff_eq] at hn; exact hn.1
    subst hn1
    have h : ps_cst o fun v => K lv (v :: st) g := h
    match o, h, hlk with
    | .inr (.inr (.inl (.long x))), h, hlk => exact ps_pass (fun X p l e R s m args below meth c H locs ls cells slots Qm hK _ _ _ _ _ k => lv_ldc2 hK.2.1 hK.2.2.1 hK.own (ps_wd hK.C hlk args) hd k) (hk _ _ _ h)
    | .inl _, h, _ => exact (show False from h).elim
    | .inr (.inl _), h, _ => exact (show False from h).elim
    | .inr (.inr (.inr _)), h, _ => exact (show False from h).elim
    | .inr (.inr (.inl (.int _))), _, hlk => exact (show False from hlk).elim
    | .inr (.inr (.inl (.float _))), _, hlk => exact (show False from hlk).elim
    | .inr (.inr (.inl (.double _))), _, hlk => exact (show False from hlk).elim
    | .inr (.inr (.inl (.ref _))), _, hlk => exact (show False from hlk).elim
    | .inr (.inr (.inl .null)), _, hlk => exact (show False from hlk).elim
  | if_acmp c z =>
    have hn1 : n = 3 := by simp only [ps_ck, Bool.and_eq_true, beq_iff_eq] at hn; exact hn.1
    subst hn1
    have h : ps_sqq st fun x y r => c = .ne ∧ (∀ a, x = some a → 8 ≤ a) ∧ (∀ a, y = some a → 8 ≤ a) ∧ (¬ x = y → ps_At M d (ps_tg pc z) lv r g Q) ∧ (x = y → K lv r g) := h
    obtain ⟨x, y, r, rfl, h0, h1, h2, h3, h4⟩ := ps_sqq_e h
    subst h0
    exact ps_acmp hd hz h1 h2 h3 (fun q => hk _ _ _ (h4 q))
  | ireturn =>
    have hn1 : n = 1 := by simp only [ps_ck, Bool.and_eq_true, beq_iff_eq] at hn; exact hn.1
    subst hn1
    have h : ps_si st fun x r => r = [] ∧ ps_rt M x (Q (.inl (some (.int x))) g) := h
    obtain ⟨x, r, rfl, h0, h1⟩ := ps_si_e h
    subst h0
    obtain ⟨ty, q1, q2, q3⟩ := ps_rt_e h1
    exact ps_iret hd q1 q2 q3
  | lreturn =>
    have hn1 : n = 1 := by simp only [ps_ck, Bool.and_eq_true, beq_iff_eq] at hn; exact hn.1
    subst hn1
    have h : ps_sl st fun x r => r = [] ∧ M.2.2.2.1 = some .long ∧ Q (.inl (some (.long x))) g := h
    obtain ⟨x, r, rfl, h0, h1, h2⟩ := ps_sl_e h
    subst h0
    exact ps_lret hd h1 h2
  | areturn =>
    have hn1 : n = 1 := by simp only [ps_ck, Bool.and_eq_true, beq_iff_eq] at hn; exact hn.1
    subst hn1
    have h : ps_sq st fun x r => r = [] ∧ (∃ ty, M.2.2.2.1 = some ty ∧ ((∃ n, ty = .object n) ∨ ∃ t, ty = .array t)) ∧ Q (.inl (some (va_rf x))) g := h
    obtain ⟨x, r, rfl, h0, ⟨ty, h1, h2⟩, h3⟩ := ps_sq_e h
    subst h0
    exact ps_aret hd h1 h2 h3
  | return_ =>
    have hn1 : n = 1 := by simp only [ps_ck, Bool.and_eq_true, beq_iff_eq] at hn; exact hn.1
    subst hn1
    have h : st = [] ∧ M.2.2.2.1 = none ∧ Q (.inl none) g := h
    obtain ⟨h0, h1, h2⟩ := h
    subst h0
    exact ps_vret hd h1 h2
  | invokestatic idx =>
    have hn1 : n = 3 := by simp only [ps_ck, Bool.and_eq_true, beq_iff_eq] at hn; exact hn.1
    subst hn1
    match o, h, hlk with
    | .inr (.inl (n9, 0, M9)), h, hlk =>
      obtain ⟨d1, rfl, hh1⟩ := ps_dd_e h
      obtain ⟨av, r, rfl, q1, q2, q3, q4⟩ := ps_pp_e hh1
      obtain ⟨w1, w2, w3, w4⟩ := hlk
      refine ps_invs hd w1 w2 w3 q1 q2 q3 w4 (ps_Ok.mono q4 (fun r1 g1 hr => ?_))
      cases r1 with
      | inl v =>
        cases v with
        | none => exact hk _ _ _ hr
        | some v => exact hk _ _ _ hr
      | inr E => exact hr.2
    | .inr (.inl (n9, 2, M9)), h, hlk =>
      obtain ⟨d1, rfl, hh1⟩ := ps_dd_e h
      obtain ⟨av, r, rfl, q1, q2, q3, q4⟩ := ps_pp_e hh1
      obtain ⟨w1, w2, w3⟩ := hlk
      refine ps_invsH hd w1 w2 w3 q1 q2 q3 (ps_Ok.mono q4 (fun r1 g1 hr => ?_))
      cases r1 with
      | inl v =>
        cases v with
        | none => exact hk _ _ _ hr
        | some v => exact hk _ _ _ hr
      | inr E => exact absurd hr.1 (by decide)
    | .inr (.inl (n9, c9 + 3, M9)), h, hlk => exact hlk.elim
    | .inr (.inl (n9, 1, M9)), h, hlk =>
      obtain ⟨d1, rfl, hh1⟩ := ps_dd_e h
      obtain ⟨av, r, rfl, q1, q2, q3, q4⟩ := ps_pp_e hh1
      obtain ⟨w1, ⟨host, w2⟩, w3⟩ := hlk
      refine ps_invsN hd w1 w2 w3 q1 q2 q3 (ps_Ok.mono q4 (fun r1 g1 hr => ?_))
      cases r1 with
      | inl v =>
        cases v with
        | none => exact hk _ _ _ hr
        | some v => exact hk _ _ _ hr
      | inr E => exact absurd hr.1 (by decide)
    | .inl _, h, hlk =>
      obtain ⟨d1, rfl, hh1⟩ := ps_dd_e h
      obtain ⟨d2, rfl, hh2⟩ := ps_dd_e hh1
      obtain ⟨a0, sp, a, dp, n9, r, rfl, n0, f, n1, f1, q1, q2, q3, q4, q5, q6, q7, q8, q9, q10, g9, rfl, q11⟩ := ps_scp_e hh2
      exact ps_copy hd hlk q1 q2 q3 q4 q5 q6 q7 q8 q9 q10 (hk _ _ _ q11)
    | .inr (.inr _), h, hlk =>
      obtain ⟨d1, rfl, hh1⟩ := ps_dd_e h
      obtain ⟨d2, rfl, hh2⟩ := ps_dd_e hh1
      obtain ⟨a0, sp, a, dp, n9, r, rfl, n0, f, n1, f1, q1, q2, q3, q4, q5, q6, q7, q8, q9, q10, g9, rfl, q11⟩ := ps_scp_e hh2
      exact ps_copy hd hlk q1 q2 q3 q4 q5 q6 q7 q8 q9 q10 (hk _ _ _ q11)
  | invokevirtual idx =>
    have hn1 : n = 3 := by simp only [ps_ck, Bool.and_eq_true, beq_iff_eq] at hn; exact hn.1
    subst hn1
    match o, h, hlk with
    | .inr (.inl (n9, ci, M9)), h, hlk =>
      obtain ⟨d1, rfl, hh1⟩ := ps_dd_e h
      obtain ⟨a, av, r, rfl, q1, q2, q3, ⟨fs, q5⟩, q4⟩ := ps_pv_e hh1
      obtain ⟨w1, w2, w3, w4, w5, w6⟩ := hlk
      refine ps_invv hd w1 w2 w3 w4 w5 q5 q1 q2 q3 w6 (ps_Ok.mono q4 (fun r1 g1 hr => ?_))
      cases r1 with
      | inl v =>
        cases v with
        | none => exact hk _ _ _ hr
        | some v => exact hk _ _ _ hr
      | inr E => exact hr
    | .inl _, h, hlk =>
      obtain ⟨d1, rfl, hh1⟩ := ps_dd_e h
      obtain ⟨d2, rfl, hh2⟩ := ps_dd_e hh1
      obtain ⟨a, r, rfl, N, f, q1, q2, q3, g9, rfl, q4⟩ := ps_sa_e hh2
      exact ps_clone hd hlk q1 q2 q3 (hk _ _ _ q4)
    | .inr (.inr _), h, hlk =>
      obtain ⟨d1, rfl, hh1⟩ := ps_dd_e h
      obtain ⟨d2, rfl, hh2⟩ := ps_dd_e hh1
      obtain ⟨a, r, rfl, N, f, q1, q2, q3, g9, rfl, q4⟩ := ps_sa_e hh2
      exact ps_clone hd hlk q1 q2 q3 (hk _ _ _ q4)
  | invokespecial idx =>
    have hn1 : n = 3 := by simp only [ps_ck, Bool.and_eq_true, beq_iff_eq] at hn; exact hn.1
    subst hn1
    match o, h, hlk with
    | .inr (.inl (n9, ci, M9)), h, hlk =>
      obtain ⟨d1, rfl, hh1⟩ := ps_dd_e h
      obtain ⟨a, av, r, rfl, q1, q2, q3, q4⟩ := ps_pv_e hh1
      obtain ⟨w1, w2, w3, w4, w5⟩ := hlk
      refine ps_invi hd w1 w2 w3 w4 w5 q1 q2 q3 (ps_Ok.mono q4 (fun r1 g1 hr => ?_))
      cases r1 with
      | inl v =>
        cases v with
        | none => exact hk _ _ _ hr
        | some v => exact hk _ _ _ hr
      | inr E => exact hr
    | .inl _, h, hlk =>
      obtain ⟨d1, rfl, hh1⟩ := ps_dd_e h
      obtain ⟨a, r, rfl, q1, q2⟩ := ps_sa_e hh1
      obtain ⟨w1, w2, w3⟩ := hlk
      exact ps_oini hd w1 w2 w3 q1 (hk _ _ _ q2)
    | .inr (.inr _), h, hlk =>
      obtain ⟨d1, rfl, hh1⟩ := ps_dd_e h
      obtain ⟨a, r, rfl, q1, q2⟩ := ps_sa_e hh1
      obtain ⟨w1, w2, w3⟩ := hlk
      exact ps_oini hd w1 w2 w3 q1 (hk _ _ _ q2)
  | _ => exact (show False from h).elim
def ps_wp (M : ps_M) (d : Nat) (Q : ps_Rs → ps_G → Prop) : List ps_op → Nat → ps_LV → List Value → ps_G → Prop
  | [], pc, lv, st, g => ps_At M d pc lv st g Q
  | op :: r, pc, lv, st, g => ps_st1 M d Q op.1.1 op.2 pc lv st g (fun lv st g => ps_wp M d Q r (pc + op.1.2) lv st g)
def ps_lks (M : ps_M) : List ps_op → Prop
  | [] => True
  | op :: r => ps_lk M op.1.1 op.2 ∧ ps_lks M r
def ps_zoks : List ps_op → Nat → Bool
  | [], _ => true
  | op :: r, pc => ps_zok op.1.1 pc && ps_zoks r (pc + op.1.2)
def ps_ckp (cc : ByteArray) (pc : Nat) (ops : List ps_op) : Bool := ps_ckl (ops.map fun q => q.1) (cc.data.toList.drop pc) && ps_zoks ops pc
theorem ps_sound {M : ps_M} {d : Nat} {Q : ps_Rs → ps_G → Prop} : ∀ {ops : List ps_op} {pc : Nat} {lv : ps_LV} {st : List Value} {g : ps_G}, ps_ckp M.2.1 pc ops = true → ps_lks M ops → ps_wp M d Q ops pc lv st g → ps_At M d pc lv st g Q := by
  intro ops
  induction ops with
  | nil => intro pc lv st g _ _ h; exact h
  | cons op r ih =>
    intro pc lv st g hc hl h
    unfold ps_ckp at hc
    rw [Bool.and_eq_true, List.map_cons] at hc
    obtain ⟨h1, h2⟩ := hc
    have h1 : (ps_ck op.1.1 op.1.2 (M.2.1.data.toList.drop pc) && ps_ckl (r.map fun q => q.1) ((M.2.1.data.toList.drop pc).drop op.1.2)) = true := h1
    have h2 : (ps_zok op.1.1 pc && ps_zoks r (pc + op.1.2)) = true := h2
    rw [Bool.and_eq_true, List.drop_drop] at h1
    rw [Bool.and_eq_true] at h2
    refine ps_st1_ok h1.1 h2.1 hl.1 h (fun lv st g hk => ih (by unfold ps_ckp; rw [h1.2, h2.2]; rfl) hl.2 hk)
