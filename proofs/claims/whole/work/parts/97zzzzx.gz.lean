-- needs: 97zzzzw
/-! ===== the state after both constructors (written by tools/ctr3.py) ===== -/
def rdF (e : ps_E) (k : Nat) : Int32 := match e with
  | .inr (_, fs) => (match fs[k]? with
    | some (.int v) => v
    | _ => 0)
  | _ => 0
def rdA (e : ps_E) : Nat → Int32 := match e with
  | .inl (_, (_, .inl f)) => f
  | _ => fun _ => 0
def rdR (e : ps_E) (k : Nat) : Option Nat := match e with
  | .inr (_, fs) => (match fs[k]? with
    | some (.ref a) => some a
    | _ => none)
  | .inl (_, (_, .inr (.inr (.inr (.inr f))))) => f k
  | _ => none
def rdL (e : ps_E) : Nat → Int64 := match e with
  | .inl (_, (_, .inr (.inl f))) => f
  | _ => fun _ => 0
/-- the state read off -/
def sG (g : ps_G) : e_S := (fun j k => rdF (g.2.2 j) k, fun j => rdA (g.2.2 j), fun j k => rdR (g.2.2 j) k, fun j => rdL (g.2.2 j))
def okV (v : Value) (q : Nat) : Bool := match q with
  | 0 => (match v with
    | .int _ => true
    | _ => false)
  | 1 => (match v with
    | .ref _ => true
    | .null => true
    | _ => false)
  | a + 2 => (match v with
    | .ref x => x == a + 2
    | _ => false)
def okFs : List Value → List Nat → Bool
  | [], [] => true
  | v :: vs, q :: qs => okV v q && okFs vs qs
  | _, _ => false
theorem okV_e {g : ps_G} {j k ci q : Nat} {v : Value} {fs : List Value} (h : g.2.2 j = .inr (ci, fs)) (hk : fs[k]? = some v) (o : okV v q = true) : e_v (sG g) j k q = v := by
  match q with
  | 0 =>
    show Value.int (rdF (g.2.2 j) k) = v
    cases v <;> first | (cases o; done) | skip
    rename_i x
    have e : rdF (g.2.2 j) k = x := by
      rw [h]
      show (match fs[k]? with
        | some (.int v) => v
        | _ => 0) = x
      rw [hk]
    rw [e]
  | 1 =>
    show va_rf (rdR (g.2.2 j) k) = v
    rw [h]
    show va_rf (match fs[k]? with
        | some (.ref a) => some a
        | _ => none) = v
    rw [hk]
    cases v <;> first | rfl | (cases o; done)
  | a + 2 =>
    show Value.ref (a + 2) = v
    cases v <;> first | (cases o; done) | skip
    rename_i x
    have e : x = a + 2 := eq_of_beq o
    rw [e]
theorem okFs_e {g : ps_G} {j ci : Nat} {fs : List Value} (h : g.2.2 j = .inr (ci, fs)) : ∀ (vs : List Value) (ks : List Nat) (k : Nat), (∀ i v, vs[i]? = some v → fs[k + i]? = some v) → okFs vs ks = true → e_fs (sG g) j k ks = vs
  | [], [], _, _, _ => rfl
  | v :: vs, q :: qs, k, hv, o => by
    have o1 : okV v q = true ∧ okFs vs qs = true := Bool.and_eq_true_iff.mp o
    have h0 : fs[k]? = some v := hv 0 v rfl
    have hr : ∀ i w, vs[i]? = some w → fs[k + 1 + i]? = some w := fun i w hw => by
      have := hv (i + 1) w hw
      rw [show k + 1 + i = k + (i + 1) by omega]
      exact this
    show e_v (sG g) j k q :: e_fs (sG g) j (k + 1) qs = v :: vs
    rw [okV_e h h0 o1.1, okFs_e h vs qs (k + 1) hr o1.2]
  | [], _ :: _, _, _, o => by cases o
  | _ :: _, [], _, _, o => by cases o
def Lc (g : ps_G) (j : Nat) : Prop := e_c (sG g) j (g.2.2 j) = g.2.2 j
theorem k_O {g : ps_G} {j ci : Nat} {fs : List Value} {ks : List Nat} (t : e_tb[j]? = some (1, ci, ks)) (h : g.2.2 j = .inr (ci, fs)) (o : okFs fs ks = true) : Lc g j := by
  unfold Lc
  rw [e_c_obj t, okFs_e h fs ks 0 (fun i v hv => by rw [Nat.zero_add]; exact hv) o, h]
theorem k_I {g : ps_G} {j n : Nat} {f : Nat → Int32} {ks : List Nat} (t : e_tb[j]? = some (2, n, ks)) (h : g.2.2 j = .inl (0, (n, .inl f))) : Lc g j := by
  unfold Lc
  rw [e_c_I t]
  show Sum.inl (0, (n, Sum.inl (rdA (g.2.2 j)))) = _
  rw [h]
  rfl
theorem k_B {g : ps_G} {j n : Nat} {f : Nat → Int32} {ks : List Nat} (t : e_tb[j]? = some (3, n, ks)) (h : g.2.2 j = .inl (2, (n, .inl f))) : Lc g j := by
  unfold Lc
  rw [e_c_B t]
  show Sum.inl (2, (n, Sum.inl (rdA (g.2.2 j)))) = _
  rw [h]
  rfl
theorem k_L {g : ps_G} {j n : Nat} {f : Nat → Int64} {ks : List Nat} (t : e_tb[j]? = some (4, n, ks)) (h : g.2.2 j = .inl (1, (n, .inr (.inl f)))) : Lc g j := by
  unfold Lc
  rw [e_c_L t]
  show Sum.inl (1, (n, Sum.inr (Sum.inl (rdL (g.2.2 j))))) = _
  rw [h]
  rfl
theorem k_R {g : ps_G} {j n k : Nat} {f : Nat → Option Nat} (t : e_tb[j]? = some (5, n, [k])) (h : g.2.2 j = .inl (k, (n, .inr (.inr (.inr (.inr f)))))) : Lc g j := by
  unfold Lc
  rw [e_c_R t]
  show Sum.inl (k, (n, Sum.inr (Sum.inr (Sum.inr (Sum.inr fun i => rdR (g.2.2 j) i))))) = _
  rw [h]
  rfl
theorem k_G {g : ps_G} {j n : Nat} {ks : List Nat} (t : e_tb[j]? = some (6, n, ks)) (h : g.2.2 j = .inl (5, (n, .inr (.inr (.inr (.inr fun i => if i < n then some (j + 1 + i) else none)))))) : Lc g j := by
  unfold Lc
  rw [e_c_G t, h]
theorem k_F {g : ps_G} {j : Nat} (h : e_fr j) : Lc g j := e_c_fr h
/-- the cells after the class's own -/
def AZ : List ps_E := (A11_13 8 ++ (.inr (12, FZ) :: BZ)) ++ [.inl (1, (1, .inr (.inl fun _ => 0)))]
theorem az_l : (A11_13 8 ++ ((.inr (12, FZ) : ps_E) :: BZ)).length = 185 := by
  rw [List.length_append, List.length_cons, a11l_13, b_8]
theorem az_1 {i : Nat} (h : i < 130) : AZ[i]? = (A11_13 8)[i]? := (gB az_l (by omega)).trans (gB a11l_13 h)
theorem az_2 : AZ[130]? = some (.inr (12, FZ)) := (gB az_l (by decide)).trans ((gA (n := 130) (i := 0) a11l_13).trans rfl)
theorem az_3 {i : Nat} (h : i < 54) : AZ[131 + i]? = BZ[i]? := by
  have e : 131 + i = 130 + (i + 1) := by omega
  rw [e]
  exact (gB az_l (by omega)).trans ((gA (n := 130) (i := i + 1) a11l_13).trans List.getElem?_cons_succ)
theorem az_4 : AZ[185]? = some (.inl (1, (1, .inr (.inl fun _ => 0)))) := (gA (n := 185) (i := 0) az_l).trans rfl
def VZ : Nat := V11_13 + V12_54 + 1
/-- what lies there when the law's loop begins -/
def Gz (L : Nat) (xs : Nat → Int32) : ps_G := oS (ps_g0 L xs) 11 (F11_13 8) AZ VZ
theorem gz_8 {L : Nat} {xs : Nat → Int32} : (Gz L xs).2.2 8 = .inr (11, F11_13 8) := o_g
theorem gz_lt {L j : Nat} {xs : Nat → Int32} (h : j < 8) : (Gz L xs).2.2 j = (ps_g0 L xs).2.2 j := by
  show (if j = 8 then _ else if 8 < j then _ else _) = _
  rw [if_neg (by omega), if_neg (by omega)]
theorem gz_9 {L : Nat} {xs : Nat → Int32} : (Gz L xs).2.2 9 = .inr (9, fs9 9) := o_at (i := 0) ((az_1 (by decide)).trans g11e_0)
theorem gz_10 {L : Nat} {xs : Nat → Int32} : (Gz L xs).2.2 10 = .inl (3, (30, .inr (.inr (.inr (.inr fun _ => none))))) := o_at (i := 1) ((az_1 (by decide)).trans g11e_1)
theorem gz_11 {L : Nat} {xs : Nat → Int32} : (Gz L xs).2.2 11 = .inl (0, (30, .inl fun _ => 0)) := o_at (i := 2) ((az_1 (by decide)).trans g11e_2)
theorem gz_12 {L : Nat} {xs : Nat → Int32} : (Gz L xs).2.2 12 = .inl (4, (24, .inr (.inr (.inr (.inr fun _ => none))))) := o_at (i := 3) ((az_1 (by decide)).trans g11e_3)
theorem gz_13 {L : Nat} {xs : Nat → Int32} : (Gz L xs).2.2 13 = .inl (4, (24, .inr (.inr (.inr (.inr fun _ => none))))) := o_at (i := 4) ((az_1 (by decide)).trans g11e_4)
theorem gz_14 {L : Nat} {xs : Nat → Int32} : (Gz L xs).2.2 14 = .inr (5, fs5 14) := o_at (i := 5) ((az_1 (by decide)).trans g11e_5)
theorem gz_15 {L : Nat} {xs : Nat → Int32} : (Gz L xs).2.2 15 = .inl (0, (256, .inl fun _ => 0)) := o_at (i := 6) ((az_1 (by decide)).trans g11e_6)
theorem gz_16 {L : Nat} {xs : Nat → Int32} : (Gz L xs).2.2 16 = .inl (0, (256, .inl fun _ => 0)) := o_at (i := 7) ((az_1 (by decide)).trans g11e_7)
theorem gz_17 {L : Nat} {xs : Nat → Int32} : (Gz L xs).2.2 17 = .inl (0, (32, .inl fun _ => 0)) := o_at (i := 8) ((az_1 (by decide)).trans g11e_8)
theorem gz_18 {L : Nat} {xs : Nat → Int32} : (Gz L xs).2.2 18 = .inl (0, (9, .inl (upd (fun _ => 0) 4 1))) := o_at (i := 9) ((az_1 (by decide)).trans g11e_9)
theorem gz_19 {L : Nat} {xs : Nat → Int32} : (Gz L xs).2.2 19 = .inl (0, (9, .inl fun _ => 0)) := o_at (i := 10) ((az_1 (by decide)).trans g11e_10)
theorem gz_20 {L : Nat} {xs : Nat → Int32} : (Gz L xs).2.2 20 = .inr (10, fs10 20 14) := o_at (i := 11) ((az_1 (by decide)).trans g11e_11)
theorem gz_21 {L : Nat} {xs : Nat → Int32} : (Gz L xs).2.2 21 = .inl (5, (31, .inr (.inr (.inr (.inr fun i => if i < 31 then some (22 + i) else none))))) := o_at (i := 12) ((az_1 (by decide)).trans g11e_12)
theorem gz_22 {L : Nat} {xs : Nat → Int32} : (Gz L xs).2.2 22 = .inl (0, (576, .inl fun _ => 0)) := o_at (i := 13) ((az_1 (by decide)).trans g11e_13)
theorem gz_23 {L : Nat} {xs : Nat → Int32} : (Gz L xs).2.2 23 = .inl (0, (576, .inl fun _ => 0)) := o_at (i := 14) ((az_1 (by decide)).trans g11e_14)
theorem gz_24 {L : Nat} {xs : Nat → Int32} : (Gz L xs).2.2 24 = .inl (0, (576, .inl fun _ => 0)) := o_at (i := 15) ((az_1 (by decide)).trans g11e_15)
theorem gz_25 {L : Nat} {xs : Nat → Int32} : (Gz L xs).2.2 25 = .inl (0, (576, .inl fun _ => 0)) := o_at (i := 16) ((az_1 (by decide)).trans g11e_16)
theorem gz_26 {L : Nat} {xs : Nat → Int32} : (Gz L xs).2.2 26 = .inl (0, (576, .inl fun _ => 0)) := o_at (i := 17) ((az_1 (by decide)).trans g11e_17)
theorem gz_27 {L : Nat} {xs : Nat → Int32} : (Gz L xs).2.2 27 = .inl (0, (576, .inl fun _ => 0)) := o_at (i := 18) ((az_1 (by decide)).trans g11e_18)
theorem gz_28 {L : Nat} {xs : Nat → Int32} : (Gz L xs).2.2 28 = .inl (0, (576, .inl fun _ => 0)) := o_at (i := 19) ((az_1 (by decide)).trans g11e_19)
theorem gz_29 {L : Nat} {xs : Nat → Int32} : (Gz L xs).2.2 29 = .inl (0, (576, .inl fun _ => 0)) := o_at (i := 20) ((az_1 (by decide)).trans g11e_20)
theorem gz_30 {L : Nat} {xs : Nat → Int32} : (Gz L xs).2.2 30 = .inl (0, (576, .inl fun _ => 0)) := o_at (i := 21) ((az_1 (by decide)).trans g11e_21)
theorem gz_31 {L : Nat} {xs : Nat → Int32} : (Gz L xs).2.2 31 = .inl (0, (576, .inl fun _ => 0)) := o_at (i := 22) ((az_1 (by decide)).trans g11e_22)
theorem gz_32 {L : Nat} {xs : Nat → Int32} : (Gz L xs).2.2 32 = .inl (0, (576, .inl fun _ => 0)) := o_at (i := 23) ((az_1 (by decide)).trans g11e_23)
theorem gz_33 {L : Nat} {xs : Nat → Int32} : (Gz L xs).2.2 33 = .inl (0, (576, .inl fun _ => 0)) := o_at (i := 24) ((az_1 (by decide)).trans g11e_24)
theorem gz_34 {L : Nat} {xs : Nat → Int32} : (Gz L xs).2.2 34 = .inl (0, (576, .inl fun _ => 0)) := o_at (i := 25) ((az_1 (by decide)).trans g11e_25)
theorem gz_35 {L : Nat} {xs : Nat → Int32} : (Gz L xs).2.2 35 = .inl (0, (576, .inl fun _ => 0)) := o_at (i := 26) ((az_1 (by decide)).trans g11e_26)
theorem gz_36 {L : Nat} {xs : Nat → Int32} : (Gz L xs).2.2 36 = .inl (0, (576, .inl fun _ => 0)) := o_at (i := 27) ((az_1 (by decide)).trans g11e_27)
theorem gz_37 {L : Nat} {xs : Nat → Int32} : (Gz L xs).2.2 37 = .inl (0, (576, .inl fun _ => 0)) := o_at (i := 28) ((az_1 (by decide)).trans g11e_28)
theorem gz_38 {L : Nat} {xs : Nat → Int32} : (Gz L xs).2.2 38 = .inl (0, (576, .inl fun _ => 0)) := o_at (i := 29) ((az_1 (by decide)).trans g11e_29)
theorem gz_39 {L : Nat} {xs : Nat → Int32} : (Gz L xs).2.2 39 = .inl (0, (576, .inl fun _ => 0)) := o_at (i := 30) ((az_1 (by decide)).trans g11e_30)
theorem gz_40 {L : Nat} {xs : Nat → Int32} : (Gz L xs).2.2 40 = .inl (0, (576, .inl fun _ => 0)) := o_at (i := 31) ((az_1 (by decide)).trans g11e_31)
theorem gz_41 {L : Nat} {xs : Nat → Int32} : (Gz L xs).2.2 41 = .inl (0, (576, .inl fun _ => 0)) := o_at (i := 32) ((az_1 (by decide)).trans g11e_32)
theorem gz_42 {L : Nat} {xs : Nat → Int32} : (Gz L xs).2.2 42 = .inl (0, (576, .inl fun _ => 0)) := o_at (i := 33) ((az_1 (by decide)).trans g11e_33)
theorem gz_43 {L : Nat} {xs : Nat → Int32} : (Gz L xs).2.2 43 = .inl (0, (576, .inl fun _ => 0)) := o_at (i := 34) ((az_1 (by decide)).trans g11e_34)
theorem gz_44 {L : Nat} {xs : Nat → Int32} : (Gz L xs).2.2 44 = .inl (0, (576, .inl fun _ => 0)) := o_at (i := 35) ((az_1 (by decide)).trans g11e_35)
theorem gz_45 {L : Nat} {xs : Nat → Int32} : (Gz L xs).2.2 45 = .inl (0, (576, .inl fun _ => 0)) := o_at (i := 36) ((az_1 (by decide)).trans g11e_36)
theorem gz_46 {L : Nat} {xs : Nat → Int32} : (Gz L xs).2.2 46 = .inl (0, (576, .inl fun _ => 0)) := o_at (i := 37) ((az_1 (by decide)).trans g11e_37)
theorem gz_47 {L : Nat} {xs : Nat → Int32} : (Gz L xs).2.2 47 = .inl (0, (576, .inl fun _ => 0)) := o_at (i := 38) ((az_1 (by decide)).trans g11e_38)
theorem gz_48 {L : Nat} {xs : Nat → Int32} : (Gz L xs).2.2 48 = .inl (0, (576, .inl fun _ => 0)) := o_at (i := 39) ((az_1 (by decide)).trans g11e_39)
theorem gz_49 {L : Nat} {xs : Nat → Int32} : (Gz L xs).2.2 49 = .inl (0, (576, .inl fun _ => 0)) := o_at (i := 40) ((az_1 (by decide)).trans g11e_40)
theorem gz_50 {L : Nat} {xs : Nat → Int32} : (Gz L xs).2.2 50 = .inl (0, (576, .inl fun _ => 0)) := o_at (i := 41) ((az_1 (by decide)).trans g11e_41)
theorem gz_51 {L : Nat} {xs : Nat → Int32} : (Gz L xs).2.2 51 = .inl (0, (576, .inl fun _ => 0)) := o_at (i := 42) ((az_1 (by decide)).trans g11e_42)
theorem gz_52 {L : Nat} {xs : Nat → Int32} : (Gz L xs).2.2 52 = .inl (0, (576, .inl fun _ => 0)) := o_at (i := 43) ((az_1 (by decide)).trans g11e_43)
theorem gz_53 {L : Nat} {xs : Nat → Int32} : (Gz L xs).2.2 53 = .inl (5, (31, .inr (.inr (.inr (.inr fun i => if i < 31 then some (54 + i) else none))))) := o_at (i := 44) ((az_1 (by decide)).trans g11e_44)
theorem gz_54 {L : Nat} {xs : Nat → Int32} : (Gz L xs).2.2 54 = .inl (0, (576, .inl fun _ => 0)) := o_at (i := 45) ((az_1 (by decide)).trans g11e_45)
theorem gz_55 {L : Nat} {xs : Nat → Int32} : (Gz L xs).2.2 55 = .inl (0, (576, .inl fun _ => 0)) := o_at (i := 46) ((az_1 (by decide)).trans g11e_46)
theorem gz_56 {L : Nat} {xs : Nat → Int32} : (Gz L xs).2.2 56 = .inl (0, (576, .inl fun _ => 0)) := o_at (i := 47) ((az_1 (by decide)).trans g11e_47)
theorem gz_57 {L : Nat} {xs : Nat → Int32} : (Gz L xs).2.2 57 = .inl (0, (576, .inl fun _ => 0)) := o_at (i := 48) ((az_1 (by decide)).trans g11e_48)
theorem gz_58 {L : Nat} {xs : Nat → Int32} : (Gz L xs).2.2 58 = .inl (0, (576, .inl fun _ => 0)) := o_at (i := 49) ((az_1 (by decide)).trans g11e_49)
theorem gz_59 {L : Nat} {xs : Nat → Int32} : (Gz L xs).2.2 59 = .inl (0, (576, .inl fun _ => 0)) := o_at (i := 50) ((az_1 (by decide)).trans g11e_50)
theorem gz_60 {L : Nat} {xs : Nat → Int32} : (Gz L xs).2.2 60 = .inl (0, (576, .inl fun _ => 0)) := o_at (i := 51) ((az_1 (by decide)).trans g11e_51)
theorem gz_61 {L : Nat} {xs : Nat → Int32} : (Gz L xs).2.2 61 = .inl (0, (576, .inl fun _ => 0)) := o_at (i := 52) ((az_1 (by decide)).trans g11e_52)
theorem gz_62 {L : Nat} {xs : Nat → Int32} : (Gz L xs).2.2 62 = .inl (0, (576, .inl fun _ => 0)) := o_at (i := 53) ((az_1 (by decide)).trans g11e_53)
theorem gz_63 {L : Nat} {xs : Nat → Int32} : (Gz L xs).2.2 63 = .inl (0, (576, .inl fun _ => 0)) := o_at (i := 54) ((az_1 (by decide)).trans g11e_54)
theorem gz_64 {L : Nat} {xs : Nat → Int32} : (Gz L xs).2.2 64 = .inl (0, (576, .inl fun _ => 0)) := o_at (i := 55) ((az_1 (by decide)).trans g11e_55)
theorem gz_65 {L : Nat} {xs : Nat → Int32} : (Gz L xs).2.2 65 = .inl (0, (576, .inl fun _ => 0)) := o_at (i := 56) ((az_1 (by decide)).trans g11e_56)
theorem gz_66 {L : Nat} {xs : Nat → Int32} : (Gz L xs).2.2 66 = .inl (0, (576, .inl fun _ => 0)) := o_at (i := 57) ((az_1 (by decide)).trans g11e_57)
theorem gz_67 {L : Nat} {xs : Nat → Int32} : (Gz L xs).2.2 67 = .inl (0, (576, .inl fun _ => 0)) := o_at (i := 58) ((az_1 (by decide)).trans g11e_58)
theorem gz_68 {L : Nat} {xs : Nat → Int32} : (Gz L xs).2.2 68 = .inl (0, (576, .inl fun _ => 0)) := o_at (i := 59) ((az_1 (by decide)).trans g11e_59)
theorem gz_69 {L : Nat} {xs : Nat → Int32} : (Gz L xs).2.2 69 = .inl (0, (576, .inl fun _ => 0)) := o_at (i := 60) ((az_1 (by decide)).trans g11e_60)
theorem gz_70 {L : Nat} {xs : Nat → Int32} : (Gz L xs).2.2 70 = .inl (0, (576, .inl fun _ => 0)) := o_at (i := 61) ((az_1 (by decide)).trans g11e_61)
theorem gz_71 {L : Nat} {xs : Nat → Int32} : (Gz L xs).2.2 71 = .inl (0, (576, .inl fun _ => 0)) := o_at (i := 62) ((az_1 (by decide)).trans g11e_62)
theorem gz_72 {L : Nat} {xs : Nat → Int32} : (Gz L xs).2.2 72 = .inl (0, (576, .inl fun _ => 0)) := o_at (i := 63) ((az_1 (by decide)).trans g11e_63)
theorem gz_73 {L : Nat} {xs : Nat → Int32} : (Gz L xs).2.2 73 = .inl (0, (576, .inl fun _ => 0)) := o_at (i := 64) ((az_1 (by decide)).trans g11e_64)
theorem gz_74 {L : Nat} {xs : Nat → Int32} : (Gz L xs).2.2 74 = .inl (0, (576, .inl fun _ => 0)) := o_at (i := 65) ((az_1 (by decide)).trans g11e_65)
theorem gz_75 {L : Nat} {xs : Nat → Int32} : (Gz L xs).2.2 75 = .inl (0, (576, .inl fun _ => 0)) := o_at (i := 66) ((az_1 (by decide)).trans g11e_66)
theorem gz_76 {L : Nat} {xs : Nat → Int32} : (Gz L xs).2.2 76 = .inl (0, (576, .inl fun _ => 0)) := o_at (i := 67) ((az_1 (by decide)).trans g11e_67)
theorem gz_77 {L : Nat} {xs : Nat → Int32} : (Gz L xs).2.2 77 = .inl (0, (576, .inl fun _ => 0)) := o_at (i := 68) ((az_1 (by decide)).trans g11e_68)
theorem gz_78 {L : Nat} {xs : Nat → Int32} : (Gz L xs).2.2 78 = .inl (0, (576, .inl fun _ => 0)) := o_at (i := 69) ((az_1 (by decide)).trans g11e_69)
theorem gz_79 {L : Nat} {xs : Nat → Int32} : (Gz L xs).2.2 79 = .inl (0, (576, .inl fun _ => 0)) := o_at (i := 70) ((az_1 (by decide)).trans g11e_70)
theorem gz_80 {L : Nat} {xs : Nat → Int32} : (Gz L xs).2.2 80 = .inl (0, (576, .inl fun _ => 0)) := o_at (i := 71) ((az_1 (by decide)).trans g11e_71)
theorem gz_81 {L : Nat} {xs : Nat → Int32} : (Gz L xs).2.2 81 = .inl (0, (576, .inl fun _ => 0)) := o_at (i := 72) ((az_1 (by decide)).trans g11e_72)
theorem gz_82 {L : Nat} {xs : Nat → Int32} : (Gz L xs).2.2 82 = .inl (0, (576, .inl fun _ => 0)) := o_at (i := 73) ((az_1 (by decide)).trans g11e_73)
theorem gz_83 {L : Nat} {xs : Nat → Int32} : (Gz L xs).2.2 83 = .inl (0, (576, .inl fun _ => 0)) := o_at (i := 74) ((az_1 (by decide)).trans g11e_74)
theorem gz_84 {L : Nat} {xs : Nat → Int32} : (Gz L xs).2.2 84 = .inl (0, (576, .inl fun _ => 0)) := o_at (i := 75) ((az_1 (by decide)).trans g11e_75)
theorem gz_85 {L : Nat} {xs : Nat → Int32} : (Gz L xs).2.2 85 = .inl (0, (576, .inl fun _ => 0)) := o_at (i := 76) ((az_1 (by decide)).trans g11e_76)
theorem gz_86 {L : Nat} {xs : Nat → Int32} : (Gz L xs).2.2 86 = .inl (0, (576, .inl fun _ => 0)) := o_at (i := 77) ((az_1 (by decide)).trans g11e_77)
theorem gz_87 {L : Nat} {xs : Nat → Int32} : (Gz L xs).2.2 87 = .inl (0, (576, .inl fun _ => 0)) := o_at (i := 78) ((az_1 (by decide)).trans g11e_78)
theorem gz_88 {L : Nat} {xs : Nat → Int32} : (Gz L xs).2.2 88 = .inl (2, (9, .inl fun _ => 0)) := o_at (i := 79) ((az_1 (by decide)).trans g11e_79)
theorem gz_89 {L : Nat} {xs : Nat → Int32} : (Gz L xs).2.2 89 = .inr (0, fs0 89) := o_at (i := 80) ((az_1 (by decide)).trans g11e_80)
theorem gz_90 {L : Nat} {xs : Nat → Int32} : (Gz L xs).2.2 90 = .inl (0, (576, .inl (cpT (fun _ => 0) (fun _ => 255) 0 576))) := o_at (i := 81) ((az_1 (by decide)).trans g11e_81)
theorem gz_91 {L : Nat} {xs : Nat → Int32} : (Gz L xs).2.2 91 = .inl (0, (576, .inl fun _ => 0)) := o_at (i := 82) ((az_1 (by decide)).trans g11e_82)
theorem gz_92 {L : Nat} {xs : Nat → Int32} : (Gz L xs).2.2 92 = .inl (0, (576, .inl fun _ => 0)) := o_at (i := 83) ((az_1 (by decide)).trans g11e_83)
theorem gz_93 {L : Nat} {xs : Nat → Int32} : (Gz L xs).2.2 93 = .inr (1, fs1 93) := o_at (i := 84) ((az_1 (by decide)).trans g11e_84)
theorem gz_94 {L : Nat} {xs : Nat → Int32} : (Gz L xs).2.2 94 = .inl (0, (20, .inl fun _ => 0)) := o_at (i := 85) ((az_1 (by decide)).trans g11e_85)
theorem gz_95 {L : Nat} {xs : Nat → Int32} : (Gz L xs).2.2 95 = .inl (0, (20, .inl fun _ => 0)) := o_at (i := 86) ((az_1 (by decide)).trans g11e_86)
theorem gz_96 {L : Nat} {xs : Nat → Int32} : (Gz L xs).2.2 96 = .inl (0, (20, .inl fun _ => 0)) := o_at (i := 87) ((az_1 (by decide)).trans g11e_87)
theorem gz_97 {L : Nat} {xs : Nat → Int32} : (Gz L xs).2.2 97 = .inl (0, (576, .inl fun _ => 0)) := o_at (i := 88) ((az_1 (by decide)).trans g11e_88)
theorem gz_98 {L : Nat} {xs : Nat → Int32} : (Gz L xs).2.2 98 = .inr (6, fs6 98) := o_at (i := 89) ((az_1 (by decide)).trans g11e_89)
theorem gz_99 {L : Nat} {xs : Nat → Int32} : (Gz L xs).2.2 99 = .inl (0, (8, .inl fun _ => 0)) := o_at (i := 90) ((az_1 (by decide)).trans g11e_90)
theorem gz_100 {L : Nat} {xs : Nat → Int32} : (Gz L xs).2.2 100 = .inl (0, (320, .inl fun _ => 0)) := o_at (i := 91) ((az_1 (by decide)).trans g11e_91)
theorem gz_101 {L : Nat} {xs : Nat → Int32} : (Gz L xs).2.2 101 = .inl (0, (320, .inl fun _ => 0)) := o_at (i := 92) ((az_1 (by decide)).trans g11e_92)
theorem gz_102 {L : Nat} {xs : Nat → Int32} : (Gz L xs).2.2 102 = .inl (0, (320, .inl fun _ => 0)) := o_at (i := 93) ((az_1 (by decide)).trans g11e_93)
theorem gz_103 {L : Nat} {xs : Nat → Int32} : (Gz L xs).2.2 103 = .inl (0, (256, .inl (cpT (fun _ => 0) (fun _ => -1) 0 256))) := o_at (i := 94) ((az_1 (by decide)).trans g11e_94)
theorem gz_104 {L : Nat} {xs : Nat → Int32} : (Gz L xs).2.2 104 = .inl (0, (256, .inl fun _ => 0)) := o_at (i := 95) ((az_1 (by decide)).trans g11e_95)
theorem gz_105 {L : Nat} {xs : Nat → Int32} : (Gz L xs).2.2 105 = .inl (0, (400, .inl fun _ => 0)) := o_at (i := 96) ((az_1 (by decide)).trans g11e_96)
theorem gz_106 {L : Nat} {xs : Nat → Int32} : (Gz L xs).2.2 106 = .inl (0, (400, .inl fun _ => 0)) := o_at (i := 97) ((az_1 (by decide)).trans g11e_97)
theorem gz_107 {L : Nat} {xs : Nat → Int32} : (Gz L xs).2.2 107 = .inl (0, (400, .inl fun _ => 0)) := o_at (i := 98) ((az_1 (by decide)).trans g11e_98)
theorem gz_108 {L : Nat} {xs : Nat → Int32} : (Gz L xs).2.2 108 = .inl (0, (400, .inl fun _ => 0)) := o_at (i := 99) ((az_1 (by decide)).trans g11e_99)
theorem gz_109 {L : Nat} {xs : Nat → Int32} : (Gz L xs).2.2 109 = .inl (0, (96, .inl fun _ => 0)) := o_at (i := 100) ((az_1 (by decide)).trans g11e_100)
theorem gz_110 {L : Nat} {xs : Nat → Int32} : (Gz L xs).2.2 110 = .inl (0, (576, .inl fun _ => 0)) := o_at (i := 101) ((az_1 (by decide)).trans g11e_101)
theorem gz_111 {L : Nat} {xs : Nat → Int32} : (Gz L xs).2.2 111 = .inr (3, fs3 111) := o_at (i := 102) ((az_1 (by decide)).trans g11e_102)
theorem gz_112 {L : Nat} {xs : Nat → Int32} : (Gz L xs).2.2 112 = .inl (0, (40, .inl (q3 (q3 (q3 (q3 (fun _ => 0) 0) 10) 20) 30))) := o_at (i := 103) ((az_1 (by decide)).trans g11e_103)
theorem gz_113 {L : Nat} {xs : Nat → Int32} : (Gz L xs).2.2 113 = .inl (0, (4, .inl (upd (upd (upd (upd (fun _ => 0) 0 0) 1 64) 2 64) 3 64))) := o_at (i := 104) ((az_1 (by decide)).trans g11e_104)
theorem gz_114 {L : Nat} {xs : Nat → Int32} : (Gz L xs).2.2 114 = .inl (0, (256, .inl fun _ => 0)) := o_at (i := 105) ((az_1 (by decide)).trans g11e_105)
theorem gz_115 {L : Nat} {xs : Nat → Int32} : (Gz L xs).2.2 115 = .inl (1, (9, .inr (.inl fun _ => 0))) := o_at (i := 106) ((az_1 (by decide)).trans g11e_106)
theorem gz_116 {L : Nat} {xs : Nat → Int32} : (Gz L xs).2.2 116 = .inl (0, (576, .inl fun _ => 0)) := o_at (i := 107) ((az_1 (by decide)).trans g11e_107)
theorem gz_117 {L : Nat} {xs : Nat → Int32} : (Gz L xs).2.2 117 = .inl (0, (16, .inl fun _ => 0)) := o_at (i := 108) ((az_1 (by decide)).trans g11e_108)
theorem gz_118 {L : Nat} {xs : Nat → Int32} : (Gz L xs).2.2 118 = .inl (0, (16, .inl fun _ => 0)) := o_at (i := 109) ((az_1 (by decide)).trans g11e_109)
theorem gz_119 {L : Nat} {xs : Nat → Int32} : (Gz L xs).2.2 119 = .inl (0, (16, .inl fun _ => 0)) := o_at (i := 110) ((az_1 (by decide)).trans g11e_110)
theorem gz_120 {L : Nat} {xs : Nat → Int32} : (Gz L xs).2.2 120 = .inl (0, (1728, .inl fun _ => 0)) := o_at (i := 111) ((az_1 (by decide)).trans g11e_111)
theorem gz_121 {L : Nat} {xs : Nat → Int32} : (Gz L xs).2.2 121 = .inl (0, (576, .inl fun _ => 0)) := o_at (i := 112) ((az_1 (by decide)).trans g11e_112)
theorem gz_122 {L : Nat} {xs : Nat → Int32} : (Gz L xs).2.2 122 = .inr (7, fs7 122) := o_at (i := 113) ((az_1 (by decide)).trans g11e_113)
theorem gz_123 {L : Nat} {xs : Nat → Int32} : (Gz L xs).2.2 123 = .inl (0, (3000, .inl fun _ => 0)) := o_at (i := 114) ((az_1 (by decide)).trans g11e_114)
theorem gz_124 {L : Nat} {xs : Nat → Int32} : (Gz L xs).2.2 124 = .inl (0, (2328, .inl fun _ => 0)) := o_at (i := 115) ((az_1 (by decide)).trans g11e_115)
theorem gz_125 {L : Nat} {xs : Nat → Int32} : (Gz L xs).2.2 125 = .inr (8, fs8 125) := o_at (i := 116) ((az_1 (by decide)).trans g11e_116)
theorem gz_126 {L : Nat} {xs : Nat → Int32} : (Gz L xs).2.2 126 = .inl (0, (256, .inl fun _ => 0)) := o_at (i := 117) ((az_1 (by decide)).trans g11e_117)
theorem gz_127 {L : Nat} {xs : Nat → Int32} : (Gz L xs).2.2 127 = .inl (0, (256, .inl fun _ => 0)) := o_at (i := 118) ((az_1 (by decide)).trans g11e_118)
theorem gz_128 {L : Nat} {xs : Nat → Int32} : (Gz L xs).2.2 128 = .inr (2, fs2 128) := o_at (i := 119) ((az_1 (by decide)).trans g11e_119)
theorem gz_129 {L : Nat} {xs : Nat → Int32} : (Gz L xs).2.2 129 = .inl (0, (8000, .inl fun _ => 0)) := o_at (i := 120) ((az_1 (by decide)).trans g11e_120)
theorem gz_130 {L : Nat} {xs : Nat → Int32} : (Gz L xs).2.2 130 = .inl (0, (2328, .inl fun _ => 0)) := o_at (i := 121) ((az_1 (by decide)).trans g11e_121)
theorem gz_131 {L : Nat} {xs : Nat → Int32} : (Gz L xs).2.2 131 = .inl (0, (320, .inl fun _ => 0)) := o_at (i := 122) ((az_1 (by decide)).trans g11e_122)
theorem gz_132 {L : Nat} {xs : Nat → Int32} : (Gz L xs).2.2 132 = .inl (0, (16, .inl fun _ => 0)) := o_at (i := 123) ((az_1 (by decide)).trans g11e_123)
theorem gz_133 {L : Nat} {xs : Nat → Int32} : (Gz L xs).2.2 133 = .inl (0, (288, .inl fun _ => 0)) := o_at (i := 124) ((az_1 (by decide)).trans g11e_124)
theorem gz_134 {L : Nat} {xs : Nat → Int32} : (Gz L xs).2.2 134 = .inl (0, (16, .inl fun _ => 0)) := o_at (i := 125) ((az_1 (by decide)).trans g11e_125)
theorem gz_135 {L : Nat} {xs : Nat → Int32} : (Gz L xs).2.2 135 = .inl (0, (32, .inl fun _ => 0)) := o_at (i := 126) ((az_1 (by decide)).trans g11e_126)
theorem gz_136 {L : Nat} {xs : Nat → Int32} : (Gz L xs).2.2 136 = .inl (0, (17, .inl fun _ => 0)) := o_at (i := 127) ((az_1 (by decide)).trans g11e_127)
theorem gz_137 {L : Nat} {xs : Nat → Int32} : (Gz L xs).2.2 137 = .inl (0, (8000, .inl fun _ => 0)) := o_at (i := 128) ((az_1 (by decide)).trans g11e_128)
theorem gz_138 {L : Nat} {xs : Nat → Int32} : (Gz L xs).2.2 138 = .inl (0, (576, .inl fun _ => 0)) := o_at (i := 129) ((az_1 (by decide)).trans g11e_129)
theorem gz_139 {L : Nat} {xs : Nat → Int32} : (Gz L xs).2.2 139 = .inr (12, FZ) := o_at (i := 130) (az_2)
theorem gz_140 {L : Nat} {xs : Nat → Int32} : (Gz L xs).2.2 140 = .inl (0, (8000, .inl fun _ => 0)) := o_at (i := 131) ((az_3 (i := 0) (by decide)).trans ((bq_o (by decide)).trans g12e_0))
theorem gz_141 {L : Nat} {xs : Nat → Int32} : (Gz L xs).2.2 141 = .inl (0, (16000, .inl fun _ => 0)) := o_at (i := 132) ((az_3 (i := 1) (by decide)).trans ((bq_o (by decide)).trans g12e_1))
theorem gz_142 {L : Nat} {xs : Nat → Int32} : (Gz L xs).2.2 142 = .inl (0, (35071, .inl (cpT (fun _ => 0) (fun _ => 0) 0 35071))) := o_at (i := 133) ((az_3 (i := 2) (by decide)).trans bs_2)
theorem gz_143 {L : Nat} {xs : Nat → Int32} : (Gz L xs).2.2 143 = .inl (0, (876775, .inl (cpT (fun _ => 0) (cpT (fun _ => 0) (fun _ => 0) 0 35071) 0 35071))) := o_at (i := 134) ((az_3 (i := 3) (by decide)).trans bs_3)
theorem gz_144 {L : Nat} {xs : Nat → Int32} : (Gz L xs).2.2 144 = .inl (2, (30, .inl fun _ => 0)) := o_at (i := 135) ((az_3 (i := 4) (by decide)).trans ((bq_o (by decide)).trans g12e_4))
theorem gz_145 {L : Nat} {xs : Nat → Int32} : (Gz L xs).2.2 145 = .inl (0, (18000, .inl fun _ => 0)) := o_at (i := 136) ((az_3 (i := 5) (by decide)).trans ((bq_o (by decide)).trans g12e_5))
theorem gz_146 {L : Nat} {xs : Nat → Int32} : (Gz L xs).2.2 146 = .inl (0, (18000, .inl fun _ => 0)) := o_at (i := 137) ((az_3 (i := 6) (by decide)).trans ((bq_o (by decide)).trans g12e_6))
theorem gz_147 {L : Nat} {xs : Nat → Int32} : (Gz L xs).2.2 147 = .inl (0, (576, .inl fun _ => 0)) := o_at (i := 138) ((az_3 (i := 7) (by decide)).trans ((bq_o (by decide)).trans g12e_7))
theorem gz_148 {L : Nat} {xs : Nat → Int32} : (Gz L xs).2.2 148 = .inl (2, (9, .inl (cpT (fun _ => 0) (fun _ => 0) 0 9))) := o_at (i := 139) ((az_3 (i := 8) (by decide)).trans bs_8)
theorem gz_149 {L : Nat} {xs : Nat → Int32} : (Gz L xs).2.2 149 = .inl (0, (576, .inl fun _ => 0)) := o_at (i := 140) ((az_3 (i := 9) (by decide)).trans ((bq_o (by decide)).trans g12e_9))
theorem gz_150 {L : Nat} {xs : Nat → Int32} : (Gz L xs).2.2 150 = .inl (0, (9, .inl (upd (fun _ => 0) 4 1))) := o_at (i := 141) ((az_3 (i := 10) (by decide)).trans bs_10)
theorem gz_151 {L : Nat} {xs : Nat → Int32} : (Gz L xs).2.2 151 = .inl (0, (9, .inl fun _ => 0)) := o_at (i := 142) ((az_3 (i := 11) (by decide)).trans ((bq_o (by decide)).trans g12e_11))
theorem gz_152 {L : Nat} {xs : Nat → Int32} : (Gz L xs).2.2 152 = .inl (0, (32, .inl fun _ => 0)) := o_at (i := 143) ((az_3 (i := 12) (by decide)).trans ((bq_o (by decide)).trans g12e_12))
theorem gz_153 {L : Nat} {xs : Nat → Int32} : (Gz L xs).2.2 153 = .inl (0, (256, .inl fun _ => 0)) := o_at (i := 144) ((az_3 (i := 13) (by decide)).trans ((bq_o (by decide)).trans g12e_13))
theorem gz_154 {L : Nat} {xs : Nat → Int32} : (Gz L xs).2.2 154 = .inl (0, (256, .inl fun _ => 0)) := o_at (i := 145) ((az_3 (i := 14) (by decide)).trans ((bq_o (by decide)).trans g12e_14))
theorem gz_155 {L : Nat} {xs : Nat → Int32} : (Gz L xs).2.2 155 = .inl (0, (576, .inl (cpT (fun _ => 0) (fun _ => 255) 0 576))) := o_at (i := 146) ((az_3 (i := 15) (by decide)).trans bs_15)
theorem gz_156 {L : Nat} {xs : Nat → Int32} : (Gz L xs).2.2 156 = .inl (0, (576, .inl fun _ => 0)) := o_at (i := 147) ((az_3 (i := 16) (by decide)).trans ((bq_o (by decide)).trans g12e_16))
theorem gz_157 {L : Nat} {xs : Nat → Int32} : (Gz L xs).2.2 157 = .inl (0, (2400, .inl fun _ => 0)) := o_at (i := 148) ((az_3 (i := 17) (by decide)).trans ((bq_o (by decide)).trans g12e_17))
theorem gz_158 {L : Nat} {xs : Nat → Int32} : (Gz L xs).2.2 158 = .inl (0, (576, .inl fun _ => 0)) := o_at (i := 149) ((az_3 (i := 18) (by decide)).trans ((bq_o (by decide)).trans g12e_18))
theorem gz_159 {L : Nat} {xs : Nat → Int32} : (Gz L xs).2.2 159 = .inl (0, (40, .inl fun _ => 0)) := o_at (i := 150) ((az_3 (i := 19) (by decide)).trans ((bq_o (by decide)).trans g12e_19))
theorem gz_160 {L : Nat} {xs : Nat → Int32} : (Gz L xs).2.2 160 = .inl (0, (40, .inl fun _ => 0)) := o_at (i := 151) ((az_3 (i := 20) (by decide)).trans ((bq_o (by decide)).trans g12e_20))
theorem gz_161 {L : Nat} {xs : Nat → Int32} : (Gz L xs).2.2 161 = .inl (0, (40, .inl fun _ => 0)) := o_at (i := 152) ((az_3 (i := 21) (by decide)).trans ((bq_o (by decide)).trans g12e_21))
theorem gz_162 {L : Nat} {xs : Nat → Int32} : (Gz L xs).2.2 162 = .inl (0, (576, .inl fun _ => 0)) := o_at (i := 153) ((az_3 (i := 22) (by decide)).trans ((bq_o (by decide)).trans g12e_22))
theorem gz_163 {L : Nat} {xs : Nat → Int32} : (Gz L xs).2.2 163 = .inl (0, (8, .inl fun _ => 0)) := o_at (i := 154) ((az_3 (i := 23) (by decide)).trans ((bq_o (by decide)).trans g12e_23))
theorem gz_164 {L : Nat} {xs : Nat → Int32} : (Gz L xs).2.2 164 = .inl (0, (320, .inl fun _ => 0)) := o_at (i := 155) ((az_3 (i := 24) (by decide)).trans ((bq_o (by decide)).trans g12e_24))
theorem gz_165 {L : Nat} {xs : Nat → Int32} : (Gz L xs).2.2 165 = .inl (0, (320, .inl fun _ => 0)) := o_at (i := 156) ((az_3 (i := 25) (by decide)).trans ((bq_o (by decide)).trans g12e_25))
theorem gz_166 {L : Nat} {xs : Nat → Int32} : (Gz L xs).2.2 166 = .inl (0, (320, .inl fun _ => 0)) := o_at (i := 157) ((az_3 (i := 26) (by decide)).trans ((bq_o (by decide)).trans g12e_26))
theorem gz_167 {L : Nat} {xs : Nat → Int32} : (Gz L xs).2.2 167 = .inl (0, (420, .inl fun _ => 0)) := o_at (i := 158) ((az_3 (i := 27) (by decide)).trans ((bq_o (by decide)).trans g12e_27))
theorem gz_168 {L : Nat} {xs : Nat → Int32} : (Gz L xs).2.2 168 = .inl (0, (420, .inl fun _ => 0)) := o_at (i := 159) ((az_3 (i := 28) (by decide)).trans ((bq_o (by decide)).trans g12e_28))
theorem gz_169 {L : Nat} {xs : Nat → Int32} : (Gz L xs).2.2 169 = .inl (0, (420, .inl fun _ => 0)) := o_at (i := 160) ((az_3 (i := 29) (by decide)).trans ((bq_o (by decide)).trans g12e_29))
theorem gz_170 {L : Nat} {xs : Nat → Int32} : (Gz L xs).2.2 170 = .inl (0, (420, .inl fun _ => 0)) := o_at (i := 161) ((az_3 (i := 30) (by decide)).trans ((bq_o (by decide)).trans g12e_30))
theorem gz_171 {L : Nat} {xs : Nat → Int32} : (Gz L xs).2.2 171 = .inl (0, (256, .inl (cpT (fun _ => 0) (fun _ => -1) 0 256))) := o_at (i := 162) ((az_3 (i := 31) (by decide)).trans bs_31)
theorem gz_172 {L : Nat} {xs : Nat → Int32} : (Gz L xs).2.2 172 = .inl (0, (256, .inl fun _ => 0)) := o_at (i := 163) ((az_3 (i := 32) (by decide)).trans ((bq_o (by decide)).trans g12e_32))
theorem gz_173 {L : Nat} {xs : Nat → Int32} : (Gz L xs).2.2 173 = .inl (0, (40, .inl (q3 (q3 (q3 (q3 (fun _ => 0) 0) 10) 20) 30))) := o_at (i := 164) ((az_3 (i := 33) (by decide)).trans bs_33)
theorem gz_174 {L : Nat} {xs : Nat → Int32} : (Gz L xs).2.2 174 = .inl (0, (3, .inl fun _ => 0)) := o_at (i := 165) ((az_3 (i := 34) (by decide)).trans ((bq_o (by decide)).trans g12e_34))
theorem gz_175 {L : Nat} {xs : Nat → Int32} : (Gz L xs).2.2 175 = .inl (0, (576, .inl fun _ => 0)) := o_at (i := 166) ((az_3 (i := 35) (by decide)).trans ((bq_o (by decide)).trans g12e_35))
theorem gz_176 {L : Nat} {xs : Nat → Int32} : (Gz L xs).2.2 176 = .inl (0, (16, .inl fun _ => 0)) := o_at (i := 167) ((az_3 (i := 36) (by decide)).trans ((bq_o (by decide)).trans g12e_36))
theorem gz_177 {L : Nat} {xs : Nat → Int32} : (Gz L xs).2.2 177 = .inl (0, (16, .inl fun _ => 0)) := o_at (i := 168) ((az_3 (i := 37) (by decide)).trans ((bq_o (by decide)).trans g12e_37))
theorem gz_178 {L : Nat} {xs : Nat → Int32} : (Gz L xs).2.2 178 = .inl (0, (16, .inl fun _ => 0)) := o_at (i := 169) ((az_3 (i := 38) (by decide)).trans ((bq_o (by decide)).trans g12e_38))
theorem gz_179 {L : Nat} {xs : Nat → Int32} : (Gz L xs).2.2 179 = .inl (0, (1728, .inl fun _ => 0)) := o_at (i := 170) ((az_3 (i := 39) (by decide)).trans ((bq_o (by decide)).trans g12e_39))
theorem gz_180 {L : Nat} {xs : Nat → Int32} : (Gz L xs).2.2 180 = .inl (0, (4, .inl (upd (upd (upd (fun _ => 0) 1 64) 2 64) 3 64))) := o_at (i := 171) ((az_3 (i := 40) (by decide)).trans bs_40)
theorem gz_181 {L : Nat} {xs : Nat → Int32} : (Gz L xs).2.2 181 = .inl (0, (576, .inl fun _ => 0)) := o_at (i := 172) ((az_3 (i := 41) (by decide)).trans ((bq_o (by decide)).trans g12e_41))
theorem gz_182 {L : Nat} {xs : Nat → Int32} : (Gz L xs).2.2 182 = .inl (0, (29, .inl (upd (upd (upd (upd (upd (upd (upd (upd (upd (upd (upd (upd (upd (upd (upd (upd (upd (upd (upd (upd (upd (upd (upd (upd (upd (upd (upd (upd (upd (fun _ => 0) 0 3) 1 4) 2 5) 3 6) 4 7) 5 8) 6 9) 7 10) 8 11) 9 13) 10 15) 11 17) 12 19) 13 23) 14 27) 15 31) 16 35) 17 43) 18 51) 19 59) 20 67) 21 83) 22 99) 23 115) 24 131) 25 163) 26 195) 27 227) 28 258))) := o_at (i := 173) ((az_3 (i := 42) (by decide)).trans ((bq_o (by decide)).trans g12e_42))
theorem gz_183 {L : Nat} {xs : Nat → Int32} : (Gz L xs).2.2 183 = .inl (0, (29, .inl (upd (upd (upd (upd (upd (upd (upd (upd (upd (upd (upd (upd (upd (upd (upd (upd (upd (upd (upd (upd (upd (upd (upd (upd (upd (upd (upd (upd (upd (fun _ => 0) 0 0) 1 0) 2 0) 3 0) 4 0) 5 0) 6 0) 7 0) 8 1) 9 1) 10 1) 11 1) 12 2) 13 2) 14 2) 15 2) 16 3) 17 3) 18 3) 19 3) 20 4) 21 4) 22 4) 23 4) 24 5) 25 5) 26 5) 27 5) 28 0))) := o_at (i := 174) ((az_3 (i := 43) (by decide)).trans ((bq_o (by decide)).trans g12e_43))
theorem gz_184 {L : Nat} {xs : Nat → Int32} : (Gz L xs).2.2 184 = .inl (0, (30, .inl (upd (upd (upd (upd (upd (upd (upd (upd (upd (upd (upd (upd (upd (upd (upd (upd (upd (upd (upd (upd (upd (upd (upd (upd (upd (upd (upd (upd (upd (upd (fun _ => 0) 0 1) 1 2) 2 3) 3 4) 4 5) 5 7) 6 9) 7 13) 8 17) 9 25) 10 33) 11 49) 12 65) 13 97) 14 129) 15 193) 16 257) 17 385) 18 513) 19 769) 20 1025) 21 1537) 22 2049) 23 3073) 24 4097) 25 6145) 26 8193) 27 12289) 28 16385) 29 24577))) := o_at (i := 175) ((az_3 (i := 44) (by decide)).trans ((bq_o (by decide)).trans g12e_44))
theorem gz_185 {L : Nat} {xs : Nat → Int32} : (Gz L xs).2.2 185 = .inl (0, (30, .inl (upd (upd (upd (upd (upd (upd (upd (upd (upd (upd (upd (upd (upd (upd (upd (upd (upd (upd (upd (upd (upd (upd (upd (upd (upd (upd (upd (upd (upd (upd (fun _ => 0) 0 0) 1 0) 2 0) 3 0) 4 1) 5 1) 6 2) 7 2) 8 3) 9 3) 10 4) 11 4) 12 5) 13 5) 14 6) 15 6) 16 7) 17 7) 18 8) 19 8) 20 9) 21 9) 22 10) 23 10) 24 11) 25 11) 26 12) 27 12) 28 13) 29 13))) := o_at (i := 176) ((az_3 (i := 45) (by decide)).trans ((bq_o (by decide)).trans g12e_45))
theorem gz_186 {L : Nat} {xs : Nat → Int32} : (Gz L xs).2.2 186 = .inl (0, (19, .inl (upd (upd (upd (upd (upd (upd (upd (upd (upd (upd (upd (upd (upd (upd (upd (upd (upd (upd (upd (fun _ => 0) 0 16) 1 17) 2 18) 3 0) 4 8) 5 7) 6 9) 7 6) 8 10) 9 5) 10 11) 11 4) 12 12) 13 3) 14 13) 15 2) 16 14) 17 1) 18 15))) := o_at (i := 177) ((az_3 (i := 46) (by decide)).trans ((bq_o (by decide)).trans g12e_46))
theorem gz_187 {L : Nat} {xs : Nat → Int32} : (Gz L xs).2.2 187 = .inl (0, (2400, .inl fun _ => 0)) := o_at (i := 178) ((az_3 (i := 47) (by decide)).trans ((bq_o (by decide)).trans g12e_47))
theorem gz_188 {L : Nat} {xs : Nat → Int32} : (Gz L xs).2.2 188 = .inl (0, (8000, .inl fun _ => 0)) := o_at (i := 179) ((az_3 (i := 48) (by decide)).trans ((bq_o (by decide)).trans g12e_48))
theorem gz_189 {L : Nat} {xs : Nat → Int32} : (Gz L xs).2.2 189 = .inl (0, (256, .inl fun _ => 0)) := o_at (i := 180) ((az_3 (i := 49) (by decide)).trans ((bq_o (by decide)).trans g12e_49))
theorem gz_190 {L : Nat} {xs : Nat → Int32} : (Gz L xs).2.2 190 = .inl (0, (256, .inl fun _ => 0)) := o_at (i := 181) ((az_3 (i := 50) (by decide)).trans ((bq_o (by decide)).trans g12e_50))
theorem gz_191 {L : Nat} {xs : Nat → Int32} : (Gz L xs).2.2 191 = .inl (0, (48, .inl fun _ => 0)) := o_at (i := 182) ((az_3 (i := 51) (by decide)).trans ((bq_o (by decide)).trans g12e_51))
theorem gz_192 {L : Nat} {xs : Nat → Int32} : (Gz L xs).2.2 192 = .inl (0, (960, .inl fun _ => 0)) := o_at (i := 183) ((az_3 (i := 52) (by decide)).trans ((bq_o (by decide)).trans g12e_52))
theorem gz_193 {L : Nat} {xs : Nat → Int32} : (Gz L xs).2.2 193 = .inl (0, (340, .inl fun _ => 0)) := o_at (i := 184) ((az_3 (i := 53) (by decide)).trans ((bq_o (by decide)).trans g12e_53))
theorem gz_194 {L : Nat} {xs : Nat → Int32} : (Gz L xs).2.2 194 = .inl (1, (1, .inr (.inl fun _ => 0))) := o_at (i := 185) (az_4)
theorem kz_8 {L : Nat} {xs : Nat → Int32} : Lc (Gz L xs) 8 := k_O t8 gz_8 (by decide +kernel)
theorem kz_9 {L : Nat} {xs : Nat → Int32} : Lc (Gz L xs) 9 := k_F (show e_fr _ by unfold e_fr; decide)
theorem kz_10 {L : Nat} {xs : Nat → Int32} : Lc (Gz L xs) 10 := k_F (show e_fr _ by unfold e_fr; decide)
theorem kz_11 {L : Nat} {xs : Nat → Int32} : Lc (Gz L xs) 11 := k_F (show e_fr _ by unfold e_fr; decide)
theorem kz_12 {L : Nat} {xs : Nat → Int32} : Lc (Gz L xs) 12 := k_R t12 gz_12
theorem kz_13 {L : Nat} {xs : Nat → Int32} : Lc (Gz L xs) 13 := k_R t13 gz_13
theorem kz_14 {L : Nat} {xs : Nat → Int32} : Lc (Gz L xs) 14 := k_O t14 gz_14 (by decide +kernel)
theorem kz_15 {L : Nat} {xs : Nat → Int32} : Lc (Gz L xs) 15 := k_I t15 gz_15
theorem kz_16 {L : Nat} {xs : Nat → Int32} : Lc (Gz L xs) 16 := k_I t16 gz_16
theorem kz_17 {L : Nat} {xs : Nat → Int32} : Lc (Gz L xs) 17 := k_I t17 gz_17
theorem kz_18 {L : Nat} {xs : Nat → Int32} : Lc (Gz L xs) 18 := k_I t18 gz_18
theorem kz_19 {L : Nat} {xs : Nat → Int32} : Lc (Gz L xs) 19 := k_I t19 gz_19
theorem kz_20 {L : Nat} {xs : Nat → Int32} : Lc (Gz L xs) 20 := k_O t20 gz_20 (by decide +kernel)
theorem kz_21 {L : Nat} {xs : Nat → Int32} : Lc (Gz L xs) 21 := k_G t21 gz_21
theorem kz_22 {L : Nat} {xs : Nat → Int32} : Lc (Gz L xs) 22 := k_I t22 gz_22
theorem kz_23 {L : Nat} {xs : Nat → Int32} : Lc (Gz L xs) 23 := k_I t23 gz_23
theorem kz_24 {L : Nat} {xs : Nat → Int32} : Lc (Gz L xs) 24 := k_I t24 gz_24
theorem kz_25 {L : Nat} {xs : Nat → Int32} : Lc (Gz L xs) 25 := k_I t25 gz_25
theorem kz_26 {L : Nat} {xs : Nat → Int32} : Lc (Gz L xs) 26 := k_I t26 gz_26
theorem kz_27 {L : Nat} {xs : Nat → Int32} : Lc (Gz L xs) 27 := k_I t27 gz_27
theorem kz_28 {L : Nat} {xs : Nat → Int32} : Lc (Gz L xs) 28 := k_I t28 gz_28
theorem kz_29 {L : Nat} {xs : Nat → Int32} : Lc (Gz L xs) 29 := k_I t29 gz_29
theorem kz_30 {L : Nat} {xs : Nat → Int32} : Lc (Gz L xs) 30 := k_I t30 gz_30
theorem kz_31 {L : Nat} {xs : Nat → Int32} : Lc (Gz L xs) 31 := k_I t31 gz_31
theorem kz_32 {L : Nat} {xs : Nat → Int32} : Lc (Gz L xs) 32 := k_I t32 gz_32
theorem kz_33 {L : Nat} {xs : Nat → Int32} : Lc (Gz L xs) 33 := k_I t33 gz_33
theorem kz_34 {L : Nat} {xs : Nat → Int32} : Lc (Gz L xs) 34 := k_I t34 gz_34
theorem kz_35 {L : Nat} {xs : Nat → Int32} : Lc (Gz L xs) 35 := k_I t35 gz_35
theorem kz_36 {L : Nat} {xs : Nat → Int32} : Lc (Gz L xs) 36 := k_I t36 gz_36
theorem kz_37 {L : Nat} {xs : Nat → Int32} : Lc (Gz L xs) 37 := k_I t37 gz_37
theorem kz_38 {L : Nat} {xs : Nat → Int32} : Lc (Gz L xs) 38 := k_I t38 gz_38
theorem kz_39 {L : Nat} {xs : Nat → Int32} : Lc (Gz L xs) 39 := k_I t39 gz_39
theorem kz_40 {L : Nat} {xs : Nat → Int32} : Lc (Gz L xs) 40 := k_I t40 gz_40
theorem kz_41 {L : Nat} {xs : Nat → Int32} : Lc (Gz L xs) 41 := k_I t41 gz_41
theorem kz_42 {L : Nat} {xs : Nat → Int32} : Lc (Gz L xs) 42 := k_I t42 gz_42
theorem kz_43 {L : Nat} {xs : Nat → Int32} : Lc (Gz L xs) 43 := k_I t43 gz_43
theorem kz_44 {L : Nat} {xs : Nat → Int32} : Lc (Gz L xs) 44 := k_I t44 gz_44
theorem kz_45 {L : Nat} {xs : Nat → Int32} : Lc (Gz L xs) 45 := k_I t45 gz_45
theorem kz_46 {L : Nat} {xs : Nat → Int32} : Lc (Gz L xs) 46 := k_I t46 gz_46
theorem kz_47 {L : Nat} {xs : Nat → Int32} : Lc (Gz L xs) 47 := k_I t47 gz_47
theorem kz_48 {L : Nat} {xs : Nat → Int32} : Lc (Gz L xs) 48 := k_I t48 gz_48
theorem kz_49 {L : Nat} {xs : Nat → Int32} : Lc (Gz L xs) 49 := k_I t49 gz_49
theorem kz_50 {L : Nat} {xs : Nat → Int32} : Lc (Gz L xs) 50 := k_I t50 gz_50
theorem kz_51 {L : Nat} {xs : Nat → Int32} : Lc (Gz L xs) 51 := k_I t51 gz_51
theorem kz_52 {L : Nat} {xs : Nat → Int32} : Lc (Gz L xs) 52 := k_I t52 gz_52
theorem kz_53 {L : Nat} {xs : Nat → Int32} : Lc (Gz L xs) 53 := k_G t53 gz_53
theorem kz_54 {L : Nat} {xs : Nat → Int32} : Lc (Gz L xs) 54 := k_I t54 gz_54
theorem kz_55 {L : Nat} {xs : Nat → Int32} : Lc (Gz L xs) 55 := k_I t55 gz_55
theorem kz_56 {L : Nat} {xs : Nat → Int32} : Lc (Gz L xs) 56 := k_I t56 gz_56
theorem kz_57 {L : Nat} {xs : Nat → Int32} : Lc (Gz L xs) 57 := k_I t57 gz_57
theorem kz_58 {L : Nat} {xs : Nat → Int32} : Lc (Gz L xs) 58 := k_I t58 gz_58
theorem kz_59 {L : Nat} {xs : Nat → Int32} : Lc (Gz L xs) 59 := k_I t59 gz_59
theorem kz_60 {L : Nat} {xs : Nat → Int32} : Lc (Gz L xs) 60 := k_I t60 gz_60
theorem kz_61 {L : Nat} {xs : Nat → Int32} : Lc (Gz L xs) 61 := k_I t61 gz_61
theorem kz_62 {L : Nat} {xs : Nat → Int32} : Lc (Gz L xs) 62 := k_I t62 gz_62
theorem kz_63 {L : Nat} {xs : Nat → Int32} : Lc (Gz L xs) 63 := k_I t63 gz_63
theorem kz_64 {L : Nat} {xs : Nat → Int32} : Lc (Gz L xs) 64 := k_I t64 gz_64
theorem kz_65 {L : Nat} {xs : Nat → Int32} : Lc (Gz L xs) 65 := k_I t65 gz_65
theorem kz_66 {L : Nat} {xs : Nat → Int32} : Lc (Gz L xs) 66 := k_I t66 gz_66
theorem kz_67 {L : Nat} {xs : Nat → Int32} : Lc (Gz L xs) 67 := k_I t67 gz_67
theorem kz_68 {L : Nat} {xs : Nat → Int32} : Lc (Gz L xs) 68 := k_I t68 gz_68
theorem kz_69 {L : Nat} {xs : Nat → Int32} : Lc (Gz L xs) 69 := k_I t69 gz_69
theorem kz_70 {L : Nat} {xs : Nat → Int32} : Lc (Gz L xs) 70 := k_I t70 gz_70
theorem kz_71 {L : Nat} {xs : Nat → Int32} : Lc (Gz L xs) 71 := k_I t71 gz_71
theorem kz_72 {L : Nat} {xs : Nat → Int32} : Lc (Gz L xs) 72 := k_I t72 gz_72
theorem kz_73 {L : Nat} {xs : Nat → Int32} : Lc (Gz L xs) 73 := k_I t73 gz_73
theorem kz_74 {L : Nat} {xs : Nat → Int32} : Lc (Gz L xs) 74 := k_I t74 gz_74
theorem kz_75 {L : Nat} {xs : Nat → Int32} : Lc (Gz L xs) 75 := k_I t75 gz_75
theorem kz_76 {L : Nat} {xs : Nat → Int32} : Lc (Gz L xs) 76 := k_I t76 gz_76
theorem kz_77 {L : Nat} {xs : Nat → Int32} : Lc (Gz L xs) 77 := k_I t77 gz_77
theorem kz_78 {L : Nat} {xs : Nat → Int32} : Lc (Gz L xs) 78 := k_I t78 gz_78
theorem kz_79 {L : Nat} {xs : Nat → Int32} : Lc (Gz L xs) 79 := k_I t79 gz_79
theorem kz_80 {L : Nat} {xs : Nat → Int32} : Lc (Gz L xs) 80 := k_I t80 gz_80
theorem kz_81 {L : Nat} {xs : Nat → Int32} : Lc (Gz L xs) 81 := k_I t81 gz_81
theorem kz_82 {L : Nat} {xs : Nat → Int32} : Lc (Gz L xs) 82 := k_I t82 gz_82
theorem kz_83 {L : Nat} {xs : Nat → Int32} : Lc (Gz L xs) 83 := k_I t83 gz_83
theorem kz_84 {L : Nat} {xs : Nat → Int32} : Lc (Gz L xs) 84 := k_I t84 gz_84
theorem kz_85 {L : Nat} {xs : Nat → Int32} : Lc (Gz L xs) 85 := k_I t85 gz_85
theorem kz_86 {L : Nat} {xs : Nat → Int32} : Lc (Gz L xs) 86 := k_I t86 gz_86
theorem kz_87 {L : Nat} {xs : Nat → Int32} : Lc (Gz L xs) 87 := k_I t87 gz_87
theorem kz_88 {L : Nat} {xs : Nat → Int32} : Lc (Gz L xs) 88 := k_B t88 gz_88
theorem kz_89 {L : Nat} {xs : Nat → Int32} : Lc (Gz L xs) 89 := k_O t89 gz_89 (by decide +kernel)
theorem kz_90 {L : Nat} {xs : Nat → Int32} : Lc (Gz L xs) 90 := k_I t90 gz_90
theorem kz_91 {L : Nat} {xs : Nat → Int32} : Lc (Gz L xs) 91 := k_I t91 gz_91
theorem kz_92 {L : Nat} {xs : Nat → Int32} : Lc (Gz L xs) 92 := k_I t92 gz_92
theorem kz_93 {L : Nat} {xs : Nat → Int32} : Lc (Gz L xs) 93 := k_O t93 gz_93 (by decide +kernel)
theorem kz_94 {L : Nat} {xs : Nat → Int32} : Lc (Gz L xs) 94 := k_I t94 gz_94
theorem kz_95 {L : Nat} {xs : Nat → Int32} : Lc (Gz L xs) 95 := k_I t95 gz_95
theorem kz_96 {L : Nat} {xs : Nat → Int32} : Lc (Gz L xs) 96 := k_I t96 gz_96
theorem kz_97 {L : Nat} {xs : Nat → Int32} : Lc (Gz L xs) 97 := k_I t97 gz_97
theorem kz_98 {L : Nat} {xs : Nat → Int32} : Lc (Gz L xs) 98 := k_O t98 gz_98 (by decide +kernel)
theorem kz_99 {L : Nat} {xs : Nat → Int32} : Lc (Gz L xs) 99 := k_I t99 gz_99
theorem kz_100 {L : Nat} {xs : Nat → Int32} : Lc (Gz L xs) 100 := k_I t100 gz_100
theorem kz_101 {L : Nat} {xs : Nat → Int32} : Lc (Gz L xs) 101 := k_I t101 gz_101
theorem kz_102 {L : Nat} {xs : Nat → Int32} : Lc (Gz L xs) 102 := k_I t102 gz_102
theorem kz_103 {L : Nat} {xs : Nat → Int32} : Lc (Gz L xs) 103 := k_I t103 gz_103
theorem kz_104 {L : Nat} {xs : Nat → Int32} : Lc (Gz L xs) 104 := k_I t104 gz_104
theorem kz_105 {L : Nat} {xs : Nat → Int32} : Lc (Gz L xs) 105 := k_I t105 gz_105
theorem kz_106 {L : Nat} {xs : Nat → Int32} : Lc (Gz L xs) 106 := k_I t106 gz_106
theorem kz_107 {L : Nat} {xs : Nat → Int32} : Lc (Gz L xs) 107 := k_I t107 gz_107
theorem kz_108 {L : Nat} {xs : Nat → Int32} : Lc (Gz L xs) 108 := k_I t108 gz_108
theorem kz_109 {L : Nat} {xs : Nat → Int32} : Lc (Gz L xs) 109 := k_I t109 gz_109
theorem kz_110 {L : Nat} {xs : Nat → Int32} : Lc (Gz L xs) 110 := k_I t110 gz_110
theorem kz_111 {L : Nat} {xs : Nat → Int32} : Lc (Gz L xs) 111 := k_O t111 gz_111 (by decide +kernel)
theorem kz_112 {L : Nat} {xs : Nat → Int32} : Lc (Gz L xs) 112 := k_I t112 gz_112
theorem kz_113 {L : Nat} {xs : Nat → Int32} : Lc (Gz L xs) 113 := k_I t113 gz_113
theorem kz_114 {L : Nat} {xs : Nat → Int32} : Lc (Gz L xs) 114 := k_I t114 gz_114
theorem kz_115 {L : Nat} {xs : Nat → Int32} : Lc (Gz L xs) 115 := k_L t115 gz_115
theorem kz_116 {L : Nat} {xs : Nat → Int32} : Lc (Gz L xs) 116 := k_I t116 gz_116
theorem kz_117 {L : Nat} {xs : Nat → Int32} : Lc (Gz L xs) 117 := k_I t117 gz_117
theorem kz_118 {L : Nat} {xs : Nat → Int32} : Lc (Gz L xs) 118 := k_I t118 gz_118
theorem kz_119 {L : Nat} {xs : Nat → Int32} : Lc (Gz L xs) 119 := k_I t119 gz_119
theorem kz_120 {L : Nat} {xs : Nat → Int32} : Lc (Gz L xs) 120 := k_I t120 gz_120
theorem kz_121 {L : Nat} {xs : Nat → Int32} : Lc (Gz L xs) 121 := k_I t121 gz_121
theorem kz_122 {L : Nat} {xs : Nat → Int32} : Lc (Gz L xs) 122 := k_O t122 gz_122 (by decide +kernel)
theorem kz_123 {L : Nat} {xs : Nat → Int32} : Lc (Gz L xs) 123 := k_I t123 gz_123
theorem kz_124 {L : Nat} {xs : Nat → Int32} : Lc (Gz L xs) 124 := k_I t124 gz_124
theorem kz_125 {L : Nat} {xs : Nat → Int32} : Lc (Gz L xs) 125 := k_O t125 gz_125 (by decide +kernel)
theorem kz_126 {L : Nat} {xs : Nat → Int32} : Lc (Gz L xs) 126 := k_I t126 gz_126
theorem kz_127 {L : Nat} {xs : Nat → Int32} : Lc (Gz L xs) 127 := k_I t127 gz_127
theorem kz_128 {L : Nat} {xs : Nat → Int32} : Lc (Gz L xs) 128 := k_O t128 gz_128 (by decide +kernel)
theorem kz_129 {L : Nat} {xs : Nat → Int32} : Lc (Gz L xs) 129 := k_I t129 gz_129
theorem kz_130 {L : Nat} {xs : Nat → Int32} : Lc (Gz L xs) 130 := k_I t130 gz_130
theorem kz_131 {L : Nat} {xs : Nat → Int32} : Lc (Gz L xs) 131 := k_I t131 gz_131
theorem kz_132 {L : Nat} {xs : Nat → Int32} : Lc (Gz L xs) 132 := k_I t132 gz_132
theorem kz_133 {L : Nat} {xs : Nat → Int32} : Lc (Gz L xs) 133 := k_I t133 gz_133
theorem kz_134 {L : Nat} {xs : Nat → Int32} : Lc (Gz L xs) 134 := k_I t134 gz_134
theorem kz_135 {L : Nat} {xs : Nat → Int32} : Lc (Gz L xs) 135 := k_I t135 gz_135
theorem kz_136 {L : Nat} {xs : Nat → Int32} : Lc (Gz L xs) 136 := k_I t136 gz_136
theorem kz_137 {L : Nat} {xs : Nat → Int32} : Lc (Gz L xs) 137 := k_I t137 gz_137
theorem kz_138 {L : Nat} {xs : Nat → Int32} : Lc (Gz L xs) 138 := k_I t138 gz_138
theorem kz_139 {L : Nat} {xs : Nat → Int32} : Lc (Gz L xs) 139 := k_O t139 gz_139 (by decide +kernel)
theorem kz_140 {L : Nat} {xs : Nat → Int32} : Lc (Gz L xs) 140 := k_I t140 gz_140
theorem kz_141 {L : Nat} {xs : Nat → Int32} : Lc (Gz L xs) 141 := k_I t141 gz_141
theorem kz_142 {L : Nat} {xs : Nat → Int32} : Lc (Gz L xs) 142 := k_I t142 gz_142
theorem kz_143 {L : Nat} {xs : Nat → Int32} : Lc (Gz L xs) 143 := k_I t143 gz_143
theorem kz_144 {L : Nat} {xs : Nat → Int32} : Lc (Gz L xs) 144 := k_B t144 gz_144
theorem kz_145 {L : Nat} {xs : Nat → Int32} : Lc (Gz L xs) 145 := k_I t145 gz_145
theorem kz_146 {L : Nat} {xs : Nat → Int32} : Lc (Gz L xs) 146 := k_I t146 gz_146
theorem kz_147 {L : Nat} {xs : Nat → Int32} : Lc (Gz L xs) 147 := k_I t147 gz_147
theorem kz_148 {L : Nat} {xs : Nat → Int32} : Lc (Gz L xs) 148 := k_B t148 gz_148
theorem kz_149 {L : Nat} {xs : Nat → Int32} : Lc (Gz L xs) 149 := k_I t149 gz_149
theorem kz_150 {L : Nat} {xs : Nat → Int32} : Lc (Gz L xs) 150 := k_I t150 gz_150
theorem kz_151 {L : Nat} {xs : Nat → Int32} : Lc (Gz L xs) 151 := k_I t151 gz_151
theorem kz_152 {L : Nat} {xs : Nat → Int32} : Lc (Gz L xs) 152 := k_I t152 gz_152
theorem kz_153 {L : Nat} {xs : Nat → Int32} : Lc (Gz L xs) 153 := k_I t153 gz_153
theorem kz_154 {L : Nat} {xs : Nat → Int32} : Lc (Gz L xs) 154 := k_I t154 gz_154
theorem kz_155 {L : Nat} {xs : Nat → Int32} : Lc (Gz L xs) 155 := k_I t155 gz_155
theorem kz_156 {L : Nat} {xs : Nat → Int32} : Lc (Gz L xs) 156 := k_I t156 gz_156
theorem kz_157 {L : Nat} {xs : Nat → Int32} : Lc (Gz L xs) 157 := k_I t157 gz_157
theorem kz_158 {L : Nat} {xs : Nat → Int32} : Lc (Gz L xs) 158 := k_I t158 gz_158
theorem kz_159 {L : Nat} {xs : Nat → Int32} : Lc (Gz L xs) 159 := k_I t159 gz_159
theorem kz_160 {L : Nat} {xs : Nat → Int32} : Lc (Gz L xs) 160 := k_I t160 gz_160
theorem kz_161 {L : Nat} {xs : Nat → Int32} : Lc (Gz L xs) 161 := k_I t161 gz_161
theorem kz_162 {L : Nat} {xs : Nat → Int32} : Lc (Gz L xs) 162 := k_I t162 gz_162
theorem kz_163 {L : Nat} {xs : Nat → Int32} : Lc (Gz L xs) 163 := k_I t163 gz_163
theorem kz_164 {L : Nat} {xs : Nat → Int32} : Lc (Gz L xs) 164 := k_I t164 gz_164
theorem kz_165 {L : Nat} {xs : Nat → Int32} : Lc (Gz L xs) 165 := k_I t165 gz_165
theorem kz_166 {L : Nat} {xs : Nat → Int32} : Lc (Gz L xs) 166 := k_I t166 gz_166
theorem kz_167 {L : Nat} {xs : Nat → Int32} : Lc (Gz L xs) 167 := k_I t167 gz_167
theorem kz_168 {L : Nat} {xs : Nat → Int32} : Lc (Gz L xs) 168 := k_I t168 gz_168
theorem kz_169 {L : Nat} {xs : Nat → Int32} : Lc (Gz L xs) 169 := k_I t169 gz_169
theorem kz_170 {L : Nat} {xs : Nat → Int32} : Lc (Gz L xs) 170 := k_I t170 gz_170
theorem kz_171 {L : Nat} {xs : Nat → Int32} : Lc (Gz L xs) 171 := k_I t171 gz_171
theorem kz_172 {L : Nat} {xs : Nat → Int32} : Lc (Gz L xs) 172 := k_I t172 gz_172
theorem kz_173 {L : Nat} {xs : Nat → Int32} : Lc (Gz L xs) 173 := k_I t173 gz_173
theorem kz_174 {L : Nat} {xs : Nat → Int32} : Lc (Gz L xs) 174 := k_I t174 gz_174
theorem kz_175 {L : Nat} {xs : Nat → Int32} : Lc (Gz L xs) 175 := k_I t175 gz_175
theorem kz_176 {L : Nat} {xs : Nat → Int32} : Lc (Gz L xs) 176 := k_I t176 gz_176
theorem kz_177 {L : Nat} {xs : Nat → Int32} : Lc (Gz L xs) 177 := k_I t177 gz_177
theorem kz_178 {L : Nat} {xs : Nat → Int32} : Lc (Gz L xs) 178 := k_I t178 gz_178
theorem kz_179 {L : Nat} {xs : Nat → Int32} : Lc (Gz L xs) 179 := k_I t179 gz_179
theorem kz_180 {L : Nat} {xs : Nat → Int32} : Lc (Gz L xs) 180 := k_I t180 gz_180
theorem kz_181 {L : Nat} {xs : Nat → Int32} : Lc (Gz L xs) 181 := k_I t181 gz_181
theorem kz_182 {L : Nat} {xs : Nat → Int32} : Lc (Gz L xs) 182 := k_I t182 gz_182
theorem kz_183 {L : Nat} {xs : Nat → Int32} : Lc (Gz L xs) 183 := k_I t183 gz_183
theorem kz_184 {L : Nat} {xs : Nat → Int32} : Lc (Gz L xs) 184 := k_I t184 gz_184
theorem kz_185 {L : Nat} {xs : Nat → Int32} : Lc (Gz L xs) 185 := k_I t185 gz_185
theorem kz_186 {L : Nat} {xs : Nat → Int32} : Lc (Gz L xs) 186 := k_I t186 gz_186
theorem kz_187 {L : Nat} {xs : Nat → Int32} : Lc (Gz L xs) 187 := k_I t187 gz_187
theorem kz_188 {L : Nat} {xs : Nat → Int32} : Lc (Gz L xs) 188 := k_I t188 gz_188
theorem kz_189 {L : Nat} {xs : Nat → Int32} : Lc (Gz L xs) 189 := k_I t189 gz_189
theorem kz_190 {L : Nat} {xs : Nat → Int32} : Lc (Gz L xs) 190 := k_I t190 gz_190
theorem kz_191 {L : Nat} {xs : Nat → Int32} : Lc (Gz L xs) 191 := k_I t191 gz_191
theorem kz_192 {L : Nat} {xs : Nat → Int32} : Lc (Gz L xs) 192 := k_I t192 gz_192
theorem kz_193 {L : Nat} {xs : Nat → Int32} : Lc (Gz L xs) 193 := k_I t193 gz_193
theorem kz_194 {L : Nat} {xs : Nat → Int32} : Lc (Gz L xs) 194 := k_L t194 gz_194
theorem lz_8 {L : Nat} {xs : Nat → Int32} : ∀ j, j < 8 → Lc (Gz L xs) j := fun j h => k_F (Or.inr (Or.inl h))
theorem lz_s {P : Nat → Prop} {n : Nat} (h : ∀ j, j < n → P j) (c : P n) : ∀ j, j < n + 1 → P j := fun j hj => by
  by_cases q : j = n
  · rw [q]; exact c
  · exact h j (by omega)
theorem lz_9 {L : Nat} {xs : Nat → Int32} : ∀ j, j < 9 → Lc (Gz L xs) j := lz_s lz_8 kz_8
theorem lz_10 {L : Nat} {xs : Nat → Int32} : ∀ j, j < 10 → Lc (Gz L xs) j := lz_s lz_9 kz_9
theorem lz_11 {L : Nat} {xs : Nat → Int32} : ∀ j, j < 11 → Lc (Gz L xs) j := lz_s lz_10 kz_10
theorem lz_12 {L : Nat} {xs : Nat → Int32} : ∀ j, j < 12 → Lc (Gz L xs) j := lz_s lz_11 kz_11
theorem lz_13 {L : Nat} {xs : Nat → Int32} : ∀ j, j < 13 → Lc (Gz L xs) j := lz_s lz_12 kz_12
theorem lz_14 {L : Nat} {xs : Nat → Int32} : ∀ j, j < 14 → Lc (Gz L xs) j := lz_s lz_13 kz_13
theorem lz_15 {L : Nat} {xs : Nat → Int32} : ∀ j, j < 15 → Lc (Gz L xs) j := lz_s lz_14 kz_14
theorem lz_16 {L : Nat} {xs : Nat → Int32} : ∀ j, j < 16 → Lc (Gz L xs) j := lz_s lz_15 kz_15
theorem lz_17 {L : Nat} {xs : Nat → Int32} : ∀ j, j < 17 → Lc (Gz L xs) j := lz_s lz_16 kz_16
theorem lz_18 {L : Nat} {xs : Nat → Int32} : ∀ j, j < 18 → Lc (Gz L xs) j := lz_s lz_17 kz_17
theorem lz_19 {L : Nat} {xs : Nat → Int32} : ∀ j, j < 19 → Lc (Gz L xs) j := lz_s lz_18 kz_18
theorem lz_20 {L : Nat} {xs : Nat → Int32} : ∀ j, j < 20 → Lc (Gz L xs) j := lz_s lz_19 kz_19
theorem lz_21 {L : Nat} {xs : Nat → Int32} : ∀ j, j < 21 → Lc (Gz L xs) j := lz_s lz_20 kz_20
theorem lz_22 {L : Nat} {xs : Nat → Int32} : ∀ j, j < 22 → Lc (Gz L xs) j := lz_s lz_21 kz_21
theorem lz_23 {L : Nat} {xs : Nat → Int32} : ∀ j, j < 23 → Lc (Gz L xs) j := lz_s lz_22 kz_22
theorem lz_24 {L : Nat} {xs : Nat → Int32} : ∀ j, j < 24 → Lc (Gz L xs) j := lz_s lz_23 kz_23
theorem lz_25 {L : Nat} {xs : Nat → Int32} : ∀ j, j < 25 → Lc (Gz L xs) j := lz_s lz_24 kz_24
theorem lz_26 {L : Nat} {xs : Nat → Int32} : ∀ j, j < 26 → Lc (Gz L xs) j := lz_s lz_25 kz_25
theorem lz_27 {L : Nat} {xs : Nat → Int32} : ∀ j, j < 27 → Lc (Gz L xs) j := lz_s lz_26 kz_26
theorem lz_28 {L : Nat} {xs : Nat → Int32} : ∀ j, j < 28 → Lc (Gz L xs) j := lz_s lz_27 kz_27
theorem lz_29 {L : Nat} {xs : Nat → Int32} : ∀ j, j < 29 → Lc (Gz L xs) j := lz_s lz_28 kz_28
theorem lz_30 {L : Nat} {xs : Nat → Int32} : ∀ j, j < 30 → Lc (Gz L xs) j := lz_s lz_29 kz_29
theorem lz_31 {L : Nat} {xs : Nat → Int32} : ∀ j, j < 31 → Lc (Gz L xs) j := lz_s lz_30 kz_30
theorem lz_32 {L : Nat} {xs : Nat → Int32} : ∀ j, j < 32 → Lc (Gz L xs) j := lz_s lz_31 kz_31
theorem lz_33 {L : Nat} {xs : Nat → Int32} : ∀ j, j < 33 → Lc (Gz L xs) j := lz_s lz_32 kz_32
theorem lz_34 {L : Nat} {xs : Nat → Int32} : ∀ j, j < 34 → Lc (Gz L xs) j := lz_s lz_33 kz_33
theorem lz_35 {L : Nat} {xs : Nat → Int32} : ∀ j, j < 35 → Lc (Gz L xs) j := lz_s lz_34 kz_34
theorem lz_36 {L : Nat} {xs : Nat → Int32} : ∀ j, j < 36 → Lc (Gz L xs) j := lz_s lz_35 kz_35
theorem lz_37 {L : Nat} {xs : Nat → Int32} : ∀ j, j < 37 → Lc (Gz L xs) j := lz_s lz_36 kz_36
theorem lz_38 {L : Nat} {xs : Nat → Int32} : ∀ j, j < 38 → Lc (Gz L xs) j := lz_s lz_37 kz_37
theorem lz_39 {L : Nat} {xs : Nat → Int32} : ∀ j, j < 39 → Lc (Gz L xs) j := lz_s lz_38 kz_38
theorem lz_40 {L : Nat} {xs : Nat → Int32} : ∀ j, j < 40 → Lc (Gz L xs) j := lz_s lz_39 kz_39
theorem lz_41 {L : Nat} {xs : Nat → Int32} : ∀ j, j < 41 → Lc (Gz L xs) j := lz_s lz_40 kz_40
theorem lz_42 {L : Nat} {xs : Nat → Int32} : ∀ j, j < 42 → Lc (Gz L xs) j := lz_s lz_41 kz_41
theorem lz_43 {L : Nat} {xs : Nat → Int32} : ∀ j, j < 43 → Lc (Gz L xs) j := lz_s lz_42 kz_42
theorem lz_44 {L : Nat} {xs : Nat → Int32} : ∀ j, j < 44 → Lc (Gz L xs) j := lz_s lz_43 kz_43
theorem lz_45 {L : Nat} {xs : Nat → Int32} : ∀ j, j < 45 → Lc (Gz L xs) j := lz_s lz_44 kz_44
theorem lz_46 {L : Nat} {xs : Nat → Int32} : ∀ j, j < 46 → Lc (Gz L xs) j := lz_s lz_45 kz_45
theorem lz_47 {L : Nat} {xs : Nat → Int32} : ∀ j, j < 47 → Lc (Gz L xs) j := lz_s lz_46 kz_46
theorem lz_48 {L : Nat} {xs : Nat → Int32} : ∀ j, j < 48 → Lc (Gz L xs) j := lz_s lz_47 kz_47
theorem lz_49 {L : Nat} {xs : Nat → Int32} : ∀ j, j < 49 → Lc (Gz L xs) j := lz_s lz_48 kz_48
theorem lz_50 {L : Nat} {xs : Nat → Int32} : ∀ j, j < 50 → Lc (Gz L xs) j := lz_s lz_49 kz_49
theorem lz_51 {L : Nat} {xs : Nat → Int32} : ∀ j, j < 51 → Lc (Gz L xs) j := lz_s lz_50 kz_50
theorem lz_52 {L : Nat} {xs : Nat → Int32} : ∀ j, j < 52 → Lc (Gz L xs) j := lz_s lz_51 kz_51
theorem lz_53 {L : Nat} {xs : Nat → Int32} : ∀ j, j < 53 → Lc (Gz L xs) j := lz_s lz_52 kz_52
theorem lz_54 {L : Nat} {xs : Nat → Int32} : ∀ j, j < 54 → Lc (Gz L xs) j := lz_s lz_53 kz_53
theorem lz_55 {L : Nat} {xs : Nat → Int32} : ∀ j, j < 55 → Lc (Gz L xs) j := lz_s lz_54 kz_54
theorem lz_56 {L : Nat} {xs : Nat → Int32} : ∀ j, j < 56 → Lc (Gz L xs) j := lz_s lz_55 kz_55
theorem lz_57 {L : Nat} {xs : Nat → Int32} : ∀ j, j < 57 → Lc (Gz L xs) j := lz_s lz_56 kz_56
theorem lz_58 {L : Nat} {xs : Nat → Int32} : ∀ j, j < 58 → Lc (Gz L xs) j := lz_s lz_57 kz_57
theorem lz_59 {L : Nat} {xs : Nat → Int32} : ∀ j, j < 59 → Lc (Gz L xs) j := lz_s lz_58 kz_58
theorem lz_60 {L : Nat} {xs : Nat → Int32} : ∀ j, j < 60 → Lc (Gz L xs) j := lz_s lz_59 kz_59
theorem lz_61 {L : Nat} {xs : Nat → Int32} : ∀ j, j < 61 → Lc (Gz L xs) j := lz_s lz_60 kz_60
theorem lz_62 {L : Nat} {xs : Nat → Int32} : ∀ j, j < 62 → Lc (Gz L xs) j := lz_s lz_61 kz_61
theorem lz_63 {L : Nat} {xs : Nat → Int32} : ∀ j, j < 63 → Lc (Gz L xs) j := lz_s lz_62 kz_62
theorem lz_64 {L : Nat} {xs : Nat → Int32} : ∀ j, j < 64 → Lc (Gz L xs) j := lz_s lz_63 kz_63
theorem lz_65 {L : Nat} {xs : Nat → Int32} : ∀ j, j < 65 → Lc (Gz L xs) j := lz_s lz_64 kz_64
theorem lz_66 {L : Nat} {xs : Nat → Int32} : ∀ j, j < 66 → Lc (Gz L xs) j := lz_s lz_65 kz_65
theorem lz_67 {L : Nat} {xs : Nat → Int32} : ∀ j, j < 67 → Lc (Gz L xs) j := lz_s lz_66 kz_66
theorem lz_68 {L : Nat} {xs : Nat → Int32} : ∀ j, j < 68 → Lc (Gz L xs) j := lz_s lz_67 kz_67
theorem lz_69 {L : Nat} {xs : Nat → Int32} : ∀ j, j < 69 → Lc (Gz L xs) j := lz_s lz_68 kz_68
theorem lz_70 {L : Nat} {xs : Nat → Int32} : ∀ j, j < 70 → Lc (Gz L xs) j := lz_s lz_69 kz_69
theorem lz_71 {L : Nat} {xs : Nat → Int32} : ∀ j, j < 71 → Lc (Gz L xs) j := lz_s lz_70 kz_70
theorem lz_72 {L : Nat} {xs : Nat → Int32} : ∀ j, j < 72 → Lc (Gz L xs) j := lz_s lz_71 kz_71
theorem lz_73 {L : Nat} {xs : Nat → Int32} : ∀ j, j < 73 → Lc (Gz L xs) j := lz_s lz_72 kz_72
theorem lz_74 {L : Nat} {xs : Nat → Int32} : ∀ j, j < 74 → Lc (Gz L xs) j := lz_s lz_73 kz_73
theorem lz_75 {L : Nat} {xs : Nat → Int32} : ∀ j, j < 75 → Lc (Gz L xs) j := lz_s lz_74 kz_74
theorem lz_76 {L : Nat} {xs : Nat → Int32} : ∀ j, j < 76 → Lc (Gz L xs) j := lz_s lz_75 kz_75
theorem lz_77 {L : Nat} {xs : Nat → Int32} : ∀ j, j < 77 → Lc (Gz L xs) j := lz_s lz_76 kz_76
theorem lz_78 {L : Nat} {xs : Nat → Int32} : ∀ j, j < 78 → Lc (Gz L xs) j := lz_s lz_77 kz_77
theorem lz_79 {L : Nat} {xs : Nat → Int32} : ∀ j, j < 79 → Lc (Gz L xs) j := lz_s lz_78 kz_78
theorem lz_80 {L : Nat} {xs : Nat → Int32} : ∀ j, j < 80 → Lc (Gz L xs) j := lz_s lz_79 kz_79
theorem lz_81 {L : Nat} {xs : Nat → Int32} : ∀ j, j < 81 → Lc (Gz L xs) j := lz_s lz_80 kz_80
theorem lz_82 {L : Nat} {xs : Nat → Int32} : ∀ j, j < 82 → Lc (Gz L xs) j := lz_s lz_81 kz_81
theorem lz_83 {L : Nat} {xs : Nat → Int32} : ∀ j, j < 83 → Lc (Gz L xs) j := lz_s lz_82 kz_82
theorem lz_84 {L : Nat} {xs : Nat → Int32} : ∀ j, j < 84 → Lc (Gz L xs) j := lz_s lz_83 kz_83
theorem lz_85 {L : Nat} {xs : Nat → Int32} : ∀ j, j < 85 → Lc (Gz L xs) j := lz_s lz_84 kz_84
theorem lz_86 {L : Nat} {xs : Nat → Int32} : ∀ j, j < 86 → Lc (Gz L xs) j := lz_s lz_85 kz_85
theorem lz_87 {L : Nat} {xs : Nat → Int32} : ∀ j, j < 87 → Lc (Gz L xs) j := lz_s lz_86 kz_86
theorem lz_88 {L : Nat} {xs : Nat → Int32} : ∀ j, j < 88 → Lc (Gz L xs) j := lz_s lz_87 kz_87
theorem lz_89 {L : Nat} {xs : Nat → Int32} : ∀ j, j < 89 → Lc (Gz L xs) j := lz_s lz_88 kz_88
theorem lz_90 {L : Nat} {xs : Nat → Int32} : ∀ j, j < 90 → Lc (Gz L xs) j := lz_s lz_89 kz_89
theorem lz_91 {L : Nat} {xs : Nat → Int32} : ∀ j, j < 91 → Lc (Gz L xs) j := lz_s lz_90 kz_90
theorem lz_92 {L : Nat} {xs : Nat → Int32} : ∀ j, j < 92 → Lc (Gz L xs) j := lz_s lz_91 kz_91
theorem lz_93 {L : Nat} {xs : Nat → Int32} : ∀ j, j < 93 → Lc (Gz L xs) j := lz_s lz_92 kz_92
theorem lz_94 {L : Nat} {xs : Nat → Int32} : ∀ j, j < 94 → Lc (Gz L xs) j := lz_s lz_93 kz_93
theorem lz_95 {L : Nat} {xs : Nat → Int32} : ∀ j, j < 95 → Lc (Gz L xs) j := lz_s lz_94 kz_94
theorem lz_96 {L : Nat} {xs : Nat → Int32} : ∀ j, j < 96 → Lc (Gz L xs) j := lz_s lz_95 kz_95
theorem lz_97 {L : Nat} {xs : Nat → Int32} : ∀ j, j < 97 → Lc (Gz L xs) j := lz_s lz_96 kz_96
theorem lz_98 {L : Nat} {xs : Nat → Int32} : ∀ j, j < 98 → Lc (Gz L xs) j := lz_s lz_97 kz_97
theorem lz_99 {L : Nat} {xs : Nat → Int32} : ∀ j, j < 99 → Lc (Gz L xs) j := lz_s lz_98 kz_98
theorem lz_100 {L : Nat} {xs : Nat → Int32} : ∀ j, j < 100 → Lc (Gz L xs) j := lz_s lz_99 kz_99
theorem lz_101 {L : Nat} {xs : Nat → Int32} : ∀ j, j < 101 → Lc (Gz L xs) j := lz_s lz_100 kz_100
theorem lz_102 {L : Nat} {xs : Nat → Int32} : ∀ j, j < 102 → Lc (Gz L xs) j := lz_s lz_101 kz_101
theorem lz_103 {L : Nat} {xs : Nat → Int32} : ∀ j, j < 103 → Lc (Gz L xs) j := lz_s lz_102 kz_102
theorem lz_104 {L : Nat} {xs : Nat → Int32} : ∀ j, j < 104 → Lc (Gz L xs) j := lz_s lz_103 kz_103
theorem lz_105 {L : Nat} {xs : Nat → Int32} : ∀ j, j < 105 → Lc (Gz L xs) j := lz_s lz_104 kz_104
theorem lz_106 {L : Nat} {xs : Nat → Int32} : ∀ j, j < 106 → Lc (Gz L xs) j := lz_s lz_105 kz_105
theorem lz_107 {L : Nat} {xs : Nat → Int32} : ∀ j, j < 107 → Lc (Gz L xs) j := lz_s lz_106 kz_106
theorem lz_108 {L : Nat} {xs : Nat → Int32} : ∀ j, j < 108 → Lc (Gz L xs) j := lz_s lz_107 kz_107
theorem lz_109 {L : Nat} {xs : Nat → Int32} : ∀ j, j < 109 → Lc (Gz L xs) j := lz_s lz_108 kz_108
theorem lz_110 {L : Nat} {xs : Nat → Int32} : ∀ j, j < 110 → Lc (Gz L xs) j := lz_s lz_109 kz_109
theorem lz_111 {L : Nat} {xs : Nat → Int32} : ∀ j, j < 111 → Lc (Gz L xs) j := lz_s lz_110 kz_110
theorem lz_112 {L : Nat} {xs : Nat → Int32} : ∀ j, j < 112 → Lc (Gz L xs) j := lz_s lz_111 kz_111
theorem lz_113 {L : Nat} {xs : Nat → Int32} : ∀ j, j < 113 → Lc (Gz L xs) j := lz_s lz_112 kz_112
theorem lz_114 {L : Nat} {xs : Nat → Int32} : ∀ j, j < 114 → Lc (Gz L xs) j := lz_s lz_113 kz_113
theorem lz_115 {L : Nat} {xs : Nat → Int32} : ∀ j, j < 115 → Lc (Gz L xs) j := lz_s lz_114 kz_114
theorem lz_116 {L : Nat} {xs : Nat → Int32} : ∀ j, j < 116 → Lc (Gz L xs) j := lz_s lz_115 kz_115
theorem lz_117 {L : Nat} {xs : Nat → Int32} : ∀ j, j < 117 → Lc (Gz L xs) j := lz_s lz_116 kz_116
theorem lz_118 {L : Nat} {xs : Nat → Int32} : ∀ j, j < 118 → Lc (Gz L xs) j := lz_s lz_117 kz_117
theorem lz_119 {L : Nat} {xs : Nat → Int32} : ∀ j, j < 119 → Lc (Gz L xs) j := lz_s lz_118 kz_118
theorem lz_120 {L : Nat} {xs : Nat → Int32} : ∀ j, j < 120 → Lc (Gz L xs) j := lz_s lz_119 kz_119
theorem lz_121 {L : Nat} {xs : Nat → Int32} : ∀ j, j < 121 → Lc (Gz L xs) j := lz_s lz_120 kz_120
theorem lz_122 {L : Nat} {xs : Nat → Int32} : ∀ j, j < 122 → Lc (Gz L xs) j := lz_s lz_121 kz_121
theorem lz_123 {L : Nat} {xs : Nat → Int32} : ∀ j, j < 123 → Lc (Gz L xs) j := lz_s lz_122 kz_122
theorem lz_124 {L : Nat} {xs : Nat → Int32} : ∀ j, j < 124 → Lc (Gz L xs) j := lz_s lz_123 kz_123
theorem lz_125 {L : Nat} {xs : Nat → Int32} : ∀ j, j < 125 → Lc (Gz L xs) j := lz_s lz_124 kz_124
theorem lz_126 {L : Nat} {xs : Nat → Int32} : ∀ j, j < 126 → Lc (Gz L xs) j := lz_s lz_125 kz_125
theorem lz_127 {L : Nat} {xs : Nat → Int32} : ∀ j, j < 127 → Lc (Gz L xs) j := lz_s lz_126 kz_126
theorem lz_128 {L : Nat} {xs : Nat → Int32} : ∀ j, j < 128 → Lc (Gz L xs) j := lz_s lz_127 kz_127
theorem lz_129 {L : Nat} {xs : Nat → Int32} : ∀ j, j < 129 → Lc (Gz L xs) j := lz_s lz_128 kz_128
theorem lz_130 {L : Nat} {xs : Nat → Int32} : ∀ j, j < 130 → Lc (Gz L xs) j := lz_s lz_129 kz_129
theorem lz_131 {L : Nat} {xs : Nat → Int32} : ∀ j, j < 131 → Lc (Gz L xs) j := lz_s lz_130 kz_130
theorem lz_132 {L : Nat} {xs : Nat → Int32} : ∀ j, j < 132 → Lc (Gz L xs) j := lz_s lz_131 kz_131
theorem lz_133 {L : Nat} {xs : Nat → Int32} : ∀ j, j < 133 → Lc (Gz L xs) j := lz_s lz_132 kz_132
theorem lz_134 {L : Nat} {xs : Nat → Int32} : ∀ j, j < 134 → Lc (Gz L xs) j := lz_s lz_133 kz_133
theorem lz_135 {L : Nat} {xs : Nat → Int32} : ∀ j, j < 135 → Lc (Gz L xs) j := lz_s lz_134 kz_134
theorem lz_136 {L : Nat} {xs : Nat → Int32} : ∀ j, j < 136 → Lc (Gz L xs) j := lz_s lz_135 kz_135
theorem lz_137 {L : Nat} {xs : Nat → Int32} : ∀ j, j < 137 → Lc (Gz L xs) j := lz_s lz_136 kz_136
theorem lz_138 {L : Nat} {xs : Nat → Int32} : ∀ j, j < 138 → Lc (Gz L xs) j := lz_s lz_137 kz_137
theorem lz_139 {L : Nat} {xs : Nat → Int32} : ∀ j, j < 139 → Lc (Gz L xs) j := lz_s lz_138 kz_138
theorem lz_140 {L : Nat} {xs : Nat → Int32} : ∀ j, j < 140 → Lc (Gz L xs) j := lz_s lz_139 kz_139
theorem lz_141 {L : Nat} {xs : Nat → Int32} : ∀ j, j < 141 → Lc (Gz L xs) j := lz_s lz_140 kz_140
theorem lz_142 {L : Nat} {xs : Nat → Int32} : ∀ j, j < 142 → Lc (Gz L xs) j := lz_s lz_141 kz_141
theorem lz_143 {L : Nat} {xs : Nat → Int32} : ∀ j, j < 143 → Lc (Gz L xs) j := lz_s lz_142 kz_142
theorem lz_144 {L : Nat} {xs : Nat → Int32} : ∀ j, j < 144 → Lc (Gz L xs) j := lz_s lz_143 kz_143
theorem lz_145 {L : Nat} {xs : Nat → Int32} : ∀ j, j < 145 → Lc (Gz L xs) j := lz_s lz_144 kz_144
theorem lz_146 {L : Nat} {xs : Nat → Int32} : ∀ j, j < 146 → Lc (Gz L xs) j := lz_s lz_145 kz_145
theorem lz_147 {L : Nat} {xs : Nat → Int32} : ∀ j, j < 147 → Lc (Gz L xs) j := lz_s lz_146 kz_146
theorem lz_148 {L : Nat} {xs : Nat → Int32} : ∀ j, j < 148 → Lc (Gz L xs) j := lz_s lz_147 kz_147
theorem lz_149 {L : Nat} {xs : Nat → Int32} : ∀ j, j < 149 → Lc (Gz L xs) j := lz_s lz_148 kz_148
theorem lz_150 {L : Nat} {xs : Nat → Int32} : ∀ j, j < 150 → Lc (Gz L xs) j := lz_s lz_149 kz_149
theorem lz_151 {L : Nat} {xs : Nat → Int32} : ∀ j, j < 151 → Lc (Gz L xs) j := lz_s lz_150 kz_150
theorem lz_152 {L : Nat} {xs : Nat → Int32} : ∀ j, j < 152 → Lc (Gz L xs) j := lz_s lz_151 kz_151
theorem lz_153 {L : Nat} {xs : Nat → Int32} : ∀ j, j < 153 → Lc (Gz L xs) j := lz_s lz_152 kz_152
theorem lz_154 {L : Nat} {xs : Nat → Int32} : ∀ j, j < 154 → Lc (Gz L xs) j := lz_s lz_153 kz_153
theorem lz_155 {L : Nat} {xs : Nat → Int32} : ∀ j, j < 155 → Lc (Gz L xs) j := lz_s lz_154 kz_154
theorem lz_156 {L : Nat} {xs : Nat → Int32} : ∀ j, j < 156 → Lc (Gz L xs) j := lz_s lz_155 kz_155
theorem lz_157 {L : Nat} {xs : Nat → Int32} : ∀ j, j < 157 → Lc (Gz L xs) j := lz_s lz_156 kz_156
theorem lz_158 {L : Nat} {xs : Nat → Int32} : ∀ j, j < 158 → Lc (Gz L xs) j := lz_s lz_157 kz_157
theorem lz_159 {L : Nat} {xs : Nat → Int32} : ∀ j, j < 159 → Lc (Gz L xs) j := lz_s lz_158 kz_158
theorem lz_160 {L : Nat} {xs : Nat → Int32} : ∀ j, j < 160 → Lc (Gz L xs) j := lz_s lz_159 kz_159
theorem lz_161 {L : Nat} {xs : Nat → Int32} : ∀ j, j < 161 → Lc (Gz L xs) j := lz_s lz_160 kz_160
theorem lz_162 {L : Nat} {xs : Nat → Int32} : ∀ j, j < 162 → Lc (Gz L xs) j := lz_s lz_161 kz_161
theorem lz_163 {L : Nat} {xs : Nat → Int32} : ∀ j, j < 163 → Lc (Gz L xs) j := lz_s lz_162 kz_162
theorem lz_164 {L : Nat} {xs : Nat → Int32} : ∀ j, j < 164 → Lc (Gz L xs) j := lz_s lz_163 kz_163
theorem lz_165 {L : Nat} {xs : Nat → Int32} : ∀ j, j < 165 → Lc (Gz L xs) j := lz_s lz_164 kz_164
theorem lz_166 {L : Nat} {xs : Nat → Int32} : ∀ j, j < 166 → Lc (Gz L xs) j := lz_s lz_165 kz_165
theorem lz_167 {L : Nat} {xs : Nat → Int32} : ∀ j, j < 167 → Lc (Gz L xs) j := lz_s lz_166 kz_166
theorem lz_168 {L : Nat} {xs : Nat → Int32} : ∀ j, j < 168 → Lc (Gz L xs) j := lz_s lz_167 kz_167
theorem lz_169 {L : Nat} {xs : Nat → Int32} : ∀ j, j < 169 → Lc (Gz L xs) j := lz_s lz_168 kz_168
theorem lz_170 {L : Nat} {xs : Nat → Int32} : ∀ j, j < 170 → Lc (Gz L xs) j := lz_s lz_169 kz_169
theorem lz_171 {L : Nat} {xs : Nat → Int32} : ∀ j, j < 171 → Lc (Gz L xs) j := lz_s lz_170 kz_170
theorem lz_172 {L : Nat} {xs : Nat → Int32} : ∀ j, j < 172 → Lc (Gz L xs) j := lz_s lz_171 kz_171
theorem lz_173 {L : Nat} {xs : Nat → Int32} : ∀ j, j < 173 → Lc (Gz L xs) j := lz_s lz_172 kz_172
theorem lz_174 {L : Nat} {xs : Nat → Int32} : ∀ j, j < 174 → Lc (Gz L xs) j := lz_s lz_173 kz_173
theorem lz_175 {L : Nat} {xs : Nat → Int32} : ∀ j, j < 175 → Lc (Gz L xs) j := lz_s lz_174 kz_174
theorem lz_176 {L : Nat} {xs : Nat → Int32} : ∀ j, j < 176 → Lc (Gz L xs) j := lz_s lz_175 kz_175
theorem lz_177 {L : Nat} {xs : Nat → Int32} : ∀ j, j < 177 → Lc (Gz L xs) j := lz_s lz_176 kz_176
theorem lz_178 {L : Nat} {xs : Nat → Int32} : ∀ j, j < 178 → Lc (Gz L xs) j := lz_s lz_177 kz_177
theorem lz_179 {L : Nat} {xs : Nat → Int32} : ∀ j, j < 179 → Lc (Gz L xs) j := lz_s lz_178 kz_178
theorem lz_180 {L : Nat} {xs : Nat → Int32} : ∀ j, j < 180 → Lc (Gz L xs) j := lz_s lz_179 kz_179
theorem lz_181 {L : Nat} {xs : Nat → Int32} : ∀ j, j < 181 → Lc (Gz L xs) j := lz_s lz_180 kz_180
theorem lz_182 {L : Nat} {xs : Nat → Int32} : ∀ j, j < 182 → Lc (Gz L xs) j := lz_s lz_181 kz_181
theorem lz_183 {L : Nat} {xs : Nat → Int32} : ∀ j, j < 183 → Lc (Gz L xs) j := lz_s lz_182 kz_182
theorem lz_184 {L : Nat} {xs : Nat → Int32} : ∀ j, j < 184 → Lc (Gz L xs) j := lz_s lz_183 kz_183
theorem lz_185 {L : Nat} {xs : Nat → Int32} : ∀ j, j < 185 → Lc (Gz L xs) j := lz_s lz_184 kz_184
theorem lz_186 {L : Nat} {xs : Nat → Int32} : ∀ j, j < 186 → Lc (Gz L xs) j := lz_s lz_185 kz_185
theorem lz_187 {L : Nat} {xs : Nat → Int32} : ∀ j, j < 187 → Lc (Gz L xs) j := lz_s lz_186 kz_186
theorem lz_188 {L : Nat} {xs : Nat → Int32} : ∀ j, j < 188 → Lc (Gz L xs) j := lz_s lz_187 kz_187
theorem lz_189 {L : Nat} {xs : Nat → Int32} : ∀ j, j < 189 → Lc (Gz L xs) j := lz_s lz_188 kz_188
theorem lz_190 {L : Nat} {xs : Nat → Int32} : ∀ j, j < 190 → Lc (Gz L xs) j := lz_s lz_189 kz_189
theorem lz_191 {L : Nat} {xs : Nat → Int32} : ∀ j, j < 191 → Lc (Gz L xs) j := lz_s lz_190 kz_190
theorem lz_192 {L : Nat} {xs : Nat → Int32} : ∀ j, j < 192 → Lc (Gz L xs) j := lz_s lz_191 kz_191
theorem lz_193 {L : Nat} {xs : Nat → Int32} : ∀ j, j < 193 → Lc (Gz L xs) j := lz_s lz_192 kz_192
theorem lz_194 {L : Nat} {xs : Nat → Int32} : ∀ j, j < 194 → Lc (Gz L xs) j := lz_s lz_193 kz_193
theorem lz_195 {L : Nat} {xs : Nat → Int32} : ∀ j, j < 195 → Lc (Gz L xs) j := lz_s lz_194 kz_194
theorem gz_e {L : Nat} {xs : Nat → Int32} : e_g (sG (Gz L xs)) (Gz L xs) = Gz L xs := by
  refine Prod.ext rfl (Prod.ext rfl ?_)
  funext j
  by_cases h : j < 195
  · exact lz_195 j h
  · exact k_F (Or.inl (by omega))
