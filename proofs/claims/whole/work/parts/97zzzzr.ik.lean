-- needs: 97zzzzq
/-! ===== the two outer constructors (written by tools/ctr2.py) ===== -/
theorem o_wIl {g : ps_G} {ci W W0 n : Nat} {fs : List Value} {as : List ps_E} {f : Nat → Int32} {x v : Int32} {X : Nat} (hx : x.toNatClampNeg = X) (h0 : ¬ x < 0) (hX : X < n) (h8 : 8 ≤ g.1) : q_wI (oS g ci fs (as ++ [.inl (0, (n, .inl f))]) W) (oS g ci fs as W0).1 x v = some (oS g ci fs (as ++ [.inl (0, (n, .inl (upd f X v)))]) W) := by
  have e : (as ++ [(.inl (0, (n, .inl f)) : ps_E)])[as.length]? = some (.inl (0, (n, .inl f))) := List.getElem?_concat_length
  rw [o_wI1 e hx h0 hX h8 rfl, List.set_append_right _ _ (Nat.le_refl _), Nat.sub_self]
  rfl
def F11_0 (b : Nat) : List Value := ps_df 11
theorem f11l_0 {b : Nat} : (F11_0 b).length = 18 := rfl
def A11_0 (b : Nat) : List ps_E := []
theorem a11l_0 {b : Nat} : (A11_0 b).length = 0 := rfl
def V11_0 : Nat := ps_cN 11
def A11_1 (b : Nat) : List ps_E := A11_0 b ++ (.inr (9, fs9 (b + 1 + 0)) :: as9 (b + 1 + 0))
theorem a11l_1 {b : Nat} : (A11_1 b).length = 3 := (List.length_append).trans (by rw [a11l_0]; rfl)
def V11_1 : Nat := V11_0 + W9
theorem t11_1 {g : ps_G} (h8 : 8 ≤ g.1) : fX9_init (q_new 9 (oS g 11 (F11_0 g.1) (A11_0 g.1) V11_0)) (oS g 11 (F11_0 g.1) (A11_0 g.1) V11_0).1 (8 : Int32) (8 : Int32) = some (oS g 11 (F11_0 g.1) (A11_1 g.1) V11_1) := by
  have e : (oS g 11 (F11_0 g.1) (A11_0 g.1) V11_0).1 = g.1 + 1 + 0 := by rw [oS_1, a11l_0]
  rw [in_9 (o_8 h8), o_fl, e]
  rfl
def F11_1 (b : Nat) : List Value := (F11_0 b).set 0 (.ref (b + 1 + 0))
theorem f11l_1 {b : Nat} : (F11_1 b).length = 18 := (List.length_set).trans f11l_0
theorem t11_2 {g : ps_G} (h8 : 8 ≤ g.1) : q_sR 11 0 (oS g 11 (F11_0 g.1) (A11_1 g.1) V11_1) g.1 (some (oS g 11 (F11_0 g.1) (A11_0 g.1) V11_0).1) = some (oS g 11 (F11_1 g.1) (A11_1 g.1) V11_1) := by
  have e : (oS g 11 (F11_0 g.1) (A11_0 g.1) V11_0).1 = g.1 + 1 + 0 := by rw [oS_1, a11l_0]
  rw [e]
  exact o_sR (by rw [f11l_0]; decide)
def A11_2 (b : Nat) : List ps_E := A11_1 b ++ [.inl (4, (24, .inr (.inr (.inr (.inr fun _ => none)))))]
theorem a11l_2 {b : Nat} : (A11_2 b).length = 4 := (List.length_append).trans (by rw [a11l_1]; rfl)
def V11_2 : Nat := V11_1 + 24
theorem t11_3 {g : ps_G} (h8 : 8 ≤ g.1) : q_nR 4 (oS g 11 (F11_1 g.1) (A11_1 g.1) V11_1) (24 : Int32) = some (oS g 11 (F11_1 g.1) (A11_2 g.1) V11_2) := by
  exact o_nR (N := 24) (by decide) (by decide)
def F11_2 (b : Nat) : List Value := (F11_1 b).set 1 (.ref (b + 1 + 3))
theorem f11l_2 {b : Nat} : (F11_2 b).length = 18 := (List.length_set).trans f11l_1
theorem t11_4 {g : ps_G} (h8 : 8 ≤ g.1) : q_sR 11 1 (oS g 11 (F11_1 g.1) (A11_2 g.1) V11_2) g.1 (some (oS g 11 (F11_1 g.1) (A11_1 g.1) V11_1).1) = some (oS g 11 (F11_2 g.1) (A11_2 g.1) V11_2) := by
  have e : (oS g 11 (F11_1 g.1) (A11_1 g.1) V11_1).1 = g.1 + 1 + 3 := by rw [oS_1, a11l_1]
  rw [e]
  exact o_sR (by rw [f11l_1]; decide)
def A11_3 (b : Nat) : List ps_E := A11_2 b ++ [.inl (4, (24, .inr (.inr (.inr (.inr fun _ => none)))))]
theorem a11l_3 {b : Nat} : (A11_3 b).length = 5 := (List.length_append).trans (by rw [a11l_2]; rfl)
def V11_3 : Nat := V11_2 + 24
theorem t11_5 {g : ps_G} (h8 : 8 ≤ g.1) : q_nR 4 (oS g 11 (F11_2 g.1) (A11_2 g.1) V11_2) (24 : Int32) = some (oS g 11 (F11_2 g.1) (A11_3 g.1) V11_3) := by
  exact o_nR (N := 24) (by decide) (by decide)
def F11_3 (b : Nat) : List Value := (F11_2 b).set 3 (.ref (b + 1 + 4))
theorem f11l_3 {b : Nat} : (F11_3 b).length = 18 := (List.length_set).trans f11l_2
theorem t11_6 {g : ps_G} (h8 : 8 ≤ g.1) : q_sR 11 3 (oS g 11 (F11_2 g.1) (A11_3 g.1) V11_3) g.1 (some (oS g 11 (F11_2 g.1) (A11_2 g.1) V11_2).1) = some (oS g 11 (F11_3 g.1) (A11_3 g.1) V11_3) := by
  have e : (oS g 11 (F11_2 g.1) (A11_2 g.1) V11_2).1 = g.1 + 1 + 4 := by rw [oS_1, a11l_2]
  rw [e]
  exact o_sR (by rw [f11l_2]; decide)
def A11_4 (b : Nat) : List ps_E := A11_3 b ++ (.inr (5, fs5 (b + 1 + 5)) :: as5 (b + 1 + 5))
theorem a11l_4 {b : Nat} : (A11_4 b).length = 11 := (List.length_append).trans (by rw [a11l_3]; rfl)
def V11_4 : Nat := V11_3 + W5
theorem t11_7 {g : ps_G} (h8 : 8 ≤ g.1) : fX5_init (q_new 5 (oS g 11 (F11_3 g.1) (A11_3 g.1) V11_3)) (oS g 11 (F11_3 g.1) (A11_3 g.1) V11_3).1 = some (oS g 11 (F11_3 g.1) (A11_4 g.1) V11_4) := by
  have e : (oS g 11 (F11_3 g.1) (A11_3 g.1) V11_3).1 = g.1 + 1 + 5 := by rw [oS_1, a11l_3]
  rw [in_5 (o_8 h8), o_fl, e]
  rfl
def F11_4 (b : Nat) : List Value := (F11_3 b).set 5 (.ref (b + 1 + 5))
theorem f11l_4 {b : Nat} : (F11_4 b).length = 18 := (List.length_set).trans f11l_3
theorem t11_8 {g : ps_G} (h8 : 8 ≤ g.1) : q_sR 11 5 (oS g 11 (F11_3 g.1) (A11_4 g.1) V11_4) g.1 (some (oS g 11 (F11_3 g.1) (A11_3 g.1) V11_3).1) = some (oS g 11 (F11_4 g.1) (A11_4 g.1) V11_4) := by
  have e : (oS g 11 (F11_3 g.1) (A11_3 g.1) V11_3).1 = g.1 + 1 + 5 := by rw [oS_1, a11l_3]
  rw [e]
  exact o_sR (by rw [f11l_3]; decide)
theorem t11_9 {g : ps_G} (h8 : 8 ≤ g.1) : q_fR 11 5 (q_new 10 (oS g 11 (F11_4 g.1) (A11_4 g.1) V11_4)) g.1 = some (some (g.1 + 1 + 5)) := by
  exact o_fRn rfl
def A11_5 (b : Nat) : List ps_E := A11_4 b ++ (.inr (10, fs10 (b + 1 + 11) (b + 1 + 5)) :: as10 (b + 1 + 11))
theorem a11l_5 {b : Nat} : (A11_5 b).length = 80 := (List.length_append).trans (by rw [a11l_4]; rfl)
def V11_5 : Nat := V11_4 + W10
theorem t11_10 {g : ps_G} (h8 : 8 ≤ g.1) : fX10_init (q_new 10 (oS g 11 (F11_4 g.1) (A11_4 g.1) V11_4)) (oS g 11 (F11_4 g.1) (A11_4 g.1) V11_4).1 (g.1 + 1 + 5) = some (oS g 11 (F11_4 g.1) (A11_5 g.1) V11_5) := by
  have e : (oS g 11 (F11_4 g.1) (A11_4 g.1) V11_4).1 = g.1 + 1 + 11 := by rw [oS_1, a11l_4]
  rw [in_10 (o_8 h8), o_fl, e]
  rfl
def F11_5 (b : Nat) : List Value := (F11_4 b).set 6 (.ref (b + 1 + 11))
theorem f11l_5 {b : Nat} : (F11_5 b).length = 18 := (List.length_set).trans f11l_4
theorem t11_11 {g : ps_G} (h8 : 8 ≤ g.1) : q_sR 11 6 (oS g 11 (F11_4 g.1) (A11_5 g.1) V11_5) g.1 (some (oS g 11 (F11_4 g.1) (A11_4 g.1) V11_4).1) = some (oS g 11 (F11_5 g.1) (A11_5 g.1) V11_5) := by
  have e : (oS g 11 (F11_4 g.1) (A11_4 g.1) V11_4).1 = g.1 + 1 + 11 := by rw [oS_1, a11l_4]
  rw [e]
  exact o_sR (by rw [f11l_4]; decide)
def A11_6 (b : Nat) : List ps_E := A11_5 b ++ (.inr (0, fs0 (b + 1 + 80)) :: as0 (b + 1 + 80))
theorem a11l_6 {b : Nat} : (A11_6 b).length = 84 := (List.length_append).trans (by rw [a11l_5]; rfl)
def V11_6 : Nat := V11_5 + W0
theorem t11_12 {g : ps_G} (h8 : 8 ≤ g.1) : fX0_init (q_new 0 (oS g 11 (F11_5 g.1) (A11_5 g.1) V11_5)) (oS g 11 (F11_5 g.1) (A11_5 g.1) V11_5).1 = some (oS g 11 (F11_5 g.1) (A11_6 g.1) V11_6) := by
  have e : (oS g 11 (F11_5 g.1) (A11_5 g.1) V11_5).1 = g.1 + 1 + 80 := by rw [oS_1, a11l_5]
  rw [in_0 (o_8 h8), o_fl, e]
  rfl
def F11_6 (b : Nat) : List Value := (F11_5 b).set 7 (.ref (b + 1 + 80))
theorem f11l_6 {b : Nat} : (F11_6 b).length = 18 := (List.length_set).trans f11l_5
theorem t11_13 {g : ps_G} (h8 : 8 ≤ g.1) : q_sR 11 7 (oS g 11 (F11_5 g.1) (A11_6 g.1) V11_6) g.1 (some (oS g 11 (F11_5 g.1) (A11_5 g.1) V11_5).1) = some (oS g 11 (F11_6 g.1) (A11_6 g.1) V11_6) := by
  have e : (oS g 11 (F11_5 g.1) (A11_5 g.1) V11_5).1 = g.1 + 1 + 80 := by rw [oS_1, a11l_5]
  rw [e]
  exact o_sR (by rw [f11l_5]; decide)
def A11_7 (b : Nat) : List ps_E := A11_6 b ++ (.inr (1, fs1 (b + 1 + 84)) :: as1 (b + 1 + 84))
theorem a11l_7 {b : Nat} : (A11_7 b).length = 89 := (List.length_append).trans (by rw [a11l_6]; rfl)
def V11_7 : Nat := V11_6 + W1
theorem t11_14 {g : ps_G} (h8 : 8 ≤ g.1) : fX1_init (q_new 1 (oS g 11 (F11_6 g.1) (A11_6 g.1) V11_6)) (oS g 11 (F11_6 g.1) (A11_6 g.1) V11_6).1 = some (oS g 11 (F11_6 g.1) (A11_7 g.1) V11_7) := by
  have e : (oS g 11 (F11_6 g.1) (A11_6 g.1) V11_6).1 = g.1 + 1 + 84 := by rw [oS_1, a11l_6]
  rw [in_1 (o_8 h8), o_fl, e]
  rfl
def F11_7 (b : Nat) : List Value := (F11_6 b).set 8 (.ref (b + 1 + 84))
theorem f11l_7 {b : Nat} : (F11_7 b).length = 18 := (List.length_set).trans f11l_6
theorem t11_15 {g : ps_G} (h8 : 8 ≤ g.1) : q_sR 11 8 (oS g 11 (F11_6 g.1) (A11_7 g.1) V11_7) g.1 (some (oS g 11 (F11_6 g.1) (A11_6 g.1) V11_6).1) = some (oS g 11 (F11_7 g.1) (A11_7 g.1) V11_7) := by
  have e : (oS g 11 (F11_6 g.1) (A11_6 g.1) V11_6).1 = g.1 + 1 + 84 := by rw [oS_1, a11l_6]
  rw [e]
  exact o_sR (by rw [f11l_6]; decide)
def A11_8 (b : Nat) : List ps_E := A11_7 b ++ (.inr (6, fs6 (b + 1 + 89)) :: as6 (b + 1 + 89))
theorem a11l_8 {b : Nat} : (A11_8 b).length = 102 := (List.length_append).trans (by rw [a11l_7]; rfl)
def V11_8 : Nat := V11_7 + W6
theorem t11_16 {g : ps_G} (h8 : 8 ≤ g.1) : fX6_init (q_new 6 (oS g 11 (F11_7 g.1) (A11_7 g.1) V11_7)) (oS g 11 (F11_7 g.1) (A11_7 g.1) V11_7).1 = some (oS g 11 (F11_7 g.1) (A11_8 g.1) V11_8) := by
  have e : (oS g 11 (F11_7 g.1) (A11_7 g.1) V11_7).1 = g.1 + 1 + 89 := by rw [oS_1, a11l_7]
  rw [in_6 (o_8 h8), o_fl, e]
  rfl
def F11_8 (b : Nat) : List Value := (F11_7 b).set 9 (.ref (b + 1 + 89))
theorem f11l_8 {b : Nat} : (F11_8 b).length = 18 := (List.length_set).trans f11l_7
theorem t11_17 {g : ps_G} (h8 : 8 ≤ g.1) : q_sR 11 9 (oS g 11 (F11_7 g.1) (A11_8 g.1) V11_8) g.1 (some (oS g 11 (F11_7 g.1) (A11_7 g.1) V11_7).1) = some (oS g 11 (F11_8 g.1) (A11_8 g.1) V11_8) := by
  have e : (oS g 11 (F11_7 g.1) (A11_7 g.1) V11_7).1 = g.1 + 1 + 89 := by rw [oS_1, a11l_7]
  rw [e]
  exact o_sR (by rw [f11l_7]; decide)
def A11_9 (b : Nat) : List ps_E := A11_8 b ++ (.inr (3, fs3 (b + 1 + 102)) :: as3 (b + 1 + 102))
theorem a11l_9 {b : Nat} : (A11_9 b).length = 113 := (List.length_append).trans (by rw [a11l_8]; rfl)
def V11_9 : Nat := V11_8 + W3
theorem t11_18 {g : ps_G} (h8 : 8 ≤ g.1) : fX3_init (q_new 3 (oS g 11 (F11_8 g.1) (A11_8 g.1) V11_8)) (oS g 11 (F11_8 g.1) (A11_8 g.1) V11_8).1 = some (oS g 11 (F11_8 g.1) (A11_9 g.1) V11_9) := by
  have e : (oS g 11 (F11_8 g.1) (A11_8 g.1) V11_8).1 = g.1 + 1 + 102 := by rw [oS_1, a11l_8]
  rw [in_3 (o_8 h8), o_fl, e]
  rfl
def F11_9 (b : Nat) : List Value := (F11_8 b).set 10 (.ref (b + 1 + 102))
theorem f11l_9 {b : Nat} : (F11_9 b).length = 18 := (List.length_set).trans f11l_8
theorem t11_19 {g : ps_G} (h8 : 8 ≤ g.1) : q_sR 11 10 (oS g 11 (F11_8 g.1) (A11_9 g.1) V11_9) g.1 (some (oS g 11 (F11_8 g.1) (A11_8 g.1) V11_8).1) = some (oS g 11 (F11_9 g.1) (A11_9 g.1) V11_9) := by
  have e : (oS g 11 (F11_8 g.1) (A11_8 g.1) V11_8).1 = g.1 + 1 + 102 := by rw [oS_1, a11l_8]
  rw [e]
  exact o_sR (by rw [f11l_8]; decide)
def A11_10 (b : Nat) : List ps_E := A11_9 b ++ (.inr (7, fs7 (b + 1 + 113)) :: as7 (b + 1 + 113))
theorem a11l_10 {b : Nat} : (A11_10 b).length = 116 := (List.length_append).trans (by rw [a11l_9]; rfl)
def V11_10 : Nat := V11_9 + W7
theorem t11_20 {g : ps_G} (h8 : 8 ≤ g.1) : fX7_init (q_new 7 (oS g 11 (F11_9 g.1) (A11_9 g.1) V11_9)) (oS g 11 (F11_9 g.1) (A11_9 g.1) V11_9).1 = some (oS g 11 (F11_9 g.1) (A11_10 g.1) V11_10) := by
  have e : (oS g 11 (F11_9 g.1) (A11_9 g.1) V11_9).1 = g.1 + 1 + 113 := by rw [oS_1, a11l_9]
  rw [in_7 (o_8 h8), o_fl, e]
  rfl
def F11_10 (b : Nat) : List Value := (F11_9 b).set 11 (.ref (b + 1 + 113))
theorem f11l_10 {b : Nat} : (F11_10 b).length = 18 := (List.length_set).trans f11l_9
theorem t11_21 {g : ps_G} (h8 : 8 ≤ g.1) : q_sR 11 11 (oS g 11 (F11_9 g.1) (A11_10 g.1) V11_10) g.1 (some (oS g 11 (F11_9 g.1) (A11_9 g.1) V11_9).1) = some (oS g 11 (F11_10 g.1) (A11_10 g.1) V11_10) := by
  have e : (oS g 11 (F11_9 g.1) (A11_9 g.1) V11_9).1 = g.1 + 1 + 113 := by rw [oS_1, a11l_9]
  rw [e]
  exact o_sR (by rw [f11l_9]; decide)
def A11_11 (b : Nat) : List ps_E := A11_10 b ++ (.inr (8, fs8 (b + 1 + 116)) :: as8 (b + 1 + 116))
theorem a11l_11 {b : Nat} : (A11_11 b).length = 128 := (List.length_append).trans (by rw [a11l_10]; rfl)
def V11_11 : Nat := V11_10 + W8
theorem t11_22 {g : ps_G} (h8 : 8 ≤ g.1) : fX8_init (q_new 8 (oS g 11 (F11_10 g.1) (A11_10 g.1) V11_10)) (oS g 11 (F11_10 g.1) (A11_10 g.1) V11_10).1 = some (oS g 11 (F11_10 g.1) (A11_11 g.1) V11_11) := by
  have e : (oS g 11 (F11_10 g.1) (A11_10 g.1) V11_10).1 = g.1 + 1 + 116 := by rw [oS_1, a11l_10]
  rw [in_8 (o_8 h8), o_fl, e]
  rfl
def F11_11 (b : Nat) : List Value := (F11_10 b).set 12 (.ref (b + 1 + 116))
theorem f11l_11 {b : Nat} : (F11_11 b).length = 18 := (List.length_set).trans f11l_10
theorem t11_23 {g : ps_G} (h8 : 8 ≤ g.1) : q_sR 11 12 (oS g 11 (F11_10 g.1) (A11_11 g.1) V11_11) g.1 (some (oS g 11 (F11_10 g.1) (A11_10 g.1) V11_10).1) = some (oS g 11 (F11_11 g.1) (A11_11 g.1) V11_11) := by
  have e : (oS g 11 (F11_10 g.1) (A11_10 g.1) V11_10).1 = g.1 + 1 + 116 := by rw [oS_1, a11l_10]
  rw [e]
  exact o_sR (by rw [f11l_10]; decide)
def A11_12 (b : Nat) : List ps_E := A11_11 b ++ [.inl (ps_ak .int, (8000, ps_az .int))]
theorem a11l_12 {b : Nat} : (A11_12 b).length = 129 := (List.length_append).trans (by rw [a11l_11]; rfl)
def V11_12 : Nat := V11_11 + 8000
theorem t11_24 {g : ps_G} (h8 : 8 ≤ g.1) : q_nA .int (oS g 11 (F11_11 g.1) (A11_11 g.1) V11_11) (8000 : Int32) = some (oS g 11 (F11_11 g.1) (A11_12 g.1) V11_12) := by
  exact o_nA (N := 8000) (by decide) (by decide)
def F11_12 (b : Nat) : List Value := (F11_11 b).set 13 (.ref (b + 1 + 128))
theorem f11l_12 {b : Nat} : (F11_12 b).length = 18 := (List.length_set).trans f11l_11
theorem t11_25 {g : ps_G} (h8 : 8 ≤ g.1) : q_sR 11 13 (oS g 11 (F11_11 g.1) (A11_12 g.1) V11_12) g.1 (some (oS g 11 (F11_11 g.1) (A11_11 g.1) V11_11).1) = some (oS g 11 (F11_12 g.1) (A11_12 g.1) V11_12) := by
  have e : (oS g 11 (F11_11 g.1) (A11_11 g.1) V11_11).1 = g.1 + 1 + 128 := by rw [oS_1, a11l_11]
  rw [e]
  exact o_sR (by rw [f11l_11]; decide)
def A11_13 (b : Nat) : List ps_E := A11_12 b ++ [.inl (ps_ak .int, (576, ps_az .int))]
theorem a11l_13 {b : Nat} : (A11_13 b).length = 130 := (List.length_append).trans (by rw [a11l_12]; rfl)
def V11_13 : Nat := V11_12 + 576
theorem t11_26 {g : ps_G} (h8 : 8 ≤ g.1) : q_nA .int (oS g 11 (F11_12 g.1) (A11_12 g.1) V11_12) (576 : Int32) = some (oS g 11 (F11_12 g.1) (A11_13 g.1) V11_13) := by
  exact o_nA (N := 576) (by decide) (by decide)
def F11_13 (b : Nat) : List Value := (F11_12 b).set 17 (.ref (b + 1 + 129))
theorem f11l_13 {b : Nat} : (F11_13 b).length = 18 := (List.length_set).trans f11l_12
theorem t11_27 {g : ps_G} (h8 : 8 ≤ g.1) : q_sR 11 17 (oS g 11 (F11_12 g.1) (A11_13 g.1) V11_13) g.1 (some (oS g 11 (F11_12 g.1) (A11_12 g.1) V11_12).1) = some (oS g 11 (F11_13 g.1) (A11_13 g.1) V11_13) := by
  have e : (oS g 11 (F11_12 g.1) (A11_12 g.1) V11_12).1 = g.1 + 1 + 129 := by rw [oS_1, a11l_12]
  rw [e]
  exact o_sR (by rw [f11l_12]; decide)
theorem in_11 {g : ps_G} (h8 : 8 ≤ g.1) : fX11_init (q_new 11 g) g.1 = some (oS g 11 (F11_13 g.1) (A11_13 g.1) V11_13) := by
  have e : q_new 11 g = oS g 11 (F11_0 g.1) (A11_0 g.1) V11_0 := o_new
  unfold fX11_init
  rw [e, t11_1 h8, ob_n, t11_2 h8, ob_n, t11_3 h8, ob_n, t11_4 h8, ob_n, t11_5 h8, ob_n, t11_6 h8, ob_n, t11_7 h8, ob_n, t11_8 h8, ob_n, t11_9 h8, ob_n, ob_n, t11_10 h8, ob_n, t11_11 h8, ob_n, t11_12 h8, ob_n, t11_13 h8, ob_n, t11_14 h8, ob_n, t11_15 h8, ob_n, t11_16 h8, ob_n, t11_17 h8, ob_n, t11_18 h8, ob_n, t11_19 h8, ob_n, t11_20 h8, ob_n, t11_21 h8, ob_n, t11_22 h8, ob_n, t11_23 h8, ob_n, t11_24 h8, ob_n, t11_25 h8, ob_n, t11_26 h8, ob_n, t11_27 h8, ob_n]
