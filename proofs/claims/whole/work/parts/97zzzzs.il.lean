-- needs: 97zzzzr
/-! ===== the reference: its constructor up to the loops (written by tools/ctr2.py) ===== -/
def F12_0 (b : Nat) : List Value := ps_df 12
theorem f12l_0 {b : Nat} : (F12_0 b).length = 94 := rfl
def A12_0 (b : Nat) : List ps_E := []
theorem a12l_0 {b : Nat} : (A12_0 b).length = 0 := rfl
def V12_0 : Nat := ps_cN 12
def A12_1 (b : Nat) : List ps_E := A12_0 b ++ [.inl (ps_ak .int, (8000, ps_az .int))]
theorem a12l_1 {b : Nat} : (A12_1 b).length = 1 := (List.length_append).trans (by rw [a12l_0]; rfl)
def V12_1 : Nat := V12_0 + 8000
theorem t12_1 {g : ps_G} (h8 : 8 ≤ g.1) : q_nA .int (oS g 12 (F12_0 g.1) (A12_0 g.1) V12_0) (8000 : Int32) = some (oS g 12 (F12_0 g.1) (A12_1 g.1) V12_1) := by
  exact o_nA (N := 8000) (by decide) (by decide)
def F12_1 (b : Nat) : List Value := (F12_0 b).set 1 (.ref (b + 1 + 0))
theorem f12l_1 {b : Nat} : (F12_1 b).length = 94 := (List.length_set).trans f12l_0
theorem t12_2 {g : ps_G} (h8 : 8 ≤ g.1) : q_sR 12 1 (oS g 12 (F12_0 g.1) (A12_1 g.1) V12_1) g.1 (some (oS g 12 (F12_0 g.1) (A12_0 g.1) V12_0).1) = some (oS g 12 (F12_1 g.1) (A12_1 g.1) V12_1) := by
  have e : (oS g 12 (F12_0 g.1) (A12_0 g.1) V12_0).1 = g.1 + 1 + 0 := by rw [oS_1, a12l_0]
  rw [e]
  exact o_sR (by rw [f12l_0]; decide)
def A12_2 (b : Nat) : List ps_E := A12_1 b ++ [.inl (ps_ak .int, (16000, ps_az .int))]
theorem a12l_2 {b : Nat} : (A12_2 b).length = 2 := (List.length_append).trans (by rw [a12l_1]; rfl)
def V12_2 : Nat := V12_1 + 16000
theorem t12_3 {g : ps_G} (h8 : 8 ≤ g.1) : q_nA .int (oS g 12 (F12_1 g.1) (A12_1 g.1) V12_1) (16000 : Int32) = some (oS g 12 (F12_1 g.1) (A12_2 g.1) V12_2) := by
  exact o_nA (N := 16000) (by decide) (by decide)
def F12_2 (b : Nat) : List Value := (F12_1 b).set 6 (.ref (b + 1 + 1))
theorem f12l_2 {b : Nat} : (F12_2 b).length = 94 := (List.length_set).trans f12l_1
theorem t12_4 {g : ps_G} (h8 : 8 ≤ g.1) : q_sR 12 6 (oS g 12 (F12_1 g.1) (A12_2 g.1) V12_2) g.1 (some (oS g 12 (F12_1 g.1) (A12_1 g.1) V12_1).1) = some (oS g 12 (F12_2 g.1) (A12_2 g.1) V12_2) := by
  have e : (oS g 12 (F12_1 g.1) (A12_1 g.1) V12_1).1 = g.1 + 1 + 1 := by rw [oS_1, a12l_1]
  rw [e]
  exact o_sR (by rw [f12l_1]; decide)
def A12_3 (b : Nat) : List ps_E := A12_2 b ++ [.inl (ps_ak .int, (35071, ps_az .int))]
theorem a12l_3 {b : Nat} : (A12_3 b).length = 3 := (List.length_append).trans (by rw [a12l_2]; rfl)
def V12_3 : Nat := V12_2 + 35071
theorem t12_5 {g : ps_G} (h8 : 8 ≤ g.1) : q_nA .int (oS g 12 (F12_2 g.1) (A12_2 g.1) V12_2) (35071 : Int32) = some (oS g 12 (F12_2 g.1) (A12_3 g.1) V12_3) := by
  exact o_nA (N := 35071) (by decide) (by decide)
def F12_3 (b : Nat) : List Value := (F12_2 b).set 8 (.ref (b + 1 + 2))
theorem f12l_3 {b : Nat} : (F12_3 b).length = 94 := (List.length_set).trans f12l_2
theorem t12_6 {g : ps_G} (h8 : 8 ≤ g.1) : q_sR 12 8 (oS g 12 (F12_2 g.1) (A12_3 g.1) V12_3) g.1 (some (oS g 12 (F12_2 g.1) (A12_2 g.1) V12_2).1) = some (oS g 12 (F12_3 g.1) (A12_3 g.1) V12_3) := by
  have e : (oS g 12 (F12_2 g.1) (A12_2 g.1) V12_2).1 = g.1 + 1 + 2 := by rw [oS_1, a12l_2]
  rw [e]
  exact o_sR (by rw [f12l_2]; decide)
def A12_4 (b : Nat) : List ps_E := A12_3 b ++ [.inl (ps_ak .int, (876775, ps_az .int))]
theorem a12l_4 {b : Nat} : (A12_4 b).length = 4 := (List.length_append).trans (by rw [a12l_3]; rfl)
def V12_4 : Nat := V12_3 + 876775
theorem t12_7 {g : ps_G} (h8 : 8 ≤ g.1) : q_nA .int (oS g 12 (F12_3 g.1) (A12_3 g.1) V12_3) (876775 : Int32) = some (oS g 12 (F12_3 g.1) (A12_4 g.1) V12_4) := by
  exact o_nA (N := 876775) (by decide) (by decide)
def F12_4 (b : Nat) : List Value := (F12_3 b).set 9 (.ref (b + 1 + 3))
theorem f12l_4 {b : Nat} : (F12_4 b).length = 94 := (List.length_set).trans f12l_3
theorem t12_8 {g : ps_G} (h8 : 8 ≤ g.1) : q_sR 12 9 (oS g 12 (F12_3 g.1) (A12_4 g.1) V12_4) g.1 (some (oS g 12 (F12_3 g.1) (A12_3 g.1) V12_3).1) = some (oS g 12 (F12_4 g.1) (A12_4 g.1) V12_4) := by
  have e : (oS g 12 (F12_3 g.1) (A12_3 g.1) V12_3).1 = g.1 + 1 + 3 := by rw [oS_1, a12l_3]
  rw [e]
  exact o_sR (by rw [f12l_3]; decide)
def A12_5 (b : Nat) : List ps_E := A12_4 b ++ [.inl (ps_ak .boolean, (30, ps_az .boolean))]
theorem a12l_5 {b : Nat} : (A12_5 b).length = 5 := (List.length_append).trans (by rw [a12l_4]; rfl)
def V12_5 : Nat := V12_4 + 30
theorem t12_9 {g : ps_G} (h8 : 8 ≤ g.1) : q_nA .boolean (oS g 12 (F12_4 g.1) (A12_4 g.1) V12_4) (30 : Int32) = some (oS g 12 (F12_4 g.1) (A12_5 g.1) V12_5) := by
  exact o_nA (N := 30) (by decide) (by decide)
def F12_5 (b : Nat) : List Value := (F12_4 b).set 15 (.ref (b + 1 + 4))
theorem f12l_5 {b : Nat} : (F12_5 b).length = 94 := (List.length_set).trans f12l_4
theorem t12_10 {g : ps_G} (h8 : 8 ≤ g.1) : q_sR 12 15 (oS g 12 (F12_4 g.1) (A12_5 g.1) V12_5) g.1 (some (oS g 12 (F12_4 g.1) (A12_4 g.1) V12_4).1) = some (oS g 12 (F12_5 g.1) (A12_5 g.1) V12_5) := by
  have e : (oS g 12 (F12_4 g.1) (A12_4 g.1) V12_4).1 = g.1 + 1 + 4 := by rw [oS_1, a12l_4]
  rw [e]
  exact o_sR (by rw [f12l_4]; decide)
def A12_6 (b : Nat) : List ps_E := A12_5 b ++ [.inl (ps_ak .int, (18000, ps_az .int))]
theorem a12l_6 {b : Nat} : (A12_6 b).length = 6 := (List.length_append).trans (by rw [a12l_5]; rfl)
def V12_6 : Nat := V12_5 + 18000
theorem t12_11 {g : ps_G} (h8 : 8 ≤ g.1) : q_nA .int (oS g 12 (F12_5 g.1) (A12_5 g.1) V12_5) (18000 : Int32) = some (oS g 12 (F12_5 g.1) (A12_6 g.1) V12_6) := by
  exact o_nA (N := 18000) (by decide) (by decide)
def F12_6 (b : Nat) : List Value := (F12_5 b).set 16 (.ref (b + 1 + 5))
theorem f12l_6 {b : Nat} : (F12_6 b).length = 94 := (List.length_set).trans f12l_5
theorem t12_12 {g : ps_G} (h8 : 8 ≤ g.1) : q_sR 12 16 (oS g 12 (F12_5 g.1) (A12_6 g.1) V12_6) g.1 (some (oS g 12 (F12_5 g.1) (A12_5 g.1) V12_5).1) = some (oS g 12 (F12_6 g.1) (A12_6 g.1) V12_6) := by
  have e : (oS g 12 (F12_5 g.1) (A12_5 g.1) V12_5).1 = g.1 + 1 + 5 := by rw [oS_1, a12l_5]
  rw [e]
  exact o_sR (by rw [f12l_5]; decide)
def A12_7 (b : Nat) : List ps_E := A12_6 b ++ [.inl (ps_ak .int, (18000, ps_az .int))]
theorem a12l_7 {b : Nat} : (A12_7 b).length = 7 := (List.length_append).trans (by rw [a12l_6]; rfl)
def V12_7 : Nat := V12_6 + 18000
theorem t12_13 {g : ps_G} (h8 : 8 ≤ g.1) : q_nA .int (oS g 12 (F12_6 g.1) (A12_6 g.1) V12_6) (18000 : Int32) = some (oS g 12 (F12_6 g.1) (A12_7 g.1) V12_7) := by
  exact o_nA (N := 18000) (by decide) (by decide)
def F12_7 (b : Nat) : List Value := (F12_6 b).set 17 (.ref (b + 1 + 6))
theorem f12l_7 {b : Nat} : (F12_7 b).length = 94 := (List.length_set).trans f12l_6
theorem t12_14 {g : ps_G} (h8 : 8 ≤ g.1) : q_sR 12 17 (oS g 12 (F12_6 g.1) (A12_7 g.1) V12_7) g.1 (some (oS g 12 (F12_6 g.1) (A12_6 g.1) V12_6).1) = some (oS g 12 (F12_7 g.1) (A12_7 g.1) V12_7) := by
  have e : (oS g 12 (F12_6 g.1) (A12_6 g.1) V12_6).1 = g.1 + 1 + 6 := by rw [oS_1, a12l_6]
  rw [e]
  exact o_sR (by rw [f12l_6]; decide)
def A12_8 (b : Nat) : List ps_E := A12_7 b ++ [.inl (ps_ak .int, (576, ps_az .int))]
theorem a12l_8 {b : Nat} : (A12_8 b).length = 8 := (List.length_append).trans (by rw [a12l_7]; rfl)
def V12_8 : Nat := V12_7 + 576
theorem t12_15 {g : ps_G} (h8 : 8 ≤ g.1) : q_nA .int (oS g 12 (F12_7 g.1) (A12_7 g.1) V12_7) (576 : Int32) = some (oS g 12 (F12_7 g.1) (A12_8 g.1) V12_8) := by
  exact o_nA (N := 576) (by decide) (by decide)
def F12_8 (b : Nat) : List Value := (F12_7 b).set 18 (.ref (b + 1 + 7))
theorem f12l_8 {b : Nat} : (F12_8 b).length = 94 := (List.length_set).trans f12l_7
theorem t12_16 {g : ps_G} (h8 : 8 ≤ g.1) : q_sR 12 18 (oS g 12 (F12_7 g.1) (A12_8 g.1) V12_8) g.1 (some (oS g 12 (F12_7 g.1) (A12_7 g.1) V12_7).1) = some (oS g 12 (F12_8 g.1) (A12_8 g.1) V12_8) := by
  have e : (oS g 12 (F12_7 g.1) (A12_7 g.1) V12_7).1 = g.1 + 1 + 7 := by rw [oS_1, a12l_7]
  rw [e]
  exact o_sR (by rw [f12l_7]; decide)
def A12_9 (b : Nat) : List ps_E := A12_8 b ++ [.inl (ps_ak .boolean, (9, ps_az .boolean))]
theorem a12l_9 {b : Nat} : (A12_9 b).length = 9 := (List.length_append).trans (by rw [a12l_8]; rfl)
def V12_9 : Nat := V12_8 + 9
theorem t12_17 {g : ps_G} (h8 : 8 ≤ g.1) : q_nA .boolean (oS g 12 (F12_8 g.1) (A12_8 g.1) V12_8) (9 : Int32) = some (oS g 12 (F12_8 g.1) (A12_9 g.1) V12_9) := by
  exact o_nA (N := 9) (by decide) (by decide)
def F12_9 (b : Nat) : List Value := (F12_8 b).set 21 (.ref (b + 1 + 8))
theorem f12l_9 {b : Nat} : (F12_9 b).length = 94 := (List.length_set).trans f12l_8
theorem t12_18 {g : ps_G} (h8 : 8 ≤ g.1) : q_sR 12 21 (oS g 12 (F12_8 g.1) (A12_9 g.1) V12_9) g.1 (some (oS g 12 (F12_8 g.1) (A12_8 g.1) V12_8).1) = some (oS g 12 (F12_9 g.1) (A12_9 g.1) V12_9) := by
  have e : (oS g 12 (F12_8 g.1) (A12_8 g.1) V12_8).1 = g.1 + 1 + 8 := by rw [oS_1, a12l_8]
  rw [e]
  exact o_sR (by rw [f12l_8]; decide)
def A12_10 (b : Nat) : List ps_E := A12_9 b ++ [.inl (ps_ak .int, (576, ps_az .int))]
theorem a12l_10 {b : Nat} : (A12_10 b).length = 10 := (List.length_append).trans (by rw [a12l_9]; rfl)
def V12_10 : Nat := V12_9 + 576
theorem t12_19 {g : ps_G} (h8 : 8 ≤ g.1) : q_nA .int (oS g 12 (F12_9 g.1) (A12_9 g.1) V12_9) (576 : Int32) = some (oS g 12 (F12_9 g.1) (A12_10 g.1) V12_10) := by
  exact o_nA (N := 576) (by decide) (by decide)
def F12_10 (b : Nat) : List Value := (F12_9 b).set 22 (.ref (b + 1 + 9))
theorem f12l_10 {b : Nat} : (F12_10 b).length = 94 := (List.length_set).trans f12l_9
theorem t12_20 {g : ps_G} (h8 : 8 ≤ g.1) : q_sR 12 22 (oS g 12 (F12_9 g.1) (A12_10 g.1) V12_10) g.1 (some (oS g 12 (F12_9 g.1) (A12_9 g.1) V12_9).1) = some (oS g 12 (F12_10 g.1) (A12_10 g.1) V12_10) := by
  have e : (oS g 12 (F12_9 g.1) (A12_9 g.1) V12_9).1 = g.1 + 1 + 9 := by rw [oS_1, a12l_9]
  rw [e]
  exact o_sR (by rw [f12l_9]; decide)
def A12_11 (b : Nat) : List ps_E := A12_10 b ++ [.inl (ps_ak .int, (9, ps_az .int))]
theorem a12l_11 {b : Nat} : (A12_11 b).length = 11 := (List.length_append).trans (by rw [a12l_10]; rfl)
def V12_11 : Nat := V12_10 + 9
theorem t12_21 {g : ps_G} (h8 : 8 ≤ g.1) : q_nA .int (oS g 12 (F12_10 g.1) (A12_10 g.1) V12_10) (9 : Int32) = some (oS g 12 (F12_10 g.1) (A12_11 g.1) V12_11) := by
  exact o_nA (N := 9) (by decide) (by decide)
def F12_11 (b : Nat) : List Value := (F12_10 b).set 24 (.ref (b + 1 + 10))
theorem f12l_11 {b : Nat} : (F12_11 b).length = 94 := (List.length_set).trans f12l_10
theorem t12_22 {g : ps_G} (h8 : 8 ≤ g.1) : q_sR 12 24 (oS g 12 (F12_10 g.1) (A12_11 g.1) V12_11) g.1 (some (oS g 12 (F12_10 g.1) (A12_10 g.1) V12_10).1) = some (oS g 12 (F12_11 g.1) (A12_11 g.1) V12_11) := by
  have e : (oS g 12 (F12_10 g.1) (A12_10 g.1) V12_10).1 = g.1 + 1 + 10 := by rw [oS_1, a12l_10]
  rw [e]
  exact o_sR (by rw [f12l_10]; decide)
def F12_12 (b : Nat) : List Value := (F12_11 b).set 25 (.int (1 : Int32))
theorem f12l_12 {b : Nat} : (F12_12 b).length = 94 := (List.length_set).trans f12l_11
theorem t12_23 {g : ps_G} (h8 : 8 ≤ g.1) : q_sI 12 25 (oS g 12 (F12_11 g.1) (A12_11 g.1) V12_11) g.1 (1 : Int32) = some (oS g 12 (F12_12 g.1) (A12_11 g.1) V12_11) := by
  exact o_sI (by rw [f12l_11]; decide)
def A12_12 (b : Nat) : List ps_E := A12_11 b ++ [.inl (ps_ak .int, (9, ps_az .int))]
theorem a12l_12 {b : Nat} : (A12_12 b).length = 12 := (List.length_append).trans (by rw [a12l_11]; rfl)
def V12_12 : Nat := V12_11 + 9
theorem t12_24 {g : ps_G} (h8 : 8 ≤ g.1) : q_nA .int (oS g 12 (F12_12 g.1) (A12_11 g.1) V12_11) (9 : Int32) = some (oS g 12 (F12_12 g.1) (A12_12 g.1) V12_12) := by
  exact o_nA (N := 9) (by decide) (by decide)
def F12_13 (b : Nat) : List Value := (F12_12 b).set 27 (.ref (b + 1 + 11))
theorem f12l_13 {b : Nat} : (F12_13 b).length = 94 := (List.length_set).trans f12l_12
theorem t12_25 {g : ps_G} (h8 : 8 ≤ g.1) : q_sR 12 27 (oS g 12 (F12_12 g.1) (A12_12 g.1) V12_12) g.1 (some (oS g 12 (F12_12 g.1) (A12_11 g.1) V12_11).1) = some (oS g 12 (F12_13 g.1) (A12_12 g.1) V12_12) := by
  have e : (oS g 12 (F12_12 g.1) (A12_11 g.1) V12_11).1 = g.1 + 1 + 11 := by rw [oS_1, a12l_11]
  rw [e]
  exact o_sR (by rw [f12l_12]; decide)
def A12_13 (b : Nat) : List ps_E := A12_12 b ++ [.inl (ps_ak .int, (32, ps_az .int))]
theorem a12l_13 {b : Nat} : (A12_13 b).length = 13 := (List.length_append).trans (by rw [a12l_12]; rfl)
def V12_13 : Nat := V12_12 + 32
theorem t12_26 {g : ps_G} (h8 : 8 ≤ g.1) : q_nA .int (oS g 12 (F12_13 g.1) (A12_12 g.1) V12_12) (32 : Int32) = some (oS g 12 (F12_13 g.1) (A12_13 g.1) V12_13) := by
  exact o_nA (N := 32) (by decide) (by decide)
def F12_14 (b : Nat) : List Value := (F12_13 b).set 28 (.ref (b + 1 + 12))
theorem f12l_14 {b : Nat} : (F12_14 b).length = 94 := (List.length_set).trans f12l_13
theorem t12_27 {g : ps_G} (h8 : 8 ≤ g.1) : q_sR 12 28 (oS g 12 (F12_13 g.1) (A12_13 g.1) V12_13) g.1 (some (oS g 12 (F12_13 g.1) (A12_12 g.1) V12_12).1) = some (oS g 12 (F12_14 g.1) (A12_13 g.1) V12_13) := by
  have e : (oS g 12 (F12_13 g.1) (A12_12 g.1) V12_12).1 = g.1 + 1 + 12 := by rw [oS_1, a12l_12]
  rw [e]
  exact o_sR (by rw [f12l_13]; decide)
def A12_14 (b : Nat) : List ps_E := A12_13 b ++ [.inl (ps_ak .int, (256, ps_az .int))]
theorem a12l_14 {b : Nat} : (A12_14 b).length = 14 := (List.length_append).trans (by rw [a12l_13]; rfl)
def V12_14 : Nat := V12_13 + 256
theorem t12_28 {g : ps_G} (h8 : 8 ≤ g.1) : q_nA .int (oS g 12 (F12_14 g.1) (A12_13 g.1) V12_13) (256 : Int32) = some (oS g 12 (F12_14 g.1) (A12_14 g.1) V12_14) := by
  exact o_nA (N := 256) (by decide) (by decide)
def F12_15 (b : Nat) : List Value := (F12_14 b).set 29 (.ref (b + 1 + 13))
theorem f12l_15 {b : Nat} : (F12_15 b).length = 94 := (List.length_set).trans f12l_14
theorem t12_29 {g : ps_G} (h8 : 8 ≤ g.1) : q_sR 12 29 (oS g 12 (F12_14 g.1) (A12_14 g.1) V12_14) g.1 (some (oS g 12 (F12_14 g.1) (A12_13 g.1) V12_13).1) = some (oS g 12 (F12_15 g.1) (A12_14 g.1) V12_14) := by
  have e : (oS g 12 (F12_14 g.1) (A12_13 g.1) V12_13).1 = g.1 + 1 + 13 := by rw [oS_1, a12l_13]
  rw [e]
  exact o_sR (by rw [f12l_14]; decide)
def A12_15 (b : Nat) : List ps_E := A12_14 b ++ [.inl (ps_ak .int, (256, ps_az .int))]
theorem a12l_15 {b : Nat} : (A12_15 b).length = 15 := (List.length_append).trans (by rw [a12l_14]; rfl)
def V12_15 : Nat := V12_14 + 256
theorem t12_30 {g : ps_G} (h8 : 8 ≤ g.1) : q_nA .int (oS g 12 (F12_15 g.1) (A12_14 g.1) V12_14) (256 : Int32) = some (oS g 12 (F12_15 g.1) (A12_15 g.1) V12_15) := by
  exact o_nA (N := 256) (by decide) (by decide)
def F12_16 (b : Nat) : List Value := (F12_15 b).set 30 (.ref (b + 1 + 14))
theorem f12l_16 {b : Nat} : (F12_16 b).length = 94 := (List.length_set).trans f12l_15
theorem t12_31 {g : ps_G} (h8 : 8 ≤ g.1) : q_sR 12 30 (oS g 12 (F12_15 g.1) (A12_15 g.1) V12_15) g.1 (some (oS g 12 (F12_15 g.1) (A12_14 g.1) V12_14).1) = some (oS g 12 (F12_16 g.1) (A12_15 g.1) V12_15) := by
  have e : (oS g 12 (F12_15 g.1) (A12_14 g.1) V12_14).1 = g.1 + 1 + 14 := by rw [oS_1, a12l_14]
  rw [e]
  exact o_sR (by rw [f12l_15]; decide)
def A12_16 (b : Nat) : List ps_E := A12_15 b ++ [.inl (ps_ak .int, (576, ps_az .int))]
theorem a12l_16 {b : Nat} : (A12_16 b).length = 16 := (List.length_append).trans (by rw [a12l_15]; rfl)
def V12_16 : Nat := V12_15 + 576
theorem t12_32 {g : ps_G} (h8 : 8 ≤ g.1) : q_nA .int (oS g 12 (F12_16 g.1) (A12_15 g.1) V12_15) (576 : Int32) = some (oS g 12 (F12_16 g.1) (A12_16 g.1) V12_16) := by
  exact o_nA (N := 576) (by decide) (by decide)
def F12_17 (b : Nat) : List Value := (F12_16 b).set 31 (.ref (b + 1 + 15))
theorem f12l_17 {b : Nat} : (F12_17 b).length = 94 := (List.length_set).trans f12l_16
theorem t12_33 {g : ps_G} (h8 : 8 ≤ g.1) : q_sR 12 31 (oS g 12 (F12_16 g.1) (A12_16 g.1) V12_16) g.1 (some (oS g 12 (F12_16 g.1) (A12_15 g.1) V12_15).1) = some (oS g 12 (F12_17 g.1) (A12_16 g.1) V12_16) := by
  have e : (oS g 12 (F12_16 g.1) (A12_15 g.1) V12_15).1 = g.1 + 1 + 15 := by rw [oS_1, a12l_15]
  rw [e]
  exact o_sR (by rw [f12l_16]; decide)
def A12_17 (b : Nat) : List ps_E := A12_16 b ++ [.inl (ps_ak .int, (576, ps_az .int))]
theorem a12l_17 {b : Nat} : (A12_17 b).length = 17 := (List.length_append).trans (by rw [a12l_16]; rfl)
def V12_17 : Nat := V12_16 + 576
theorem t12_34 {g : ps_G} (h8 : 8 ≤ g.1) : q_nA .int (oS g 12 (F12_17 g.1) (A12_16 g.1) V12_16) (576 : Int32) = some (oS g 12 (F12_17 g.1) (A12_17 g.1) V12_17) := by
  exact o_nA (N := 576) (by decide) (by decide)
def F12_18 (b : Nat) : List Value := (F12_17 b).set 32 (.ref (b + 1 + 16))
theorem f12l_18 {b : Nat} : (F12_18 b).length = 94 := (List.length_set).trans f12l_17
theorem t12_35 {g : ps_G} (h8 : 8 ≤ g.1) : q_sR 12 32 (oS g 12 (F12_17 g.1) (A12_17 g.1) V12_17) g.1 (some (oS g 12 (F12_17 g.1) (A12_16 g.1) V12_16).1) = some (oS g 12 (F12_18 g.1) (A12_17 g.1) V12_17) := by
  have e : (oS g 12 (F12_17 g.1) (A12_16 g.1) V12_16).1 = g.1 + 1 + 16 := by rw [oS_1, a12l_16]
  rw [e]
  exact o_sR (by rw [f12l_17]; decide)
def A12_18 (b : Nat) : List ps_E := A12_17 b ++ [.inl (ps_ak .int, (2400, ps_az .int))]
theorem a12l_18 {b : Nat} : (A12_18 b).length = 18 := (List.length_append).trans (by rw [a12l_17]; rfl)
def V12_18 : Nat := V12_17 + 2400
theorem t12_36 {g : ps_G} (h8 : 8 ≤ g.1) : q_nA .int (oS g 12 (F12_18 g.1) (A12_17 g.1) V12_17) (2400 : Int32) = some (oS g 12 (F12_18 g.1) (A12_18 g.1) V12_18) := by
  exact o_nA (N := 2400) (by decide) (by decide)
def F12_19 (b : Nat) : List Value := (F12_18 b).set 33 (.ref (b + 1 + 17))
theorem f12l_19 {b : Nat} : (F12_19 b).length = 94 := (List.length_set).trans f12l_18
theorem t12_37 {g : ps_G} (h8 : 8 ≤ g.1) : q_sR 12 33 (oS g 12 (F12_18 g.1) (A12_18 g.1) V12_18) g.1 (some (oS g 12 (F12_18 g.1) (A12_17 g.1) V12_17).1) = some (oS g 12 (F12_19 g.1) (A12_18 g.1) V12_18) := by
  have e : (oS g 12 (F12_18 g.1) (A12_17 g.1) V12_17).1 = g.1 + 1 + 17 := by rw [oS_1, a12l_17]
  rw [e]
  exact o_sR (by rw [f12l_18]; decide)
def F12_20 (b : Nat) : List Value := (F12_19 b).set 34 (.int (-16777216 : Int32))
theorem f12l_20 {b : Nat} : (F12_20 b).length = 94 := (List.length_set).trans f12l_19
theorem t12_38 {g : ps_G} (h8 : 8 ≤ g.1) : q_sI 12 34 (oS g 12 (F12_19 g.1) (A12_18 g.1) V12_18) g.1 (-16777216 : Int32) = some (oS g 12 (F12_20 g.1) (A12_18 g.1) V12_18) := by
  exact o_sI (by rw [f12l_19]; decide)
def A12_19 (b : Nat) : List ps_E := A12_18 b ++ [.inl (ps_ak .int, (576, ps_az .int))]
theorem a12l_19 {b : Nat} : (A12_19 b).length = 19 := (List.length_append).trans (by rw [a12l_18]; rfl)
def V12_19 : Nat := V12_18 + 576
theorem t12_39 {g : ps_G} (h8 : 8 ≤ g.1) : q_nA .int (oS g 12 (F12_20 g.1) (A12_18 g.1) V12_18) (576 : Int32) = some (oS g 12 (F12_20 g.1) (A12_19 g.1) V12_19) := by
  exact o_nA (N := 576) (by decide) (by decide)
def F12_21 (b : Nat) : List Value := (F12_20 b).set 35 (.ref (b + 1 + 18))
theorem f12l_21 {b : Nat} : (F12_21 b).length = 94 := (List.length_set).trans f12l_20
theorem t12_40 {g : ps_G} (h8 : 8 ≤ g.1) : q_sR 12 35 (oS g 12 (F12_20 g.1) (A12_19 g.1) V12_19) g.1 (some (oS g 12 (F12_20 g.1) (A12_18 g.1) V12_18).1) = some (oS g 12 (F12_21 g.1) (A12_19 g.1) V12_19) := by
  have e : (oS g 12 (F12_20 g.1) (A12_18 g.1) V12_18).1 = g.1 + 1 + 18 := by rw [oS_1, a12l_18]
  rw [e]
  exact o_sR (by rw [f12l_20]; decide)
def F12_22 (b : Nat) : List Value := (F12_21 b).set 36 (.int (8 : Int32))
theorem f12l_22 {b : Nat} : (F12_22 b).length = 94 := (List.length_set).trans f12l_21
theorem t12_41 {g : ps_G} (h8 : 8 ≤ g.1) : q_sI 12 36 (oS g 12 (F12_21 g.1) (A12_19 g.1) V12_19) g.1 (8 : Int32) = some (oS g 12 (F12_22 g.1) (A12_19 g.1) V12_19) := by
  exact o_sI (by rw [f12l_21]; decide)
def F12_23 (b : Nat) : List Value := (F12_22 b).set 37 (.int (255 : Int32))
theorem f12l_23 {b : Nat} : (F12_23 b).length = 94 := (List.length_set).trans f12l_22
theorem t12_42 {g : ps_G} (h8 : 8 ≤ g.1) : q_sI 12 37 (oS g 12 (F12_22 g.1) (A12_19 g.1) V12_19) g.1 (255 : Int32) = some (oS g 12 (F12_23 g.1) (A12_19 g.1) V12_19) := by
  exact o_sI (by rw [f12l_22]; decide)
theorem p12_0 {g : ps_G} (h8 : 8 ≤ g.1) : fX12_init (oS g 12 (F12_0 g.1) (A12_0 g.1) V12_0) g.1 = jX12_init_192 (oS g 12 (F12_23 g.1) (A12_19 g.1) V12_19) g.1 := by
  unfold fX12_init
  rw [t12_1 h8, ob_n, t12_2 h8, ob_n, t12_3 h8, ob_n, t12_4 h8, ob_n, t12_5 h8, ob_n, t12_6 h8, ob_n, t12_7 h8, ob_n, t12_8 h8, ob_n, t12_9 h8, ob_n, t12_10 h8, ob_n, t12_11 h8, ob_n, t12_12 h8, ob_n, t12_13 h8, ob_n, t12_14 h8, ob_n, t12_15 h8, ob_n, t12_16 h8, ob_n, t12_17 h8, ob_n, t12_18 h8, ob_n, t12_19 h8, ob_n, t12_20 h8, ob_n, t12_21 h8, ob_n, t12_22 h8, ob_n, t12_23 h8, ob_n, t12_24 h8, ob_n, t12_25 h8, ob_n, t12_26 h8, ob_n, t12_27 h8, ob_n, t12_28 h8, ob_n, t12_29 h8, ob_n, t12_30 h8, ob_n, t12_31 h8, ob_n, t12_32 h8, ob_n, t12_33 h8, ob_n, t12_34 h8, ob_n, t12_35 h8, ob_n, t12_36 h8, ob_n, t12_37 h8, ob_n, t12_38 h8, ob_n, t12_39 h8, ob_n, t12_40 h8, ob_n, t12_41 h8, ob_n, t12_42 h8, ob_n]
def F12_24 (b : Nat) : List Value := (F12_23 b).set 38 (.int (4 : Int32))
theorem f12l_24 {b : Nat} : (F12_24 b).length = 94 := (List.length_set).trans f12l_23
theorem t12_43 {g : ps_G} (h8 : 8 ≤ g.1) : q_sI 12 38 (oS g 12 (F12_23 g.1) (A12_19 g.1) V12_19) g.1 (4 : Int32) = some (oS g 12 (F12_24 g.1) (A12_19 g.1) V12_19) := by
  exact o_sI (by rw [f12l_23]; decide)
def F12_25 (b : Nat) : List Value := (F12_24 b).set 39 (.int (255 : Int32))
theorem f12l_25 {b : Nat} : (F12_25 b).length = 94 := (List.length_set).trans f12l_24
theorem t12_44 {g : ps_G} (h8 : 8 ≤ g.1) : q_sI 12 39 (oS g 12 (F12_24 g.1) (A12_19 g.1) V12_19) g.1 (255 : Int32) = some (oS g 12 (F12_25 g.1) (A12_19 g.1) V12_19) := by
  exact o_sI (by rw [f12l_24]; decide)
def F12_26 (b : Nat) : List Value := (F12_25 b).set 40 (.int (255 : Int32))
theorem f12l_26 {b : Nat} : (F12_26 b).length = 94 := (List.length_set).trans f12l_25
theorem t12_45 {g : ps_G} (h8 : 8 ≤ g.1) : q_sI 12 40 (oS g 12 (F12_25 g.1) (A12_19 g.1) V12_19) g.1 (255 : Int32) = some (oS g 12 (F12_26 g.1) (A12_19 g.1) V12_19) := by
  exact o_sI (by rw [f12l_25]; decide)
def A12_20 (b : Nat) : List ps_E := A12_19 b ++ [.inl (ps_ak .int, (40, ps_az .int))]
theorem a12l_20 {b : Nat} : (A12_20 b).length = 20 := (List.length_append).trans (by rw [a12l_19]; rfl)
def V12_20 : Nat := V12_19 + 40
theorem t12_46 {g : ps_G} (h8 : 8 ≤ g.1) : q_nA .int (oS g 12 (F12_26 g.1) (A12_19 g.1) V12_19) (40 : Int32) = some (oS g 12 (F12_26 g.1) (A12_20 g.1) V12_20) := by
  exact o_nA (N := 40) (by decide) (by decide)
def F12_27 (b : Nat) : List Value := (F12_26 b).set 44 (.ref (b + 1 + 19))
theorem f12l_27 {b : Nat} : (F12_27 b).length = 94 := (List.length_set).trans f12l_26
theorem t12_47 {g : ps_G} (h8 : 8 ≤ g.1) : q_sR 12 44 (oS g 12 (F12_26 g.1) (A12_20 g.1) V12_20) g.1 (some (oS g 12 (F12_26 g.1) (A12_19 g.1) V12_19).1) = some (oS g 12 (F12_27 g.1) (A12_20 g.1) V12_20) := by
  have e : (oS g 12 (F12_26 g.1) (A12_19 g.1) V12_19).1 = g.1 + 1 + 19 := by rw [oS_1, a12l_19]
  rw [e]
  exact o_sR (by rw [f12l_26]; decide)
def A12_21 (b : Nat) : List ps_E := A12_20 b ++ [.inl (ps_ak .int, (40, ps_az .int))]
theorem a12l_21 {b : Nat} : (A12_21 b).length = 21 := (List.length_append).trans (by rw [a12l_20]; rfl)
def V12_21 : Nat := V12_20 + 40
theorem t12_48 {g : ps_G} (h8 : 8 ≤ g.1) : q_nA .int (oS g 12 (F12_27 g.1) (A12_20 g.1) V12_20) (40 : Int32) = some (oS g 12 (F12_27 g.1) (A12_21 g.1) V12_21) := by
  exact o_nA (N := 40) (by decide) (by decide)
def F12_28 (b : Nat) : List Value := (F12_27 b).set 45 (.ref (b + 1 + 20))
theorem f12l_28 {b : Nat} : (F12_28 b).length = 94 := (List.length_set).trans f12l_27
theorem t12_49 {g : ps_G} (h8 : 8 ≤ g.1) : q_sR 12 45 (oS g 12 (F12_27 g.1) (A12_21 g.1) V12_21) g.1 (some (oS g 12 (F12_27 g.1) (A12_20 g.1) V12_20).1) = some (oS g 12 (F12_28 g.1) (A12_21 g.1) V12_21) := by
  have e : (oS g 12 (F12_27 g.1) (A12_20 g.1) V12_20).1 = g.1 + 1 + 20 := by rw [oS_1, a12l_20]
  rw [e]
  exact o_sR (by rw [f12l_27]; decide)
def A12_22 (b : Nat) : List ps_E := A12_21 b ++ [.inl (ps_ak .int, (40, ps_az .int))]
theorem a12l_22 {b : Nat} : (A12_22 b).length = 22 := (List.length_append).trans (by rw [a12l_21]; rfl)
def V12_22 : Nat := V12_21 + 40
theorem t12_50 {g : ps_G} (h8 : 8 ≤ g.1) : q_nA .int (oS g 12 (F12_28 g.1) (A12_21 g.1) V12_21) (40 : Int32) = some (oS g 12 (F12_28 g.1) (A12_22 g.1) V12_22) := by
  exact o_nA (N := 40) (by decide) (by decide)
def F12_29 (b : Nat) : List Value := (F12_28 b).set 46 (.ref (b + 1 + 21))
theorem f12l_29 {b : Nat} : (F12_29 b).length = 94 := (List.length_set).trans f12l_28
theorem t12_51 {g : ps_G} (h8 : 8 ≤ g.1) : q_sR 12 46 (oS g 12 (F12_28 g.1) (A12_22 g.1) V12_22) g.1 (some (oS g 12 (F12_28 g.1) (A12_21 g.1) V12_21).1) = some (oS g 12 (F12_29 g.1) (A12_22 g.1) V12_22) := by
  have e : (oS g 12 (F12_28 g.1) (A12_21 g.1) V12_21).1 = g.1 + 1 + 21 := by rw [oS_1, a12l_21]
  rw [e]
  exact o_sR (by rw [f12l_28]; decide)
def A12_23 (b : Nat) : List ps_E := A12_22 b ++ [.inl (ps_ak .int, (576, ps_az .int))]
theorem a12l_23 {b : Nat} : (A12_23 b).length = 23 := (List.length_append).trans (by rw [a12l_22]; rfl)
def V12_23 : Nat := V12_22 + 576
theorem t12_52 {g : ps_G} (h8 : 8 ≤ g.1) : q_nA .int (oS g 12 (F12_29 g.1) (A12_22 g.1) V12_22) (576 : Int32) = some (oS g 12 (F12_29 g.1) (A12_23 g.1) V12_23) := by
  exact o_nA (N := 576) (by decide) (by decide)
def F12_30 (b : Nat) : List Value := (F12_29 b).set 47 (.ref (b + 1 + 22))
theorem f12l_30 {b : Nat} : (F12_30 b).length = 94 := (List.length_set).trans f12l_29
theorem t12_53 {g : ps_G} (h8 : 8 ≤ g.1) : q_sR 12 47 (oS g 12 (F12_29 g.1) (A12_23 g.1) V12_23) g.1 (some (oS g 12 (F12_29 g.1) (A12_22 g.1) V12_22).1) = some (oS g 12 (F12_30 g.1) (A12_23 g.1) V12_23) := by
  have e : (oS g 12 (F12_29 g.1) (A12_22 g.1) V12_22).1 = g.1 + 1 + 22 := by rw [oS_1, a12l_22]
  rw [e]
  exact o_sR (by rw [f12l_29]; decide)
def A12_24 (b : Nat) : List ps_E := A12_23 b ++ [.inl (ps_ak .int, (8, ps_az .int))]
theorem a12l_24 {b : Nat} : (A12_24 b).length = 24 := (List.length_append).trans (by rw [a12l_23]; rfl)
def V12_24 : Nat := V12_23 + 8
theorem t12_54 {g : ps_G} (h8 : 8 ≤ g.1) : q_nA .int (oS g 12 (F12_30 g.1) (A12_23 g.1) V12_23) (8 : Int32) = some (oS g 12 (F12_30 g.1) (A12_24 g.1) V12_24) := by
  exact o_nA (N := 8) (by decide) (by decide)
def F12_31 (b : Nat) : List Value := (F12_30 b).set 48 (.ref (b + 1 + 23))
theorem f12l_31 {b : Nat} : (F12_31 b).length = 94 := (List.length_set).trans f12l_30
theorem t12_55 {g : ps_G} (h8 : 8 ≤ g.1) : q_sR 12 48 (oS g 12 (F12_30 g.1) (A12_24 g.1) V12_24) g.1 (some (oS g 12 (F12_30 g.1) (A12_23 g.1) V12_23).1) = some (oS g 12 (F12_31 g.1) (A12_24 g.1) V12_24) := by
  have e : (oS g 12 (F12_30 g.1) (A12_23 g.1) V12_23).1 = g.1 + 1 + 23 := by rw [oS_1, a12l_23]
  rw [e]
  exact o_sR (by rw [f12l_30]; decide)
def A12_25 (b : Nat) : List ps_E := A12_24 b ++ [.inl (ps_ak .int, (320, ps_az .int))]
theorem a12l_25 {b : Nat} : (A12_25 b).length = 25 := (List.length_append).trans (by rw [a12l_24]; rfl)
def V12_25 : Nat := V12_24 + 320
theorem t12_56 {g : ps_G} (h8 : 8 ≤ g.1) : q_nA .int (oS g 12 (F12_31 g.1) (A12_24 g.1) V12_24) (320 : Int32) = some (oS g 12 (F12_31 g.1) (A12_25 g.1) V12_25) := by
  exact o_nA (N := 320) (by decide) (by decide)
def F12_32 (b : Nat) : List Value := (F12_31 b).set 49 (.ref (b + 1 + 24))
theorem f12l_32 {b : Nat} : (F12_32 b).length = 94 := (List.length_set).trans f12l_31
theorem t12_57 {g : ps_G} (h8 : 8 ≤ g.1) : q_sR 12 49 (oS g 12 (F12_31 g.1) (A12_25 g.1) V12_25) g.1 (some (oS g 12 (F12_31 g.1) (A12_24 g.1) V12_24).1) = some (oS g 12 (F12_32 g.1) (A12_25 g.1) V12_25) := by
  have e : (oS g 12 (F12_31 g.1) (A12_24 g.1) V12_24).1 = g.1 + 1 + 24 := by rw [oS_1, a12l_24]
  rw [e]
  exact o_sR (by rw [f12l_31]; decide)
def A12_26 (b : Nat) : List ps_E := A12_25 b ++ [.inl (ps_ak .int, (320, ps_az .int))]
theorem a12l_26 {b : Nat} : (A12_26 b).length = 26 := (List.length_append).trans (by rw [a12l_25]; rfl)
def V12_26 : Nat := V12_25 + 320
theorem t12_58 {g : ps_G} (h8 : 8 ≤ g.1) : q_nA .int (oS g 12 (F12_32 g.1) (A12_25 g.1) V12_25) (320 : Int32) = some (oS g 12 (F12_32 g.1) (A12_26 g.1) V12_26) := by
  exact o_nA (N := 320) (by decide) (by decide)
def F12_33 (b : Nat) : List Value := (F12_32 b).set 50 (.ref (b + 1 + 25))
theorem f12l_33 {b : Nat} : (F12_33 b).length = 94 := (List.length_set).trans f12l_32
theorem t12_59 {g : ps_G} (h8 : 8 ≤ g.1) : q_sR 12 50 (oS g 12 (F12_32 g.1) (A12_26 g.1) V12_26) g.1 (some (oS g 12 (F12_32 g.1) (A12_25 g.1) V12_25).1) = some (oS g 12 (F12_33 g.1) (A12_26 g.1) V12_26) := by
  have e : (oS g 12 (F12_32 g.1) (A12_25 g.1) V12_25).1 = g.1 + 1 + 25 := by rw [oS_1, a12l_25]
  rw [e]
  exact o_sR (by rw [f12l_32]; decide)
def A12_27 (b : Nat) : List ps_E := A12_26 b ++ [.inl (ps_ak .int, (320, ps_az .int))]
theorem a12l_27 {b : Nat} : (A12_27 b).length = 27 := (List.length_append).trans (by rw [a12l_26]; rfl)
def V12_27 : Nat := V12_26 + 320
theorem t12_60 {g : ps_G} (h8 : 8 ≤ g.1) : q_nA .int (oS g 12 (F12_33 g.1) (A12_26 g.1) V12_26) (320 : Int32) = some (oS g 12 (F12_33 g.1) (A12_27 g.1) V12_27) := by
  exact o_nA (N := 320) (by decide) (by decide)
def F12_34 (b : Nat) : List Value := (F12_33 b).set 51 (.ref (b + 1 + 26))
theorem f12l_34 {b : Nat} : (F12_34 b).length = 94 := (List.length_set).trans f12l_33
theorem t12_61 {g : ps_G} (h8 : 8 ≤ g.1) : q_sR 12 51 (oS g 12 (F12_33 g.1) (A12_27 g.1) V12_27) g.1 (some (oS g 12 (F12_33 g.1) (A12_26 g.1) V12_26).1) = some (oS g 12 (F12_34 g.1) (A12_27 g.1) V12_27) := by
  have e : (oS g 12 (F12_33 g.1) (A12_26 g.1) V12_26).1 = g.1 + 1 + 26 := by rw [oS_1, a12l_26]
  rw [e]
  exact o_sR (by rw [f12l_33]; decide)
def A12_28 (b : Nat) : List ps_E := A12_27 b ++ [.inl (ps_ak .int, (420, ps_az .int))]
theorem a12l_28 {b : Nat} : (A12_28 b).length = 28 := (List.length_append).trans (by rw [a12l_27]; rfl)
def V12_28 : Nat := V12_27 + 420
theorem t12_62 {g : ps_G} (h8 : 8 ≤ g.1) : q_nA .int (oS g 12 (F12_34 g.1) (A12_27 g.1) V12_27) (420 : Int32) = some (oS g 12 (F12_34 g.1) (A12_28 g.1) V12_28) := by
  exact o_nA (N := 420) (by decide) (by decide)
def F12_35 (b : Nat) : List Value := (F12_34 b).set 53 (.ref (b + 1 + 27))
theorem f12l_35 {b : Nat} : (F12_35 b).length = 94 := (List.length_set).trans f12l_34
theorem t12_63 {g : ps_G} (h8 : 8 ≤ g.1) : q_sR 12 53 (oS g 12 (F12_34 g.1) (A12_28 g.1) V12_28) g.1 (some (oS g 12 (F12_34 g.1) (A12_27 g.1) V12_27).1) = some (oS g 12 (F12_35 g.1) (A12_28 g.1) V12_28) := by
  have e : (oS g 12 (F12_34 g.1) (A12_27 g.1) V12_27).1 = g.1 + 1 + 27 := by rw [oS_1, a12l_27]
  rw [e]
  exact o_sR (by rw [f12l_34]; decide)
def A12_29 (b : Nat) : List ps_E := A12_28 b ++ [.inl (ps_ak .int, (420, ps_az .int))]
theorem a12l_29 {b : Nat} : (A12_29 b).length = 29 := (List.length_append).trans (by rw [a12l_28]; rfl)
def V12_29 : Nat := V12_28 + 420
theorem t12_64 {g : ps_G} (h8 : 8 ≤ g.1) : q_nA .int (oS g 12 (F12_35 g.1) (A12_28 g.1) V12_28) (420 : Int32) = some (oS g 12 (F12_35 g.1) (A12_29 g.1) V12_29) := by
  exact o_nA (N := 420) (by decide) (by decide)
def F12_36 (b : Nat) : List Value := (F12_35 b).set 54 (.ref (b + 1 + 28))
theorem f12l_36 {b : Nat} : (F12_36 b).length = 94 := (List.length_set).trans f12l_35
theorem t12_65 {g : ps_G} (h8 : 8 ≤ g.1) : q_sR 12 54 (oS g 12 (F12_35 g.1) (A12_29 g.1) V12_29) g.1 (some (oS g 12 (F12_35 g.1) (A12_28 g.1) V12_28).1) = some (oS g 12 (F12_36 g.1) (A12_29 g.1) V12_29) := by
  have e : (oS g 12 (F12_35 g.1) (A12_28 g.1) V12_28).1 = g.1 + 1 + 28 := by rw [oS_1, a12l_28]
  rw [e]
  exact o_sR (by rw [f12l_35]; decide)
def A12_30 (b : Nat) : List ps_E := A12_29 b ++ [.inl (ps_ak .int, (420, ps_az .int))]
theorem a12l_30 {b : Nat} : (A12_30 b).length = 30 := (List.length_append).trans (by rw [a12l_29]; rfl)
def V12_30 : Nat := V12_29 + 420
theorem t12_66 {g : ps_G} (h8 : 8 ≤ g.1) : q_nA .int (oS g 12 (F12_36 g.1) (A12_29 g.1) V12_29) (420 : Int32) = some (oS g 12 (F12_36 g.1) (A12_30 g.1) V12_30) := by
  exact o_nA (N := 420) (by decide) (by decide)
def F12_37 (b : Nat) : List Value := (F12_36 b).set 55 (.ref (b + 1 + 29))
theorem f12l_37 {b : Nat} : (F12_37 b).length = 94 := (List.length_set).trans f12l_36
theorem t12_67 {g : ps_G} (h8 : 8 ≤ g.1) : q_sR 12 55 (oS g 12 (F12_36 g.1) (A12_30 g.1) V12_30) g.1 (some (oS g 12 (F12_36 g.1) (A12_29 g.1) V12_29).1) = some (oS g 12 (F12_37 g.1) (A12_30 g.1) V12_30) := by
  have e : (oS g 12 (F12_36 g.1) (A12_29 g.1) V12_29).1 = g.1 + 1 + 29 := by rw [oS_1, a12l_29]
  rw [e]
  exact o_sR (by rw [f12l_36]; decide)
def A12_31 (b : Nat) : List ps_E := A12_30 b ++ [.inl (ps_ak .int, (420, ps_az .int))]
theorem a12l_31 {b : Nat} : (A12_31 b).length = 31 := (List.length_append).trans (by rw [a12l_30]; rfl)
def V12_31 : Nat := V12_30 + 420
theorem t12_68 {g : ps_G} (h8 : 8 ≤ g.1) : q_nA .int (oS g 12 (F12_37 g.1) (A12_30 g.1) V12_30) (420 : Int32) = some (oS g 12 (F12_37 g.1) (A12_31 g.1) V12_31) := by
  exact o_nA (N := 420) (by decide) (by decide)
def F12_38 (b : Nat) : List Value := (F12_37 b).set 56 (.ref (b + 1 + 30))
theorem f12l_38 {b : Nat} : (F12_38 b).length = 94 := (List.length_set).trans f12l_37
theorem t12_69 {g : ps_G} (h8 : 8 ≤ g.1) : q_sR 12 56 (oS g 12 (F12_37 g.1) (A12_31 g.1) V12_31) g.1 (some (oS g 12 (F12_37 g.1) (A12_30 g.1) V12_30).1) = some (oS g 12 (F12_38 g.1) (A12_31 g.1) V12_31) := by
  have e : (oS g 12 (F12_37 g.1) (A12_30 g.1) V12_30).1 = g.1 + 1 + 30 := by rw [oS_1, a12l_30]
  rw [e]
  exact o_sR (by rw [f12l_37]; decide)
def A12_32 (b : Nat) : List ps_E := A12_31 b ++ [.inl (ps_ak .int, (256, ps_az .int))]
theorem a12l_32 {b : Nat} : (A12_32 b).length = 32 := (List.length_append).trans (by rw [a12l_31]; rfl)
def V12_32 : Nat := V12_31 + 256
theorem t12_70 {g : ps_G} (h8 : 8 ≤ g.1) : q_nA .int (oS g 12 (F12_38 g.1) (A12_31 g.1) V12_31) (256 : Int32) = some (oS g 12 (F12_38 g.1) (A12_32 g.1) V12_32) := by
  exact o_nA (N := 256) (by decide) (by decide)
def F12_39 (b : Nat) : List Value := (F12_38 b).set 57 (.ref (b + 1 + 31))
theorem f12l_39 {b : Nat} : (F12_39 b).length = 94 := (List.length_set).trans f12l_38
theorem t12_71 {g : ps_G} (h8 : 8 ≤ g.1) : q_sR 12 57 (oS g 12 (F12_38 g.1) (A12_32 g.1) V12_32) g.1 (some (oS g 12 (F12_38 g.1) (A12_31 g.1) V12_31).1) = some (oS g 12 (F12_39 g.1) (A12_32 g.1) V12_32) := by
  have e : (oS g 12 (F12_38 g.1) (A12_31 g.1) V12_31).1 = g.1 + 1 + 31 := by rw [oS_1, a12l_31]
  rw [e]
  exact o_sR (by rw [f12l_38]; decide)
def A12_33 (b : Nat) : List ps_E := A12_32 b ++ [.inl (ps_ak .int, (256, ps_az .int))]
theorem a12l_33 {b : Nat} : (A12_33 b).length = 33 := (List.length_append).trans (by rw [a12l_32]; rfl)
def V12_33 : Nat := V12_32 + 256
theorem t12_72 {g : ps_G} (h8 : 8 ≤ g.1) : q_nA .int (oS g 12 (F12_39 g.1) (A12_32 g.1) V12_32) (256 : Int32) = some (oS g 12 (F12_39 g.1) (A12_33 g.1) V12_33) := by
  exact o_nA (N := 256) (by decide) (by decide)
def F12_40 (b : Nat) : List Value := (F12_39 b).set 58 (.ref (b + 1 + 32))
theorem f12l_40 {b : Nat} : (F12_40 b).length = 94 := (List.length_set).trans f12l_39
theorem t12_73 {g : ps_G} (h8 : 8 ≤ g.1) : q_sR 12 58 (oS g 12 (F12_39 g.1) (A12_33 g.1) V12_33) g.1 (some (oS g 12 (F12_39 g.1) (A12_32 g.1) V12_32).1) = some (oS g 12 (F12_40 g.1) (A12_33 g.1) V12_33) := by
  have e : (oS g 12 (F12_39 g.1) (A12_32 g.1) V12_32).1 = g.1 + 1 + 32 := by rw [oS_1, a12l_32]
  rw [e]
  exact o_sR (by rw [f12l_39]; decide)
def A12_34 (b : Nat) : List ps_E := A12_33 b ++ [.inl (ps_ak .int, (40, ps_az .int))]
theorem a12l_34 {b : Nat} : (A12_34 b).length = 34 := (List.length_append).trans (by rw [a12l_33]; rfl)
def V12_34 : Nat := V12_33 + 40
theorem t12_74 {g : ps_G} (h8 : 8 ≤ g.1) : q_nA .int (oS g 12 (F12_40 g.1) (A12_33 g.1) V12_33) (40 : Int32) = some (oS g 12 (F12_40 g.1) (A12_34 g.1) V12_34) := by
  exact o_nA (N := 40) (by decide) (by decide)
def F12_41 (b : Nat) : List Value := (F12_40 b).set 59 (.ref (b + 1 + 33))
theorem f12l_41 {b : Nat} : (F12_41 b).length = 94 := (List.length_set).trans f12l_40
theorem t12_75 {g : ps_G} (h8 : 8 ≤ g.1) : q_sR 12 59 (oS g 12 (F12_40 g.1) (A12_34 g.1) V12_34) g.1 (some (oS g 12 (F12_40 g.1) (A12_33 g.1) V12_33).1) = some (oS g 12 (F12_41 g.1) (A12_34 g.1) V12_34) := by
  have e : (oS g 12 (F12_40 g.1) (A12_33 g.1) V12_33).1 = g.1 + 1 + 33 := by rw [oS_1, a12l_33]
  rw [e]
  exact o_sR (by rw [f12l_40]; decide)
def A12_35 (b : Nat) : List ps_E := A12_34 b ++ [.inl (ps_ak .int, (3, ps_az .int))]
theorem a12l_35 {b : Nat} : (A12_35 b).length = 35 := (List.length_append).trans (by rw [a12l_34]; rfl)
def V12_35 : Nat := V12_34 + 3
theorem t12_76 {g : ps_G} (h8 : 8 ≤ g.1) : q_nA .int (oS g 12 (F12_41 g.1) (A12_34 g.1) V12_34) (3 : Int32) = some (oS g 12 (F12_41 g.1) (A12_35 g.1) V12_35) := by
  exact o_nA (N := 3) (by decide) (by decide)
def F12_42 (b : Nat) : List Value := (F12_41 b).set 60 (.ref (b + 1 + 34))
theorem f12l_42 {b : Nat} : (F12_42 b).length = 94 := (List.length_set).trans f12l_41
theorem t12_77 {g : ps_G} (h8 : 8 ≤ g.1) : q_sR 12 60 (oS g 12 (F12_41 g.1) (A12_35 g.1) V12_35) g.1 (some (oS g 12 (F12_41 g.1) (A12_34 g.1) V12_34).1) = some (oS g 12 (F12_42 g.1) (A12_35 g.1) V12_35) := by
  have e : (oS g 12 (F12_41 g.1) (A12_34 g.1) V12_34).1 = g.1 + 1 + 34 := by rw [oS_1, a12l_34]
  rw [e]
  exact o_sR (by rw [f12l_41]; decide)
def A12_36 (b : Nat) : List ps_E := A12_35 b ++ [.inl (ps_ak .int, (576, ps_az .int))]
theorem a12l_36 {b : Nat} : (A12_36 b).length = 36 := (List.length_append).trans (by rw [a12l_35]; rfl)
def V12_36 : Nat := V12_35 + 576
theorem t12_78 {g : ps_G} (h8 : 8 ≤ g.1) : q_nA .int (oS g 12 (F12_42 g.1) (A12_35 g.1) V12_35) (576 : Int32) = some (oS g 12 (F12_42 g.1) (A12_36 g.1) V12_36) := by
  exact o_nA (N := 576) (by decide) (by decide)
def F12_43 (b : Nat) : List Value := (F12_42 b).set 61 (.ref (b + 1 + 35))
theorem f12l_43 {b : Nat} : (F12_43 b).length = 94 := (List.length_set).trans f12l_42
theorem t12_79 {g : ps_G} (h8 : 8 ≤ g.1) : q_sR 12 61 (oS g 12 (F12_42 g.1) (A12_36 g.1) V12_36) g.1 (some (oS g 12 (F12_42 g.1) (A12_35 g.1) V12_35).1) = some (oS g 12 (F12_43 g.1) (A12_36 g.1) V12_36) := by
  have e : (oS g 12 (F12_42 g.1) (A12_35 g.1) V12_35).1 = g.1 + 1 + 35 := by rw [oS_1, a12l_35]
  rw [e]
  exact o_sR (by rw [f12l_42]; decide)
def A12_37 (b : Nat) : List ps_E := A12_36 b ++ [.inl (ps_ak .int, (16, ps_az .int))]
theorem a12l_37 {b : Nat} : (A12_37 b).length = 37 := (List.length_append).trans (by rw [a12l_36]; rfl)
def V12_37 : Nat := V12_36 + 16
theorem t12_80 {g : ps_G} (h8 : 8 ≤ g.1) : q_nA .int (oS g 12 (F12_43 g.1) (A12_36 g.1) V12_36) (16 : Int32) = some (oS g 12 (F12_43 g.1) (A12_37 g.1) V12_37) := by
  exact o_nA (N := 16) (by decide) (by decide)
def F12_44 (b : Nat) : List Value := (F12_43 b).set 62 (.ref (b + 1 + 36))
theorem f12l_44 {b : Nat} : (F12_44 b).length = 94 := (List.length_set).trans f12l_43
theorem t12_81 {g : ps_G} (h8 : 8 ≤ g.1) : q_sR 12 62 (oS g 12 (F12_43 g.1) (A12_37 g.1) V12_37) g.1 (some (oS g 12 (F12_43 g.1) (A12_36 g.1) V12_36).1) = some (oS g 12 (F12_44 g.1) (A12_37 g.1) V12_37) := by
  have e : (oS g 12 (F12_43 g.1) (A12_36 g.1) V12_36).1 = g.1 + 1 + 36 := by rw [oS_1, a12l_36]
  rw [e]
  exact o_sR (by rw [f12l_43]; decide)
def A12_38 (b : Nat) : List ps_E := A12_37 b ++ [.inl (ps_ak .int, (16, ps_az .int))]
theorem a12l_38 {b : Nat} : (A12_38 b).length = 38 := (List.length_append).trans (by rw [a12l_37]; rfl)
def V12_38 : Nat := V12_37 + 16
theorem t12_82 {g : ps_G} (h8 : 8 ≤ g.1) : q_nA .int (oS g 12 (F12_44 g.1) (A12_37 g.1) V12_37) (16 : Int32) = some (oS g 12 (F12_44 g.1) (A12_38 g.1) V12_38) := by
  exact o_nA (N := 16) (by decide) (by decide)
def F12_45 (b : Nat) : List Value := (F12_44 b).set 63 (.ref (b + 1 + 37))
theorem f12l_45 {b : Nat} : (F12_45 b).length = 94 := (List.length_set).trans f12l_44
theorem t12_83 {g : ps_G} (h8 : 8 ≤ g.1) : q_sR 12 63 (oS g 12 (F12_44 g.1) (A12_38 g.1) V12_38) g.1 (some (oS g 12 (F12_44 g.1) (A12_37 g.1) V12_37).1) = some (oS g 12 (F12_45 g.1) (A12_38 g.1) V12_38) := by
  have e : (oS g 12 (F12_44 g.1) (A12_37 g.1) V12_37).1 = g.1 + 1 + 37 := by rw [oS_1, a12l_37]
  rw [e]
  exact o_sR (by rw [f12l_44]; decide)
def A12_39 (b : Nat) : List ps_E := A12_38 b ++ [.inl (ps_ak .int, (16, ps_az .int))]
theorem a12l_39 {b : Nat} : (A12_39 b).length = 39 := (List.length_append).trans (by rw [a12l_38]; rfl)
def V12_39 : Nat := V12_38 + 16
theorem t12_84 {g : ps_G} (h8 : 8 ≤ g.1) : q_nA .int (oS g 12 (F12_45 g.1) (A12_38 g.1) V12_38) (16 : Int32) = some (oS g 12 (F12_45 g.1) (A12_39 g.1) V12_39) := by
  exact o_nA (N := 16) (by decide) (by decide)
def F12_46 (b : Nat) : List Value := (F12_45 b).set 64 (.ref (b + 1 + 38))
theorem f12l_46 {b : Nat} : (F12_46 b).length = 94 := (List.length_set).trans f12l_45
theorem t12_85 {g : ps_G} (h8 : 8 ≤ g.1) : q_sR 12 64 (oS g 12 (F12_45 g.1) (A12_39 g.1) V12_39) g.1 (some (oS g 12 (F12_45 g.1) (A12_38 g.1) V12_38).1) = some (oS g 12 (F12_46 g.1) (A12_39 g.1) V12_39) := by
  have e : (oS g 12 (F12_45 g.1) (A12_38 g.1) V12_38).1 = g.1 + 1 + 38 := by rw [oS_1, a12l_38]
  rw [e]
  exact o_sR (by rw [f12l_45]; decide)
def A12_40 (b : Nat) : List ps_E := A12_39 b ++ [.inl (ps_ak .int, (1728, ps_az .int))]
theorem a12l_40 {b : Nat} : (A12_40 b).length = 40 := (List.length_append).trans (by rw [a12l_39]; rfl)
def V12_40 : Nat := V12_39 + 1728
theorem t12_86 {g : ps_G} (h8 : 8 ≤ g.1) : q_nA .int (oS g 12 (F12_46 g.1) (A12_39 g.1) V12_39) (1728 : Int32) = some (oS g 12 (F12_46 g.1) (A12_40 g.1) V12_40) := by
  exact o_nA (N := 1728) (by decide) (by decide)
def F12_47 (b : Nat) : List Value := (F12_46 b).set 65 (.ref (b + 1 + 39))
theorem f12l_47 {b : Nat} : (F12_47 b).length = 94 := (List.length_set).trans f12l_46
theorem t12_87 {g : ps_G} (h8 : 8 ≤ g.1) : q_sR 12 65 (oS g 12 (F12_46 g.1) (A12_40 g.1) V12_40) g.1 (some (oS g 12 (F12_46 g.1) (A12_39 g.1) V12_39).1) = some (oS g 12 (F12_47 g.1) (A12_40 g.1) V12_40) := by
  have e : (oS g 12 (F12_46 g.1) (A12_39 g.1) V12_39).1 = g.1 + 1 + 39 := by rw [oS_1, a12l_39]
  rw [e]
  exact o_sR (by rw [f12l_46]; decide)
theorem p12_1 {g : ps_G} (h8 : 8 ≤ g.1) : jX12_init_192 (oS g 12 (F12_23 g.1) (A12_19 g.1) V12_19) g.1 = jX12_init_390 (oS g 12 (F12_47 g.1) (A12_40 g.1) V12_40) g.1 := by
  unfold jX12_init_192
  rw [t12_43 h8, ob_n, t12_44 h8, ob_n, t12_45 h8, ob_n, t12_46 h8, ob_n, t12_47 h8, ob_n, t12_48 h8, ob_n, t12_49 h8, ob_n, t12_50 h8, ob_n, t12_51 h8, ob_n, t12_52 h8, ob_n, t12_53 h8, ob_n, t12_54 h8, ob_n, t12_55 h8, ob_n, t12_56 h8, ob_n, t12_57 h8, ob_n, t12_58 h8, ob_n, t12_59 h8, ob_n, t12_60 h8, ob_n, t12_61 h8, ob_n, t12_62 h8, ob_n, t12_63 h8, ob_n, t12_64 h8, ob_n, t12_65 h8, ob_n, t12_66 h8, ob_n, t12_67 h8, ob_n, t12_68 h8, ob_n, t12_69 h8, ob_n, t12_70 h8, ob_n, t12_71 h8, ob_n, t12_72 h8, ob_n, t12_73 h8, ob_n, t12_74 h8, ob_n, t12_75 h8, ob_n, t12_76 h8, ob_n, t12_77 h8, ob_n, t12_78 h8, ob_n, t12_79 h8, ob_n, t12_80 h8, ob_n, t12_81 h8, ob_n, t12_82 h8, ob_n, t12_83 h8, ob_n, t12_84 h8, ob_n, t12_85 h8, ob_n, t12_86 h8, ob_n, t12_87 h8, ob_n]
def A12_41 (b : Nat) : List ps_E := A12_40 b ++ [.inl (ps_ak .int, (4, ps_az .int))]
theorem a12l_41 {b : Nat} : (A12_41 b).length = 41 := (List.length_append).trans (by rw [a12l_40]; rfl)
def V12_41 : Nat := V12_40 + 4
theorem t12_88 {g : ps_G} (h8 : 8 ≤ g.1) : q_nA .int (oS g 12 (F12_47 g.1) (A12_40 g.1) V12_40) (4 : Int32) = some (oS g 12 (F12_47 g.1) (A12_41 g.1) V12_41) := by
  exact o_nA (N := 4) (by decide) (by decide)
def F12_48 (b : Nat) : List Value := (F12_47 b).set 66 (.ref (b + 1 + 40))
theorem f12l_48 {b : Nat} : (F12_48 b).length = 94 := (List.length_set).trans f12l_47
theorem t12_89 {g : ps_G} (h8 : 8 ≤ g.1) : q_sR 12 66 (oS g 12 (F12_47 g.1) (A12_41 g.1) V12_41) g.1 (some (oS g 12 (F12_47 g.1) (A12_40 g.1) V12_40).1) = some (oS g 12 (F12_48 g.1) (A12_41 g.1) V12_41) := by
  have e : (oS g 12 (F12_47 g.1) (A12_40 g.1) V12_40).1 = g.1 + 1 + 40 := by rw [oS_1, a12l_40]
  rw [e]
  exact o_sR (by rw [f12l_47]; decide)
def A12_42 (b : Nat) : List ps_E := A12_41 b ++ [.inl (ps_ak .int, (576, ps_az .int))]
theorem a12l_42 {b : Nat} : (A12_42 b).length = 42 := (List.length_append).trans (by rw [a12l_41]; rfl)
def V12_42 : Nat := V12_41 + 576
theorem t12_90 {g : ps_G} (h8 : 8 ≤ g.1) : q_nA .int (oS g 12 (F12_48 g.1) (A12_41 g.1) V12_41) (576 : Int32) = some (oS g 12 (F12_48 g.1) (A12_42 g.1) V12_42) := by
  exact o_nA (N := 576) (by decide) (by decide)
def F12_49 (b : Nat) : List Value := (F12_48 b).set 67 (.ref (b + 1 + 41))
theorem f12l_49 {b : Nat} : (F12_49 b).length = 94 := (List.length_set).trans f12l_48
theorem t12_91 {g : ps_G} (h8 : 8 ≤ g.1) : q_sR 12 67 (oS g 12 (F12_48 g.1) (A12_42 g.1) V12_42) g.1 (some (oS g 12 (F12_48 g.1) (A12_41 g.1) V12_41).1) = some (oS g 12 (F12_49 g.1) (A12_42 g.1) V12_42) := by
  have e : (oS g 12 (F12_48 g.1) (A12_41 g.1) V12_41).1 = g.1 + 1 + 41 := by rw [oS_1, a12l_41]
  rw [e]
  exact o_sR (by rw [f12l_48]; decide)
theorem t12_92 {g : ps_G} (h8 : 8 ≤ g.1) : q_nA .int (oS g 12 (F12_49 g.1) (A12_42 g.1) V12_42) (29 : Int32) = some (oS g 12 (F12_49 g.1) (A12_42 g.1 ++ [.inl (0, (29, .inl (fun _ => 0)))]) (V12_42 + 29)) := by
  exact o_nA (N := 29) (by decide) (by decide)
theorem t12_93 {g : ps_G} (h8 : 8 ≤ g.1) : q_wI (oS g 12 (F12_49 g.1) (A12_42 g.1 ++ [.inl (0, (29, .inl (fun _ => 0)))]) (V12_42 + 29)) (oS g 12 (F12_49 g.1) (A12_42 g.1) V12_42).1 (0 : Int32) (3 : Int32) = some (oS g 12 (F12_49 g.1) (A12_42 g.1 ++ [.inl (0, (29, .inl (upd (fun _ => 0) 0 3)))]) (V12_42 + 29)) := by
  exact o_wIl (X := 0) (by decide) (by decide) (by decide) h8
theorem t12_94 {g : ps_G} (h8 : 8 ≤ g.1) : q_wI (oS g 12 (F12_49 g.1) (A12_42 g.1 ++ [.inl (0, (29, .inl (upd (fun _ => 0) 0 3)))]) (V12_42 + 29)) (oS g 12 (F12_49 g.1) (A12_42 g.1) V12_42).1 (1 : Int32) (4 : Int32) = some (oS g 12 (F12_49 g.1) (A12_42 g.1 ++ [.inl (0, (29, .inl (upd (upd (fun _ => 0) 0 3) 1 4)))]) (V12_42 + 29)) := by
  exact o_wIl (X := 1) (by decide) (by decide) (by decide) h8
theorem t12_95 {g : ps_G} (h8 : 8 ≤ g.1) : q_wI (oS g 12 (F12_49 g.1) (A12_42 g.1 ++ [.inl (0, (29, .inl (upd (upd (fun _ => 0) 0 3) 1 4)))]) (V12_42 + 29)) (oS g 12 (F12_49 g.1) (A12_42 g.1) V12_42).1 (2 : Int32) (5 : Int32) = some (oS g 12 (F12_49 g.1) (A12_42 g.1 ++ [.inl (0, (29, .inl (upd (upd (upd (fun _ => 0) 0 3) 1 4) 2 5)))]) (V12_42 + 29)) := by
  exact o_wIl (X := 2) (by decide) (by decide) (by decide) h8
theorem t12_96 {g : ps_G} (h8 : 8 ≤ g.1) : q_wI (oS g 12 (F12_49 g.1) (A12_42 g.1 ++ [.inl (0, (29, .inl (upd (upd (upd (fun _ => 0) 0 3) 1 4) 2 5)))]) (V12_42 + 29)) (oS g 12 (F12_49 g.1) (A12_42 g.1) V12_42).1 (3 : Int32) (6 : Int32) = some (oS g 12 (F12_49 g.1) (A12_42 g.1 ++ [.inl (0, (29, .inl (upd (upd (upd (upd (fun _ => 0) 0 3) 1 4) 2 5) 3 6)))]) (V12_42 + 29)) := by
  exact o_wIl (X := 3) (by decide) (by decide) (by decide) h8
theorem t12_97 {g : ps_G} (h8 : 8 ≤ g.1) : q_wI (oS g 12 (F12_49 g.1) (A12_42 g.1 ++ [.inl (0, (29, .inl (upd (upd (upd (upd (fun _ => 0) 0 3) 1 4) 2 5) 3 6)))]) (V12_42 + 29)) (oS g 12 (F12_49 g.1) (A12_42 g.1) V12_42).1 (4 : Int32) (7 : Int32) = some (oS g 12 (F12_49 g.1) (A12_42 g.1 ++ [.inl (0, (29, .inl (upd (upd (upd (upd (upd (fun _ => 0) 0 3) 1 4) 2 5) 3 6) 4 7)))]) (V12_42 + 29)) := by
  exact o_wIl (X := 4) (by decide) (by decide) (by decide) h8
theorem t12_98 {g : ps_G} (h8 : 8 ≤ g.1) : q_wI (oS g 12 (F12_49 g.1) (A12_42 g.1 ++ [.inl (0, (29, .inl (upd (upd (upd (upd (upd (fun _ => 0) 0 3) 1 4) 2 5) 3 6) 4 7)))]) (V12_42 + 29)) (oS g 12 (F12_49 g.1) (A12_42 g.1) V12_42).1 (5 : Int32) (8 : Int32) = some (oS g 12 (F12_49 g.1) (A12_42 g.1 ++ [.inl (0, (29, .inl (upd (upd (upd (upd (upd (upd (fun _ => 0) 0 3) 1 4) 2 5) 3 6) 4 7) 5 8)))]) (V12_42 + 29)) := by
  exact o_wIl (X := 5) (by decide) (by decide) (by decide) h8
theorem t12_99 {g : ps_G} (h8 : 8 ≤ g.1) : q_wI (oS g 12 (F12_49 g.1) (A12_42 g.1 ++ [.inl (0, (29, .inl (upd (upd (upd (upd (upd (upd (fun _ => 0) 0 3) 1 4) 2 5) 3 6) 4 7) 5 8)))]) (V12_42 + 29)) (oS g 12 (F12_49 g.1) (A12_42 g.1) V12_42).1 (6 : Int32) (9 : Int32) = some (oS g 12 (F12_49 g.1) (A12_42 g.1 ++ [.inl (0, (29, .inl (upd (upd (upd (upd (upd (upd (upd (fun _ => 0) 0 3) 1 4) 2 5) 3 6) 4 7) 5 8) 6 9)))]) (V12_42 + 29)) := by
  exact o_wIl (X := 6) (by decide) (by decide) (by decide) h8
theorem t12_100 {g : ps_G} (h8 : 8 ≤ g.1) : q_wI (oS g 12 (F12_49 g.1) (A12_42 g.1 ++ [.inl (0, (29, .inl (upd (upd (upd (upd (upd (upd (upd (fun _ => 0) 0 3) 1 4) 2 5) 3 6) 4 7) 5 8) 6 9)))]) (V12_42 + 29)) (oS g 12 (F12_49 g.1) (A12_42 g.1) V12_42).1 (7 : Int32) (10 : Int32) = some (oS g 12 (F12_49 g.1) (A12_42 g.1 ++ [.inl (0, (29, .inl (upd (upd (upd (upd (upd (upd (upd (upd (fun _ => 0) 0 3) 1 4) 2 5) 3 6) 4 7) 5 8) 6 9) 7 10)))]) (V12_42 + 29)) := by
  exact o_wIl (X := 7) (by decide) (by decide) (by decide) h8
theorem t12_101 {g : ps_G} (h8 : 8 ≤ g.1) : q_wI (oS g 12 (F12_49 g.1) (A12_42 g.1 ++ [.inl (0, (29, .inl (upd (upd (upd (upd (upd (upd (upd (upd (fun _ => 0) 0 3) 1 4) 2 5) 3 6) 4 7) 5 8) 6 9) 7 10)))]) (V12_42 + 29)) (oS g 12 (F12_49 g.1) (A12_42 g.1) V12_42).1 (8 : Int32) (11 : Int32) = some (oS g 12 (F12_49 g.1) (A12_42 g.1 ++ [.inl (0, (29, .inl (upd (upd (upd (upd (upd (upd (upd (upd (upd (fun _ => 0) 0 3) 1 4) 2 5) 3 6) 4 7) 5 8) 6 9) 7 10) 8 11)))]) (V12_42 + 29)) := by
  exact o_wIl (X := 8) (by decide) (by decide) (by decide) h8
theorem t12_102 {g : ps_G} (h8 : 8 ≤ g.1) : q_wI (oS g 12 (F12_49 g.1) (A12_42 g.1 ++ [.inl (0, (29, .inl (upd (upd (upd (upd (upd (upd (upd (upd (upd (fun _ => 0) 0 3) 1 4) 2 5) 3 6) 4 7) 5 8) 6 9) 7 10) 8 11)))]) (V12_42 + 29)) (oS g 12 (F12_49 g.1) (A12_42 g.1) V12_42).1 (9 : Int32) (13 : Int32) = some (oS g 12 (F12_49 g.1) (A12_42 g.1 ++ [.inl (0, (29, .inl (upd (upd (upd (upd (upd (upd (upd (upd (upd (upd (fun _ => 0) 0 3) 1 4) 2 5) 3 6) 4 7) 5 8) 6 9) 7 10) 8 11) 9 13)))]) (V12_42 + 29)) := by
  exact o_wIl (X := 9) (by decide) (by decide) (by decide) h8
theorem t12_103 {g : ps_G} (h8 : 8 ≤ g.1) : q_wI (oS g 12 (F12_49 g.1) (A12_42 g.1 ++ [.inl (0, (29, .inl (upd (upd (upd (upd (upd (upd (upd (upd (upd (upd (fun _ => 0) 0 3) 1 4) 2 5) 3 6) 4 7) 5 8) 6 9) 7 10) 8 11) 9 13)))]) (V12_42 + 29)) (oS g 12 (F12_49 g.1) (A12_42 g.1) V12_42).1 (10 : Int32) (15 : Int32) = some (oS g 12 (F12_49 g.1) (A12_42 g.1 ++ [.inl (0, (29, .inl (upd (upd (upd (upd (upd (upd (upd (upd (upd (upd (upd (fun _ => 0) 0 3) 1 4) 2 5) 3 6) 4 7) 5 8) 6 9) 7 10) 8 11) 9 13) 10 15)))]) (V12_42 + 29)) := by
  exact o_wIl (X := 10) (by decide) (by decide) (by decide) h8
theorem t12_104 {g : ps_G} (h8 : 8 ≤ g.1) : q_wI (oS g 12 (F12_49 g.1) (A12_42 g.1 ++ [.inl (0, (29, .inl (upd (upd (upd (upd (upd (upd (upd (upd (upd (upd (upd (fun _ => 0) 0 3) 1 4) 2 5) 3 6) 4 7) 5 8) 6 9) 7 10) 8 11) 9 13) 10 15)))]) (V12_42 + 29)) (oS g 12 (F12_49 g.1) (A12_42 g.1) V12_42).1 (11 : Int32) (17 : Int32) = some (oS g 12 (F12_49 g.1) (A12_42 g.1 ++ [.inl (0, (29, .inl (upd (upd (upd (upd (upd (upd (upd (upd (upd (upd (upd (upd (fun _ => 0) 0 3) 1 4) 2 5) 3 6) 4 7) 5 8) 6 9) 7 10) 8 11) 9 13) 10 15) 11 17)))]) (V12_42 + 29)) := by
  exact o_wIl (X := 11) (by decide) (by decide) (by decide) h8
theorem t12_105 {g : ps_G} (h8 : 8 ≤ g.1) : q_wI (oS g 12 (F12_49 g.1) (A12_42 g.1 ++ [.inl (0, (29, .inl (upd (upd (upd (upd (upd (upd (upd (upd (upd (upd (upd (upd (fun _ => 0) 0 3) 1 4) 2 5) 3 6) 4 7) 5 8) 6 9) 7 10) 8 11) 9 13) 10 15) 11 17)))]) (V12_42 + 29)) (oS g 12 (F12_49 g.1) (A12_42 g.1) V12_42).1 (12 : Int32) (19 : Int32) = some (oS g 12 (F12_49 g.1) (A12_42 g.1 ++ [.inl (0, (29, .inl (upd (upd (upd (upd (upd (upd (upd (upd (upd (upd (upd (upd (upd (fun _ => 0) 0 3) 1 4) 2 5) 3 6) 4 7) 5 8) 6 9) 7 10) 8 11) 9 13) 10 15) 11 17) 12 19)))]) (V12_42 + 29)) := by
  exact o_wIl (X := 12) (by decide) (by decide) (by decide) h8
theorem t12_106 {g : ps_G} (h8 : 8 ≤ g.1) : q_wI (oS g 12 (F12_49 g.1) (A12_42 g.1 ++ [.inl (0, (29, .inl (upd (upd (upd (upd (upd (upd (upd (upd (upd (upd (upd (upd (upd (fun _ => 0) 0 3) 1 4) 2 5) 3 6) 4 7) 5 8) 6 9) 7 10) 8 11) 9 13) 10 15) 11 17) 12 19)))]) (V12_42 + 29)) (oS g 12 (F12_49 g.1) (A12_42 g.1) V12_42).1 (13 : Int32) (23 : Int32) = some (oS g 12 (F12_49 g.1) (A12_42 g.1 ++ [.inl (0, (29, .inl (upd (upd (upd (upd (upd (upd (upd (upd (upd (upd (upd (upd (upd (upd (fun _ => 0) 0 3) 1 4) 2 5) 3 6) 4 7) 5 8) 6 9) 7 10) 8 11) 9 13) 10 15) 11 17) 12 19) 13 23)))]) (V12_42 + 29)) := by
  exact o_wIl (X := 13) (by decide) (by decide) (by decide) h8
theorem t12_107 {g : ps_G} (h8 : 8 ≤ g.1) : q_wI (oS g 12 (F12_49 g.1) (A12_42 g.1 ++ [.inl (0, (29, .inl (upd (upd (upd (upd (upd (upd (upd (upd (upd (upd (upd (upd (upd (upd (fun _ => 0) 0 3) 1 4) 2 5) 3 6) 4 7) 5 8) 6 9) 7 10) 8 11) 9 13) 10 15) 11 17) 12 19) 13 23)))]) (V12_42 + 29)) (oS g 12 (F12_49 g.1) (A12_42 g.1) V12_42).1 (14 : Int32) (27 : Int32) = some (oS g 12 (F12_49 g.1) (A12_42 g.1 ++ [.inl (0, (29, .inl (upd (upd (upd (upd (upd (upd (upd (upd (upd (upd (upd (upd (upd (upd (upd (fun _ => 0) 0 3) 1 4) 2 5) 3 6) 4 7) 5 8) 6 9) 7 10) 8 11) 9 13) 10 15) 11 17) 12 19) 13 23) 14 27)))]) (V12_42 + 29)) := by
  exact o_wIl (X := 14) (by decide) (by decide) (by decide) h8
theorem t12_108 {g : ps_G} (h8 : 8 ≤ g.1) : q_wI (oS g 12 (F12_49 g.1) (A12_42 g.1 ++ [.inl (0, (29, .inl (upd (upd (upd (upd (upd (upd (upd (upd (upd (upd (upd (upd (upd (upd (upd (fun _ => 0) 0 3) 1 4) 2 5) 3 6) 4 7) 5 8) 6 9) 7 10) 8 11) 9 13) 10 15) 11 17) 12 19) 13 23) 14 27)))]) (V12_42 + 29)) (oS g 12 (F12_49 g.1) (A12_42 g.1) V12_42).1 (15 : Int32) (31 : Int32) = some (oS g 12 (F12_49 g.1) (A12_42 g.1 ++ [.inl (0, (29, .inl (upd (upd (upd (upd (upd (upd (upd (upd (upd (upd (upd (upd (upd (upd (upd (upd (fun _ => 0) 0 3) 1 4) 2 5) 3 6) 4 7) 5 8) 6 9) 7 10) 8 11) 9 13) 10 15) 11 17) 12 19) 13 23) 14 27) 15 31)))]) (V12_42 + 29)) := by
  exact o_wIl (X := 15) (by decide) (by decide) (by decide) h8
theorem t12_109 {g : ps_G} (h8 : 8 ≤ g.1) : q_wI (oS g 12 (F12_49 g.1) (A12_42 g.1 ++ [.inl (0, (29, .inl (upd (upd (upd (upd (upd (upd (upd (upd (upd (upd (upd (upd (upd (upd (upd (upd (fun _ => 0) 0 3) 1 4) 2 5) 3 6) 4 7) 5 8) 6 9) 7 10) 8 11) 9 13) 10 15) 11 17) 12 19) 13 23) 14 27) 15 31)))]) (V12_42 + 29)) (oS g 12 (F12_49 g.1) (A12_42 g.1) V12_42).1 (16 : Int32) (35 : Int32) = some (oS g 12 (F12_49 g.1) (A12_42 g.1 ++ [.inl (0, (29, .inl (upd (upd (upd (upd (upd (upd (upd (upd (upd (upd (upd (upd (upd (upd (upd (upd (upd (fun _ => 0) 0 3) 1 4) 2 5) 3 6) 4 7) 5 8) 6 9) 7 10) 8 11) 9 13) 10 15) 11 17) 12 19) 13 23) 14 27) 15 31) 16 35)))]) (V12_42 + 29)) := by
  exact o_wIl (X := 16) (by decide) (by decide) (by decide) h8
theorem t12_110 {g : ps_G} (h8 : 8 ≤ g.1) : q_wI (oS g 12 (F12_49 g.1) (A12_42 g.1 ++ [.inl (0, (29, .inl (upd (upd (upd (upd (upd (upd (upd (upd (upd (upd (upd (upd (upd (upd (upd (upd (upd (fun _ => 0) 0 3) 1 4) 2 5) 3 6) 4 7) 5 8) 6 9) 7 10) 8 11) 9 13) 10 15) 11 17) 12 19) 13 23) 14 27) 15 31) 16 35)))]) (V12_42 + 29)) (oS g 12 (F12_49 g.1) (A12_42 g.1) V12_42).1 (17 : Int32) (43 : Int32) = some (oS g 12 (F12_49 g.1) (A12_42 g.1 ++ [.inl (0, (29, .inl (upd (upd (upd (upd (upd (upd (upd (upd (upd (upd (upd (upd (upd (upd (upd (upd (upd (upd (fun _ => 0) 0 3) 1 4) 2 5) 3 6) 4 7) 5 8) 6 9) 7 10) 8 11) 9 13) 10 15) 11 17) 12 19) 13 23) 14 27) 15 31) 16 35) 17 43)))]) (V12_42 + 29)) := by
  exact o_wIl (X := 17) (by decide) (by decide) (by decide) h8
theorem t12_111 {g : ps_G} (h8 : 8 ≤ g.1) : q_wI (oS g 12 (F12_49 g.1) (A12_42 g.1 ++ [.inl (0, (29, .inl (upd (upd (upd (upd (upd (upd (upd (upd (upd (upd (upd (upd (upd (upd (upd (upd (upd (upd (fun _ => 0) 0 3) 1 4) 2 5) 3 6) 4 7) 5 8) 6 9) 7 10) 8 11) 9 13) 10 15) 11 17) 12 19) 13 23) 14 27) 15 31) 16 35) 17 43)))]) (V12_42 + 29)) (oS g 12 (F12_49 g.1) (A12_42 g.1) V12_42).1 (18 : Int32) (51 : Int32) = some (oS g 12 (F12_49 g.1) (A12_42 g.1 ++ [.inl (0, (29, .inl (upd (upd (upd (upd (upd (upd (upd (upd (upd (upd (upd (upd (upd (upd (upd (upd (upd (upd (upd (fun _ => 0) 0 3) 1 4) 2 5) 3 6) 4 7) 5 8) 6 9) 7 10) 8 11) 9 13) 10 15) 11 17) 12 19) 13 23) 14 27) 15 31) 16 35) 17 43) 18 51)))]) (V12_42 + 29)) := by
  exact o_wIl (X := 18) (by decide) (by decide) (by decide) h8
theorem t12_112 {g : ps_G} (h8 : 8 ≤ g.1) : q_wI (oS g 12 (F12_49 g.1) (A12_42 g.1 ++ [.inl (0, (29, .inl (upd (upd (upd (upd (upd (upd (upd (upd (upd (upd (upd (upd (upd (upd (upd (upd (upd (upd (upd (fun _ => 0) 0 3) 1 4) 2 5) 3 6) 4 7) 5 8) 6 9) 7 10) 8 11) 9 13) 10 15) 11 17) 12 19) 13 23) 14 27) 15 31) 16 35) 17 43) 18 51)))]) (V12_42 + 29)) (oS g 12 (F12_49 g.1) (A12_42 g.1) V12_42).1 (19 : Int32) (59 : Int32) = some (oS g 12 (F12_49 g.1) (A12_42 g.1 ++ [.inl (0, (29, .inl (upd (upd (upd (upd (upd (upd (upd (upd (upd (upd (upd (upd (upd (upd (upd (upd (upd (upd (upd (upd (fun _ => 0) 0 3) 1 4) 2 5) 3 6) 4 7) 5 8) 6 9) 7 10) 8 11) 9 13) 10 15) 11 17) 12 19) 13 23) 14 27) 15 31) 16 35) 17 43) 18 51) 19 59)))]) (V12_42 + 29)) := by
  exact o_wIl (X := 19) (by decide) (by decide) (by decide) h8
theorem t12_113 {g : ps_G} (h8 : 8 ≤ g.1) : q_wI (oS g 12 (F12_49 g.1) (A12_42 g.1 ++ [.inl (0, (29, .inl (upd (upd (upd (upd (upd (upd (upd (upd (upd (upd (upd (upd (upd (upd (upd (upd (upd (upd (upd (upd (fun _ => 0) 0 3) 1 4) 2 5) 3 6) 4 7) 5 8) 6 9) 7 10) 8 11) 9 13) 10 15) 11 17) 12 19) 13 23) 14 27) 15 31) 16 35) 17 43) 18 51) 19 59)))]) (V12_42 + 29)) (oS g 12 (F12_49 g.1) (A12_42 g.1) V12_42).1 (20 : Int32) (67 : Int32) = some (oS g 12 (F12_49 g.1) (A12_42 g.1 ++ [.inl (0, (29, .inl (upd (upd (upd (upd (upd (upd (upd (upd (upd (upd (upd (upd (upd (upd (upd (upd (upd (upd (upd (upd (upd (fun _ => 0) 0 3) 1 4) 2 5) 3 6) 4 7) 5 8) 6 9) 7 10) 8 11) 9 13) 10 15) 11 17) 12 19) 13 23) 14 27) 15 31) 16 35) 17 43) 18 51) 19 59) 20 67)))]) (V12_42 + 29)) := by
  exact o_wIl (X := 20) (by decide) (by decide) (by decide) h8
theorem t12_114 {g : ps_G} (h8 : 8 ≤ g.1) : q_wI (oS g 12 (F12_49 g.1) (A12_42 g.1 ++ [.inl (0, (29, .inl (upd (upd (upd (upd (upd (upd (upd (upd (upd (upd (upd (upd (upd (upd (upd (upd (upd (upd (upd (upd (upd (fun _ => 0) 0 3) 1 4) 2 5) 3 6) 4 7) 5 8) 6 9) 7 10) 8 11) 9 13) 10 15) 11 17) 12 19) 13 23) 14 27) 15 31) 16 35) 17 43) 18 51) 19 59) 20 67)))]) (V12_42 + 29)) (oS g 12 (F12_49 g.1) (A12_42 g.1) V12_42).1 (21 : Int32) (83 : Int32) = some (oS g 12 (F12_49 g.1) (A12_42 g.1 ++ [.inl (0, (29, .inl (upd (upd (upd (upd (upd (upd (upd (upd (upd (upd (upd (upd (upd (upd (upd (upd (upd (upd (upd (upd (upd (upd (fun _ => 0) 0 3) 1 4) 2 5) 3 6) 4 7) 5 8) 6 9) 7 10) 8 11) 9 13) 10 15) 11 17) 12 19) 13 23) 14 27) 15 31) 16 35) 17 43) 18 51) 19 59) 20 67) 21 83)))]) (V12_42 + 29)) := by
  exact o_wIl (X := 21) (by decide) (by decide) (by decide) h8
theorem t12_115 {g : ps_G} (h8 : 8 ≤ g.1) : q_wI (oS g 12 (F12_49 g.1) (A12_42 g.1 ++ [.inl (0, (29, .inl (upd (upd (upd (upd (upd (upd (upd (upd (upd (upd (upd (upd (upd (upd (upd (upd (upd (upd (upd (upd (upd (upd (fun _ => 0) 0 3) 1 4) 2 5) 3 6) 4 7) 5 8) 6 9) 7 10) 8 11) 9 13) 10 15) 11 17) 12 19) 13 23) 14 27) 15 31) 16 35) 17 43) 18 51) 19 59) 20 67) 21 83)))]) (V12_42 + 29)) (oS g 12 (F12_49 g.1) (A12_42 g.1) V12_42).1 (22 : Int32) (99 : Int32) = some (oS g 12 (F12_49 g.1) (A12_42 g.1 ++ [.inl (0, (29, .inl (upd (upd (upd (upd (upd (upd (upd (upd (upd (upd (upd (upd (upd (upd (upd (upd (upd (upd (upd (upd (upd (upd (upd (fun _ => 0) 0 3) 1 4) 2 5) 3 6) 4 7) 5 8) 6 9) 7 10) 8 11) 9 13) 10 15) 11 17) 12 19) 13 23) 14 27) 15 31) 16 35) 17 43) 18 51) 19 59) 20 67) 21 83) 22 99)))]) (V12_42 + 29)) := by
  exact o_wIl (X := 22) (by decide) (by decide) (by decide) h8
theorem t12_116 {g : ps_G} (h8 : 8 ≤ g.1) : q_wI (oS g 12 (F12_49 g.1) (A12_42 g.1 ++ [.inl (0, (29, .inl (upd (upd (upd (upd (upd (upd (upd (upd (upd (upd (upd (upd (upd (upd (upd (upd (upd (upd (upd (upd (upd (upd (upd (fun _ => 0) 0 3) 1 4) 2 5) 3 6) 4 7) 5 8) 6 9) 7 10) 8 11) 9 13) 10 15) 11 17) 12 19) 13 23) 14 27) 15 31) 16 35) 17 43) 18 51) 19 59) 20 67) 21 83) 22 99)))]) (V12_42 + 29)) (oS g 12 (F12_49 g.1) (A12_42 g.1) V12_42).1 (23 : Int32) (115 : Int32) = some (oS g 12 (F12_49 g.1) (A12_42 g.1 ++ [.inl (0, (29, .inl (upd (upd (upd (upd (upd (upd (upd (upd (upd (upd (upd (upd (upd (upd (upd (upd (upd (upd (upd (upd (upd (upd (upd (upd (fun _ => 0) 0 3) 1 4) 2 5) 3 6) 4 7) 5 8) 6 9) 7 10) 8 11) 9 13) 10 15) 11 17) 12 19) 13 23) 14 27) 15 31) 16 35) 17 43) 18 51) 19 59) 20 67) 21 83) 22 99) 23 115)))]) (V12_42 + 29)) := by
  exact o_wIl (X := 23) (by decide) (by decide) (by decide) h8
theorem t12_117 {g : ps_G} (h8 : 8 ≤ g.1) : q_wI (oS g 12 (F12_49 g.1) (A12_42 g.1 ++ [.inl (0, (29, .inl (upd (upd (upd (upd (upd (upd (upd (upd (upd (upd (upd (upd (upd (upd (upd (upd (upd (upd (upd (upd (upd (upd (upd (upd (fun _ => 0) 0 3) 1 4) 2 5) 3 6) 4 7) 5 8) 6 9) 7 10) 8 11) 9 13) 10 15) 11 17) 12 19) 13 23) 14 27) 15 31) 16 35) 17 43) 18 51) 19 59) 20 67) 21 83) 22 99) 23 115)))]) (V12_42 + 29)) (oS g 12 (F12_49 g.1) (A12_42 g.1) V12_42).1 (24 : Int32) (131 : Int32) = some (oS g 12 (F12_49 g.1) (A12_42 g.1 ++ [.inl (0, (29, .inl (upd (upd (upd (upd (upd (upd (upd (upd (upd (upd (upd (upd (upd (upd (upd (upd (upd (upd (upd (upd (upd (upd (upd (upd (upd (fun _ => 0) 0 3) 1 4) 2 5) 3 6) 4 7) 5 8) 6 9) 7 10) 8 11) 9 13) 10 15) 11 17) 12 19) 13 23) 14 27) 15 31) 16 35) 17 43) 18 51) 19 59) 20 67) 21 83) 22 99) 23 115) 24 131)))]) (V12_42 + 29)) := by
  exact o_wIl (X := 24) (by decide) (by decide) (by decide) h8
theorem t12_118 {g : ps_G} (h8 : 8 ≤ g.1) : q_wI (oS g 12 (F12_49 g.1) (A12_42 g.1 ++ [.inl (0, (29, .inl (upd (upd (upd (upd (upd (upd (upd (upd (upd (upd (upd (upd (upd (upd (upd (upd (upd (upd (upd (upd (upd (upd (upd (upd (upd (fun _ => 0) 0 3) 1 4) 2 5) 3 6) 4 7) 5 8) 6 9) 7 10) 8 11) 9 13) 10 15) 11 17) 12 19) 13 23) 14 27) 15 31) 16 35) 17 43) 18 51) 19 59) 20 67) 21 83) 22 99) 23 115) 24 131)))]) (V12_42 + 29)) (oS g 12 (F12_49 g.1) (A12_42 g.1) V12_42).1 (25 : Int32) (163 : Int32) = some (oS g 12 (F12_49 g.1) (A12_42 g.1 ++ [.inl (0, (29, .inl (upd (upd (upd (upd (upd (upd (upd (upd (upd (upd (upd (upd (upd (upd (upd (upd (upd (upd (upd (upd (upd (upd (upd (upd (upd (upd (fun _ => 0) 0 3) 1 4) 2 5) 3 6) 4 7) 5 8) 6 9) 7 10) 8 11) 9 13) 10 15) 11 17) 12 19) 13 23) 14 27) 15 31) 16 35) 17 43) 18 51) 19 59) 20 67) 21 83) 22 99) 23 115) 24 131) 25 163)))]) (V12_42 + 29)) := by
  exact o_wIl (X := 25) (by decide) (by decide) (by decide) h8
theorem t12_119 {g : ps_G} (h8 : 8 ≤ g.1) : q_wI (oS g 12 (F12_49 g.1) (A12_42 g.1 ++ [.inl (0, (29, .inl (upd (upd (upd (upd (upd (upd (upd (upd (upd (upd (upd (upd (upd (upd (upd (upd (upd (upd (upd (upd (upd (upd (upd (upd (upd (upd (fun _ => 0) 0 3) 1 4) 2 5) 3 6) 4 7) 5 8) 6 9) 7 10) 8 11) 9 13) 10 15) 11 17) 12 19) 13 23) 14 27) 15 31) 16 35) 17 43) 18 51) 19 59) 20 67) 21 83) 22 99) 23 115) 24 131) 25 163)))]) (V12_42 + 29)) (oS g 12 (F12_49 g.1) (A12_42 g.1) V12_42).1 (26 : Int32) (195 : Int32) = some (oS g 12 (F12_49 g.1) (A12_42 g.1 ++ [.inl (0, (29, .inl (upd (upd (upd (upd (upd (upd (upd (upd (upd (upd (upd (upd (upd (upd (upd (upd (upd (upd (upd (upd (upd (upd (upd (upd (upd (upd (upd (fun _ => 0) 0 3) 1 4) 2 5) 3 6) 4 7) 5 8) 6 9) 7 10) 8 11) 9 13) 10 15) 11 17) 12 19) 13 23) 14 27) 15 31) 16 35) 17 43) 18 51) 19 59) 20 67) 21 83) 22 99) 23 115) 24 131) 25 163) 26 195)))]) (V12_42 + 29)) := by
  exact o_wIl (X := 26) (by decide) (by decide) (by decide) h8
theorem t12_120 {g : ps_G} (h8 : 8 ≤ g.1) : q_wI (oS g 12 (F12_49 g.1) (A12_42 g.1 ++ [.inl (0, (29, .inl (upd (upd (upd (upd (upd (upd (upd (upd (upd (upd (upd (upd (upd (upd (upd (upd (upd (upd (upd (upd (upd (upd (upd (upd (upd (upd (upd (fun _ => 0) 0 3) 1 4) 2 5) 3 6) 4 7) 5 8) 6 9) 7 10) 8 11) 9 13) 10 15) 11 17) 12 19) 13 23) 14 27) 15 31) 16 35) 17 43) 18 51) 19 59) 20 67) 21 83) 22 99) 23 115) 24 131) 25 163) 26 195)))]) (V12_42 + 29)) (oS g 12 (F12_49 g.1) (A12_42 g.1) V12_42).1 (27 : Int32) (227 : Int32) = some (oS g 12 (F12_49 g.1) (A12_42 g.1 ++ [.inl (0, (29, .inl (upd (upd (upd (upd (upd (upd (upd (upd (upd (upd (upd (upd (upd (upd (upd (upd (upd (upd (upd (upd (upd (upd (upd (upd (upd (upd (upd (upd (fun _ => 0) 0 3) 1 4) 2 5) 3 6) 4 7) 5 8) 6 9) 7 10) 8 11) 9 13) 10 15) 11 17) 12 19) 13 23) 14 27) 15 31) 16 35) 17 43) 18 51) 19 59) 20 67) 21 83) 22 99) 23 115) 24 131) 25 163) 26 195) 27 227)))]) (V12_42 + 29)) := by
  exact o_wIl (X := 27) (by decide) (by decide) (by decide) h8
theorem t12_121 {g : ps_G} (h8 : 8 ≤ g.1) : q_wI (oS g 12 (F12_49 g.1) (A12_42 g.1 ++ [.inl (0, (29, .inl (upd (upd (upd (upd (upd (upd (upd (upd (upd (upd (upd (upd (upd (upd (upd (upd (upd (upd (upd (upd (upd (upd (upd (upd (upd (upd (upd (upd (fun _ => 0) 0 3) 1 4) 2 5) 3 6) 4 7) 5 8) 6 9) 7 10) 8 11) 9 13) 10 15) 11 17) 12 19) 13 23) 14 27) 15 31) 16 35) 17 43) 18 51) 19 59) 20 67) 21 83) 22 99) 23 115) 24 131) 25 163) 26 195) 27 227)))]) (V12_42 + 29)) (oS g 12 (F12_49 g.1) (A12_42 g.1) V12_42).1 (28 : Int32) (258 : Int32) = some (oS g 12 (F12_49 g.1) (A12_42 g.1 ++ [.inl (0, (29, .inl (upd (upd (upd (upd (upd (upd (upd (upd (upd (upd (upd (upd (upd (upd (upd (upd (upd (upd (upd (upd (upd (upd (upd (upd (upd (upd (upd (upd (upd (fun _ => 0) 0 3) 1 4) 2 5) 3 6) 4 7) 5 8) 6 9) 7 10) 8 11) 9 13) 10 15) 11 17) 12 19) 13 23) 14 27) 15 31) 16 35) 17 43) 18 51) 19 59) 20 67) 21 83) 22 99) 23 115) 24 131) 25 163) 26 195) 27 227) 28 258)))]) (V12_42 + 29)) := by
  exact o_wIl (X := 28) (by decide) (by decide) (by decide) h8
def A12_43 (b : Nat) : List ps_E := A12_42 b ++ [.inl (0, (29, .inl (upd (upd (upd (upd (upd (upd (upd (upd (upd (upd (upd (upd (upd (upd (upd (upd (upd (upd (upd (upd (upd (upd (upd (upd (upd (upd (upd (upd (upd (fun _ => 0) 0 3) 1 4) 2 5) 3 6) 4 7) 5 8) 6 9) 7 10) 8 11) 9 13) 10 15) 11 17) 12 19) 13 23) 14 27) 15 31) 16 35) 17 43) 18 51) 19 59) 20 67) 21 83) 22 99) 23 115) 24 131) 25 163) 26 195) 27 227) 28 258)))]
theorem a12l_43 {b : Nat} : (A12_43 b).length = 43 := (List.length_append).trans (by rw [a12l_42]; rfl)
def V12_43 : Nat := V12_42 + 29
def F12_50 (b : Nat) : List Value := (F12_49 b).set 68 (.ref (b + 1 + 42))
theorem f12l_50 {b : Nat} : (F12_50 b).length = 94 := (List.length_set).trans f12l_49
theorem t12_122 {g : ps_G} (h8 : 8 ≤ g.1) : q_sR 12 68 (oS g 12 (F12_49 g.1) (A12_42 g.1 ++ [.inl (0, (29, .inl (upd (upd (upd (upd (upd (upd (upd (upd (upd (upd (upd (upd (upd (upd (upd (upd (upd (upd (upd (upd (upd (upd (upd (upd (upd (upd (upd (upd (upd (fun _ => 0) 0 3) 1 4) 2 5) 3 6) 4 7) 5 8) 6 9) 7 10) 8 11) 9 13) 10 15) 11 17) 12 19) 13 23) 14 27) 15 31) 16 35) 17 43) 18 51) 19 59) 20 67) 21 83) 22 99) 23 115) 24 131) 25 163) 26 195) 27 227) 28 258)))]) (V12_42 + 29)) g.1 (some (oS g 12 (F12_49 g.1) (A12_42 g.1) V12_42).1) = some (oS g 12 (F12_50 g.1) (A12_43 g.1) V12_43) := by
  have e : (oS g 12 (F12_49 g.1) (A12_42 g.1) V12_42).1 = g.1 + 1 + 42 := by rw [oS_1, a12l_42]
  rw [e]
  exact o_sR (by rw [f12l_49]; decide)
theorem p12_2 {g : ps_G} (h8 : 8 ≤ g.1) : jX12_init_390 (oS g 12 (F12_47 g.1) (A12_40 g.1) V12_40) g.1 = jX12_init_584 (oS g 12 (F12_50 g.1) (A12_43 g.1) V12_43) g.1 := by
  unfold jX12_init_390
  rw [t12_88 h8, ob_n, t12_89 h8, ob_n, t12_90 h8, ob_n, t12_91 h8, ob_n, t12_92 h8, ob_n, t12_93 h8, ob_n, t12_94 h8, ob_n, t12_95 h8, ob_n, t12_96 h8, ob_n, t12_97 h8, ob_n, t12_98 h8, ob_n, t12_99 h8, ob_n, t12_100 h8, ob_n, t12_101 h8, ob_n, t12_102 h8, ob_n, t12_103 h8, ob_n, t12_104 h8, ob_n, t12_105 h8, ob_n, t12_106 h8, ob_n, t12_107 h8, ob_n, t12_108 h8, ob_n, t12_109 h8, ob_n, t12_110 h8, ob_n, t12_111 h8, ob_n, t12_112 h8, ob_n, t12_113 h8, ob_n, t12_114 h8, ob_n, t12_115 h8, ob_n, t12_116 h8, ob_n, t12_117 h8, ob_n, t12_118 h8, ob_n, t12_119 h8, ob_n, t12_120 h8, ob_n, t12_121 h8, ob_n, t12_122 h8, ob_n]
theorem t12_123 {g : ps_G} (h8 : 8 ≤ g.1) : q_nA .int (oS g 12 (F12_50 g.1) (A12_43 g.1) V12_43) (29 : Int32) = some (oS g 12 (F12_50 g.1) (A12_43 g.1 ++ [.inl (0, (29, .inl (fun _ => 0)))]) (V12_43 + 29)) := by
  exact o_nA (N := 29) (by decide) (by decide)
theorem t12_124 {g : ps_G} (h8 : 8 ≤ g.1) : q_wI (oS g 12 (F12_50 g.1) (A12_43 g.1 ++ [.inl (0, (29, .inl (fun _ => 0)))]) (V12_43 + 29)) (oS g 12 (F12_50 g.1) (A12_43 g.1) V12_43).1 (0 : Int32) (0 : Int32) = some (oS g 12 (F12_50 g.1) (A12_43 g.1 ++ [.inl (0, (29, .inl (upd (fun _ => 0) 0 0)))]) (V12_43 + 29)) := by
  exact o_wIl (X := 0) (by decide) (by decide) (by decide) h8
theorem t12_125 {g : ps_G} (h8 : 8 ≤ g.1) : q_wI (oS g 12 (F12_50 g.1) (A12_43 g.1 ++ [.inl (0, (29, .inl (upd (fun _ => 0) 0 0)))]) (V12_43 + 29)) (oS g 12 (F12_50 g.1) (A12_43 g.1) V12_43).1 (1 : Int32) (0 : Int32) = some (oS g 12 (F12_50 g.1) (A12_43 g.1 ++ [.inl (0, (29, .inl (upd (upd (fun _ => 0) 0 0) 1 0)))]) (V12_43 + 29)) := by
  exact o_wIl (X := 1) (by decide) (by decide) (by decide) h8
theorem t12_126 {g : ps_G} (h8 : 8 ≤ g.1) : q_wI (oS g 12 (F12_50 g.1) (A12_43 g.1 ++ [.inl (0, (29, .inl (upd (upd (fun _ => 0) 0 0) 1 0)))]) (V12_43 + 29)) (oS g 12 (F12_50 g.1) (A12_43 g.1) V12_43).1 (2 : Int32) (0 : Int32) = some (oS g 12 (F12_50 g.1) (A12_43 g.1 ++ [.inl (0, (29, .inl (upd (upd (upd (fun _ => 0) 0 0) 1 0) 2 0)))]) (V12_43 + 29)) := by
  exact o_wIl (X := 2) (by decide) (by decide) (by decide) h8
theorem t12_127 {g : ps_G} (h8 : 8 ≤ g.1) : q_wI (oS g 12 (F12_50 g.1) (A12_43 g.1 ++ [.inl (0, (29, .inl (upd (upd (upd (fun _ => 0) 0 0) 1 0) 2 0)))]) (V12_43 + 29)) (oS g 12 (F12_50 g.1) (A12_43 g.1) V12_43).1 (3 : Int32) (0 : Int32) = some (oS g 12 (F12_50 g.1) (A12_43 g.1 ++ [.inl (0, (29, .inl (upd (upd (upd (upd (fun _ => 0) 0 0) 1 0) 2 0) 3 0)))]) (V12_43 + 29)) := by
  exact o_wIl (X := 3) (by decide) (by decide) (by decide) h8
theorem t12_128 {g : ps_G} (h8 : 8 ≤ g.1) : q_wI (oS g 12 (F12_50 g.1) (A12_43 g.1 ++ [.inl (0, (29, .inl (upd (upd (upd (upd (fun _ => 0) 0 0) 1 0) 2 0) 3 0)))]) (V12_43 + 29)) (oS g 12 (F12_50 g.1) (A12_43 g.1) V12_43).1 (4 : Int32) (0 : Int32) = some (oS g 12 (F12_50 g.1) (A12_43 g.1 ++ [.inl (0, (29, .inl (upd (upd (upd (upd (upd (fun _ => 0) 0 0) 1 0) 2 0) 3 0) 4 0)))]) (V12_43 + 29)) := by
  exact o_wIl (X := 4) (by decide) (by decide) (by decide) h8
theorem t12_129 {g : ps_G} (h8 : 8 ≤ g.1) : q_wI (oS g 12 (F12_50 g.1) (A12_43 g.1 ++ [.inl (0, (29, .inl (upd (upd (upd (upd (upd (fun _ => 0) 0 0) 1 0) 2 0) 3 0) 4 0)))]) (V12_43 + 29)) (oS g 12 (F12_50 g.1) (A12_43 g.1) V12_43).1 (5 : Int32) (0 : Int32) = some (oS g 12 (F12_50 g.1) (A12_43 g.1 ++ [.inl (0, (29, .inl (upd (upd (upd (upd (upd (upd (fun _ => 0) 0 0) 1 0) 2 0) 3 0) 4 0) 5 0)))]) (V12_43 + 29)) := by
  exact o_wIl (X := 5) (by decide) (by decide) (by decide) h8
theorem t12_130 {g : ps_G} (h8 : 8 ≤ g.1) : q_wI (oS g 12 (F12_50 g.1) (A12_43 g.1 ++ [.inl (0, (29, .inl (upd (upd (upd (upd (upd (upd (fun _ => 0) 0 0) 1 0) 2 0) 3 0) 4 0) 5 0)))]) (V12_43 + 29)) (oS g 12 (F12_50 g.1) (A12_43 g.1) V12_43).1 (6 : Int32) (0 : Int32) = some (oS g 12 (F12_50 g.1) (A12_43 g.1 ++ [.inl (0, (29, .inl (upd (upd (upd (upd (upd (upd (upd (fun _ => 0) 0 0) 1 0) 2 0) 3 0) 4 0) 5 0) 6 0)))]) (V12_43 + 29)) := by
  exact o_wIl (X := 6) (by decide) (by decide) (by decide) h8
theorem t12_131 {g : ps_G} (h8 : 8 ≤ g.1) : q_wI (oS g 12 (F12_50 g.1) (A12_43 g.1 ++ [.inl (0, (29, .inl (upd (upd (upd (upd (upd (upd (upd (fun _ => 0) 0 0) 1 0) 2 0) 3 0) 4 0) 5 0) 6 0)))]) (V12_43 + 29)) (oS g 12 (F12_50 g.1) (A12_43 g.1) V12_43).1 (7 : Int32) (0 : Int32) = some (oS g 12 (F12_50 g.1) (A12_43 g.1 ++ [.inl (0, (29, .inl (upd (upd (upd (upd (upd (upd (upd (upd (fun _ => 0) 0 0) 1 0) 2 0) 3 0) 4 0) 5 0) 6 0) 7 0)))]) (V12_43 + 29)) := by
  exact o_wIl (X := 7) (by decide) (by decide) (by decide) h8
theorem t12_132 {g : ps_G} (h8 : 8 ≤ g.1) : q_wI (oS g 12 (F12_50 g.1) (A12_43 g.1 ++ [.inl (0, (29, .inl (upd (upd (upd (upd (upd (upd (upd (upd (fun _ => 0) 0 0) 1 0) 2 0) 3 0) 4 0) 5 0) 6 0) 7 0)))]) (V12_43 + 29)) (oS g 12 (F12_50 g.1) (A12_43 g.1) V12_43).1 (8 : Int32) (1 : Int32) = some (oS g 12 (F12_50 g.1) (A12_43 g.1 ++ [.inl (0, (29, .inl (upd (upd (upd (upd (upd (upd (upd (upd (upd (fun _ => 0) 0 0) 1 0) 2 0) 3 0) 4 0) 5 0) 6 0) 7 0) 8 1)))]) (V12_43 + 29)) := by
  exact o_wIl (X := 8) (by decide) (by decide) (by decide) h8
theorem t12_133 {g : ps_G} (h8 : 8 ≤ g.1) : q_wI (oS g 12 (F12_50 g.1) (A12_43 g.1 ++ [.inl (0, (29, .inl (upd (upd (upd (upd (upd (upd (upd (upd (upd (fun _ => 0) 0 0) 1 0) 2 0) 3 0) 4 0) 5 0) 6 0) 7 0) 8 1)))]) (V12_43 + 29)) (oS g 12 (F12_50 g.1) (A12_43 g.1) V12_43).1 (9 : Int32) (1 : Int32) = some (oS g 12 (F12_50 g.1) (A12_43 g.1 ++ [.inl (0, (29, .inl (upd (upd (upd (upd (upd (upd (upd (upd (upd (upd (fun _ => 0) 0 0) 1 0) 2 0) 3 0) 4 0) 5 0) 6 0) 7 0) 8 1) 9 1)))]) (V12_43 + 29)) := by
  exact o_wIl (X := 9) (by decide) (by decide) (by decide) h8
theorem t12_134 {g : ps_G} (h8 : 8 ≤ g.1) : q_wI (oS g 12 (F12_50 g.1) (A12_43 g.1 ++ [.inl (0, (29, .inl (upd (upd (upd (upd (upd (upd (upd (upd (upd (upd (fun _ => 0) 0 0) 1 0) 2 0) 3 0) 4 0) 5 0) 6 0) 7 0) 8 1) 9 1)))]) (V12_43 + 29)) (oS g 12 (F12_50 g.1) (A12_43 g.1) V12_43).1 (10 : Int32) (1 : Int32) = some (oS g 12 (F12_50 g.1) (A12_43 g.1 ++ [.inl (0, (29, .inl (upd (upd (upd (upd (upd (upd (upd (upd (upd (upd (upd (fun _ => 0) 0 0) 1 0) 2 0) 3 0) 4 0) 5 0) 6 0) 7 0) 8 1) 9 1) 10 1)))]) (V12_43 + 29)) := by
  exact o_wIl (X := 10) (by decide) (by decide) (by decide) h8
theorem t12_135 {g : ps_G} (h8 : 8 ≤ g.1) : q_wI (oS g 12 (F12_50 g.1) (A12_43 g.1 ++ [.inl (0, (29, .inl (upd (upd (upd (upd (upd (upd (upd (upd (upd (upd (upd (fun _ => 0) 0 0) 1 0) 2 0) 3 0) 4 0) 5 0) 6 0) 7 0) 8 1) 9 1) 10 1)))]) (V12_43 + 29)) (oS g 12 (F12_50 g.1) (A12_43 g.1) V12_43).1 (11 : Int32) (1 : Int32) = some (oS g 12 (F12_50 g.1) (A12_43 g.1 ++ [.inl (0, (29, .inl (upd (upd (upd (upd (upd (upd (upd (upd (upd (upd (upd (upd (fun _ => 0) 0 0) 1 0) 2 0) 3 0) 4 0) 5 0) 6 0) 7 0) 8 1) 9 1) 10 1) 11 1)))]) (V12_43 + 29)) := by
  exact o_wIl (X := 11) (by decide) (by decide) (by decide) h8
theorem t12_136 {g : ps_G} (h8 : 8 ≤ g.1) : q_wI (oS g 12 (F12_50 g.1) (A12_43 g.1 ++ [.inl (0, (29, .inl (upd (upd (upd (upd (upd (upd (upd (upd (upd (upd (upd (upd (fun _ => 0) 0 0) 1 0) 2 0) 3 0) 4 0) 5 0) 6 0) 7 0) 8 1) 9 1) 10 1) 11 1)))]) (V12_43 + 29)) (oS g 12 (F12_50 g.1) (A12_43 g.1) V12_43).1 (12 : Int32) (2 : Int32) = some (oS g 12 (F12_50 g.1) (A12_43 g.1 ++ [.inl (0, (29, .inl (upd (upd (upd (upd (upd (upd (upd (upd (upd (upd (upd (upd (upd (fun _ => 0) 0 0) 1 0) 2 0) 3 0) 4 0) 5 0) 6 0) 7 0) 8 1) 9 1) 10 1) 11 1) 12 2)))]) (V12_43 + 29)) := by
  exact o_wIl (X := 12) (by decide) (by decide) (by decide) h8
theorem t12_137 {g : ps_G} (h8 : 8 ≤ g.1) : q_wI (oS g 12 (F12_50 g.1) (A12_43 g.1 ++ [.inl (0, (29, .inl (upd (upd (upd (upd (upd (upd (upd (upd (upd (upd (upd (upd (upd (fun _ => 0) 0 0) 1 0) 2 0) 3 0) 4 0) 5 0) 6 0) 7 0) 8 1) 9 1) 10 1) 11 1) 12 2)))]) (V12_43 + 29)) (oS g 12 (F12_50 g.1) (A12_43 g.1) V12_43).1 (13 : Int32) (2 : Int32) = some (oS g 12 (F12_50 g.1) (A12_43 g.1 ++ [.inl (0, (29, .inl (upd (upd (upd (upd (upd (upd (upd (upd (upd (upd (upd (upd (upd (upd (fun _ => 0) 0 0) 1 0) 2 0) 3 0) 4 0) 5 0) 6 0) 7 0) 8 1) 9 1) 10 1) 11 1) 12 2) 13 2)))]) (V12_43 + 29)) := by
  exact o_wIl (X := 13) (by decide) (by decide) (by decide) h8
theorem t12_138 {g : ps_G} (h8 : 8 ≤ g.1) : q_wI (oS g 12 (F12_50 g.1) (A12_43 g.1 ++ [.inl (0, (29, .inl (upd (upd (upd (upd (upd (upd (upd (upd (upd (upd (upd (upd (upd (upd (fun _ => 0) 0 0) 1 0) 2 0) 3 0) 4 0) 5 0) 6 0) 7 0) 8 1) 9 1) 10 1) 11 1) 12 2) 13 2)))]) (V12_43 + 29)) (oS g 12 (F12_50 g.1) (A12_43 g.1) V12_43).1 (14 : Int32) (2 : Int32) = some (oS g 12 (F12_50 g.1) (A12_43 g.1 ++ [.inl (0, (29, .inl (upd (upd (upd (upd (upd (upd (upd (upd (upd (upd (upd (upd (upd (upd (upd (fun _ => 0) 0 0) 1 0) 2 0) 3 0) 4 0) 5 0) 6 0) 7 0) 8 1) 9 1) 10 1) 11 1) 12 2) 13 2) 14 2)))]) (V12_43 + 29)) := by
  exact o_wIl (X := 14) (by decide) (by decide) (by decide) h8
theorem t12_139 {g : ps_G} (h8 : 8 ≤ g.1) : q_wI (oS g 12 (F12_50 g.1) (A12_43 g.1 ++ [.inl (0, (29, .inl (upd (upd (upd (upd (upd (upd (upd (upd (upd (upd (upd (upd (upd (upd (upd (fun _ => 0) 0 0) 1 0) 2 0) 3 0) 4 0) 5 0) 6 0) 7 0) 8 1) 9 1) 10 1) 11 1) 12 2) 13 2) 14 2)))]) (V12_43 + 29)) (oS g 12 (F12_50 g.1) (A12_43 g.1) V12_43).1 (15 : Int32) (2 : Int32) = some (oS g 12 (F12_50 g.1) (A12_43 g.1 ++ [.inl (0, (29, .inl (upd (upd (upd (upd (upd (upd (upd (upd (upd (upd (upd (upd (upd (upd (upd (upd (fun _ => 0) 0 0) 1 0) 2 0) 3 0) 4 0) 5 0) 6 0) 7 0) 8 1) 9 1) 10 1) 11 1) 12 2) 13 2) 14 2) 15 2)))]) (V12_43 + 29)) := by
  exact o_wIl (X := 15) (by decide) (by decide) (by decide) h8
theorem t12_140 {g : ps_G} (h8 : 8 ≤ g.1) : q_wI (oS g 12 (F12_50 g.1) (A12_43 g.1 ++ [.inl (0, (29, .inl (upd (upd (upd (upd (upd (upd (upd (upd (upd (upd (upd (upd (upd (upd (upd (upd (fun _ => 0) 0 0) 1 0) 2 0) 3 0) 4 0) 5 0) 6 0) 7 0) 8 1) 9 1) 10 1) 11 1) 12 2) 13 2) 14 2) 15 2)))]) (V12_43 + 29)) (oS g 12 (F12_50 g.1) (A12_43 g.1) V12_43).1 (16 : Int32) (3 : Int32) = some (oS g 12 (F12_50 g.1) (A12_43 g.1 ++ [.inl (0, (29, .inl (upd (upd (upd (upd (upd (upd (upd (upd (upd (upd (upd (upd (upd (upd (upd (upd (upd (fun _ => 0) 0 0) 1 0) 2 0) 3 0) 4 0) 5 0) 6 0) 7 0) 8 1) 9 1) 10 1) 11 1) 12 2) 13 2) 14 2) 15 2) 16 3)))]) (V12_43 + 29)) := by
  exact o_wIl (X := 16) (by decide) (by decide) (by decide) h8
theorem t12_141 {g : ps_G} (h8 : 8 ≤ g.1) : q_wI (oS g 12 (F12_50 g.1) (A12_43 g.1 ++ [.inl (0, (29, .inl (upd (upd (upd (upd (upd (upd (upd (upd (upd (upd (upd (upd (upd (upd (upd (upd (upd (fun _ => 0) 0 0) 1 0) 2 0) 3 0) 4 0) 5 0) 6 0) 7 0) 8 1) 9 1) 10 1) 11 1) 12 2) 13 2) 14 2) 15 2) 16 3)))]) (V12_43 + 29)) (oS g 12 (F12_50 g.1) (A12_43 g.1) V12_43).1 (17 : Int32) (3 : Int32) = some (oS g 12 (F12_50 g.1) (A12_43 g.1 ++ [.inl (0, (29, .inl (upd (upd (upd (upd (upd (upd (upd (upd (upd (upd (upd (upd (upd (upd (upd (upd (upd (upd (fun _ => 0) 0 0) 1 0) 2 0) 3 0) 4 0) 5 0) 6 0) 7 0) 8 1) 9 1) 10 1) 11 1) 12 2) 13 2) 14 2) 15 2) 16 3) 17 3)))]) (V12_43 + 29)) := by
  exact o_wIl (X := 17) (by decide) (by decide) (by decide) h8
theorem t12_142 {g : ps_G} (h8 : 8 ≤ g.1) : q_wI (oS g 12 (F12_50 g.1) (A12_43 g.1 ++ [.inl (0, (29, .inl (upd (upd (upd (upd (upd (upd (upd (upd (upd (upd (upd (upd (upd (upd (upd (upd (upd (upd (fun _ => 0) 0 0) 1 0) 2 0) 3 0) 4 0) 5 0) 6 0) 7 0) 8 1) 9 1) 10 1) 11 1) 12 2) 13 2) 14 2) 15 2) 16 3) 17 3)))]) (V12_43 + 29)) (oS g 12 (F12_50 g.1) (A12_43 g.1) V12_43).1 (18 : Int32) (3 : Int32) = some (oS g 12 (F12_50 g.1) (A12_43 g.1 ++ [.inl (0, (29, .inl (upd (upd (upd (upd (upd (upd (upd (upd (upd (upd (upd (upd (upd (upd (upd (upd (upd (upd (upd (fun _ => 0) 0 0) 1 0) 2 0) 3 0) 4 0) 5 0) 6 0) 7 0) 8 1) 9 1) 10 1) 11 1) 12 2) 13 2) 14 2) 15 2) 16 3) 17 3) 18 3)))]) (V12_43 + 29)) := by
  exact o_wIl (X := 18) (by decide) (by decide) (by decide) h8
theorem t12_143 {g : ps_G} (h8 : 8 ≤ g.1) : q_wI (oS g 12 (F12_50 g.1) (A12_43 g.1 ++ [.inl (0, (29, .inl (upd (upd (upd (upd (upd (upd (upd (upd (upd (upd (upd (upd (upd (upd (upd (upd (upd (upd (upd (fun _ => 0) 0 0) 1 0) 2 0) 3 0) 4 0) 5 0) 6 0) 7 0) 8 1) 9 1) 10 1) 11 1) 12 2) 13 2) 14 2) 15 2) 16 3) 17 3) 18 3)))]) (V12_43 + 29)) (oS g 12 (F12_50 g.1) (A12_43 g.1) V12_43).1 (19 : Int32) (3 : Int32) = some (oS g 12 (F12_50 g.1) (A12_43 g.1 ++ [.inl (0, (29, .inl (upd (upd (upd (upd (upd (upd (upd (upd (upd (upd (upd (upd (upd (upd (upd (upd (upd (upd (upd (upd (fun _ => 0) 0 0) 1 0) 2 0) 3 0) 4 0) 5 0) 6 0) 7 0) 8 1) 9 1) 10 1) 11 1) 12 2) 13 2) 14 2) 15 2) 16 3) 17 3) 18 3) 19 3)))]) (V12_43 + 29)) := by
  exact o_wIl (X := 19) (by decide) (by decide) (by decide) h8
theorem t12_144 {g : ps_G} (h8 : 8 ≤ g.1) : q_wI (oS g 12 (F12_50 g.1) (A12_43 g.1 ++ [.inl (0, (29, .inl (upd (upd (upd (upd (upd (upd (upd (upd (upd (upd (upd (upd (upd (upd (upd (upd (upd (upd (upd (upd (fun _ => 0) 0 0) 1 0) 2 0) 3 0) 4 0) 5 0) 6 0) 7 0) 8 1) 9 1) 10 1) 11 1) 12 2) 13 2) 14 2) 15 2) 16 3) 17 3) 18 3) 19 3)))]) (V12_43 + 29)) (oS g 12 (F12_50 g.1) (A12_43 g.1) V12_43).1 (20 : Int32) (4 : Int32) = some (oS g 12 (F12_50 g.1) (A12_43 g.1 ++ [.inl (0, (29, .inl (upd (upd (upd (upd (upd (upd (upd (upd (upd (upd (upd (upd (upd (upd (upd (upd (upd (upd (upd (upd (upd (fun _ => 0) 0 0) 1 0) 2 0) 3 0) 4 0) 5 0) 6 0) 7 0) 8 1) 9 1) 10 1) 11 1) 12 2) 13 2) 14 2) 15 2) 16 3) 17 3) 18 3) 19 3) 20 4)))]) (V12_43 + 29)) := by
  exact o_wIl (X := 20) (by decide) (by decide) (by decide) h8
theorem t12_145 {g : ps_G} (h8 : 8 ≤ g.1) : q_wI (oS g 12 (F12_50 g.1) (A12_43 g.1 ++ [.inl (0, (29, .inl (upd (upd (upd (upd (upd (upd (upd (upd (upd (upd (upd (upd (upd (upd (upd (upd (upd (upd (upd (upd (upd (fun _ => 0) 0 0) 1 0) 2 0) 3 0) 4 0) 5 0) 6 0) 7 0) 8 1) 9 1) 10 1) 11 1) 12 2) 13 2) 14 2) 15 2) 16 3) 17 3) 18 3) 19 3) 20 4)))]) (V12_43 + 29)) (oS g 12 (F12_50 g.1) (A12_43 g.1) V12_43).1 (21 : Int32) (4 : Int32) = some (oS g 12 (F12_50 g.1) (A12_43 g.1 ++ [.inl (0, (29, .inl (upd (upd (upd (upd (upd (upd (upd (upd (upd (upd (upd (upd (upd (upd (upd (upd (upd (upd (upd (upd (upd (upd (fun _ => 0) 0 0) 1 0) 2 0) 3 0) 4 0) 5 0) 6 0) 7 0) 8 1) 9 1) 10 1) 11 1) 12 2) 13 2) 14 2) 15 2) 16 3) 17 3) 18 3) 19 3) 20 4) 21 4)))]) (V12_43 + 29)) := by
  exact o_wIl (X := 21) (by decide) (by decide) (by decide) h8
theorem t12_146 {g : ps_G} (h8 : 8 ≤ g.1) : q_wI (oS g 12 (F12_50 g.1) (A12_43 g.1 ++ [.inl (0, (29, .inl (upd (upd (upd (upd (upd (upd (upd (upd (upd (upd (upd (upd (upd (upd (upd (upd (upd (upd (upd (upd (upd (upd (fun _ => 0) 0 0) 1 0) 2 0) 3 0) 4 0) 5 0) 6 0) 7 0) 8 1) 9 1) 10 1) 11 1) 12 2) 13 2) 14 2) 15 2) 16 3) 17 3) 18 3) 19 3) 20 4) 21 4)))]) (V12_43 + 29)) (oS g 12 (F12_50 g.1) (A12_43 g.1) V12_43).1 (22 : Int32) (4 : Int32) = some (oS g 12 (F12_50 g.1) (A12_43 g.1 ++ [.inl (0, (29, .inl (upd (upd (upd (upd (upd (upd (upd (upd (upd (upd (upd (upd (upd (upd (upd (upd (upd (upd (upd (upd (upd (upd (upd (fun _ => 0) 0 0) 1 0) 2 0) 3 0) 4 0) 5 0) 6 0) 7 0) 8 1) 9 1) 10 1) 11 1) 12 2) 13 2) 14 2) 15 2) 16 3) 17 3) 18 3) 19 3) 20 4) 21 4) 22 4)))]) (V12_43 + 29)) := by
  exact o_wIl (X := 22) (by decide) (by decide) (by decide) h8
theorem t12_147 {g : ps_G} (h8 : 8 ≤ g.1) : q_wI (oS g 12 (F12_50 g.1) (A12_43 g.1 ++ [.inl (0, (29, .inl (upd (upd (upd (upd (upd (upd (upd (upd (upd (upd (upd (upd (upd (upd (upd (upd (upd (upd (upd (upd (upd (upd (upd (fun _ => 0) 0 0) 1 0) 2 0) 3 0) 4 0) 5 0) 6 0) 7 0) 8 1) 9 1) 10 1) 11 1) 12 2) 13 2) 14 2) 15 2) 16 3) 17 3) 18 3) 19 3) 20 4) 21 4) 22 4)))]) (V12_43 + 29)) (oS g 12 (F12_50 g.1) (A12_43 g.1) V12_43).1 (23 : Int32) (4 : Int32) = some (oS g 12 (F12_50 g.1) (A12_43 g.1 ++ [.inl (0, (29, .inl (upd (upd (upd (upd (upd (upd (upd (upd (upd (upd (upd (upd (upd (upd (upd (upd (upd (upd (upd (upd (upd (upd (upd (upd (fun _ => 0) 0 0) 1 0) 2 0) 3 0) 4 0) 5 0) 6 0) 7 0) 8 1) 9 1) 10 1) 11 1) 12 2) 13 2) 14 2) 15 2) 16 3) 17 3) 18 3) 19 3) 20 4) 21 4) 22 4) 23 4)))]) (V12_43 + 29)) := by
  exact o_wIl (X := 23) (by decide) (by decide) (by decide) h8
theorem t12_148 {g : ps_G} (h8 : 8 ≤ g.1) : q_wI (oS g 12 (F12_50 g.1) (A12_43 g.1 ++ [.inl (0, (29, .inl (upd (upd (upd (upd (upd (upd (upd (upd (upd (upd (upd (upd (upd (upd (upd (upd (upd (upd (upd (upd (upd (upd (upd (upd (fun _ => 0) 0 0) 1 0) 2 0) 3 0) 4 0) 5 0) 6 0) 7 0) 8 1) 9 1) 10 1) 11 1) 12 2) 13 2) 14 2) 15 2) 16 3) 17 3) 18 3) 19 3) 20 4) 21 4) 22 4) 23 4)))]) (V12_43 + 29)) (oS g 12 (F12_50 g.1) (A12_43 g.1) V12_43).1 (24 : Int32) (5 : Int32) = some (oS g 12 (F12_50 g.1) (A12_43 g.1 ++ [.inl (0, (29, .inl (upd (upd (upd (upd (upd (upd (upd (upd (upd (upd (upd (upd (upd (upd (upd (upd (upd (upd (upd (upd (upd (upd (upd (upd (upd (fun _ => 0) 0 0) 1 0) 2 0) 3 0) 4 0) 5 0) 6 0) 7 0) 8 1) 9 1) 10 1) 11 1) 12 2) 13 2) 14 2) 15 2) 16 3) 17 3) 18 3) 19 3) 20 4) 21 4) 22 4) 23 4) 24 5)))]) (V12_43 + 29)) := by
  exact o_wIl (X := 24) (by decide) (by decide) (by decide) h8
theorem t12_149 {g : ps_G} (h8 : 8 ≤ g.1) : q_wI (oS g 12 (F12_50 g.1) (A12_43 g.1 ++ [.inl (0, (29, .inl (upd (upd (upd (upd (upd (upd (upd (upd (upd (upd (upd (upd (upd (upd (upd (upd (upd (upd (upd (upd (upd (upd (upd (upd (upd (fun _ => 0) 0 0) 1 0) 2 0) 3 0) 4 0) 5 0) 6 0) 7 0) 8 1) 9 1) 10 1) 11 1) 12 2) 13 2) 14 2) 15 2) 16 3) 17 3) 18 3) 19 3) 20 4) 21 4) 22 4) 23 4) 24 5)))]) (V12_43 + 29)) (oS g 12 (F12_50 g.1) (A12_43 g.1) V12_43).1 (25 : Int32) (5 : Int32) = some (oS g 12 (F12_50 g.1) (A12_43 g.1 ++ [.inl (0, (29, .inl (upd (upd (upd (upd (upd (upd (upd (upd (upd (upd (upd (upd (upd (upd (upd (upd (upd (upd (upd (upd (upd (upd (upd (upd (upd (upd (fun _ => 0) 0 0) 1 0) 2 0) 3 0) 4 0) 5 0) 6 0) 7 0) 8 1) 9 1) 10 1) 11 1) 12 2) 13 2) 14 2) 15 2) 16 3) 17 3) 18 3) 19 3) 20 4) 21 4) 22 4) 23 4) 24 5) 25 5)))]) (V12_43 + 29)) := by
  exact o_wIl (X := 25) (by decide) (by decide) (by decide) h8
theorem t12_150 {g : ps_G} (h8 : 8 ≤ g.1) : q_wI (oS g 12 (F12_50 g.1) (A12_43 g.1 ++ [.inl (0, (29, .inl (upd (upd (upd (upd (upd (upd (upd (upd (upd (upd (upd (upd (upd (upd (upd (upd (upd (upd (upd (upd (upd (upd (upd (upd (upd (upd (fun _ => 0) 0 0) 1 0) 2 0) 3 0) 4 0) 5 0) 6 0) 7 0) 8 1) 9 1) 10 1) 11 1) 12 2) 13 2) 14 2) 15 2) 16 3) 17 3) 18 3) 19 3) 20 4) 21 4) 22 4) 23 4) 24 5) 25 5)))]) (V12_43 + 29)) (oS g 12 (F12_50 g.1) (A12_43 g.1) V12_43).1 (26 : Int32) (5 : Int32) = some (oS g 12 (F12_50 g.1) (A12_43 g.1 ++ [.inl (0, (29, .inl (upd (upd (upd (upd (upd (upd (upd (upd (upd (upd (upd (upd (upd (upd (upd (upd (upd (upd (upd (upd (upd (upd (upd (upd (upd (upd (upd (fun _ => 0) 0 0) 1 0) 2 0) 3 0) 4 0) 5 0) 6 0) 7 0) 8 1) 9 1) 10 1) 11 1) 12 2) 13 2) 14 2) 15 2) 16 3) 17 3) 18 3) 19 3) 20 4) 21 4) 22 4) 23 4) 24 5) 25 5) 26 5)))]) (V12_43 + 29)) := by
  exact o_wIl (X := 26) (by decide) (by decide) (by decide) h8
theorem t12_151 {g : ps_G} (h8 : 8 ≤ g.1) : q_wI (oS g 12 (F12_50 g.1) (A12_43 g.1 ++ [.inl (0, (29, .inl (upd (upd (upd (upd (upd (upd (upd (upd (upd (upd (upd (upd (upd (upd (upd (upd (upd (upd (upd (upd (upd (upd (upd (upd (upd (upd (upd (fun _ => 0) 0 0) 1 0) 2 0) 3 0) 4 0) 5 0) 6 0) 7 0) 8 1) 9 1) 10 1) 11 1) 12 2) 13 2) 14 2) 15 2) 16 3) 17 3) 18 3) 19 3) 20 4) 21 4) 22 4) 23 4) 24 5) 25 5) 26 5)))]) (V12_43 + 29)) (oS g 12 (F12_50 g.1) (A12_43 g.1) V12_43).1 (27 : Int32) (5 : Int32) = some (oS g 12 (F12_50 g.1) (A12_43 g.1 ++ [.inl (0, (29, .inl (upd (upd (upd (upd (upd (upd (upd (upd (upd (upd (upd (upd (upd (upd (upd (upd (upd (upd (upd (upd (upd (upd (upd (upd (upd (upd (upd (upd (fun _ => 0) 0 0) 1 0) 2 0) 3 0) 4 0) 5 0) 6 0) 7 0) 8 1) 9 1) 10 1) 11 1) 12 2) 13 2) 14 2) 15 2) 16 3) 17 3) 18 3) 19 3) 20 4) 21 4) 22 4) 23 4) 24 5) 25 5) 26 5) 27 5)))]) (V12_43 + 29)) := by
  exact o_wIl (X := 27) (by decide) (by decide) (by decide) h8
theorem t12_152 {g : ps_G} (h8 : 8 ≤ g.1) : q_wI (oS g 12 (F12_50 g.1) (A12_43 g.1 ++ [.inl (0, (29, .inl (upd (upd (upd (upd (upd (upd (upd (upd (upd (upd (upd (upd (upd (upd (upd (upd (upd (upd (upd (upd (upd (upd (upd (upd (upd (upd (upd (upd (fun _ => 0) 0 0) 1 0) 2 0) 3 0) 4 0) 5 0) 6 0) 7 0) 8 1) 9 1) 10 1) 11 1) 12 2) 13 2) 14 2) 15 2) 16 3) 17 3) 18 3) 19 3) 20 4) 21 4) 22 4) 23 4) 24 5) 25 5) 26 5) 27 5)))]) (V12_43 + 29)) (oS g 12 (F12_50 g.1) (A12_43 g.1) V12_43).1 (28 : Int32) (0 : Int32) = some (oS g 12 (F12_50 g.1) (A12_43 g.1 ++ [.inl (0, (29, .inl (upd (upd (upd (upd (upd (upd (upd (upd (upd (upd (upd (upd (upd (upd (upd (upd (upd (upd (upd (upd (upd (upd (upd (upd (upd (upd (upd (upd (upd (fun _ => 0) 0 0) 1 0) 2 0) 3 0) 4 0) 5 0) 6 0) 7 0) 8 1) 9 1) 10 1) 11 1) 12 2) 13 2) 14 2) 15 2) 16 3) 17 3) 18 3) 19 3) 20 4) 21 4) 22 4) 23 4) 24 5) 25 5) 26 5) 27 5) 28 0)))]) (V12_43 + 29)) := by
  exact o_wIl (X := 28) (by decide) (by decide) (by decide) h8
def A12_44 (b : Nat) : List ps_E := A12_43 b ++ [.inl (0, (29, .inl (upd (upd (upd (upd (upd (upd (upd (upd (upd (upd (upd (upd (upd (upd (upd (upd (upd (upd (upd (upd (upd (upd (upd (upd (upd (upd (upd (upd (upd (fun _ => 0) 0 0) 1 0) 2 0) 3 0) 4 0) 5 0) 6 0) 7 0) 8 1) 9 1) 10 1) 11 1) 12 2) 13 2) 14 2) 15 2) 16 3) 17 3) 18 3) 19 3) 20 4) 21 4) 22 4) 23 4) 24 5) 25 5) 26 5) 27 5) 28 0)))]
theorem a12l_44 {b : Nat} : (A12_44 b).length = 44 := (List.length_append).trans (by rw [a12l_43]; rfl)
def V12_44 : Nat := V12_43 + 29
def F12_51 (b : Nat) : List Value := (F12_50 b).set 69 (.ref (b + 1 + 43))
theorem f12l_51 {b : Nat} : (F12_51 b).length = 94 := (List.length_set).trans f12l_50
theorem t12_153 {g : ps_G} (h8 : 8 ≤ g.1) : q_sR 12 69 (oS g 12 (F12_50 g.1) (A12_43 g.1 ++ [.inl (0, (29, .inl (upd (upd (upd (upd (upd (upd (upd (upd (upd (upd (upd (upd (upd (upd (upd (upd (upd (upd (upd (upd (upd (upd (upd (upd (upd (upd (upd (upd (upd (fun _ => 0) 0 0) 1 0) 2 0) 3 0) 4 0) 5 0) 6 0) 7 0) 8 1) 9 1) 10 1) 11 1) 12 2) 13 2) 14 2) 15 2) 16 3) 17 3) 18 3) 19 3) 20 4) 21 4) 22 4) 23 4) 24 5) 25 5) 26 5) 27 5) 28 0)))]) (V12_43 + 29)) g.1 (some (oS g 12 (F12_50 g.1) (A12_43 g.1) V12_43).1) = some (oS g 12 (F12_51 g.1) (A12_44 g.1) V12_44) := by
  have e : (oS g 12 (F12_50 g.1) (A12_43 g.1) V12_43).1 = g.1 + 1 + 43 := by rw [oS_1, a12l_43]
  rw [e]
  exact o_sR (by rw [f12l_50]; decide)
theorem p12_3 {g : ps_G} (h8 : 8 ≤ g.1) : jX12_init_584 (oS g 12 (F12_50 g.1) (A12_43 g.1) V12_43) g.1 = jX12_init_731 (oS g 12 (F12_51 g.1) (A12_44 g.1) V12_44) g.1 := by
  unfold jX12_init_584
  rw [t12_123 h8, ob_n, t12_124 h8, ob_n, t12_125 h8, ob_n, t12_126 h8, ob_n, t12_127 h8, ob_n, t12_128 h8, ob_n, t12_129 h8, ob_n, t12_130 h8, ob_n, t12_131 h8, ob_n, t12_132 h8, ob_n, t12_133 h8, ob_n, t12_134 h8, ob_n, t12_135 h8, ob_n, t12_136 h8, ob_n, t12_137 h8, ob_n, t12_138 h8, ob_n, t12_139 h8, ob_n, t12_140 h8, ob_n, t12_141 h8, ob_n, t12_142 h8, ob_n, t12_143 h8, ob_n, t12_144 h8, ob_n, t12_145 h8, ob_n, t12_146 h8, ob_n, t12_147 h8, ob_n, t12_148 h8, ob_n, t12_149 h8, ob_n, t12_150 h8, ob_n, t12_151 h8, ob_n, t12_152 h8, ob_n, t12_153 h8, ob_n]
theorem t12_154 {g : ps_G} (h8 : 8 ≤ g.1) : q_nA .int (oS g 12 (F12_51 g.1) (A12_44 g.1) V12_44) (30 : Int32) = some (oS g 12 (F12_51 g.1) (A12_44 g.1 ++ [.inl (0, (30, .inl (fun _ => 0)))]) (V12_44 + 30)) := by
  exact o_nA (N := 30) (by decide) (by decide)
theorem t12_155 {g : ps_G} (h8 : 8 ≤ g.1) : q_wI (oS g 12 (F12_51 g.1) (A12_44 g.1 ++ [.inl (0, (30, .inl (fun _ => 0)))]) (V12_44 + 30)) (oS g 12 (F12_51 g.1) (A12_44 g.1) V12_44).1 (0 : Int32) (1 : Int32) = some (oS g 12 (F12_51 g.1) (A12_44 g.1 ++ [.inl (0, (30, .inl (upd (fun _ => 0) 0 1)))]) (V12_44 + 30)) := by
  exact o_wIl (X := 0) (by decide) (by decide) (by decide) h8
theorem t12_156 {g : ps_G} (h8 : 8 ≤ g.1) : q_wI (oS g 12 (F12_51 g.1) (A12_44 g.1 ++ [.inl (0, (30, .inl (upd (fun _ => 0) 0 1)))]) (V12_44 + 30)) (oS g 12 (F12_51 g.1) (A12_44 g.1) V12_44).1 (1 : Int32) (2 : Int32) = some (oS g 12 (F12_51 g.1) (A12_44 g.1 ++ [.inl (0, (30, .inl (upd (upd (fun _ => 0) 0 1) 1 2)))]) (V12_44 + 30)) := by
  exact o_wIl (X := 1) (by decide) (by decide) (by decide) h8
theorem t12_157 {g : ps_G} (h8 : 8 ≤ g.1) : q_wI (oS g 12 (F12_51 g.1) (A12_44 g.1 ++ [.inl (0, (30, .inl (upd (upd (fun _ => 0) 0 1) 1 2)))]) (V12_44 + 30)) (oS g 12 (F12_51 g.1) (A12_44 g.1) V12_44).1 (2 : Int32) (3 : Int32) = some (oS g 12 (F12_51 g.1) (A12_44 g.1 ++ [.inl (0, (30, .inl (upd (upd (upd (fun _ => 0) 0 1) 1 2) 2 3)))]) (V12_44 + 30)) := by
  exact o_wIl (X := 2) (by decide) (by decide) (by decide) h8
theorem t12_158 {g : ps_G} (h8 : 8 ≤ g.1) : q_wI (oS g 12 (F12_51 g.1) (A12_44 g.1 ++ [.inl (0, (30, .inl (upd (upd (upd (fun _ => 0) 0 1) 1 2) 2 3)))]) (V12_44 + 30)) (oS g 12 (F12_51 g.1) (A12_44 g.1) V12_44).1 (3 : Int32) (4 : Int32) = some (oS g 12 (F12_51 g.1) (A12_44 g.1 ++ [.inl (0, (30, .inl (upd (upd (upd (upd (fun _ => 0) 0 1) 1 2) 2 3) 3 4)))]) (V12_44 + 30)) := by
  exact o_wIl (X := 3) (by decide) (by decide) (by decide) h8
theorem t12_159 {g : ps_G} (h8 : 8 ≤ g.1) : q_wI (oS g 12 (F12_51 g.1) (A12_44 g.1 ++ [.inl (0, (30, .inl (upd (upd (upd (upd (fun _ => 0) 0 1) 1 2) 2 3) 3 4)))]) (V12_44 + 30)) (oS g 12 (F12_51 g.1) (A12_44 g.1) V12_44).1 (4 : Int32) (5 : Int32) = some (oS g 12 (F12_51 g.1) (A12_44 g.1 ++ [.inl (0, (30, .inl (upd (upd (upd (upd (upd (fun _ => 0) 0 1) 1 2) 2 3) 3 4) 4 5)))]) (V12_44 + 30)) := by
  exact o_wIl (X := 4) (by decide) (by decide) (by decide) h8
theorem t12_160 {g : ps_G} (h8 : 8 ≤ g.1) : q_wI (oS g 12 (F12_51 g.1) (A12_44 g.1 ++ [.inl (0, (30, .inl (upd (upd (upd (upd (upd (fun _ => 0) 0 1) 1 2) 2 3) 3 4) 4 5)))]) (V12_44 + 30)) (oS g 12 (F12_51 g.1) (A12_44 g.1) V12_44).1 (5 : Int32) (7 : Int32) = some (oS g 12 (F12_51 g.1) (A12_44 g.1 ++ [.inl (0, (30, .inl (upd (upd (upd (upd (upd (upd (fun _ => 0) 0 1) 1 2) 2 3) 3 4) 4 5) 5 7)))]) (V12_44 + 30)) := by
  exact o_wIl (X := 5) (by decide) (by decide) (by decide) h8
theorem t12_161 {g : ps_G} (h8 : 8 ≤ g.1) : q_wI (oS g 12 (F12_51 g.1) (A12_44 g.1 ++ [.inl (0, (30, .inl (upd (upd (upd (upd (upd (upd (fun _ => 0) 0 1) 1 2) 2 3) 3 4) 4 5) 5 7)))]) (V12_44 + 30)) (oS g 12 (F12_51 g.1) (A12_44 g.1) V12_44).1 (6 : Int32) (9 : Int32) = some (oS g 12 (F12_51 g.1) (A12_44 g.1 ++ [.inl (0, (30, .inl (upd (upd (upd (upd (upd (upd (upd (fun _ => 0) 0 1) 1 2) 2 3) 3 4) 4 5) 5 7) 6 9)))]) (V12_44 + 30)) := by
  exact o_wIl (X := 6) (by decide) (by decide) (by decide) h8
theorem t12_162 {g : ps_G} (h8 : 8 ≤ g.1) : q_wI (oS g 12 (F12_51 g.1) (A12_44 g.1 ++ [.inl (0, (30, .inl (upd (upd (upd (upd (upd (upd (upd (fun _ => 0) 0 1) 1 2) 2 3) 3 4) 4 5) 5 7) 6 9)))]) (V12_44 + 30)) (oS g 12 (F12_51 g.1) (A12_44 g.1) V12_44).1 (7 : Int32) (13 : Int32) = some (oS g 12 (F12_51 g.1) (A12_44 g.1 ++ [.inl (0, (30, .inl (upd (upd (upd (upd (upd (upd (upd (upd (fun _ => 0) 0 1) 1 2) 2 3) 3 4) 4 5) 5 7) 6 9) 7 13)))]) (V12_44 + 30)) := by
  exact o_wIl (X := 7) (by decide) (by decide) (by decide) h8
theorem t12_163 {g : ps_G} (h8 : 8 ≤ g.1) : q_wI (oS g 12 (F12_51 g.1) (A12_44 g.1 ++ [.inl (0, (30, .inl (upd (upd (upd (upd (upd (upd (upd (upd (fun _ => 0) 0 1) 1 2) 2 3) 3 4) 4 5) 5 7) 6 9) 7 13)))]) (V12_44 + 30)) (oS g 12 (F12_51 g.1) (A12_44 g.1) V12_44).1 (8 : Int32) (17 : Int32) = some (oS g 12 (F12_51 g.1) (A12_44 g.1 ++ [.inl (0, (30, .inl (upd (upd (upd (upd (upd (upd (upd (upd (upd (fun _ => 0) 0 1) 1 2) 2 3) 3 4) 4 5) 5 7) 6 9) 7 13) 8 17)))]) (V12_44 + 30)) := by
  exact o_wIl (X := 8) (by decide) (by decide) (by decide) h8
theorem t12_164 {g : ps_G} (h8 : 8 ≤ g.1) : q_wI (oS g 12 (F12_51 g.1) (A12_44 g.1 ++ [.inl (0, (30, .inl (upd (upd (upd (upd (upd (upd (upd (upd (upd (fun _ => 0) 0 1) 1 2) 2 3) 3 4) 4 5) 5 7) 6 9) 7 13) 8 17)))]) (V12_44 + 30)) (oS g 12 (F12_51 g.1) (A12_44 g.1) V12_44).1 (9 : Int32) (25 : Int32) = some (oS g 12 (F12_51 g.1) (A12_44 g.1 ++ [.inl (0, (30, .inl (upd (upd (upd (upd (upd (upd (upd (upd (upd (upd (fun _ => 0) 0 1) 1 2) 2 3) 3 4) 4 5) 5 7) 6 9) 7 13) 8 17) 9 25)))]) (V12_44 + 30)) := by
  exact o_wIl (X := 9) (by decide) (by decide) (by decide) h8
theorem t12_165 {g : ps_G} (h8 : 8 ≤ g.1) : q_wI (oS g 12 (F12_51 g.1) (A12_44 g.1 ++ [.inl (0, (30, .inl (upd (upd (upd (upd (upd (upd (upd (upd (upd (upd (fun _ => 0) 0 1) 1 2) 2 3) 3 4) 4 5) 5 7) 6 9) 7 13) 8 17) 9 25)))]) (V12_44 + 30)) (oS g 12 (F12_51 g.1) (A12_44 g.1) V12_44).1 (10 : Int32) (33 : Int32) = some (oS g 12 (F12_51 g.1) (A12_44 g.1 ++ [.inl (0, (30, .inl (upd (upd (upd (upd (upd (upd (upd (upd (upd (upd (upd (fun _ => 0) 0 1) 1 2) 2 3) 3 4) 4 5) 5 7) 6 9) 7 13) 8 17) 9 25) 10 33)))]) (V12_44 + 30)) := by
  exact o_wIl (X := 10) (by decide) (by decide) (by decide) h8
theorem t12_166 {g : ps_G} (h8 : 8 ≤ g.1) : q_wI (oS g 12 (F12_51 g.1) (A12_44 g.1 ++ [.inl (0, (30, .inl (upd (upd (upd (upd (upd (upd (upd (upd (upd (upd (upd (fun _ => 0) 0 1) 1 2) 2 3) 3 4) 4 5) 5 7) 6 9) 7 13) 8 17) 9 25) 10 33)))]) (V12_44 + 30)) (oS g 12 (F12_51 g.1) (A12_44 g.1) V12_44).1 (11 : Int32) (49 : Int32) = some (oS g 12 (F12_51 g.1) (A12_44 g.1 ++ [.inl (0, (30, .inl (upd (upd (upd (upd (upd (upd (upd (upd (upd (upd (upd (upd (fun _ => 0) 0 1) 1 2) 2 3) 3 4) 4 5) 5 7) 6 9) 7 13) 8 17) 9 25) 10 33) 11 49)))]) (V12_44 + 30)) := by
  exact o_wIl (X := 11) (by decide) (by decide) (by decide) h8
theorem t12_167 {g : ps_G} (h8 : 8 ≤ g.1) : q_wI (oS g 12 (F12_51 g.1) (A12_44 g.1 ++ [.inl (0, (30, .inl (upd (upd (upd (upd (upd (upd (upd (upd (upd (upd (upd (upd (fun _ => 0) 0 1) 1 2) 2 3) 3 4) 4 5) 5 7) 6 9) 7 13) 8 17) 9 25) 10 33) 11 49)))]) (V12_44 + 30)) (oS g 12 (F12_51 g.1) (A12_44 g.1) V12_44).1 (12 : Int32) (65 : Int32) = some (oS g 12 (F12_51 g.1) (A12_44 g.1 ++ [.inl (0, (30, .inl (upd (upd (upd (upd (upd (upd (upd (upd (upd (upd (upd (upd (upd (fun _ => 0) 0 1) 1 2) 2 3) 3 4) 4 5) 5 7) 6 9) 7 13) 8 17) 9 25) 10 33) 11 49) 12 65)))]) (V12_44 + 30)) := by
  exact o_wIl (X := 12) (by decide) (by decide) (by decide) h8
theorem t12_168 {g : ps_G} (h8 : 8 ≤ g.1) : q_wI (oS g 12 (F12_51 g.1) (A12_44 g.1 ++ [.inl (0, (30, .inl (upd (upd (upd (upd (upd (upd (upd (upd (upd (upd (upd (upd (upd (fun _ => 0) 0 1) 1 2) 2 3) 3 4) 4 5) 5 7) 6 9) 7 13) 8 17) 9 25) 10 33) 11 49) 12 65)))]) (V12_44 + 30)) (oS g 12 (F12_51 g.1) (A12_44 g.1) V12_44).1 (13 : Int32) (97 : Int32) = some (oS g 12 (F12_51 g.1) (A12_44 g.1 ++ [.inl (0, (30, .inl (upd (upd (upd (upd (upd (upd (upd (upd (upd (upd (upd (upd (upd (upd (fun _ => 0) 0 1) 1 2) 2 3) 3 4) 4 5) 5 7) 6 9) 7 13) 8 17) 9 25) 10 33) 11 49) 12 65) 13 97)))]) (V12_44 + 30)) := by
  exact o_wIl (X := 13) (by decide) (by decide) (by decide) h8
theorem t12_169 {g : ps_G} (h8 : 8 ≤ g.1) : q_wI (oS g 12 (F12_51 g.1) (A12_44 g.1 ++ [.inl (0, (30, .inl (upd (upd (upd (upd (upd (upd (upd (upd (upd (upd (upd (upd (upd (upd (fun _ => 0) 0 1) 1 2) 2 3) 3 4) 4 5) 5 7) 6 9) 7 13) 8 17) 9 25) 10 33) 11 49) 12 65) 13 97)))]) (V12_44 + 30)) (oS g 12 (F12_51 g.1) (A12_44 g.1) V12_44).1 (14 : Int32) (129 : Int32) = some (oS g 12 (F12_51 g.1) (A12_44 g.1 ++ [.inl (0, (30, .inl (upd (upd (upd (upd (upd (upd (upd (upd (upd (upd (upd (upd (upd (upd (upd (fun _ => 0) 0 1) 1 2) 2 3) 3 4) 4 5) 5 7) 6 9) 7 13) 8 17) 9 25) 10 33) 11 49) 12 65) 13 97) 14 129)))]) (V12_44 + 30)) := by
  exact o_wIl (X := 14) (by decide) (by decide) (by decide) h8
theorem t12_170 {g : ps_G} (h8 : 8 ≤ g.1) : q_wI (oS g 12 (F12_51 g.1) (A12_44 g.1 ++ [.inl (0, (30, .inl (upd (upd (upd (upd (upd (upd (upd (upd (upd (upd (upd (upd (upd (upd (upd (fun _ => 0) 0 1) 1 2) 2 3) 3 4) 4 5) 5 7) 6 9) 7 13) 8 17) 9 25) 10 33) 11 49) 12 65) 13 97) 14 129)))]) (V12_44 + 30)) (oS g 12 (F12_51 g.1) (A12_44 g.1) V12_44).1 (15 : Int32) (193 : Int32) = some (oS g 12 (F12_51 g.1) (A12_44 g.1 ++ [.inl (0, (30, .inl (upd (upd (upd (upd (upd (upd (upd (upd (upd (upd (upd (upd (upd (upd (upd (upd (fun _ => 0) 0 1) 1 2) 2 3) 3 4) 4 5) 5 7) 6 9) 7 13) 8 17) 9 25) 10 33) 11 49) 12 65) 13 97) 14 129) 15 193)))]) (V12_44 + 30)) := by
  exact o_wIl (X := 15) (by decide) (by decide) (by decide) h8
theorem t12_171 {g : ps_G} (h8 : 8 ≤ g.1) : q_wI (oS g 12 (F12_51 g.1) (A12_44 g.1 ++ [.inl (0, (30, .inl (upd (upd (upd (upd (upd (upd (upd (upd (upd (upd (upd (upd (upd (upd (upd (upd (fun _ => 0) 0 1) 1 2) 2 3) 3 4) 4 5) 5 7) 6 9) 7 13) 8 17) 9 25) 10 33) 11 49) 12 65) 13 97) 14 129) 15 193)))]) (V12_44 + 30)) (oS g 12 (F12_51 g.1) (A12_44 g.1) V12_44).1 (16 : Int32) (257 : Int32) = some (oS g 12 (F12_51 g.1) (A12_44 g.1 ++ [.inl (0, (30, .inl (upd (upd (upd (upd (upd (upd (upd (upd (upd (upd (upd (upd (upd (upd (upd (upd (upd (fun _ => 0) 0 1) 1 2) 2 3) 3 4) 4 5) 5 7) 6 9) 7 13) 8 17) 9 25) 10 33) 11 49) 12 65) 13 97) 14 129) 15 193) 16 257)))]) (V12_44 + 30)) := by
  exact o_wIl (X := 16) (by decide) (by decide) (by decide) h8
theorem t12_172 {g : ps_G} (h8 : 8 ≤ g.1) : q_wI (oS g 12 (F12_51 g.1) (A12_44 g.1 ++ [.inl (0, (30, .inl (upd (upd (upd (upd (upd (upd (upd (upd (upd (upd (upd (upd (upd (upd (upd (upd (upd (fun _ => 0) 0 1) 1 2) 2 3) 3 4) 4 5) 5 7) 6 9) 7 13) 8 17) 9 25) 10 33) 11 49) 12 65) 13 97) 14 129) 15 193) 16 257)))]) (V12_44 + 30)) (oS g 12 (F12_51 g.1) (A12_44 g.1) V12_44).1 (17 : Int32) (385 : Int32) = some (oS g 12 (F12_51 g.1) (A12_44 g.1 ++ [.inl (0, (30, .inl (upd (upd (upd (upd (upd (upd (upd (upd (upd (upd (upd (upd (upd (upd (upd (upd (upd (upd (fun _ => 0) 0 1) 1 2) 2 3) 3 4) 4 5) 5 7) 6 9) 7 13) 8 17) 9 25) 10 33) 11 49) 12 65) 13 97) 14 129) 15 193) 16 257) 17 385)))]) (V12_44 + 30)) := by
  exact o_wIl (X := 17) (by decide) (by decide) (by decide) h8
theorem t12_173 {g : ps_G} (h8 : 8 ≤ g.1) : q_wI (oS g 12 (F12_51 g.1) (A12_44 g.1 ++ [.inl (0, (30, .inl (upd (upd (upd (upd (upd (upd (upd (upd (upd (upd (upd (upd (upd (upd (upd (upd (upd (upd (fun _ => 0) 0 1) 1 2) 2 3) 3 4) 4 5) 5 7) 6 9) 7 13) 8 17) 9 25) 10 33) 11 49) 12 65) 13 97) 14 129) 15 193) 16 257) 17 385)))]) (V12_44 + 30)) (oS g 12 (F12_51 g.1) (A12_44 g.1) V12_44).1 (18 : Int32) (513 : Int32) = some (oS g 12 (F12_51 g.1) (A12_44 g.1 ++ [.inl (0, (30, .inl (upd (upd (upd (upd (upd (upd (upd (upd (upd (upd (upd (upd (upd (upd (upd (upd (upd (upd (upd (fun _ => 0) 0 1) 1 2) 2 3) 3 4) 4 5) 5 7) 6 9) 7 13) 8 17) 9 25) 10 33) 11 49) 12 65) 13 97) 14 129) 15 193) 16 257) 17 385) 18 513)))]) (V12_44 + 30)) := by
  exact o_wIl (X := 18) (by decide) (by decide) (by decide) h8
theorem t12_174 {g : ps_G} (h8 : 8 ≤ g.1) : q_wI (oS g 12 (F12_51 g.1) (A12_44 g.1 ++ [.inl (0, (30, .inl (upd (upd (upd (upd (upd (upd (upd (upd (upd (upd (upd (upd (upd (upd (upd (upd (upd (upd (upd (fun _ => 0) 0 1) 1 2) 2 3) 3 4) 4 5) 5 7) 6 9) 7 13) 8 17) 9 25) 10 33) 11 49) 12 65) 13 97) 14 129) 15 193) 16 257) 17 385) 18 513)))]) (V12_44 + 30)) (oS g 12 (F12_51 g.1) (A12_44 g.1) V12_44).1 (19 : Int32) (769 : Int32) = some (oS g 12 (F12_51 g.1) (A12_44 g.1 ++ [.inl (0, (30, .inl (upd (upd (upd (upd (upd (upd (upd (upd (upd (upd (upd (upd (upd (upd (upd (upd (upd (upd (upd (upd (fun _ => 0) 0 1) 1 2) 2 3) 3 4) 4 5) 5 7) 6 9) 7 13) 8 17) 9 25) 10 33) 11 49) 12 65) 13 97) 14 129) 15 193) 16 257) 17 385) 18 513) 19 769)))]) (V12_44 + 30)) := by
  exact o_wIl (X := 19) (by decide) (by decide) (by decide) h8
theorem t12_175 {g : ps_G} (h8 : 8 ≤ g.1) : q_wI (oS g 12 (F12_51 g.1) (A12_44 g.1 ++ [.inl (0, (30, .inl (upd (upd (upd (upd (upd (upd (upd (upd (upd (upd (upd (upd (upd (upd (upd (upd (upd (upd (upd (upd (fun _ => 0) 0 1) 1 2) 2 3) 3 4) 4 5) 5 7) 6 9) 7 13) 8 17) 9 25) 10 33) 11 49) 12 65) 13 97) 14 129) 15 193) 16 257) 17 385) 18 513) 19 769)))]) (V12_44 + 30)) (oS g 12 (F12_51 g.1) (A12_44 g.1) V12_44).1 (20 : Int32) (1025 : Int32) = some (oS g 12 (F12_51 g.1) (A12_44 g.1 ++ [.inl (0, (30, .inl (upd (upd (upd (upd (upd (upd (upd (upd (upd (upd (upd (upd (upd (upd (upd (upd (upd (upd (upd (upd (upd (fun _ => 0) 0 1) 1 2) 2 3) 3 4) 4 5) 5 7) 6 9) 7 13) 8 17) 9 25) 10 33) 11 49) 12 65) 13 97) 14 129) 15 193) 16 257) 17 385) 18 513) 19 769) 20 1025)))]) (V12_44 + 30)) := by
  exact o_wIl (X := 20) (by decide) (by decide) (by decide) h8
theorem t12_176 {g : ps_G} (h8 : 8 ≤ g.1) : q_wI (oS g 12 (F12_51 g.1) (A12_44 g.1 ++ [.inl (0, (30, .inl (upd (upd (upd (upd (upd (upd (upd (upd (upd (upd (upd (upd (upd (upd (upd (upd (upd (upd (upd (upd (upd (fun _ => 0) 0 1) 1 2) 2 3) 3 4) 4 5) 5 7) 6 9) 7 13) 8 17) 9 25) 10 33) 11 49) 12 65) 13 97) 14 129) 15 193) 16 257) 17 385) 18 513) 19 769) 20 1025)))]) (V12_44 + 30)) (oS g 12 (F12_51 g.1) (A12_44 g.1) V12_44).1 (21 : Int32) (1537 : Int32) = some (oS g 12 (F12_51 g.1) (A12_44 g.1 ++ [.inl (0, (30, .inl (upd (upd (upd (upd (upd (upd (upd (upd (upd (upd (upd (upd (upd (upd (upd (upd (upd (upd (upd (upd (upd (upd (fun _ => 0) 0 1) 1 2) 2 3) 3 4) 4 5) 5 7) 6 9) 7 13) 8 17) 9 25) 10 33) 11 49) 12 65) 13 97) 14 129) 15 193) 16 257) 17 385) 18 513) 19 769) 20 1025) 21 1537)))]) (V12_44 + 30)) := by
  exact o_wIl (X := 21) (by decide) (by decide) (by decide) h8
theorem t12_177 {g : ps_G} (h8 : 8 ≤ g.1) : q_wI (oS g 12 (F12_51 g.1) (A12_44 g.1 ++ [.inl (0, (30, .inl (upd (upd (upd (upd (upd (upd (upd (upd (upd (upd (upd (upd (upd (upd (upd (upd (upd (upd (upd (upd (upd (upd (fun _ => 0) 0 1) 1 2) 2 3) 3 4) 4 5) 5 7) 6 9) 7 13) 8 17) 9 25) 10 33) 11 49) 12 65) 13 97) 14 129) 15 193) 16 257) 17 385) 18 513) 19 769) 20 1025) 21 1537)))]) (V12_44 + 30)) (oS g 12 (F12_51 g.1) (A12_44 g.1) V12_44).1 (22 : Int32) (2049 : Int32) = some (oS g 12 (F12_51 g.1) (A12_44 g.1 ++ [.inl (0, (30, .inl (upd (upd (upd (upd (upd (upd (upd (upd (upd (upd (upd (upd (upd (upd (upd (upd (upd (upd (upd (upd (upd (upd (upd (fun _ => 0) 0 1) 1 2) 2 3) 3 4) 4 5) 5 7) 6 9) 7 13) 8 17) 9 25) 10 33) 11 49) 12 65) 13 97) 14 129) 15 193) 16 257) 17 385) 18 513) 19 769) 20 1025) 21 1537) 22 2049)))]) (V12_44 + 30)) := by
  exact o_wIl (X := 22) (by decide) (by decide) (by decide) h8
theorem t12_178 {g : ps_G} (h8 : 8 ≤ g.1) : q_wI (oS g 12 (F12_51 g.1) (A12_44 g.1 ++ [.inl (0, (30, .inl (upd (upd (upd (upd (upd (upd (upd (upd (upd (upd (upd (upd (upd (upd (upd (upd (upd (upd (upd (upd (upd (upd (upd (fun _ => 0) 0 1) 1 2) 2 3) 3 4) 4 5) 5 7) 6 9) 7 13) 8 17) 9 25) 10 33) 11 49) 12 65) 13 97) 14 129) 15 193) 16 257) 17 385) 18 513) 19 769) 20 1025) 21 1537) 22 2049)))]) (V12_44 + 30)) (oS g 12 (F12_51 g.1) (A12_44 g.1) V12_44).1 (23 : Int32) (3073 : Int32) = some (oS g 12 (F12_51 g.1) (A12_44 g.1 ++ [.inl (0, (30, .inl (upd (upd (upd (upd (upd (upd (upd (upd (upd (upd (upd (upd (upd (upd (upd (upd (upd (upd (upd (upd (upd (upd (upd (upd (fun _ => 0) 0 1) 1 2) 2 3) 3 4) 4 5) 5 7) 6 9) 7 13) 8 17) 9 25) 10 33) 11 49) 12 65) 13 97) 14 129) 15 193) 16 257) 17 385) 18 513) 19 769) 20 1025) 21 1537) 22 2049) 23 3073)))]) (V12_44 + 30)) := by
  exact o_wIl (X := 23) (by decide) (by decide) (by decide) h8
theorem t12_179 {g : ps_G} (h8 : 8 ≤ g.1) : q_wI (oS g 12 (F12_51 g.1) (A12_44 g.1 ++ [.inl (0, (30, .inl (upd (upd (upd (upd (upd (upd (upd (upd (upd (upd (upd (upd (upd (upd (upd (upd (upd (upd (upd (upd (upd (upd (upd (upd (fun _ => 0) 0 1) 1 2) 2 3) 3 4) 4 5) 5 7) 6 9) 7 13) 8 17) 9 25) 10 33) 11 49) 12 65) 13 97) 14 129) 15 193) 16 257) 17 385) 18 513) 19 769) 20 1025) 21 1537) 22 2049) 23 3073)))]) (V12_44 + 30)) (oS g 12 (F12_51 g.1) (A12_44 g.1) V12_44).1 (24 : Int32) (4097 : Int32) = some (oS g 12 (F12_51 g.1) (A12_44 g.1 ++ [.inl (0, (30, .inl (upd (upd (upd (upd (upd (upd (upd (upd (upd (upd (upd (upd (upd (upd (upd (upd (upd (upd (upd (upd (upd (upd (upd (upd (upd (fun _ => 0) 0 1) 1 2) 2 3) 3 4) 4 5) 5 7) 6 9) 7 13) 8 17) 9 25) 10 33) 11 49) 12 65) 13 97) 14 129) 15 193) 16 257) 17 385) 18 513) 19 769) 20 1025) 21 1537) 22 2049) 23 3073) 24 4097)))]) (V12_44 + 30)) := by
  exact o_wIl (X := 24) (by decide) (by decide) (by decide) h8
theorem t12_180 {g : ps_G} (h8 : 8 ≤ g.1) : q_wI (oS g 12 (F12_51 g.1) (A12_44 g.1 ++ [.inl (0, (30, .inl (upd (upd (upd (upd (upd (upd (upd (upd (upd (upd (upd (upd (upd (upd (upd (upd (upd (upd (upd (upd (upd (upd (upd (upd (upd (fun _ => 0) 0 1) 1 2) 2 3) 3 4) 4 5) 5 7) 6 9) 7 13) 8 17) 9 25) 10 33) 11 49) 12 65) 13 97) 14 129) 15 193) 16 257) 17 385) 18 513) 19 769) 20 1025) 21 1537) 22 2049) 23 3073) 24 4097)))]) (V12_44 + 30)) (oS g 12 (F12_51 g.1) (A12_44 g.1) V12_44).1 (25 : Int32) (6145 : Int32) = some (oS g 12 (F12_51 g.1) (A12_44 g.1 ++ [.inl (0, (30, .inl (upd (upd (upd (upd (upd (upd (upd (upd (upd (upd (upd (upd (upd (upd (upd (upd (upd (upd (upd (upd (upd (upd (upd (upd (upd (upd (fun _ => 0) 0 1) 1 2) 2 3) 3 4) 4 5) 5 7) 6 9) 7 13) 8 17) 9 25) 10 33) 11 49) 12 65) 13 97) 14 129) 15 193) 16 257) 17 385) 18 513) 19 769) 20 1025) 21 1537) 22 2049) 23 3073) 24 4097) 25 6145)))]) (V12_44 + 30)) := by
  exact o_wIl (X := 25) (by decide) (by decide) (by decide) h8
theorem t12_181 {g : ps_G} (h8 : 8 ≤ g.1) : q_wI (oS g 12 (F12_51 g.1) (A12_44 g.1 ++ [.inl (0, (30, .inl (upd (upd (upd (upd (upd (upd (upd (upd (upd (upd (upd (upd (upd (upd (upd (upd (upd (upd (upd (upd (upd (upd (upd (upd (upd (upd (fun _ => 0) 0 1) 1 2) 2 3) 3 4) 4 5) 5 7) 6 9) 7 13) 8 17) 9 25) 10 33) 11 49) 12 65) 13 97) 14 129) 15 193) 16 257) 17 385) 18 513) 19 769) 20 1025) 21 1537) 22 2049) 23 3073) 24 4097) 25 6145)))]) (V12_44 + 30)) (oS g 12 (F12_51 g.1) (A12_44 g.1) V12_44).1 (26 : Int32) (8193 : Int32) = some (oS g 12 (F12_51 g.1) (A12_44 g.1 ++ [.inl (0, (30, .inl (upd (upd (upd (upd (upd (upd (upd (upd (upd (upd (upd (upd (upd (upd (upd (upd (upd (upd (upd (upd (upd (upd (upd (upd (upd (upd (upd (fun _ => 0) 0 1) 1 2) 2 3) 3 4) 4 5) 5 7) 6 9) 7 13) 8 17) 9 25) 10 33) 11 49) 12 65) 13 97) 14 129) 15 193) 16 257) 17 385) 18 513) 19 769) 20 1025) 21 1537) 22 2049) 23 3073) 24 4097) 25 6145) 26 8193)))]) (V12_44 + 30)) := by
  exact o_wIl (X := 26) (by decide) (by decide) (by decide) h8
theorem t12_182 {g : ps_G} (h8 : 8 ≤ g.1) : q_wI (oS g 12 (F12_51 g.1) (A12_44 g.1 ++ [.inl (0, (30, .inl (upd (upd (upd (upd (upd (upd (upd (upd (upd (upd (upd (upd (upd (upd (upd (upd (upd (upd (upd (upd (upd (upd (upd (upd (upd (upd (upd (fun _ => 0) 0 1) 1 2) 2 3) 3 4) 4 5) 5 7) 6 9) 7 13) 8 17) 9 25) 10 33) 11 49) 12 65) 13 97) 14 129) 15 193) 16 257) 17 385) 18 513) 19 769) 20 1025) 21 1537) 22 2049) 23 3073) 24 4097) 25 6145) 26 8193)))]) (V12_44 + 30)) (oS g 12 (F12_51 g.1) (A12_44 g.1) V12_44).1 (27 : Int32) (12289 : Int32) = some (oS g 12 (F12_51 g.1) (A12_44 g.1 ++ [.inl (0, (30, .inl (upd (upd (upd (upd (upd (upd (upd (upd (upd (upd (upd (upd (upd (upd (upd (upd (upd (upd (upd (upd (upd (upd (upd (upd (upd (upd (upd (upd (fun _ => 0) 0 1) 1 2) 2 3) 3 4) 4 5) 5 7) 6 9) 7 13) 8 17) 9 25) 10 33) 11 49) 12 65) 13 97) 14 129) 15 193) 16 257) 17 385) 18 513) 19 769) 20 1025) 21 1537) 22 2049) 23 3073) 24 4097) 25 6145) 26 8193) 27 12289)))]) (V12_44 + 30)) := by
  exact o_wIl (X := 27) (by decide) (by decide) (by decide) h8
theorem t12_183 {g : ps_G} (h8 : 8 ≤ g.1) : q_wI (oS g 12 (F12_51 g.1) (A12_44 g.1 ++ [.inl (0, (30, .inl (upd (upd (upd (upd (upd (upd (upd (upd (upd (upd (upd (upd (upd (upd (upd (upd (upd (upd (upd (upd (upd (upd (upd (upd (upd (upd (upd (upd (fun _ => 0) 0 1) 1 2) 2 3) 3 4) 4 5) 5 7) 6 9) 7 13) 8 17) 9 25) 10 33) 11 49) 12 65) 13 97) 14 129) 15 193) 16 257) 17 385) 18 513) 19 769) 20 1025) 21 1537) 22 2049) 23 3073) 24 4097) 25 6145) 26 8193) 27 12289)))]) (V12_44 + 30)) (oS g 12 (F12_51 g.1) (A12_44 g.1) V12_44).1 (28 : Int32) (16385 : Int32) = some (oS g 12 (F12_51 g.1) (A12_44 g.1 ++ [.inl (0, (30, .inl (upd (upd (upd (upd (upd (upd (upd (upd (upd (upd (upd (upd (upd (upd (upd (upd (upd (upd (upd (upd (upd (upd (upd (upd (upd (upd (upd (upd (upd (fun _ => 0) 0 1) 1 2) 2 3) 3 4) 4 5) 5 7) 6 9) 7 13) 8 17) 9 25) 10 33) 11 49) 12 65) 13 97) 14 129) 15 193) 16 257) 17 385) 18 513) 19 769) 20 1025) 21 1537) 22 2049) 23 3073) 24 4097) 25 6145) 26 8193) 27 12289) 28 16385)))]) (V12_44 + 30)) := by
  exact o_wIl (X := 28) (by decide) (by decide) (by decide) h8
theorem t12_184 {g : ps_G} (h8 : 8 ≤ g.1) : q_wI (oS g 12 (F12_51 g.1) (A12_44 g.1 ++ [.inl (0, (30, .inl (upd (upd (upd (upd (upd (upd (upd (upd (upd (upd (upd (upd (upd (upd (upd (upd (upd (upd (upd (upd (upd (upd (upd (upd (upd (upd (upd (upd (upd (fun _ => 0) 0 1) 1 2) 2 3) 3 4) 4 5) 5 7) 6 9) 7 13) 8 17) 9 25) 10 33) 11 49) 12 65) 13 97) 14 129) 15 193) 16 257) 17 385) 18 513) 19 769) 20 1025) 21 1537) 22 2049) 23 3073) 24 4097) 25 6145) 26 8193) 27 12289) 28 16385)))]) (V12_44 + 30)) (oS g 12 (F12_51 g.1) (A12_44 g.1) V12_44).1 (29 : Int32) (24577 : Int32) = some (oS g 12 (F12_51 g.1) (A12_44 g.1 ++ [.inl (0, (30, .inl (upd (upd (upd (upd (upd (upd (upd (upd (upd (upd (upd (upd (upd (upd (upd (upd (upd (upd (upd (upd (upd (upd (upd (upd (upd (upd (upd (upd (upd (upd (fun _ => 0) 0 1) 1 2) 2 3) 3 4) 4 5) 5 7) 6 9) 7 13) 8 17) 9 25) 10 33) 11 49) 12 65) 13 97) 14 129) 15 193) 16 257) 17 385) 18 513) 19 769) 20 1025) 21 1537) 22 2049) 23 3073) 24 4097) 25 6145) 26 8193) 27 12289) 28 16385) 29 24577)))]) (V12_44 + 30)) := by
  exact o_wIl (X := 29) (by decide) (by decide) (by decide) h8
def A12_45 (b : Nat) : List ps_E := A12_44 b ++ [.inl (0, (30, .inl (upd (upd (upd (upd (upd (upd (upd (upd (upd (upd (upd (upd (upd (upd (upd (upd (upd (upd (upd (upd (upd (upd (upd (upd (upd (upd (upd (upd (upd (upd (fun _ => 0) 0 1) 1 2) 2 3) 3 4) 4 5) 5 7) 6 9) 7 13) 8 17) 9 25) 10 33) 11 49) 12 65) 13 97) 14 129) 15 193) 16 257) 17 385) 18 513) 19 769) 20 1025) 21 1537) 22 2049) 23 3073) 24 4097) 25 6145) 26 8193) 27 12289) 28 16385) 29 24577)))]
theorem a12l_45 {b : Nat} : (A12_45 b).length = 45 := (List.length_append).trans (by rw [a12l_44]; rfl)
def V12_45 : Nat := V12_44 + 30
def F12_52 (b : Nat) : List Value := (F12_51 b).set 70 (.ref (b + 1 + 44))
theorem f12l_52 {b : Nat} : (F12_52 b).length = 94 := (List.length_set).trans f12l_51
theorem t12_185 {g : ps_G} (h8 : 8 ≤ g.1) : q_sR 12 70 (oS g 12 (F12_51 g.1) (A12_44 g.1 ++ [.inl (0, (30, .inl (upd (upd (upd (upd (upd (upd (upd (upd (upd (upd (upd (upd (upd (upd (upd (upd (upd (upd (upd (upd (upd (upd (upd (upd (upd (upd (upd (upd (upd (upd (fun _ => 0) 0 1) 1 2) 2 3) 3 4) 4 5) 5 7) 6 9) 7 13) 8 17) 9 25) 10 33) 11 49) 12 65) 13 97) 14 129) 15 193) 16 257) 17 385) 18 513) 19 769) 20 1025) 21 1537) 22 2049) 23 3073) 24 4097) 25 6145) 26 8193) 27 12289) 28 16385) 29 24577)))]) (V12_44 + 30)) g.1 (some (oS g 12 (F12_51 g.1) (A12_44 g.1) V12_44).1) = some (oS g 12 (F12_52 g.1) (A12_45 g.1) V12_45) := by
  have e : (oS g 12 (F12_51 g.1) (A12_44 g.1) V12_44).1 = g.1 + 1 + 44 := by rw [oS_1, a12l_44]
  rw [e]
  exact o_sR (by rw [f12l_51]; decide)
theorem p12_4 {g : ps_G} (h8 : 8 ≤ g.1) : jX12_init_731 (oS g 12 (F12_51 g.1) (A12_44 g.1) V12_44) g.1 = jX12_init_924 (oS g 12 (F12_52 g.1) (A12_45 g.1) V12_45) g.1 := by
  unfold jX12_init_731
  rw [t12_154 h8, ob_n, t12_155 h8, ob_n, t12_156 h8, ob_n, t12_157 h8, ob_n, t12_158 h8, ob_n, t12_159 h8, ob_n, t12_160 h8, ob_n, t12_161 h8, ob_n, t12_162 h8, ob_n, t12_163 h8, ob_n, t12_164 h8, ob_n, t12_165 h8, ob_n, t12_166 h8, ob_n, t12_167 h8, ob_n, t12_168 h8, ob_n, t12_169 h8, ob_n, t12_170 h8, ob_n, t12_171 h8, ob_n, t12_172 h8, ob_n, t12_173 h8, ob_n, t12_174 h8, ob_n, t12_175 h8, ob_n, t12_176 h8, ob_n, t12_177 h8, ob_n, t12_178 h8, ob_n, t12_179 h8, ob_n, t12_180 h8, ob_n, t12_181 h8, ob_n, t12_182 h8, ob_n, t12_183 h8, ob_n, t12_184 h8, ob_n, t12_185 h8, ob_n]
theorem t12_186 {g : ps_G} (h8 : 8 ≤ g.1) : q_nA .int (oS g 12 (F12_52 g.1) (A12_45 g.1) V12_45) (30 : Int32) = some (oS g 12 (F12_52 g.1) (A12_45 g.1 ++ [.inl (0, (30, .inl (fun _ => 0)))]) (V12_45 + 30)) := by
  exact o_nA (N := 30) (by decide) (by decide)
theorem t12_187 {g : ps_G} (h8 : 8 ≤ g.1) : q_wI (oS g 12 (F12_52 g.1) (A12_45 g.1 ++ [.inl (0, (30, .inl (fun _ => 0)))]) (V12_45 + 30)) (oS g 12 (F12_52 g.1) (A12_45 g.1) V12_45).1 (0 : Int32) (0 : Int32) = some (oS g 12 (F12_52 g.1) (A12_45 g.1 ++ [.inl (0, (30, .inl (upd (fun _ => 0) 0 0)))]) (V12_45 + 30)) := by
  exact o_wIl (X := 0) (by decide) (by decide) (by decide) h8
theorem t12_188 {g : ps_G} (h8 : 8 ≤ g.1) : q_wI (oS g 12 (F12_52 g.1) (A12_45 g.1 ++ [.inl (0, (30, .inl (upd (fun _ => 0) 0 0)))]) (V12_45 + 30)) (oS g 12 (F12_52 g.1) (A12_45 g.1) V12_45).1 (1 : Int32) (0 : Int32) = some (oS g 12 (F12_52 g.1) (A12_45 g.1 ++ [.inl (0, (30, .inl (upd (upd (fun _ => 0) 0 0) 1 0)))]) (V12_45 + 30)) := by
  exact o_wIl (X := 1) (by decide) (by decide) (by decide) h8
theorem t12_189 {g : ps_G} (h8 : 8 ≤ g.1) : q_wI (oS g 12 (F12_52 g.1) (A12_45 g.1 ++ [.inl (0, (30, .inl (upd (upd (fun _ => 0) 0 0) 1 0)))]) (V12_45 + 30)) (oS g 12 (F12_52 g.1) (A12_45 g.1) V12_45).1 (2 : Int32) (0 : Int32) = some (oS g 12 (F12_52 g.1) (A12_45 g.1 ++ [.inl (0, (30, .inl (upd (upd (upd (fun _ => 0) 0 0) 1 0) 2 0)))]) (V12_45 + 30)) := by
  exact o_wIl (X := 2) (by decide) (by decide) (by decide) h8
theorem t12_190 {g : ps_G} (h8 : 8 ≤ g.1) : q_wI (oS g 12 (F12_52 g.1) (A12_45 g.1 ++ [.inl (0, (30, .inl (upd (upd (upd (fun _ => 0) 0 0) 1 0) 2 0)))]) (V12_45 + 30)) (oS g 12 (F12_52 g.1) (A12_45 g.1) V12_45).1 (3 : Int32) (0 : Int32) = some (oS g 12 (F12_52 g.1) (A12_45 g.1 ++ [.inl (0, (30, .inl (upd (upd (upd (upd (fun _ => 0) 0 0) 1 0) 2 0) 3 0)))]) (V12_45 + 30)) := by
  exact o_wIl (X := 3) (by decide) (by decide) (by decide) h8
theorem t12_191 {g : ps_G} (h8 : 8 ≤ g.1) : q_wI (oS g 12 (F12_52 g.1) (A12_45 g.1 ++ [.inl (0, (30, .inl (upd (upd (upd (upd (fun _ => 0) 0 0) 1 0) 2 0) 3 0)))]) (V12_45 + 30)) (oS g 12 (F12_52 g.1) (A12_45 g.1) V12_45).1 (4 : Int32) (1 : Int32) = some (oS g 12 (F12_52 g.1) (A12_45 g.1 ++ [.inl (0, (30, .inl (upd (upd (upd (upd (upd (fun _ => 0) 0 0) 1 0) 2 0) 3 0) 4 1)))]) (V12_45 + 30)) := by
  exact o_wIl (X := 4) (by decide) (by decide) (by decide) h8
theorem t12_192 {g : ps_G} (h8 : 8 ≤ g.1) : q_wI (oS g 12 (F12_52 g.1) (A12_45 g.1 ++ [.inl (0, (30, .inl (upd (upd (upd (upd (upd (fun _ => 0) 0 0) 1 0) 2 0) 3 0) 4 1)))]) (V12_45 + 30)) (oS g 12 (F12_52 g.1) (A12_45 g.1) V12_45).1 (5 : Int32) (1 : Int32) = some (oS g 12 (F12_52 g.1) (A12_45 g.1 ++ [.inl (0, (30, .inl (upd (upd (upd (upd (upd (upd (fun _ => 0) 0 0) 1 0) 2 0) 3 0) 4 1) 5 1)))]) (V12_45 + 30)) := by
  exact o_wIl (X := 5) (by decide) (by decide) (by decide) h8
theorem t12_193 {g : ps_G} (h8 : 8 ≤ g.1) : q_wI (oS g 12 (F12_52 g.1) (A12_45 g.1 ++ [.inl (0, (30, .inl (upd (upd (upd (upd (upd (upd (fun _ => 0) 0 0) 1 0) 2 0) 3 0) 4 1) 5 1)))]) (V12_45 + 30)) (oS g 12 (F12_52 g.1) (A12_45 g.1) V12_45).1 (6 : Int32) (2 : Int32) = some (oS g 12 (F12_52 g.1) (A12_45 g.1 ++ [.inl (0, (30, .inl (upd (upd (upd (upd (upd (upd (upd (fun _ => 0) 0 0) 1 0) 2 0) 3 0) 4 1) 5 1) 6 2)))]) (V12_45 + 30)) := by
  exact o_wIl (X := 6) (by decide) (by decide) (by decide) h8
theorem t12_194 {g : ps_G} (h8 : 8 ≤ g.1) : q_wI (oS g 12 (F12_52 g.1) (A12_45 g.1 ++ [.inl (0, (30, .inl (upd (upd (upd (upd (upd (upd (upd (fun _ => 0) 0 0) 1 0) 2 0) 3 0) 4 1) 5 1) 6 2)))]) (V12_45 + 30)) (oS g 12 (F12_52 g.1) (A12_45 g.1) V12_45).1 (7 : Int32) (2 : Int32) = some (oS g 12 (F12_52 g.1) (A12_45 g.1 ++ [.inl (0, (30, .inl (upd (upd (upd (upd (upd (upd (upd (upd (fun _ => 0) 0 0) 1 0) 2 0) 3 0) 4 1) 5 1) 6 2) 7 2)))]) (V12_45 + 30)) := by
  exact o_wIl (X := 7) (by decide) (by decide) (by decide) h8
theorem t12_195 {g : ps_G} (h8 : 8 ≤ g.1) : q_wI (oS g 12 (F12_52 g.1) (A12_45 g.1 ++ [.inl (0, (30, .inl (upd (upd (upd (upd (upd (upd (upd (upd (fun _ => 0) 0 0) 1 0) 2 0) 3 0) 4 1) 5 1) 6 2) 7 2)))]) (V12_45 + 30)) (oS g 12 (F12_52 g.1) (A12_45 g.1) V12_45).1 (8 : Int32) (3 : Int32) = some (oS g 12 (F12_52 g.1) (A12_45 g.1 ++ [.inl (0, (30, .inl (upd (upd (upd (upd (upd (upd (upd (upd (upd (fun _ => 0) 0 0) 1 0) 2 0) 3 0) 4 1) 5 1) 6 2) 7 2) 8 3)))]) (V12_45 + 30)) := by
  exact o_wIl (X := 8) (by decide) (by decide) (by decide) h8
theorem t12_196 {g : ps_G} (h8 : 8 ≤ g.1) : q_wI (oS g 12 (F12_52 g.1) (A12_45 g.1 ++ [.inl (0, (30, .inl (upd (upd (upd (upd (upd (upd (upd (upd (upd (fun _ => 0) 0 0) 1 0) 2 0) 3 0) 4 1) 5 1) 6 2) 7 2) 8 3)))]) (V12_45 + 30)) (oS g 12 (F12_52 g.1) (A12_45 g.1) V12_45).1 (9 : Int32) (3 : Int32) = some (oS g 12 (F12_52 g.1) (A12_45 g.1 ++ [.inl (0, (30, .inl (upd (upd (upd (upd (upd (upd (upd (upd (upd (upd (fun _ => 0) 0 0) 1 0) 2 0) 3 0) 4 1) 5 1) 6 2) 7 2) 8 3) 9 3)))]) (V12_45 + 30)) := by
  exact o_wIl (X := 9) (by decide) (by decide) (by decide) h8
theorem t12_197 {g : ps_G} (h8 : 8 ≤ g.1) : q_wI (oS g 12 (F12_52 g.1) (A12_45 g.1 ++ [.inl (0, (30, .inl (upd (upd (upd (upd (upd (upd (upd (upd (upd (upd (fun _ => 0) 0 0) 1 0) 2 0) 3 0) 4 1) 5 1) 6 2) 7 2) 8 3) 9 3)))]) (V12_45 + 30)) (oS g 12 (F12_52 g.1) (A12_45 g.1) V12_45).1 (10 : Int32) (4 : Int32) = some (oS g 12 (F12_52 g.1) (A12_45 g.1 ++ [.inl (0, (30, .inl (upd (upd (upd (upd (upd (upd (upd (upd (upd (upd (upd (fun _ => 0) 0 0) 1 0) 2 0) 3 0) 4 1) 5 1) 6 2) 7 2) 8 3) 9 3) 10 4)))]) (V12_45 + 30)) := by
  exact o_wIl (X := 10) (by decide) (by decide) (by decide) h8
theorem t12_198 {g : ps_G} (h8 : 8 ≤ g.1) : q_wI (oS g 12 (F12_52 g.1) (A12_45 g.1 ++ [.inl (0, (30, .inl (upd (upd (upd (upd (upd (upd (upd (upd (upd (upd (upd (fun _ => 0) 0 0) 1 0) 2 0) 3 0) 4 1) 5 1) 6 2) 7 2) 8 3) 9 3) 10 4)))]) (V12_45 + 30)) (oS g 12 (F12_52 g.1) (A12_45 g.1) V12_45).1 (11 : Int32) (4 : Int32) = some (oS g 12 (F12_52 g.1) (A12_45 g.1 ++ [.inl (0, (30, .inl (upd (upd (upd (upd (upd (upd (upd (upd (upd (upd (upd (upd (fun _ => 0) 0 0) 1 0) 2 0) 3 0) 4 1) 5 1) 6 2) 7 2) 8 3) 9 3) 10 4) 11 4)))]) (V12_45 + 30)) := by
  exact o_wIl (X := 11) (by decide) (by decide) (by decide) h8
theorem t12_199 {g : ps_G} (h8 : 8 ≤ g.1) : q_wI (oS g 12 (F12_52 g.1) (A12_45 g.1 ++ [.inl (0, (30, .inl (upd (upd (upd (upd (upd (upd (upd (upd (upd (upd (upd (upd (fun _ => 0) 0 0) 1 0) 2 0) 3 0) 4 1) 5 1) 6 2) 7 2) 8 3) 9 3) 10 4) 11 4)))]) (V12_45 + 30)) (oS g 12 (F12_52 g.1) (A12_45 g.1) V12_45).1 (12 : Int32) (5 : Int32) = some (oS g 12 (F12_52 g.1) (A12_45 g.1 ++ [.inl (0, (30, .inl (upd (upd (upd (upd (upd (upd (upd (upd (upd (upd (upd (upd (upd (fun _ => 0) 0 0) 1 0) 2 0) 3 0) 4 1) 5 1) 6 2) 7 2) 8 3) 9 3) 10 4) 11 4) 12 5)))]) (V12_45 + 30)) := by
  exact o_wIl (X := 12) (by decide) (by decide) (by decide) h8
theorem t12_200 {g : ps_G} (h8 : 8 ≤ g.1) : q_wI (oS g 12 (F12_52 g.1) (A12_45 g.1 ++ [.inl (0, (30, .inl (upd (upd (upd (upd (upd (upd (upd (upd (upd (upd (upd (upd (upd (fun _ => 0) 0 0) 1 0) 2 0) 3 0) 4 1) 5 1) 6 2) 7 2) 8 3) 9 3) 10 4) 11 4) 12 5)))]) (V12_45 + 30)) (oS g 12 (F12_52 g.1) (A12_45 g.1) V12_45).1 (13 : Int32) (5 : Int32) = some (oS g 12 (F12_52 g.1) (A12_45 g.1 ++ [.inl (0, (30, .inl (upd (upd (upd (upd (upd (upd (upd (upd (upd (upd (upd (upd (upd (upd (fun _ => 0) 0 0) 1 0) 2 0) 3 0) 4 1) 5 1) 6 2) 7 2) 8 3) 9 3) 10 4) 11 4) 12 5) 13 5)))]) (V12_45 + 30)) := by
  exact o_wIl (X := 13) (by decide) (by decide) (by decide) h8
theorem t12_201 {g : ps_G} (h8 : 8 ≤ g.1) : q_wI (oS g 12 (F12_52 g.1) (A12_45 g.1 ++ [.inl (0, (30, .inl (upd (upd (upd (upd (upd (upd (upd (upd (upd (upd (upd (upd (upd (upd (fun _ => 0) 0 0) 1 0) 2 0) 3 0) 4 1) 5 1) 6 2) 7 2) 8 3) 9 3) 10 4) 11 4) 12 5) 13 5)))]) (V12_45 + 30)) (oS g 12 (F12_52 g.1) (A12_45 g.1) V12_45).1 (14 : Int32) (6 : Int32) = some (oS g 12 (F12_52 g.1) (A12_45 g.1 ++ [.inl (0, (30, .inl (upd (upd (upd (upd (upd (upd (upd (upd (upd (upd (upd (upd (upd (upd (upd (fun _ => 0) 0 0) 1 0) 2 0) 3 0) 4 1) 5 1) 6 2) 7 2) 8 3) 9 3) 10 4) 11 4) 12 5) 13 5) 14 6)))]) (V12_45 + 30)) := by
  exact o_wIl (X := 14) (by decide) (by decide) (by decide) h8
theorem t12_202 {g : ps_G} (h8 : 8 ≤ g.1) : q_wI (oS g 12 (F12_52 g.1) (A12_45 g.1 ++ [.inl (0, (30, .inl (upd (upd (upd (upd (upd (upd (upd (upd (upd (upd (upd (upd (upd (upd (upd (fun _ => 0) 0 0) 1 0) 2 0) 3 0) 4 1) 5 1) 6 2) 7 2) 8 3) 9 3) 10 4) 11 4) 12 5) 13 5) 14 6)))]) (V12_45 + 30)) (oS g 12 (F12_52 g.1) (A12_45 g.1) V12_45).1 (15 : Int32) (6 : Int32) = some (oS g 12 (F12_52 g.1) (A12_45 g.1 ++ [.inl (0, (30, .inl (upd (upd (upd (upd (upd (upd (upd (upd (upd (upd (upd (upd (upd (upd (upd (upd (fun _ => 0) 0 0) 1 0) 2 0) 3 0) 4 1) 5 1) 6 2) 7 2) 8 3) 9 3) 10 4) 11 4) 12 5) 13 5) 14 6) 15 6)))]) (V12_45 + 30)) := by
  exact o_wIl (X := 15) (by decide) (by decide) (by decide) h8
theorem t12_203 {g : ps_G} (h8 : 8 ≤ g.1) : q_wI (oS g 12 (F12_52 g.1) (A12_45 g.1 ++ [.inl (0, (30, .inl (upd (upd (upd (upd (upd (upd (upd (upd (upd (upd (upd (upd (upd (upd (upd (upd (fun _ => 0) 0 0) 1 0) 2 0) 3 0) 4 1) 5 1) 6 2) 7 2) 8 3) 9 3) 10 4) 11 4) 12 5) 13 5) 14 6) 15 6)))]) (V12_45 + 30)) (oS g 12 (F12_52 g.1) (A12_45 g.1) V12_45).1 (16 : Int32) (7 : Int32) = some (oS g 12 (F12_52 g.1) (A12_45 g.1 ++ [.inl (0, (30, .inl (upd (upd (upd (upd (upd (upd (upd (upd (upd (upd (upd (upd (upd (upd (upd (upd (upd (fun _ => 0) 0 0) 1 0) 2 0) 3 0) 4 1) 5 1) 6 2) 7 2) 8 3) 9 3) 10 4) 11 4) 12 5) 13 5) 14 6) 15 6) 16 7)))]) (V12_45 + 30)) := by
  exact o_wIl (X := 16) (by decide) (by decide) (by decide) h8
theorem t12_204 {g : ps_G} (h8 : 8 ≤ g.1) : q_wI (oS g 12 (F12_52 g.1) (A12_45 g.1 ++ [.inl (0, (30, .inl (upd (upd (upd (upd (upd (upd (upd (upd (upd (upd (upd (upd (upd (upd (upd (upd (upd (fun _ => 0) 0 0) 1 0) 2 0) 3 0) 4 1) 5 1) 6 2) 7 2) 8 3) 9 3) 10 4) 11 4) 12 5) 13 5) 14 6) 15 6) 16 7)))]) (V12_45 + 30)) (oS g 12 (F12_52 g.1) (A12_45 g.1) V12_45).1 (17 : Int32) (7 : Int32) = some (oS g 12 (F12_52 g.1) (A12_45 g.1 ++ [.inl (0, (30, .inl (upd (upd (upd (upd (upd (upd (upd (upd (upd (upd (upd (upd (upd (upd (upd (upd (upd (upd (fun _ => 0) 0 0) 1 0) 2 0) 3 0) 4 1) 5 1) 6 2) 7 2) 8 3) 9 3) 10 4) 11 4) 12 5) 13 5) 14 6) 15 6) 16 7) 17 7)))]) (V12_45 + 30)) := by
  exact o_wIl (X := 17) (by decide) (by decide) (by decide) h8
theorem t12_205 {g : ps_G} (h8 : 8 ≤ g.1) : q_wI (oS g 12 (F12_52 g.1) (A12_45 g.1 ++ [.inl (0, (30, .inl (upd (upd (upd (upd (upd (upd (upd (upd (upd (upd (upd (upd (upd (upd (upd (upd (upd (upd (fun _ => 0) 0 0) 1 0) 2 0) 3 0) 4 1) 5 1) 6 2) 7 2) 8 3) 9 3) 10 4) 11 4) 12 5) 13 5) 14 6) 15 6) 16 7) 17 7)))]) (V12_45 + 30)) (oS g 12 (F12_52 g.1) (A12_45 g.1) V12_45).1 (18 : Int32) (8 : Int32) = some (oS g 12 (F12_52 g.1) (A12_45 g.1 ++ [.inl (0, (30, .inl (upd (upd (upd (upd (upd (upd (upd (upd (upd (upd (upd (upd (upd (upd (upd (upd (upd (upd (upd (fun _ => 0) 0 0) 1 0) 2 0) 3 0) 4 1) 5 1) 6 2) 7 2) 8 3) 9 3) 10 4) 11 4) 12 5) 13 5) 14 6) 15 6) 16 7) 17 7) 18 8)))]) (V12_45 + 30)) := by
  exact o_wIl (X := 18) (by decide) (by decide) (by decide) h8
theorem t12_206 {g : ps_G} (h8 : 8 ≤ g.1) : q_wI (oS g 12 (F12_52 g.1) (A12_45 g.1 ++ [.inl (0, (30, .inl (upd (upd (upd (upd (upd (upd (upd (upd (upd (upd (upd (upd (upd (upd (upd (upd (upd (upd (upd (fun _ => 0) 0 0) 1 0) 2 0) 3 0) 4 1) 5 1) 6 2) 7 2) 8 3) 9 3) 10 4) 11 4) 12 5) 13 5) 14 6) 15 6) 16 7) 17 7) 18 8)))]) (V12_45 + 30)) (oS g 12 (F12_52 g.1) (A12_45 g.1) V12_45).1 (19 : Int32) (8 : Int32) = some (oS g 12 (F12_52 g.1) (A12_45 g.1 ++ [.inl (0, (30, .inl (upd (upd (upd (upd (upd (upd (upd (upd (upd (upd (upd (upd (upd (upd (upd (upd (upd (upd (upd (upd (fun _ => 0) 0 0) 1 0) 2 0) 3 0) 4 1) 5 1) 6 2) 7 2) 8 3) 9 3) 10 4) 11 4) 12 5) 13 5) 14 6) 15 6) 16 7) 17 7) 18 8) 19 8)))]) (V12_45 + 30)) := by
  exact o_wIl (X := 19) (by decide) (by decide) (by decide) h8
theorem t12_207 {g : ps_G} (h8 : 8 ≤ g.1) : q_wI (oS g 12 (F12_52 g.1) (A12_45 g.1 ++ [.inl (0, (30, .inl (upd (upd (upd (upd (upd (upd (upd (upd (upd (upd (upd (upd (upd (upd (upd (upd (upd (upd (upd (upd (fun _ => 0) 0 0) 1 0) 2 0) 3 0) 4 1) 5 1) 6 2) 7 2) 8 3) 9 3) 10 4) 11 4) 12 5) 13 5) 14 6) 15 6) 16 7) 17 7) 18 8) 19 8)))]) (V12_45 + 30)) (oS g 12 (F12_52 g.1) (A12_45 g.1) V12_45).1 (20 : Int32) (9 : Int32) = some (oS g 12 (F12_52 g.1) (A12_45 g.1 ++ [.inl (0, (30, .inl (upd (upd (upd (upd (upd (upd (upd (upd (upd (upd (upd (upd (upd (upd (upd (upd (upd (upd (upd (upd (upd (fun _ => 0) 0 0) 1 0) 2 0) 3 0) 4 1) 5 1) 6 2) 7 2) 8 3) 9 3) 10 4) 11 4) 12 5) 13 5) 14 6) 15 6) 16 7) 17 7) 18 8) 19 8) 20 9)))]) (V12_45 + 30)) := by
  exact o_wIl (X := 20) (by decide) (by decide) (by decide) h8
theorem t12_208 {g : ps_G} (h8 : 8 ≤ g.1) : q_wI (oS g 12 (F12_52 g.1) (A12_45 g.1 ++ [.inl (0, (30, .inl (upd (upd (upd (upd (upd (upd (upd (upd (upd (upd (upd (upd (upd (upd (upd (upd (upd (upd (upd (upd (upd (fun _ => 0) 0 0) 1 0) 2 0) 3 0) 4 1) 5 1) 6 2) 7 2) 8 3) 9 3) 10 4) 11 4) 12 5) 13 5) 14 6) 15 6) 16 7) 17 7) 18 8) 19 8) 20 9)))]) (V12_45 + 30)) (oS g 12 (F12_52 g.1) (A12_45 g.1) V12_45).1 (21 : Int32) (9 : Int32) = some (oS g 12 (F12_52 g.1) (A12_45 g.1 ++ [.inl (0, (30, .inl (upd (upd (upd (upd (upd (upd (upd (upd (upd (upd (upd (upd (upd (upd (upd (upd (upd (upd (upd (upd (upd (upd (fun _ => 0) 0 0) 1 0) 2 0) 3 0) 4 1) 5 1) 6 2) 7 2) 8 3) 9 3) 10 4) 11 4) 12 5) 13 5) 14 6) 15 6) 16 7) 17 7) 18 8) 19 8) 20 9) 21 9)))]) (V12_45 + 30)) := by
  exact o_wIl (X := 21) (by decide) (by decide) (by decide) h8
theorem t12_209 {g : ps_G} (h8 : 8 ≤ g.1) : q_wI (oS g 12 (F12_52 g.1) (A12_45 g.1 ++ [.inl (0, (30, .inl (upd (upd (upd (upd (upd (upd (upd (upd (upd (upd (upd (upd (upd (upd (upd (upd (upd (upd (upd (upd (upd (upd (fun _ => 0) 0 0) 1 0) 2 0) 3 0) 4 1) 5 1) 6 2) 7 2) 8 3) 9 3) 10 4) 11 4) 12 5) 13 5) 14 6) 15 6) 16 7) 17 7) 18 8) 19 8) 20 9) 21 9)))]) (V12_45 + 30)) (oS g 12 (F12_52 g.1) (A12_45 g.1) V12_45).1 (22 : Int32) (10 : Int32) = some (oS g 12 (F12_52 g.1) (A12_45 g.1 ++ [.inl (0, (30, .inl (upd (upd (upd (upd (upd (upd (upd (upd (upd (upd (upd (upd (upd (upd (upd (upd (upd (upd (upd (upd (upd (upd (upd (fun _ => 0) 0 0) 1 0) 2 0) 3 0) 4 1) 5 1) 6 2) 7 2) 8 3) 9 3) 10 4) 11 4) 12 5) 13 5) 14 6) 15 6) 16 7) 17 7) 18 8) 19 8) 20 9) 21 9) 22 10)))]) (V12_45 + 30)) := by
  exact o_wIl (X := 22) (by decide) (by decide) (by decide) h8
theorem t12_210 {g : ps_G} (h8 : 8 ≤ g.1) : q_wI (oS g 12 (F12_52 g.1) (A12_45 g.1 ++ [.inl (0, (30, .inl (upd (upd (upd (upd (upd (upd (upd (upd (upd (upd (upd (upd (upd (upd (upd (upd (upd (upd (upd (upd (upd (upd (upd (fun _ => 0) 0 0) 1 0) 2 0) 3 0) 4 1) 5 1) 6 2) 7 2) 8 3) 9 3) 10 4) 11 4) 12 5) 13 5) 14 6) 15 6) 16 7) 17 7) 18 8) 19 8) 20 9) 21 9) 22 10)))]) (V12_45 + 30)) (oS g 12 (F12_52 g.1) (A12_45 g.1) V12_45).1 (23 : Int32) (10 : Int32) = some (oS g 12 (F12_52 g.1) (A12_45 g.1 ++ [.inl (0, (30, .inl (upd (upd (upd (upd (upd (upd (upd (upd (upd (upd (upd (upd (upd (upd (upd (upd (upd (upd (upd (upd (upd (upd (upd (upd (fun _ => 0) 0 0) 1 0) 2 0) 3 0) 4 1) 5 1) 6 2) 7 2) 8 3) 9 3) 10 4) 11 4) 12 5) 13 5) 14 6) 15 6) 16 7) 17 7) 18 8) 19 8) 20 9) 21 9) 22 10) 23 10)))]) (V12_45 + 30)) := by
  exact o_wIl (X := 23) (by decide) (by decide) (by decide) h8
theorem t12_211 {g : ps_G} (h8 : 8 ≤ g.1) : q_wI (oS g 12 (F12_52 g.1) (A12_45 g.1 ++ [.inl (0, (30, .inl (upd (upd (upd (upd (upd (upd (upd (upd (upd (upd (upd (upd (upd (upd (upd (upd (upd (upd (upd (upd (upd (upd (upd (upd (fun _ => 0) 0 0) 1 0) 2 0) 3 0) 4 1) 5 1) 6 2) 7 2) 8 3) 9 3) 10 4) 11 4) 12 5) 13 5) 14 6) 15 6) 16 7) 17 7) 18 8) 19 8) 20 9) 21 9) 22 10) 23 10)))]) (V12_45 + 30)) (oS g 12 (F12_52 g.1) (A12_45 g.1) V12_45).1 (24 : Int32) (11 : Int32) = some (oS g 12 (F12_52 g.1) (A12_45 g.1 ++ [.inl (0, (30, .inl (upd (upd (upd (upd (upd (upd (upd (upd (upd (upd (upd (upd (upd (upd (upd (upd (upd (upd (upd (upd (upd (upd (upd (upd (upd (fun _ => 0) 0 0) 1 0) 2 0) 3 0) 4 1) 5 1) 6 2) 7 2) 8 3) 9 3) 10 4) 11 4) 12 5) 13 5) 14 6) 15 6) 16 7) 17 7) 18 8) 19 8) 20 9) 21 9) 22 10) 23 10) 24 11)))]) (V12_45 + 30)) := by
  exact o_wIl (X := 24) (by decide) (by decide) (by decide) h8
theorem t12_212 {g : ps_G} (h8 : 8 ≤ g.1) : q_wI (oS g 12 (F12_52 g.1) (A12_45 g.1 ++ [.inl (0, (30, .inl (upd (upd (upd (upd (upd (upd (upd (upd (upd (upd (upd (upd (upd (upd (upd (upd (upd (upd (upd (upd (upd (upd (upd (upd (upd (fun _ => 0) 0 0) 1 0) 2 0) 3 0) 4 1) 5 1) 6 2) 7 2) 8 3) 9 3) 10 4) 11 4) 12 5) 13 5) 14 6) 15 6) 16 7) 17 7) 18 8) 19 8) 20 9) 21 9) 22 10) 23 10) 24 11)))]) (V12_45 + 30)) (oS g 12 (F12_52 g.1) (A12_45 g.1) V12_45).1 (25 : Int32) (11 : Int32) = some (oS g 12 (F12_52 g.1) (A12_45 g.1 ++ [.inl (0, (30, .inl (upd (upd (upd (upd (upd (upd (upd (upd (upd (upd (upd (upd (upd (upd (upd (upd (upd (upd (upd (upd (upd (upd (upd (upd (upd (upd (fun _ => 0) 0 0) 1 0) 2 0) 3 0) 4 1) 5 1) 6 2) 7 2) 8 3) 9 3) 10 4) 11 4) 12 5) 13 5) 14 6) 15 6) 16 7) 17 7) 18 8) 19 8) 20 9) 21 9) 22 10) 23 10) 24 11) 25 11)))]) (V12_45 + 30)) := by
  exact o_wIl (X := 25) (by decide) (by decide) (by decide) h8
theorem t12_213 {g : ps_G} (h8 : 8 ≤ g.1) : q_wI (oS g 12 (F12_52 g.1) (A12_45 g.1 ++ [.inl (0, (30, .inl (upd (upd (upd (upd (upd (upd (upd (upd (upd (upd (upd (upd (upd (upd (upd (upd (upd (upd (upd (upd (upd (upd (upd (upd (upd (upd (fun _ => 0) 0 0) 1 0) 2 0) 3 0) 4 1) 5 1) 6 2) 7 2) 8 3) 9 3) 10 4) 11 4) 12 5) 13 5) 14 6) 15 6) 16 7) 17 7) 18 8) 19 8) 20 9) 21 9) 22 10) 23 10) 24 11) 25 11)))]) (V12_45 + 30)) (oS g 12 (F12_52 g.1) (A12_45 g.1) V12_45).1 (26 : Int32) (12 : Int32) = some (oS g 12 (F12_52 g.1) (A12_45 g.1 ++ [.inl (0, (30, .inl (upd (upd (upd (upd (upd (upd (upd (upd (upd (upd (upd (upd (upd (upd (upd (upd (upd (upd (upd (upd (upd (upd (upd (upd (upd (upd (upd (fun _ => 0) 0 0) 1 0) 2 0) 3 0) 4 1) 5 1) 6 2) 7 2) 8 3) 9 3) 10 4) 11 4) 12 5) 13 5) 14 6) 15 6) 16 7) 17 7) 18 8) 19 8) 20 9) 21 9) 22 10) 23 10) 24 11) 25 11) 26 12)))]) (V12_45 + 30)) := by
  exact o_wIl (X := 26) (by decide) (by decide) (by decide) h8
theorem t12_214 {g : ps_G} (h8 : 8 ≤ g.1) : q_wI (oS g 12 (F12_52 g.1) (A12_45 g.1 ++ [.inl (0, (30, .inl (upd (upd (upd (upd (upd (upd (upd (upd (upd (upd (upd (upd (upd (upd (upd (upd (upd (upd (upd (upd (upd (upd (upd (upd (upd (upd (upd (fun _ => 0) 0 0) 1 0) 2 0) 3 0) 4 1) 5 1) 6 2) 7 2) 8 3) 9 3) 10 4) 11 4) 12 5) 13 5) 14 6) 15 6) 16 7) 17 7) 18 8) 19 8) 20 9) 21 9) 22 10) 23 10) 24 11) 25 11) 26 12)))]) (V12_45 + 30)) (oS g 12 (F12_52 g.1) (A12_45 g.1) V12_45).1 (27 : Int32) (12 : Int32) = some (oS g 12 (F12_52 g.1) (A12_45 g.1 ++ [.inl (0, (30, .inl (upd (upd (upd (upd (upd (upd (upd (upd (upd (upd (upd (upd (upd (upd (upd (upd (upd (upd (upd (upd (upd (upd (upd (upd (upd (upd (upd (upd (fun _ => 0) 0 0) 1 0) 2 0) 3 0) 4 1) 5 1) 6 2) 7 2) 8 3) 9 3) 10 4) 11 4) 12 5) 13 5) 14 6) 15 6) 16 7) 17 7) 18 8) 19 8) 20 9) 21 9) 22 10) 23 10) 24 11) 25 11) 26 12) 27 12)))]) (V12_45 + 30)) := by
  exact o_wIl (X := 27) (by decide) (by decide) (by decide) h8
theorem t12_215 {g : ps_G} (h8 : 8 ≤ g.1) : q_wI (oS g 12 (F12_52 g.1) (A12_45 g.1 ++ [.inl (0, (30, .inl (upd (upd (upd (upd (upd (upd (upd (upd (upd (upd (upd (upd (upd (upd (upd (upd (upd (upd (upd (upd (upd (upd (upd (upd (upd (upd (upd (upd (fun _ => 0) 0 0) 1 0) 2 0) 3 0) 4 1) 5 1) 6 2) 7 2) 8 3) 9 3) 10 4) 11 4) 12 5) 13 5) 14 6) 15 6) 16 7) 17 7) 18 8) 19 8) 20 9) 21 9) 22 10) 23 10) 24 11) 25 11) 26 12) 27 12)))]) (V12_45 + 30)) (oS g 12 (F12_52 g.1) (A12_45 g.1) V12_45).1 (28 : Int32) (13 : Int32) = some (oS g 12 (F12_52 g.1) (A12_45 g.1 ++ [.inl (0, (30, .inl (upd (upd (upd (upd (upd (upd (upd (upd (upd (upd (upd (upd (upd (upd (upd (upd (upd (upd (upd (upd (upd (upd (upd (upd (upd (upd (upd (upd (upd (fun _ => 0) 0 0) 1 0) 2 0) 3 0) 4 1) 5 1) 6 2) 7 2) 8 3) 9 3) 10 4) 11 4) 12 5) 13 5) 14 6) 15 6) 16 7) 17 7) 18 8) 19 8) 20 9) 21 9) 22 10) 23 10) 24 11) 25 11) 26 12) 27 12) 28 13)))]) (V12_45 + 30)) := by
  exact o_wIl (X := 28) (by decide) (by decide) (by decide) h8
theorem t12_216 {g : ps_G} (h8 : 8 ≤ g.1) : q_wI (oS g 12 (F12_52 g.1) (A12_45 g.1 ++ [.inl (0, (30, .inl (upd (upd (upd (upd (upd (upd (upd (upd (upd (upd (upd (upd (upd (upd (upd (upd (upd (upd (upd (upd (upd (upd (upd (upd (upd (upd (upd (upd (upd (fun _ => 0) 0 0) 1 0) 2 0) 3 0) 4 1) 5 1) 6 2) 7 2) 8 3) 9 3) 10 4) 11 4) 12 5) 13 5) 14 6) 15 6) 16 7) 17 7) 18 8) 19 8) 20 9) 21 9) 22 10) 23 10) 24 11) 25 11) 26 12) 27 12) 28 13)))]) (V12_45 + 30)) (oS g 12 (F12_52 g.1) (A12_45 g.1) V12_45).1 (29 : Int32) (13 : Int32) = some (oS g 12 (F12_52 g.1) (A12_45 g.1 ++ [.inl (0, (30, .inl (upd (upd (upd (upd (upd (upd (upd (upd (upd (upd (upd (upd (upd (upd (upd (upd (upd (upd (upd (upd (upd (upd (upd (upd (upd (upd (upd (upd (upd (upd (fun _ => 0) 0 0) 1 0) 2 0) 3 0) 4 1) 5 1) 6 2) 7 2) 8 3) 9 3) 10 4) 11 4) 12 5) 13 5) 14 6) 15 6) 16 7) 17 7) 18 8) 19 8) 20 9) 21 9) 22 10) 23 10) 24 11) 25 11) 26 12) 27 12) 28 13) 29 13)))]) (V12_45 + 30)) := by
  exact o_wIl (X := 29) (by decide) (by decide) (by decide) h8
def A12_46 (b : Nat) : List ps_E := A12_45 b ++ [.inl (0, (30, .inl (upd (upd (upd (upd (upd (upd (upd (upd (upd (upd (upd (upd (upd (upd (upd (upd (upd (upd (upd (upd (upd (upd (upd (upd (upd (upd (upd (upd (upd (upd (fun _ => 0) 0 0) 1 0) 2 0) 3 0) 4 1) 5 1) 6 2) 7 2) 8 3) 9 3) 10 4) 11 4) 12 5) 13 5) 14 6) 15 6) 16 7) 17 7) 18 8) 19 8) 20 9) 21 9) 22 10) 23 10) 24 11) 25 11) 26 12) 27 12) 28 13) 29 13)))]
theorem a12l_46 {b : Nat} : (A12_46 b).length = 46 := (List.length_append).trans (by rw [a12l_45]; rfl)
def V12_46 : Nat := V12_45 + 30
def F12_53 (b : Nat) : List Value := (F12_52 b).set 71 (.ref (b + 1 + 45))
theorem f12l_53 {b : Nat} : (F12_53 b).length = 94 := (List.length_set).trans f12l_52
theorem t12_217 {g : ps_G} (h8 : 8 ≤ g.1) : q_sR 12 71 (oS g 12 (F12_52 g.1) (A12_45 g.1 ++ [.inl (0, (30, .inl (upd (upd (upd (upd (upd (upd (upd (upd (upd (upd (upd (upd (upd (upd (upd (upd (upd (upd (upd (upd (upd (upd (upd (upd (upd (upd (upd (upd (upd (upd (fun _ => 0) 0 0) 1 0) 2 0) 3 0) 4 1) 5 1) 6 2) 7 2) 8 3) 9 3) 10 4) 11 4) 12 5) 13 5) 14 6) 15 6) 16 7) 17 7) 18 8) 19 8) 20 9) 21 9) 22 10) 23 10) 24 11) 25 11) 26 12) 27 12) 28 13) 29 13)))]) (V12_45 + 30)) g.1 (some (oS g 12 (F12_52 g.1) (A12_45 g.1) V12_45).1) = some (oS g 12 (F12_53 g.1) (A12_46 g.1) V12_46) := by
  have e : (oS g 12 (F12_52 g.1) (A12_45 g.1) V12_45).1 = g.1 + 1 + 45 := by rw [oS_1, a12l_45]
  rw [e]
  exact o_sR (by rw [f12l_52]; decide)
theorem p12_5 {g : ps_G} (h8 : 8 ≤ g.1) : jX12_init_924 (oS g 12 (F12_52 g.1) (A12_45 g.1) V12_45) g.1 = jX12_init_1092 (oS g 12 (F12_53 g.1) (A12_46 g.1) V12_46) g.1 := by
  unfold jX12_init_924
  rw [t12_186 h8, ob_n, t12_187 h8, ob_n, t12_188 h8, ob_n, t12_189 h8, ob_n, t12_190 h8, ob_n, t12_191 h8, ob_n, t12_192 h8, ob_n, t12_193 h8, ob_n, t12_194 h8, ob_n, t12_195 h8, ob_n, t12_196 h8, ob_n, t12_197 h8, ob_n, t12_198 h8, ob_n, t12_199 h8, ob_n, t12_200 h8, ob_n, t12_201 h8, ob_n, t12_202 h8, ob_n, t12_203 h8, ob_n, t12_204 h8, ob_n, t12_205 h8, ob_n, t12_206 h8, ob_n, t12_207 h8, ob_n, t12_208 h8, ob_n, t12_209 h8, ob_n, t12_210 h8, ob_n, t12_211 h8, ob_n, t12_212 h8, ob_n, t12_213 h8, ob_n, t12_214 h8, ob_n, t12_215 h8, ob_n, t12_216 h8, ob_n, t12_217 h8, ob_n]
theorem t12_218 {g : ps_G} (h8 : 8 ≤ g.1) : q_nA .int (oS g 12 (F12_53 g.1) (A12_46 g.1) V12_46) (19 : Int32) = some (oS g 12 (F12_53 g.1) (A12_46 g.1 ++ [.inl (0, (19, .inl (fun _ => 0)))]) (V12_46 + 19)) := by
  exact o_nA (N := 19) (by decide) (by decide)
theorem t12_219 {g : ps_G} (h8 : 8 ≤ g.1) : q_wI (oS g 12 (F12_53 g.1) (A12_46 g.1 ++ [.inl (0, (19, .inl (fun _ => 0)))]) (V12_46 + 19)) (oS g 12 (F12_53 g.1) (A12_46 g.1) V12_46).1 (0 : Int32) (16 : Int32) = some (oS g 12 (F12_53 g.1) (A12_46 g.1 ++ [.inl (0, (19, .inl (upd (fun _ => 0) 0 16)))]) (V12_46 + 19)) := by
  exact o_wIl (X := 0) (by decide) (by decide) (by decide) h8
theorem t12_220 {g : ps_G} (h8 : 8 ≤ g.1) : q_wI (oS g 12 (F12_53 g.1) (A12_46 g.1 ++ [.inl (0, (19, .inl (upd (fun _ => 0) 0 16)))]) (V12_46 + 19)) (oS g 12 (F12_53 g.1) (A12_46 g.1) V12_46).1 (1 : Int32) (17 : Int32) = some (oS g 12 (F12_53 g.1) (A12_46 g.1 ++ [.inl (0, (19, .inl (upd (upd (fun _ => 0) 0 16) 1 17)))]) (V12_46 + 19)) := by
  exact o_wIl (X := 1) (by decide) (by decide) (by decide) h8
theorem t12_221 {g : ps_G} (h8 : 8 ≤ g.1) : q_wI (oS g 12 (F12_53 g.1) (A12_46 g.1 ++ [.inl (0, (19, .inl (upd (upd (fun _ => 0) 0 16) 1 17)))]) (V12_46 + 19)) (oS g 12 (F12_53 g.1) (A12_46 g.1) V12_46).1 (2 : Int32) (18 : Int32) = some (oS g 12 (F12_53 g.1) (A12_46 g.1 ++ [.inl (0, (19, .inl (upd (upd (upd (fun _ => 0) 0 16) 1 17) 2 18)))]) (V12_46 + 19)) := by
  exact o_wIl (X := 2) (by decide) (by decide) (by decide) h8
theorem t12_222 {g : ps_G} (h8 : 8 ≤ g.1) : q_wI (oS g 12 (F12_53 g.1) (A12_46 g.1 ++ [.inl (0, (19, .inl (upd (upd (upd (fun _ => 0) 0 16) 1 17) 2 18)))]) (V12_46 + 19)) (oS g 12 (F12_53 g.1) (A12_46 g.1) V12_46).1 (3 : Int32) (0 : Int32) = some (oS g 12 (F12_53 g.1) (A12_46 g.1 ++ [.inl (0, (19, .inl (upd (upd (upd (upd (fun _ => 0) 0 16) 1 17) 2 18) 3 0)))]) (V12_46 + 19)) := by
  exact o_wIl (X := 3) (by decide) (by decide) (by decide) h8
theorem t12_223 {g : ps_G} (h8 : 8 ≤ g.1) : q_wI (oS g 12 (F12_53 g.1) (A12_46 g.1 ++ [.inl (0, (19, .inl (upd (upd (upd (upd (fun _ => 0) 0 16) 1 17) 2 18) 3 0)))]) (V12_46 + 19)) (oS g 12 (F12_53 g.1) (A12_46 g.1) V12_46).1 (4 : Int32) (8 : Int32) = some (oS g 12 (F12_53 g.1) (A12_46 g.1 ++ [.inl (0, (19, .inl (upd (upd (upd (upd (upd (fun _ => 0) 0 16) 1 17) 2 18) 3 0) 4 8)))]) (V12_46 + 19)) := by
  exact o_wIl (X := 4) (by decide) (by decide) (by decide) h8
theorem t12_224 {g : ps_G} (h8 : 8 ≤ g.1) : q_wI (oS g 12 (F12_53 g.1) (A12_46 g.1 ++ [.inl (0, (19, .inl (upd (upd (upd (upd (upd (fun _ => 0) 0 16) 1 17) 2 18) 3 0) 4 8)))]) (V12_46 + 19)) (oS g 12 (F12_53 g.1) (A12_46 g.1) V12_46).1 (5 : Int32) (7 : Int32) = some (oS g 12 (F12_53 g.1) (A12_46 g.1 ++ [.inl (0, (19, .inl (upd (upd (upd (upd (upd (upd (fun _ => 0) 0 16) 1 17) 2 18) 3 0) 4 8) 5 7)))]) (V12_46 + 19)) := by
  exact o_wIl (X := 5) (by decide) (by decide) (by decide) h8
theorem t12_225 {g : ps_G} (h8 : 8 ≤ g.1) : q_wI (oS g 12 (F12_53 g.1) (A12_46 g.1 ++ [.inl (0, (19, .inl (upd (upd (upd (upd (upd (upd (fun _ => 0) 0 16) 1 17) 2 18) 3 0) 4 8) 5 7)))]) (V12_46 + 19)) (oS g 12 (F12_53 g.1) (A12_46 g.1) V12_46).1 (6 : Int32) (9 : Int32) = some (oS g 12 (F12_53 g.1) (A12_46 g.1 ++ [.inl (0, (19, .inl (upd (upd (upd (upd (upd (upd (upd (fun _ => 0) 0 16) 1 17) 2 18) 3 0) 4 8) 5 7) 6 9)))]) (V12_46 + 19)) := by
  exact o_wIl (X := 6) (by decide) (by decide) (by decide) h8
theorem t12_226 {g : ps_G} (h8 : 8 ≤ g.1) : q_wI (oS g 12 (F12_53 g.1) (A12_46 g.1 ++ [.inl (0, (19, .inl (upd (upd (upd (upd (upd (upd (upd (fun _ => 0) 0 16) 1 17) 2 18) 3 0) 4 8) 5 7) 6 9)))]) (V12_46 + 19)) (oS g 12 (F12_53 g.1) (A12_46 g.1) V12_46).1 (7 : Int32) (6 : Int32) = some (oS g 12 (F12_53 g.1) (A12_46 g.1 ++ [.inl (0, (19, .inl (upd (upd (upd (upd (upd (upd (upd (upd (fun _ => 0) 0 16) 1 17) 2 18) 3 0) 4 8) 5 7) 6 9) 7 6)))]) (V12_46 + 19)) := by
  exact o_wIl (X := 7) (by decide) (by decide) (by decide) h8
theorem t12_227 {g : ps_G} (h8 : 8 ≤ g.1) : q_wI (oS g 12 (F12_53 g.1) (A12_46 g.1 ++ [.inl (0, (19, .inl (upd (upd (upd (upd (upd (upd (upd (upd (fun _ => 0) 0 16) 1 17) 2 18) 3 0) 4 8) 5 7) 6 9) 7 6)))]) (V12_46 + 19)) (oS g 12 (F12_53 g.1) (A12_46 g.1) V12_46).1 (8 : Int32) (10 : Int32) = some (oS g 12 (F12_53 g.1) (A12_46 g.1 ++ [.inl (0, (19, .inl (upd (upd (upd (upd (upd (upd (upd (upd (upd (fun _ => 0) 0 16) 1 17) 2 18) 3 0) 4 8) 5 7) 6 9) 7 6) 8 10)))]) (V12_46 + 19)) := by
  exact o_wIl (X := 8) (by decide) (by decide) (by decide) h8
theorem t12_228 {g : ps_G} (h8 : 8 ≤ g.1) : q_wI (oS g 12 (F12_53 g.1) (A12_46 g.1 ++ [.inl (0, (19, .inl (upd (upd (upd (upd (upd (upd (upd (upd (upd (fun _ => 0) 0 16) 1 17) 2 18) 3 0) 4 8) 5 7) 6 9) 7 6) 8 10)))]) (V12_46 + 19)) (oS g 12 (F12_53 g.1) (A12_46 g.1) V12_46).1 (9 : Int32) (5 : Int32) = some (oS g 12 (F12_53 g.1) (A12_46 g.1 ++ [.inl (0, (19, .inl (upd (upd (upd (upd (upd (upd (upd (upd (upd (upd (fun _ => 0) 0 16) 1 17) 2 18) 3 0) 4 8) 5 7) 6 9) 7 6) 8 10) 9 5)))]) (V12_46 + 19)) := by
  exact o_wIl (X := 9) (by decide) (by decide) (by decide) h8
theorem t12_229 {g : ps_G} (h8 : 8 ≤ g.1) : q_wI (oS g 12 (F12_53 g.1) (A12_46 g.1 ++ [.inl (0, (19, .inl (upd (upd (upd (upd (upd (upd (upd (upd (upd (upd (fun _ => 0) 0 16) 1 17) 2 18) 3 0) 4 8) 5 7) 6 9) 7 6) 8 10) 9 5)))]) (V12_46 + 19)) (oS g 12 (F12_53 g.1) (A12_46 g.1) V12_46).1 (10 : Int32) (11 : Int32) = some (oS g 12 (F12_53 g.1) (A12_46 g.1 ++ [.inl (0, (19, .inl (upd (upd (upd (upd (upd (upd (upd (upd (upd (upd (upd (fun _ => 0) 0 16) 1 17) 2 18) 3 0) 4 8) 5 7) 6 9) 7 6) 8 10) 9 5) 10 11)))]) (V12_46 + 19)) := by
  exact o_wIl (X := 10) (by decide) (by decide) (by decide) h8
theorem t12_230 {g : ps_G} (h8 : 8 ≤ g.1) : q_wI (oS g 12 (F12_53 g.1) (A12_46 g.1 ++ [.inl (0, (19, .inl (upd (upd (upd (upd (upd (upd (upd (upd (upd (upd (upd (fun _ => 0) 0 16) 1 17) 2 18) 3 0) 4 8) 5 7) 6 9) 7 6) 8 10) 9 5) 10 11)))]) (V12_46 + 19)) (oS g 12 (F12_53 g.1) (A12_46 g.1) V12_46).1 (11 : Int32) (4 : Int32) = some (oS g 12 (F12_53 g.1) (A12_46 g.1 ++ [.inl (0, (19, .inl (upd (upd (upd (upd (upd (upd (upd (upd (upd (upd (upd (upd (fun _ => 0) 0 16) 1 17) 2 18) 3 0) 4 8) 5 7) 6 9) 7 6) 8 10) 9 5) 10 11) 11 4)))]) (V12_46 + 19)) := by
  exact o_wIl (X := 11) (by decide) (by decide) (by decide) h8
theorem t12_231 {g : ps_G} (h8 : 8 ≤ g.1) : q_wI (oS g 12 (F12_53 g.1) (A12_46 g.1 ++ [.inl (0, (19, .inl (upd (upd (upd (upd (upd (upd (upd (upd (upd (upd (upd (upd (fun _ => 0) 0 16) 1 17) 2 18) 3 0) 4 8) 5 7) 6 9) 7 6) 8 10) 9 5) 10 11) 11 4)))]) (V12_46 + 19)) (oS g 12 (F12_53 g.1) (A12_46 g.1) V12_46).1 (12 : Int32) (12 : Int32) = some (oS g 12 (F12_53 g.1) (A12_46 g.1 ++ [.inl (0, (19, .inl (upd (upd (upd (upd (upd (upd (upd (upd (upd (upd (upd (upd (upd (fun _ => 0) 0 16) 1 17) 2 18) 3 0) 4 8) 5 7) 6 9) 7 6) 8 10) 9 5) 10 11) 11 4) 12 12)))]) (V12_46 + 19)) := by
  exact o_wIl (X := 12) (by decide) (by decide) (by decide) h8
theorem t12_232 {g : ps_G} (h8 : 8 ≤ g.1) : q_wI (oS g 12 (F12_53 g.1) (A12_46 g.1 ++ [.inl (0, (19, .inl (upd (upd (upd (upd (upd (upd (upd (upd (upd (upd (upd (upd (upd (fun _ => 0) 0 16) 1 17) 2 18) 3 0) 4 8) 5 7) 6 9) 7 6) 8 10) 9 5) 10 11) 11 4) 12 12)))]) (V12_46 + 19)) (oS g 12 (F12_53 g.1) (A12_46 g.1) V12_46).1 (13 : Int32) (3 : Int32) = some (oS g 12 (F12_53 g.1) (A12_46 g.1 ++ [.inl (0, (19, .inl (upd (upd (upd (upd (upd (upd (upd (upd (upd (upd (upd (upd (upd (upd (fun _ => 0) 0 16) 1 17) 2 18) 3 0) 4 8) 5 7) 6 9) 7 6) 8 10) 9 5) 10 11) 11 4) 12 12) 13 3)))]) (V12_46 + 19)) := by
  exact o_wIl (X := 13) (by decide) (by decide) (by decide) h8
theorem t12_233 {g : ps_G} (h8 : 8 ≤ g.1) : q_wI (oS g 12 (F12_53 g.1) (A12_46 g.1 ++ [.inl (0, (19, .inl (upd (upd (upd (upd (upd (upd (upd (upd (upd (upd (upd (upd (upd (upd (fun _ => 0) 0 16) 1 17) 2 18) 3 0) 4 8) 5 7) 6 9) 7 6) 8 10) 9 5) 10 11) 11 4) 12 12) 13 3)))]) (V12_46 + 19)) (oS g 12 (F12_53 g.1) (A12_46 g.1) V12_46).1 (14 : Int32) (13 : Int32) = some (oS g 12 (F12_53 g.1) (A12_46 g.1 ++ [.inl (0, (19, .inl (upd (upd (upd (upd (upd (upd (upd (upd (upd (upd (upd (upd (upd (upd (upd (fun _ => 0) 0 16) 1 17) 2 18) 3 0) 4 8) 5 7) 6 9) 7 6) 8 10) 9 5) 10 11) 11 4) 12 12) 13 3) 14 13)))]) (V12_46 + 19)) := by
  exact o_wIl (X := 14) (by decide) (by decide) (by decide) h8
theorem t12_234 {g : ps_G} (h8 : 8 ≤ g.1) : q_wI (oS g 12 (F12_53 g.1) (A12_46 g.1 ++ [.inl (0, (19, .inl (upd (upd (upd (upd (upd (upd (upd (upd (upd (upd (upd (upd (upd (upd (upd (fun _ => 0) 0 16) 1 17) 2 18) 3 0) 4 8) 5 7) 6 9) 7 6) 8 10) 9 5) 10 11) 11 4) 12 12) 13 3) 14 13)))]) (V12_46 + 19)) (oS g 12 (F12_53 g.1) (A12_46 g.1) V12_46).1 (15 : Int32) (2 : Int32) = some (oS g 12 (F12_53 g.1) (A12_46 g.1 ++ [.inl (0, (19, .inl (upd (upd (upd (upd (upd (upd (upd (upd (upd (upd (upd (upd (upd (upd (upd (upd (fun _ => 0) 0 16) 1 17) 2 18) 3 0) 4 8) 5 7) 6 9) 7 6) 8 10) 9 5) 10 11) 11 4) 12 12) 13 3) 14 13) 15 2)))]) (V12_46 + 19)) := by
  exact o_wIl (X := 15) (by decide) (by decide) (by decide) h8
theorem t12_235 {g : ps_G} (h8 : 8 ≤ g.1) : q_wI (oS g 12 (F12_53 g.1) (A12_46 g.1 ++ [.inl (0, (19, .inl (upd (upd (upd (upd (upd (upd (upd (upd (upd (upd (upd (upd (upd (upd (upd (upd (fun _ => 0) 0 16) 1 17) 2 18) 3 0) 4 8) 5 7) 6 9) 7 6) 8 10) 9 5) 10 11) 11 4) 12 12) 13 3) 14 13) 15 2)))]) (V12_46 + 19)) (oS g 12 (F12_53 g.1) (A12_46 g.1) V12_46).1 (16 : Int32) (14 : Int32) = some (oS g 12 (F12_53 g.1) (A12_46 g.1 ++ [.inl (0, (19, .inl (upd (upd (upd (upd (upd (upd (upd (upd (upd (upd (upd (upd (upd (upd (upd (upd (upd (fun _ => 0) 0 16) 1 17) 2 18) 3 0) 4 8) 5 7) 6 9) 7 6) 8 10) 9 5) 10 11) 11 4) 12 12) 13 3) 14 13) 15 2) 16 14)))]) (V12_46 + 19)) := by
  exact o_wIl (X := 16) (by decide) (by decide) (by decide) h8
theorem t12_236 {g : ps_G} (h8 : 8 ≤ g.1) : q_wI (oS g 12 (F12_53 g.1) (A12_46 g.1 ++ [.inl (0, (19, .inl (upd (upd (upd (upd (upd (upd (upd (upd (upd (upd (upd (upd (upd (upd (upd (upd (upd (fun _ => 0) 0 16) 1 17) 2 18) 3 0) 4 8) 5 7) 6 9) 7 6) 8 10) 9 5) 10 11) 11 4) 12 12) 13 3) 14 13) 15 2) 16 14)))]) (V12_46 + 19)) (oS g 12 (F12_53 g.1) (A12_46 g.1) V12_46).1 (17 : Int32) (1 : Int32) = some (oS g 12 (F12_53 g.1) (A12_46 g.1 ++ [.inl (0, (19, .inl (upd (upd (upd (upd (upd (upd (upd (upd (upd (upd (upd (upd (upd (upd (upd (upd (upd (upd (fun _ => 0) 0 16) 1 17) 2 18) 3 0) 4 8) 5 7) 6 9) 7 6) 8 10) 9 5) 10 11) 11 4) 12 12) 13 3) 14 13) 15 2) 16 14) 17 1)))]) (V12_46 + 19)) := by
  exact o_wIl (X := 17) (by decide) (by decide) (by decide) h8
theorem t12_237 {g : ps_G} (h8 : 8 ≤ g.1) : q_wI (oS g 12 (F12_53 g.1) (A12_46 g.1 ++ [.inl (0, (19, .inl (upd (upd (upd (upd (upd (upd (upd (upd (upd (upd (upd (upd (upd (upd (upd (upd (upd (upd (fun _ => 0) 0 16) 1 17) 2 18) 3 0) 4 8) 5 7) 6 9) 7 6) 8 10) 9 5) 10 11) 11 4) 12 12) 13 3) 14 13) 15 2) 16 14) 17 1)))]) (V12_46 + 19)) (oS g 12 (F12_53 g.1) (A12_46 g.1) V12_46).1 (18 : Int32) (15 : Int32) = some (oS g 12 (F12_53 g.1) (A12_46 g.1 ++ [.inl (0, (19, .inl (upd (upd (upd (upd (upd (upd (upd (upd (upd (upd (upd (upd (upd (upd (upd (upd (upd (upd (upd (fun _ => 0) 0 16) 1 17) 2 18) 3 0) 4 8) 5 7) 6 9) 7 6) 8 10) 9 5) 10 11) 11 4) 12 12) 13 3) 14 13) 15 2) 16 14) 17 1) 18 15)))]) (V12_46 + 19)) := by
  exact o_wIl (X := 18) (by decide) (by decide) (by decide) h8
def A12_47 (b : Nat) : List ps_E := A12_46 b ++ [.inl (0, (19, .inl (upd (upd (upd (upd (upd (upd (upd (upd (upd (upd (upd (upd (upd (upd (upd (upd (upd (upd (upd (fun _ => 0) 0 16) 1 17) 2 18) 3 0) 4 8) 5 7) 6 9) 7 6) 8 10) 9 5) 10 11) 11 4) 12 12) 13 3) 14 13) 15 2) 16 14) 17 1) 18 15)))]
theorem a12l_47 {b : Nat} : (A12_47 b).length = 47 := (List.length_append).trans (by rw [a12l_46]; rfl)
def V12_47 : Nat := V12_46 + 19
def F12_54 (b : Nat) : List Value := (F12_53 b).set 72 (.ref (b + 1 + 46))
theorem f12l_54 {b : Nat} : (F12_54 b).length = 94 := (List.length_set).trans f12l_53
theorem t12_238 {g : ps_G} (h8 : 8 ≤ g.1) : q_sR 12 72 (oS g 12 (F12_53 g.1) (A12_46 g.1 ++ [.inl (0, (19, .inl (upd (upd (upd (upd (upd (upd (upd (upd (upd (upd (upd (upd (upd (upd (upd (upd (upd (upd (upd (fun _ => 0) 0 16) 1 17) 2 18) 3 0) 4 8) 5 7) 6 9) 7 6) 8 10) 9 5) 10 11) 11 4) 12 12) 13 3) 14 13) 15 2) 16 14) 17 1) 18 15)))]) (V12_46 + 19)) g.1 (some (oS g 12 (F12_53 g.1) (A12_46 g.1) V12_46).1) = some (oS g 12 (F12_54 g.1) (A12_47 g.1) V12_47) := by
  have e : (oS g 12 (F12_53 g.1) (A12_46 g.1) V12_46).1 = g.1 + 1 + 46 := by rw [oS_1, a12l_46]
  rw [e]
  exact o_sR (by rw [f12l_53]; decide)
def A12_48 (b : Nat) : List ps_E := A12_47 b ++ [.inl (ps_ak .int, (2400, ps_az .int))]
theorem a12l_48 {b : Nat} : (A12_48 b).length = 48 := (List.length_append).trans (by rw [a12l_47]; rfl)
def V12_48 : Nat := V12_47 + 2400
theorem t12_239 {g : ps_G} (h8 : 8 ≤ g.1) : q_nA .int (oS g 12 (F12_54 g.1) (A12_47 g.1) V12_47) (2400 : Int32) = some (oS g 12 (F12_54 g.1) (A12_48 g.1) V12_48) := by
  exact o_nA (N := 2400) (by decide) (by decide)
def F12_55 (b : Nat) : List Value := (F12_54 b).set 74 (.ref (b + 1 + 47))
theorem f12l_55 {b : Nat} : (F12_55 b).length = 94 := (List.length_set).trans f12l_54
theorem t12_240 {g : ps_G} (h8 : 8 ≤ g.1) : q_sR 12 74 (oS g 12 (F12_54 g.1) (A12_48 g.1) V12_48) g.1 (some (oS g 12 (F12_54 g.1) (A12_47 g.1) V12_47).1) = some (oS g 12 (F12_55 g.1) (A12_48 g.1) V12_48) := by
  have e : (oS g 12 (F12_54 g.1) (A12_47 g.1) V12_47).1 = g.1 + 1 + 47 := by rw [oS_1, a12l_47]
  rw [e]
  exact o_sR (by rw [f12l_54]; decide)
def A12_49 (b : Nat) : List ps_E := A12_48 b ++ [.inl (ps_ak .int, (8000, ps_az .int))]
theorem a12l_49 {b : Nat} : (A12_49 b).length = 49 := (List.length_append).trans (by rw [a12l_48]; rfl)
def V12_49 : Nat := V12_48 + 8000
theorem t12_241 {g : ps_G} (h8 : 8 ≤ g.1) : q_nA .int (oS g 12 (F12_55 g.1) (A12_48 g.1) V12_48) (8000 : Int32) = some (oS g 12 (F12_55 g.1) (A12_49 g.1) V12_49) := by
  exact o_nA (N := 8000) (by decide) (by decide)
def F12_56 (b : Nat) : List Value := (F12_55 b).set 78 (.ref (b + 1 + 48))
theorem f12l_56 {b : Nat} : (F12_56 b).length = 94 := (List.length_set).trans f12l_55
theorem t12_242 {g : ps_G} (h8 : 8 ≤ g.1) : q_sR 12 78 (oS g 12 (F12_55 g.1) (A12_49 g.1) V12_49) g.1 (some (oS g 12 (F12_55 g.1) (A12_48 g.1) V12_48).1) = some (oS g 12 (F12_56 g.1) (A12_49 g.1) V12_49) := by
  have e : (oS g 12 (F12_55 g.1) (A12_48 g.1) V12_48).1 = g.1 + 1 + 48 := by rw [oS_1, a12l_48]
  rw [e]
  exact o_sR (by rw [f12l_55]; decide)
def A12_50 (b : Nat) : List ps_E := A12_49 b ++ [.inl (ps_ak .int, (256, ps_az .int))]
theorem a12l_50 {b : Nat} : (A12_50 b).length = 50 := (List.length_append).trans (by rw [a12l_49]; rfl)
def V12_50 : Nat := V12_49 + 256
theorem t12_243 {g : ps_G} (h8 : 8 ≤ g.1) : q_nA .int (oS g 12 (F12_56 g.1) (A12_49 g.1) V12_49) (256 : Int32) = some (oS g 12 (F12_56 g.1) (A12_50 g.1) V12_50) := by
  exact o_nA (N := 256) (by decide) (by decide)
def F12_57 (b : Nat) : List Value := (F12_56 b).set 80 (.ref (b + 1 + 49))
theorem f12l_57 {b : Nat} : (F12_57 b).length = 94 := (List.length_set).trans f12l_56
theorem t12_244 {g : ps_G} (h8 : 8 ≤ g.1) : q_sR 12 80 (oS g 12 (F12_56 g.1) (A12_50 g.1) V12_50) g.1 (some (oS g 12 (F12_56 g.1) (A12_49 g.1) V12_49).1) = some (oS g 12 (F12_57 g.1) (A12_50 g.1) V12_50) := by
  have e : (oS g 12 (F12_56 g.1) (A12_49 g.1) V12_49).1 = g.1 + 1 + 49 := by rw [oS_1, a12l_49]
  rw [e]
  exact o_sR (by rw [f12l_56]; decide)
theorem p12_6 {g : ps_G} (h8 : 8 ≤ g.1) : jX12_init_1092 (oS g 12 (F12_53 g.1) (A12_46 g.1) V12_46) g.1 = jX12_init_1229 (oS g 12 (F12_57 g.1) (A12_50 g.1) V12_50) g.1 := by
  unfold jX12_init_1092
  rw [t12_218 h8, ob_n, t12_219 h8, ob_n, t12_220 h8, ob_n, t12_221 h8, ob_n, t12_222 h8, ob_n, t12_223 h8, ob_n, t12_224 h8, ob_n, t12_225 h8, ob_n, t12_226 h8, ob_n, t12_227 h8, ob_n, t12_228 h8, ob_n, t12_229 h8, ob_n, t12_230 h8, ob_n, t12_231 h8, ob_n, t12_232 h8, ob_n, t12_233 h8, ob_n, t12_234 h8, ob_n, t12_235 h8, ob_n, t12_236 h8, ob_n, t12_237 h8, ob_n, t12_238 h8, ob_n, t12_239 h8, ob_n, t12_240 h8, ob_n, t12_241 h8, ob_n, t12_242 h8, ob_n, t12_243 h8, ob_n, t12_244 h8, ob_n]
def A12_51 (b : Nat) : List ps_E := A12_50 b ++ [.inl (ps_ak .int, (256, ps_az .int))]
theorem a12l_51 {b : Nat} : (A12_51 b).length = 51 := (List.length_append).trans (by rw [a12l_50]; rfl)
def V12_51 : Nat := V12_50 + 256
theorem t12_245 {g : ps_G} (h8 : 8 ≤ g.1) : q_nA .int (oS g 12 (F12_57 g.1) (A12_50 g.1) V12_50) (256 : Int32) = some (oS g 12 (F12_57 g.1) (A12_51 g.1) V12_51) := by
  exact o_nA (N := 256) (by decide) (by decide)
def F12_58 (b : Nat) : List Value := (F12_57 b).set 81 (.ref (b + 1 + 50))
theorem f12l_58 {b : Nat} : (F12_58 b).length = 94 := (List.length_set).trans f12l_57
theorem t12_246 {g : ps_G} (h8 : 8 ≤ g.1) : q_sR 12 81 (oS g 12 (F12_57 g.1) (A12_51 g.1) V12_51) g.1 (some (oS g 12 (F12_57 g.1) (A12_50 g.1) V12_50).1) = some (oS g 12 (F12_58 g.1) (A12_51 g.1) V12_51) := by
  have e : (oS g 12 (F12_57 g.1) (A12_50 g.1) V12_50).1 = g.1 + 1 + 50 := by rw [oS_1, a12l_50]
  rw [e]
  exact o_sR (by rw [f12l_57]; decide)
def A12_52 (b : Nat) : List ps_E := A12_51 b ++ [.inl (ps_ak .int, (48, ps_az .int))]
theorem a12l_52 {b : Nat} : (A12_52 b).length = 52 := (List.length_append).trans (by rw [a12l_51]; rfl)
def V12_52 : Nat := V12_51 + 48
theorem t12_247 {g : ps_G} (h8 : 8 ≤ g.1) : q_nA .int (oS g 12 (F12_58 g.1) (A12_51 g.1) V12_51) (48 : Int32) = some (oS g 12 (F12_58 g.1) (A12_52 g.1) V12_52) := by
  exact o_nA (N := 48) (by decide) (by decide)
def F12_59 (b : Nat) : List Value := (F12_58 b).set 90 (.ref (b + 1 + 51))
theorem f12l_59 {b : Nat} : (F12_59 b).length = 94 := (List.length_set).trans f12l_58
theorem t12_248 {g : ps_G} (h8 : 8 ≤ g.1) : q_sR 12 90 (oS g 12 (F12_58 g.1) (A12_52 g.1) V12_52) g.1 (some (oS g 12 (F12_58 g.1) (A12_51 g.1) V12_51).1) = some (oS g 12 (F12_59 g.1) (A12_52 g.1) V12_52) := by
  have e : (oS g 12 (F12_58 g.1) (A12_51 g.1) V12_51).1 = g.1 + 1 + 51 := by rw [oS_1, a12l_51]
  rw [e]
  exact o_sR (by rw [f12l_58]; decide)
def A12_53 (b : Nat) : List ps_E := A12_52 b ++ [.inl (ps_ak .int, (960, ps_az .int))]
theorem a12l_53 {b : Nat} : (A12_53 b).length = 53 := (List.length_append).trans (by rw [a12l_52]; rfl)
def V12_53 : Nat := V12_52 + 960
theorem t12_249 {g : ps_G} (h8 : 8 ≤ g.1) : q_nA .int (oS g 12 (F12_59 g.1) (A12_52 g.1) V12_52) (960 : Int32) = some (oS g 12 (F12_59 g.1) (A12_53 g.1) V12_53) := by
  exact o_nA (N := 960) (by decide) (by decide)
def F12_60 (b : Nat) : List Value := (F12_59 b).set 91 (.ref (b + 1 + 52))
theorem f12l_60 {b : Nat} : (F12_60 b).length = 94 := (List.length_set).trans f12l_59
theorem t12_250 {g : ps_G} (h8 : 8 ≤ g.1) : q_sR 12 91 (oS g 12 (F12_59 g.1) (A12_53 g.1) V12_53) g.1 (some (oS g 12 (F12_59 g.1) (A12_52 g.1) V12_52).1) = some (oS g 12 (F12_60 g.1) (A12_53 g.1) V12_53) := by
  have e : (oS g 12 (F12_59 g.1) (A12_52 g.1) V12_52).1 = g.1 + 1 + 52 := by rw [oS_1, a12l_52]
  rw [e]
  exact o_sR (by rw [f12l_59]; decide)
def A12_54 (b : Nat) : List ps_E := A12_53 b ++ [.inl (ps_ak .int, (340, ps_az .int))]
theorem a12l_54 {b : Nat} : (A12_54 b).length = 54 := (List.length_append).trans (by rw [a12l_53]; rfl)
def V12_54 : Nat := V12_53 + 340
theorem t12_251 {g : ps_G} (h8 : 8 ≤ g.1) : q_nA .int (oS g 12 (F12_60 g.1) (A12_53 g.1) V12_53) (340 : Int32) = some (oS g 12 (F12_60 g.1) (A12_54 g.1) V12_54) := by
  exact o_nA (N := 340) (by decide) (by decide)
def F12_61 (b : Nat) : List Value := (F12_60 b).set 92 (.ref (b + 1 + 53))
theorem f12l_61 {b : Nat} : (F12_61 b).length = 94 := (List.length_set).trans f12l_60
theorem t12_252 {g : ps_G} (h8 : 8 ≤ g.1) : q_sR 12 92 (oS g 12 (F12_60 g.1) (A12_54 g.1) V12_54) g.1 (some (oS g 12 (F12_60 g.1) (A12_53 g.1) V12_53).1) = some (oS g 12 (F12_61 g.1) (A12_54 g.1) V12_54) := by
  have e : (oS g 12 (F12_60 g.1) (A12_53 g.1) V12_53).1 = g.1 + 1 + 53 := by rw [oS_1, a12l_53]
  rw [e]
  exact o_sR (by rw [f12l_60]; decide)
/-- what is left of the constructor -/
noncomputable def c12 (g252 : ps_G) (x0 : Nat) : Option ps_G := Option.bind (q_fR 12 24 g252 x0) fun v253 => Option.bind (v253) fun a254 => Option.bind (q_wI g252 a254 (4 : Int32) (1 : Int32)) fun g255 => Option.bind (q_lp (fun s => bX12_init_1273 x0 s.1 s.2) ((0 : Int32), g255)) fun s267 => Option.bind (q_lp (fun s => bX12_init_1314 x0 s.1 s.2) ((1 : Int32), s267)) fun s275 => Option.bind (q_lp (fun s => bX12_init_1335 x0 s.1 s.2) ((0 : Int32), s275)) fun s283 => Option.bind (q_ob 12 s283 x0) fun u284 => Option.bind (fX12_fresh s283 x0 (8 : Int32) (8 : Int32)) fun v285 => some v285
theorem p12_7 {g : ps_G} (h8 : 8 ≤ g.1) : jX12_init_1229 (oS g 12 (F12_57 g.1) (A12_50 g.1) V12_50) g.1 = c12 (oS g 12 (F12_61 g.1) (A12_54 g.1) V12_54) g.1 := by
  unfold jX12_init_1229
  rw [t12_245 h8, ob_n, t12_246 h8, ob_n, t12_247 h8, ob_n, t12_248 h8, ob_n, t12_249 h8, ob_n, t12_250 h8, ob_n, t12_251 h8, ob_n, t12_252 h8, ob_n]
  rfl
theorem in_12 {g : ps_G} (h8 : 8 ≤ g.1) : fX12_init (q_new 12 g) g.1 = c12 (oS g 12 (F12_61 g.1) (A12_54 g.1) V12_54) g.1 := by
  have e : q_new 12 g = oS g 12 (F12_0 g.1) (A12_0 g.1) V12_0 := o_new
  rw [e, p12_0 h8, p12_1 h8, p12_2 h8, p12_3 h8, p12_4 h8, p12_5 h8, p12_6 h8, p12_7 h8]
