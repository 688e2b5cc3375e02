-- needs: 97zzzzv
/-! ===== the reference's constructor, to its end ===== -/
def rfK (fs : List Value) (k a : Nat) : Bool := match fs[k]? with
  | some (.ref x) => x == a
  | _ => false
theorem rfK_e {fs : List Value} {k a : Nat} (h : rfK fs k a = true) : fs[k]? = some (.ref a) := by
  unfold rfK at h
  split at h
  · rename_i x e
    rw [e, eq_of_beq h]
  · cases h
def itK (fs : List Value) (k : Nat) (v : Int32) : Bool := match fs[k]? with
  | some (.int x) => decide (x = v)
  | _ => false
theorem itK_e {fs : List Value} {k : Nat} {v : Int32} (h : itK fs k v = true) : fs[k]? = some (.int v) := by
  unfold itK at h
  split at h
  · rename_i x e
    rw [e, of_decide_eq_true h]
  · cases h
def FY : List Value := ((F12_61 139).set 13 (.int 8)).set 14 (.int 8)
def FZ : List Value := ((FY.set 10 (.int 0)).set 11 (.int 0)).set 12 (.int 1)
def B1 : List ps_E := (A12_54 139).set 10 (.inl (0, (9, .inl (upd (fun _ => 0) 4 1))))
def B2 : List ps_E := B1.set 33 (.inl (0, (40, .inl (q3 (q3 (q3 (q3 (fun _ => 0) 0) 10) 20) 30))))
def B3 : List ps_E := B2.set 40 (.inl (0, (4, .inl (upd (upd (upd (fun _ => 0) 1 64) 2 64) 3 64))))
def B4 : List ps_E := B3.set 31 (.inl (0, (256, .inl (cpT (fun _ => 0) (fun _ => -1) 0 256))))
def B5 : List ps_E := B4.set 2 (.inl (0, (35071, .inl (cpT (fun _ => 0) (fun _ => 0) 0 35071))))
def B6 : List ps_E := B5.set 3 (.inl (0, (876775, .inl (cpT (fun _ => 0) (cpT (fun _ => 0) (fun _ => 0) 0 35071) 0 35071))))
def B7 : List ps_E := B6.set 15 (.inl (0, (576, .inl (cpT (fun _ => 0) (fun _ => 255) 0 576))))
def BZ : List ps_E := B7.set 8 (.inl (2, (9, .inl (cpT (fun _ => 0) (fun _ => 0) 0 9))))
theorem b_1 : B1.length = 54 := (List.length_set).trans a12l_54
theorem b_2 : B2.length = 54 := (List.length_set).trans b_1
theorem b_3 : B3.length = 54 := (List.length_set).trans b_2
theorem b_4 : B4.length = 54 := (List.length_set).trans b_3
theorem b_5 : B5.length = 54 := (List.length_set).trans b_4
theorem b_6 : B6.length = 54 := (List.length_set).trans b_5
theorem b_7 : B7.length = 54 := (List.length_set).trans b_6
theorem b_8 : BZ.length = 54 := (List.length_set).trans b_7
theorem bq_1 {i : Nat} (h : ¬ 10 = i) : B1[i]? = (A12_54 139)[i]? := List.getElem?_set_ne h
theorem bq_2 {i : Nat} (h : ¬ 33 = i) : B2[i]? = B1[i]? := List.getElem?_set_ne h
theorem bq_3 {i : Nat} (h : ¬ 40 = i) : B3[i]? = B2[i]? := List.getElem?_set_ne h
theorem bq_4 {i : Nat} (h : ¬ 31 = i) : B4[i]? = B3[i]? := List.getElem?_set_ne h
theorem bq_5 {i : Nat} (h : ¬ 2 = i) : B5[i]? = B4[i]? := List.getElem?_set_ne h
theorem bq_6 {i : Nat} (h : ¬ 3 = i) : B6[i]? = B5[i]? := List.getElem?_set_ne h
theorem bq_7 {i : Nat} (h : ¬ 15 = i) : B7[i]? = B6[i]? := List.getElem?_set_ne h
theorem bq_8 {i : Nat} (h : ¬ 8 = i) : BZ[i]? = B7[i]? := List.getElem?_set_ne h
theorem bs_10 : BZ[10]? = some (.inl (0, (9, .inl (upd (fun _ => 0) 4 1)))) := by
  rw [bq_8 (by decide), bq_7 (by decide), bq_6 (by decide), bq_5 (by decide), bq_4 (by decide), bq_3 (by decide), bq_2 (by decide)]
  exact List.getElem?_set_self (by rw [a12l_54]; decide)
theorem bs_33 : BZ[33]? = some (.inl (0, (40, .inl (q3 (q3 (q3 (q3 (fun _ => 0) 0) 10) 20) 30)))) := by
  rw [bq_8 (by decide), bq_7 (by decide), bq_6 (by decide), bq_5 (by decide), bq_4 (by decide), bq_3 (by decide)]
  exact List.getElem?_set_self (by rw [b_1]; decide)
theorem bs_40 : BZ[40]? = some (.inl (0, (4, .inl (upd (upd (upd (fun _ => 0) 1 64) 2 64) 3 64)))) := by
  rw [bq_8 (by decide), bq_7 (by decide), bq_6 (by decide), bq_5 (by decide), bq_4 (by decide)]
  exact List.getElem?_set_self (by rw [b_2]; decide)
theorem bs_31 : BZ[31]? = some (.inl (0, (256, .inl (cpT (fun _ => 0) (fun _ => -1) 0 256)))) := by
  rw [bq_8 (by decide), bq_7 (by decide), bq_6 (by decide), bq_5 (by decide)]
  exact List.getElem?_set_self (by rw [b_3]; decide)
theorem b5_2 : B5[2]? = some (.inl (0, (35071, .inl (cpT (fun _ => 0) (fun _ => 0) 0 35071)))) := List.getElem?_set_self (by rw [b_4]; decide)
theorem bs_2 : BZ[2]? = some (.inl (0, (35071, .inl (cpT (fun _ => 0) (fun _ => 0) 0 35071)))) := by
  rw [bq_8 (by decide), bq_7 (by decide), bq_6 (by decide), b5_2]
theorem bs_3 : BZ[3]? = some (.inl (0, (876775, .inl (cpT (fun _ => 0) (cpT (fun _ => 0) (fun _ => 0) 0 35071) 0 35071)))) := by
  rw [bq_8 (by decide), bq_7 (by decide)]
  exact List.getElem?_set_self (by rw [b_5]; decide)
theorem bs_15 : BZ[15]? = some (.inl (0, (576, .inl (cpT (fun _ => 0) (fun _ => 255) 0 576)))) := by
  rw [bq_8 (by decide)]
  exact List.getElem?_set_self (by rw [b_6]; decide)
theorem bs_8 : BZ[8]? = some (.inl (2, (9, .inl (cpT (fun _ => 0) (fun _ => 0) 0 9)))) := List.getElem?_set_self (by rw [b_7]; decide)
theorem bq_o {i : Nat} (h : ¬ (i = 10 ∨ i = 33 ∨ i = 40 ∨ i = 31 ∨ i = 2 ∨ i = 3 ∨ i = 15 ∨ i = 8)) : BZ[i]? = (A12_54 139)[i]? := by
  rw [bq_8 (by omega), bq_7 (by omega), bq_6 (by omega), bq_5 (by omega), bq_4 (by omega), bq_3 (by omega), bq_2 (by omega), bq_1 (by omega)]
theorem fr_e {g : ps_G} {W : Nat} (hv : g.1 = 139) : fX12_fresh (oS g 12 (F12_61 139) B4 W) g.1 8 8 = some (oS g 12 FZ BZ W) := by
  have h8 : 8 ≤ g.1 := by omega
  have a1 : q_sI 12 13 (oS g 12 (F12_61 139) B4 W) g.1 8 = some (oS g 12 ((F12_61 139).set 13 (.int 8)) B4 W) := o_sI (by rw [f12l_61]; decide)
  have a2 : q_sI 12 14 (oS g 12 ((F12_61 139).set 13 (.int 8)) B4 W) g.1 8 = some (oS g 12 FY B4 W) := o_sI (by rw [List.length_set, f12l_61]; decide)
  have ly : FY.length = 94 := (List.length_set).trans ((List.length_set).trans f12l_61)
  have h2 : B4[2]? = some (.inl (0, (35071, .inl fun _ => 0))) := by
    rw [bq_4 (by decide), bq_3 (by decide), bq_2 (by decide), bq_1 (by decide)]
    exact g12e_2
  have r8 : FY[8]? = some (.ref (g.1 + 1 + 2)) := by rw [hv]; exact rfK_e (by decide +kernel)
  have a3 := lf12 (W := W) r8 h2 h8
  have a4 : q_sI 12 10 (oS g 12 FY B5 W) g.1 0 = some (oS g 12 (FY.set 10 (.int 0)) B5 W) := o_sI (by rw [ly]; decide)
  have a5 : q_sI 12 11 (oS g 12 (FY.set 10 (.int 0)) B5 W) g.1 0 = some (oS g 12 ((FY.set 10 (.int 0)).set 11 (.int 0)) B5 W) := o_sI (by rw [List.length_set, ly]; decide)
  have a6 : q_sI 12 12 (oS g 12 ((FY.set 10 (.int 0)).set 11 (.int 0)) B5 W) g.1 1 = some (oS g 12 FZ B5 W) := o_sI (by rw [List.length_set, List.length_set, ly]; decide)
  have z8 : FZ[8]? = some (.ref (g.1 + 1 + 2)) := by rw [hv]; exact rfK_e (by decide +kernel)
  have z9 : FZ[9]? = some (.ref (g.1 + 1 + 3)) := by rw [hv]; exact rfK_e (by decide +kernel)
  have z31 : FZ[31]? = some (.ref (g.1 + 1 + 15)) := by rw [hv]; exact rfK_e (by decide +kernel)
  have z21 : FZ[21]? = some (.ref (g.1 + 1 + 8)) := by rw [hv]; exact rfK_e (by decide +kernel)
  have z10 : FZ[10]? = some (.int 0) := itK_e (by decide +kernel)
  have z11 : FZ[11]? = some (.int 0) := itK_e (by decide +kernel)
  have h3 : B5[3]? = some (.inl (0, (876775, .inl fun _ => 0))) := by
    rw [bq_5 (by decide), bq_4 (by decide), bq_3 (by decide), bq_2 (by decide), bq_1 (by decide)]
    exact g12e_3
  have a7 : fX12_keep (oS g 12 FZ B5 W) g.1 = some (oS g 12 FZ B6 W) := lkp (W := W) z9 z8 z10 z11 h3 b5_2 h8
  have h15 : B6[15]? = some (.inl (0, (576, .inl fun _ => 0))) := by
    rw [bq_6 (by decide), bq_5 (by decide), bq_4 (by decide), bq_3 (by decide), bq_2 (by decide), bq_1 (by decide)]
    exact g12e_15
  have a8 : q_lp (fun s => bX12_fresh_52 g.1 s.1 s.2) ((0 : Int32), oS g 12 FZ B6 W) = some (oS g 12 FZ B7 W) := lf52 (W := W) z31 h15 h8
  have h_8 : B7[8]? = some (.inl (2, (9, .inl fun _ => 0))) := by
    rw [bq_7 (by decide), bq_6 (by decide), bq_5 (by decide), bq_4 (by decide), bq_3 (by decide), bq_2 (by decide), bq_1 (by decide)]
    exact g12e_8
  have a9 : fX12_forget (oS g 12 FZ B7 W) g.1 = some (oS g 12 FZ BZ W) := lfg (W := W) z21 h_8
  have a3' : q_lp (fun s => bX12_fresh_12 g.1 s.1 s.2) ((0 : Int32), oS g 12 FY B4 W) = some (oS g 12 FY B5 W) := a3
  unfold fX12_fresh
  rw [a1, ob_n, a2, ob_n, a3', ob_n, a4, ob_n, a5, ob_n, a6, ob_n, o_ob, ob_n, a7, ob_n, a8, ob_n, o_ob, ob_n, a9, ob_n]
theorem c12_e {g : ps_G} (hv : g.1 = 139) : fX12_init (q_new 12 g) g.1 = some (oS g 12 FZ BZ V12_54) := by
  have h8 : 8 ≤ g.1 := by omega
  have e1 : F12_61 g.1 = F12_61 139 := congrArg F12_61 hv
  have e2 : A12_54 g.1 = A12_54 139 := congrArg A12_54 hv
  rw [in_12 h8, e1, e2]
  have y24 : (F12_61 139)[24]? = some (.ref (g.1 + 1 + 10)) := by rw [hv]; exact rfK_e (by decide +kernel)
  have y59 : (F12_61 139)[59]? = some (.ref (g.1 + 1 + 33)) := by rw [hv]; exact rfK_e (by decide +kernel)
  have y66 : (F12_61 139)[66]? = some (.ref (g.1 + 1 + 40)) := by rw [hv]; exact rfK_e (by decide +kernel)
  have y57 : (F12_61 139)[57]? = some (.ref (g.1 + 1 + 31)) := by rw [hv]; exact rfK_e (by decide +kernel)
  have a1 : q_wI (oS g 12 (F12_61 139) (A12_54 139) V12_54) (g.1 + 1 + 10) 4 1 = some (oS g 12 (F12_61 139) B1 V12_54) := o_wI (i := 10) (X := 4) g12e_10 (by decide) (by decide) (by decide) h8 rfl
  have h33 : B1[33]? = some (.inl (0, (40, .inl fun _ => 0))) := by
    rw [bq_1 (by decide)]
    exact g12e_33
  have a2 : q_lp (fun s => bX12_init_1273 g.1 s.1 s.2) ((0 : Int32), oS g 12 (F12_61 139) B1 V12_54) = some (oS g 12 (F12_61 139) B2 V12_54) := l1273 y59 h33 h8
  have h40 : B2[40]? = some (.inl (0, (4, .inl fun _ => 0))) := by
    rw [bq_2 (by decide), bq_1 (by decide)]
    exact g12e_40
  have a3 : q_lp (fun s => bX12_init_1314 g.1 s.1 s.2) ((1 : Int32), oS g 12 (F12_61 139) B2 V12_54) = some (oS g 12 (F12_61 139) B3 V12_54) := l1314 y66 h40 h8
  have h31 : B3[31]? = some (.inl (0, (256, .inl fun _ => 0))) := by
    rw [bq_3 (by decide), bq_2 (by decide), bq_1 (by decide)]
    exact g12e_31
  have a4 : q_lp (fun s => bX12_init_1335 g.1 s.1 s.2) ((0 : Int32), oS g 12 (F12_61 139) B3 V12_54) = some (oS g 12 (F12_61 139) B4 V12_54) := l1335 y57 h31 h8
  unfold c12
  rw [o_fR y24, ob_n, ob_n, a1, ob_n, a2, ob_n, a3, ob_n, a4, ob_n, o_ob, ob_n, fr_e hv, ob_n]
