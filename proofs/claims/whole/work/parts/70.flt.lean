-- needs: 07 10 13 14 20 21 22 23 24 25 26 27 32 38 52 53 54 58
/-! ===== FILTERS: what is near, and the mean around ===== -/
def clN (v : Int32) (n : Nat) : Nat := if v.toInt < 0 then 0 else if (n : Int) ≤ v.toInt then n - 1 else v.toInt.toNat
theorem clN_lt {v : Int32} {n : Nat} (h : 1 ≤ n) : clN v n < n := by
  unfold clN
  split
  · omega
  · split <;> omega
theorem clN_n {a n : Nat} (hn : n ≤ 24) (h : a < n) : clN (Int32.ofNat a) n = a := by
  unfold clN
  rw [n_int (by omega), if_neg (by omega), if_neg (by omega), Int.toNat_natCast]
/-- the nearest pixel there is -/
def nr (F : Nat → Int32) (w h : Nat) (x y : Int32) : Int32 := F (clN y h * w + clN x w)
theorem nr_in {F : Nat → Int32} {w h a b : Nat} (hw : w ≤ 24) (hh : h ≤ 24) (ha : a < w) (hb : b < h) : nr F w h (Int32.ofNat a) (Int32.ofNat b) = F (b * w + a) := by
  unfold nr
  rw [clN_n hw ha, clN_n hh hb]
theorem nr_c {F F' : Nat → Int32} {w h : Nat} (hw : 1 ≤ w) (hh : 1 ≤ h) (e : ∀ k, k < w * h → F k = F' k) : nr F w h = nr F' w h := by
  funext x y
  exact e _ (at_lt (clN_lt hw) (clN_lt hh))
theorem cl_c {x : Int32} {n : Nat} (hn1 : 1 ≤ n) (hn : n ≤ 24) : (¬ 0 ≤ x → clN x n = 0) ∧ (0 ≤ x → x < Int32.ofNat n → x = Int32.ofNat (clN x n)) ∧ (0 ≤ x → ¬ x < Int32.ofNat n → Int32.ofNat n - 1 = Int32.ofNat (clN x n)) := by
  have e0 : (0 : Int32).toInt = 0 := rfl
  refine ⟨fun h => ?_, fun h h2 => ?_, fun h h2 => ?_⟩
  · rw [i_le, e0] at h
    unfold clN; rw [if_pos (by omega)]
  · rw [i_le, e0] at h
    rw [i_lt, n_int (by omega)] at h2
    unfold clN
    rw [if_neg (by omega), if_neg (by omega)]
    exact n_of (by omega)
  · rw [i_le, e0] at h
    rw [i_lt, n_int (by omega)] at h2
    unfold clN
    rw [if_neg (by omega), if_pos (by omega)]
    exact n_sub (b := 1) (by omega) (by omega)
theorem near5 {s : e_S} {g : ps_G} {a w h : Nat} {F : Nat → Int32} {x y : Int32} (hw1 : 1 ≤ w) (hh1 : 1 ≤ h) (hw : w ≤ 24) (hh : h ≤ 24) (e7 : s.2.2.1 14 7 = some a) (e8 : s.1 14 8 = Int32.ofNat w) (e9 : s.1 14 9 = Int32.ofNat h) (hF : ∀ i, q_aI (e_g s g) a i = if i < 0 ∨ 576 ≤ i.toNatClampNeg then none else some (F i.toNatClampNeg)) : fX5_near (e_g s g) 14 x y = some (nr F w h x y) := by
  have hwh := wh_le hw hh
  have core : ∀ i j : Nat, i < w → j < h → jX5_near_53 (e_g s g) 14 (Int32.ofNat i) (Int32.ofNat j) = some (F (j * w + i)) := by
    intro i j hi hj
    have := at_lt hi hj
    simp (decide := true) only [jX5_near_53, f14_7, f14_8, e7, e8, hF, n_mul, n_add, n_in2 (show j * w + i < 576 by omega) (by decide), n_idx (show j * w + i < 2147483648 by omega), ob_n, b2_n, tc_rn, tc_ln, F_sF, A_sF, R_sF, L_sF, F_sA, A_sA, R_sA, L_sA, F_sR, A_sR, R_sR, L_sR, F_sL, A_sL, R_sL, L_sL, and_true, true_and, and_false, false_and, and_self, reduceIte, sF_sF, sA_sA, false_or, or_false, true_or, or_true, not_false_eq_true, not_true_eq_false, decide_true, decide_false, Bool.true_or, Bool.or_true, Bool.false_and, Bool.true_and, Bool.false_or, Bool.or_false, Bool.and_true, Bool.and_false]
  have rowy : ∀ i : Nat, i < w → jX5_near_26 (e_g s g) 14 y (Int32.ofNat i) = some (F (clN y h * w + i)) := by
    intro i hi
    obtain ⟨c1, c2, c3⟩ := cl_c (x := y) hh1 hh
    have hc := clN_lt (v := y) hh1
    have cc := core i (clN y h) hi hc
    by_cases q : 0 ≤ y
    · by_cases q2 : y < Int32.ofNat h
      · rw [← c2 q q2] at cc
        simp (decide := true) only [jX5_near_26, q, f14_9, e9, q2, cc, ob_n, b2_n, tc_rn, tc_ln, F_sF, A_sF, R_sF, L_sF, F_sA, A_sA, R_sA, L_sA, F_sR, A_sR, R_sR, L_sR, F_sL, A_sL, R_sL, L_sL, and_true, true_and, and_false, false_and, and_self, reduceIte, sF_sF, sA_sA, false_or, or_false, true_or, or_true, not_false_eq_true, not_true_eq_false, decide_true, decide_false, Bool.true_or, Bool.or_true, Bool.false_and, Bool.true_and, Bool.false_or, Bool.or_false, Bool.and_true, Bool.and_false]
      · rw [← c3 q q2] at cc
        simp (decide := true) only [jX5_near_26, q, f14_9, e9, q2, cc, ob_n, b2_n, tc_rn, tc_ln, F_sF, A_sF, R_sF, L_sF, F_sA, A_sA, R_sA, L_sA, F_sR, A_sR, R_sR, L_sR, F_sL, A_sL, R_sL, L_sL, and_true, true_and, and_false, false_and, and_self, reduceIte, sF_sF, sA_sA, false_or, or_false, true_or, or_true, not_false_eq_true, not_true_eq_false, decide_true, decide_false, Bool.true_or, Bool.or_true, Bool.false_and, Bool.true_and, Bool.false_or, Bool.or_false, Bool.and_true, Bool.and_false]
    · have z : clN y h = 0 := c1 q
      rw [z] at cc
      have cc' : jX5_near_53 (e_g s g) 14 (Int32.ofNat i) 0 = some (F (0 * w + i)) := cc
      simp (decide := true) only [jX5_near_26, q, cc', z, ob_n, b2_n, tc_rn, tc_ln, F_sF, A_sF, R_sF, L_sF, F_sA, A_sA, R_sA, L_sA, F_sR, A_sR, R_sR, L_sR, F_sL, A_sL, R_sL, L_sL, and_true, true_and, and_false, false_and, and_self, reduceIte, sF_sF, sA_sA, false_or, or_false, true_or, or_true, not_false_eq_true, not_true_eq_false, decide_true, decide_false, Bool.true_or, Bool.or_true, Bool.false_and, Bool.true_and, Bool.false_or, Bool.or_false, Bool.and_true, Bool.and_false]
  obtain ⟨c1, c2, c3⟩ := cl_c (x := x) hw1 hw
  have hc := clN_lt (v := x) hw1
  have cc := rowy (clN x w) hc
  unfold nr
  by_cases q : 0 ≤ x
  · by_cases q2 : x < Int32.ofNat w
    · rw [← c2 q q2] at cc
      rw [← cc]
      simp (decide := true) only [fX5_near, q, f14_8, e8, q2, ob_n, b2_n, tc_rn, tc_ln, F_sF, A_sF, R_sF, L_sF, F_sA, A_sA, R_sA, L_sA, F_sR, A_sR, R_sR, L_sR, F_sL, A_sL, R_sL, L_sL, and_true, true_and, and_false, false_and, and_self, reduceIte, sF_sF, sA_sA, false_or, or_false, true_or, or_true, not_false_eq_true, not_true_eq_false, decide_true, decide_false, Bool.true_or, Bool.or_true, Bool.false_and, Bool.true_and, Bool.false_or, Bool.or_false, Bool.and_true, Bool.and_false]
    · rw [← c3 q q2] at cc
      rw [← cc]
      simp (decide := true) only [fX5_near, q, f14_8, e8, q2, ob_n, b2_n, tc_rn, tc_ln, F_sF, A_sF, R_sF, L_sF, F_sA, A_sA, R_sA, L_sA, F_sR, A_sR, R_sR, L_sR, F_sL, A_sL, R_sL, L_sL, and_true, true_and, and_false, false_and, and_self, reduceIte, sF_sF, sA_sA, false_or, or_false, true_or, or_true, not_false_eq_true, not_true_eq_false, decide_true, decide_false, Bool.true_or, Bool.or_true, Bool.false_and, Bool.true_and, Bool.false_or, Bool.or_false, Bool.and_true, Bool.and_false]
  · have z : clN x w = 0 := c1 q
    rw [z] at cc
    have cc' : jX5_near_26 (e_g s g) 14 y 0 = some (F (clN y h * w + 0)) := cc
    simp (decide := true) only [fX5_near, q, cc', z, ob_n, b2_n, tc_rn, tc_ln, F_sF, A_sF, R_sF, L_sF, F_sA, A_sA, R_sA, L_sA, F_sR, A_sR, R_sR, L_sR, F_sL, A_sL, R_sL, L_sL, and_true, true_and, and_false, false_and, and_self, reduceIte, sF_sF, sA_sA, false_or, or_false, true_or, or_true, not_false_eq_true, not_true_eq_false, decide_true, decide_false, Bool.true_or, Bool.or_true, Bool.false_and, Bool.true_and, Bool.false_or, Bool.or_false, Bool.and_true, Bool.and_false]
theorem near12 {s : e_S} {g : ps_G} {w h : Nat} {x y : Int32} (hw1 : 1 ≤ w) (hh1 : 1 ≤ h) (hw : w ≤ 24) (hh : h ≤ 24) (e8 : s.1 139 13 = Int32.ofNat w) (e9 : s.1 139 14 = Int32.ofNat h) : fX12_near (e_g s g) 139 x y = some (nr (s.2.1 147) w h x y) := by
  have hwh := wh_le hw hh
  have core : ∀ i j : Nat, i < w → j < h → jX12_near_53 (e_g s g) 139 (Int32.ofNat i) (Int32.ofNat j) = some (s.2.1 147 (j * w + i)) := by
    intro i j hi hj
    have := at_lt hi hj
    simp (decide := true) only [jX12_near_53, f139_18, a147, ob139, at12n e8, n_in2 (show j * w + i < 576 by omega) (by decide), n_idx (show j * w + i < 2147483648 by omega), ob_n, b2_n, tc_rn, tc_ln, F_sF, A_sF, R_sF, L_sF, F_sA, A_sA, R_sA, L_sA, F_sR, A_sR, R_sR, L_sR, F_sL, A_sL, R_sL, L_sL, and_true, true_and, and_false, false_and, and_self, reduceIte, sF_sF, sA_sA, false_or, or_false, true_or, or_true, not_false_eq_true, not_true_eq_false, decide_true, decide_false, Bool.true_or, Bool.or_true, Bool.false_and, Bool.true_and, Bool.false_or, Bool.or_false, Bool.and_true, Bool.and_false]
  have rowy : ∀ i : Nat, i < w → jX12_near_26 (e_g s g) 139 y (Int32.ofNat i) = some (s.2.1 147 (clN y h * w + i)) := by
    intro i hi
    obtain ⟨c1, c2, c3⟩ := cl_c (x := y) hh1 hh
    have hc := clN_lt (v := y) hh1
    have cc := core i (clN y h) hi hc
    by_cases q : 0 ≤ y
    · by_cases q2 : y < Int32.ofNat h
      · rw [← c2 q q2] at cc
        simp (decide := true) only [jX12_near_26, q, f139_14, e9, q2, cc, ob_n, b2_n, tc_rn, tc_ln, F_sF, A_sF, R_sF, L_sF, F_sA, A_sA, R_sA, L_sA, F_sR, A_sR, R_sR, L_sR, F_sL, A_sL, R_sL, L_sL, and_true, true_and, and_false, false_and, and_self, reduceIte, sF_sF, sA_sA, false_or, or_false, true_or, or_true, not_false_eq_true, not_true_eq_false, decide_true, decide_false, Bool.true_or, Bool.or_true, Bool.false_and, Bool.true_and, Bool.false_or, Bool.or_false, Bool.and_true, Bool.and_false]
      · rw [← c3 q q2] at cc
        simp (decide := true) only [jX12_near_26, q, f139_14, e9, q2, cc, ob_n, b2_n, tc_rn, tc_ln, F_sF, A_sF, R_sF, L_sF, F_sA, A_sA, R_sA, L_sA, F_sR, A_sR, R_sR, L_sR, F_sL, A_sL, R_sL, L_sL, and_true, true_and, and_false, false_and, and_self, reduceIte, sF_sF, sA_sA, false_or, or_false, true_or, or_true, not_false_eq_true, not_true_eq_false, decide_true, decide_false, Bool.true_or, Bool.or_true, Bool.false_and, Bool.true_and, Bool.false_or, Bool.or_false, Bool.and_true, Bool.and_false]
    · have z : clN y h = 0 := c1 q
      rw [z] at cc
      have cc' : jX12_near_53 (e_g s g) 139 (Int32.ofNat i) 0 = some (s.2.1 147 (0 * w + i)) := cc
      simp (decide := true) only [jX12_near_26, q, cc', z, ob_n, b2_n, tc_rn, tc_ln, F_sF, A_sF, R_sF, L_sF, F_sA, A_sA, R_sA, L_sA, F_sR, A_sR, R_sR, L_sR, F_sL, A_sL, R_sL, L_sL, and_true, true_and, and_false, false_and, and_self, reduceIte, sF_sF, sA_sA, false_or, or_false, true_or, or_true, not_false_eq_true, not_true_eq_false, decide_true, decide_false, Bool.true_or, Bool.or_true, Bool.false_and, Bool.true_and, Bool.false_or, Bool.or_false, Bool.and_true, Bool.and_false]
  obtain ⟨c1, c2, c3⟩ := cl_c (x := x) hw1 hw
  have hc := clN_lt (v := x) hw1
  have cc := rowy (clN x w) hc
  unfold nr
  by_cases q : 0 ≤ x
  · by_cases q2 : x < Int32.ofNat w
    · rw [← c2 q q2] at cc
      rw [← cc]
      simp (decide := true) only [fX12_near, q, f139_13, e8, q2, ob_n, b2_n, tc_rn, tc_ln, F_sF, A_sF, R_sF, L_sF, F_sA, A_sA, R_sA, L_sA, F_sR, A_sR, R_sR, L_sR, F_sL, A_sL, R_sL, L_sL, and_true, true_and, and_false, false_and, and_self, reduceIte, sF_sF, sA_sA, false_or, or_false, true_or, or_true, not_false_eq_true, not_true_eq_false, decide_true, decide_false, Bool.true_or, Bool.or_true, Bool.false_and, Bool.true_and, Bool.false_or, Bool.or_false, Bool.and_true, Bool.and_false]
    · rw [← c3 q q2] at cc
      rw [← cc]
      simp (decide := true) only [fX12_near, q, f139_13, e8, q2, ob_n, b2_n, tc_rn, tc_ln, F_sF, A_sF, R_sF, L_sF, F_sA, A_sA, R_sA, L_sA, F_sR, A_sR, R_sR, L_sR, F_sL, A_sL, R_sL, L_sL, and_true, true_and, and_false, false_and, and_self, reduceIte, sF_sF, sA_sA, false_or, or_false, true_or, or_true, not_false_eq_true, not_true_eq_false, decide_true, decide_false, Bool.true_or, Bool.or_true, Bool.false_and, Bool.true_and, Bool.false_or, Bool.or_false, Bool.and_true, Bool.and_false]
  · have z : clN x w = 0 := c1 q
    rw [z] at cc
    have cc' : jX12_near_26 (e_g s g) 139 y 0 = some (s.2.1 147 (clN y h * w + 0)) := cc
    simp (decide := true) only [fX12_near, q, cc', z, ob_n, b2_n, tc_rn, tc_ln, F_sF, A_sF, R_sF, L_sF, F_sA, A_sA, R_sA, L_sA, F_sR, A_sR, R_sR, L_sR, F_sL, A_sL, R_sL, L_sL, and_true, true_and, and_false, false_and, and_self, reduceIte, sF_sF, sA_sA, false_or, or_false, true_or, or_true, not_false_eq_true, not_true_eq_false, decide_true, decide_false, Bool.true_or, Bool.or_true, Bool.false_and, Bool.true_and, Bool.false_or, Bool.or_false, Bool.and_true, Bool.and_false]
theorem part_k {c : Int32} : fX12_part c 0 = fX11_red c ∧ fX12_part c 1 = fX11_green c ∧ fX12_part c 2 = fX11_blue c := by
  refine ⟨?_, ?_, ?_⟩ <;> simp (decide := true) only [fX12_part, fX11_red, fX11_green, fX11_blue, shr_0, reduceIte, z_160, z_161, z_162, z_163, z_168, z_88, z_08, z_01, z_11, z_21, z_31]
theorem bright_k {c : Int32} : fX12_bright c = fX11_luma c := by
  unfold fX12_bright
  rw [part_k.1, part_k.2.1, part_k.2.2]
  rfl
theorem rgb_u {c : Int32} : q_shr c 16 &&& 255 = fX11_red c ∧ q_shr c 8 &&& 255 = fX11_green c ∧ c &&& 255 = fX11_blue c := ⟨rfl, rfl, rfl⟩
/-- a row of the mean around, by what is near -/
def sfB (R : Int32 → Int32 → Int32) (x n j : Int32) (t : Int32 × Int32 × Int32 × Int32 × Int32) : Option ((Int32 × Int32 × Int32 × Int32 × Int32) ⊕ (Int32 × Int32 × Int32 × Int32)) := if x + n < t.2.2.2.2 then some (.inr (t.1, t.2.1, t.2.2.1, t.2.2.2.1)) else some (.inl (t.1 + q_ush (R t.2.2.2.2 j) 24, t.2.1 + q_ush (R t.2.2.2.2 j) 24 * fX11_red (R t.2.2.2.2 j), t.2.2.1 + q_ush (R t.2.2.2.2 j) 24 * fX11_green (R t.2.2.2.2 j), t.2.2.2.1 + q_ush (R t.2.2.2.2 j) 24 * fX11_blue (R t.2.2.2.2 j), t.2.2.2.2 + 1))
noncomputable def sfO (R : Int32 → Int32 → Int32) (x y n : Int32) (t : Int32 × Int32 × Int32 × Int32 × Int32) : Option ((Int32 × Int32 × Int32 × Int32 × Int32) ⊕ (Int32 × Int32 × Int32 × Int32)) := if y + n < t.2.2.2.2 then some (.inr (t.1, t.2.1, t.2.2.1, t.2.2.2.1)) else (q_lp (sfB R x n t.2.2.2.2) (t.1, t.2.1, t.2.2.1, t.2.2.2.1, x - n)).bind fun u => some (.inl (u.1, u.2.1, u.2.2.1, u.2.2.2, t.2.2.2.2 + 1))
noncomputable def sfV (R : Int32 → Int32 → Int32) (n x y : Int32) : Int32 := ((q_lp (sfO R x y n) (0, 0, 0, 0, y - n)).bind fun t => fX11_mean cmG ((2 * n + 1) * (2 * n + 1)) t.1 t.2.1 t.2.2.1 t.2.2.2).getD 0
theorem sf_lp {R : Int32 → Int32 → Int32} {X Y m : Nat} (hX : X < 24) (hY : Y < 24) (hm : m ≤ 4) : ∃ t, q_lp (sfO R (Int32.ofNat X) (Int32.ofNat Y) (Int32.ofNat m)) (0, 0, 0, 0, Int32.ofNat Y - Int32.ofNat m) = some t ∧ 0 ≤ t.1.toInt ∧ t.1.toInt ≤ 100000 := by
  have ex : (Int32.ofNat X + Int32.ofNat m).toInt = X + m := by rw [n_add, n_int (by omega)]; omega
  have ey : (Int32.ofNat Y + Int32.ofNat m).toInt = Y + m := by rw [n_add, n_int (by omega)]; omega
  have sx : (Int32.ofNat X - Int32.ofNat m).toInt = X - m := by rw [i_sub (by rw [n_int (by omega), n_int (by omega)]; omega) (by rw [n_int (by omega), n_int (by omega)]; omega), n_int (by omega), n_int (by omega)]
  have sy : (Int32.ofNat Y - Int32.ofNat m).toInt = Y - m := by rw [i_sub (by rw [n_int (by omega), n_int (by omega)]; omega) (by rw [n_int (by omega), n_int (by omega)]; omega), n_int (by omega), n_int (by omega)]
  have e1 : (1 : Int32).toInt = 1 := rfl
  have inn : ∀ (t : Int32 × Int32 × Int32 × Int32) (j : Int32) (b : Int), 0 ≤ t.1.toInt → t.1.toInt ≤ b → b ≤ 50000 → ∃ u, q_lp (sfB R (Int32.ofNat X) (Int32.ofNat m) j) (t.1, t.2.1, t.2.2.1, t.2.2.2, Int32.ofNat X - Int32.ofNat m) = some u ∧ 0 ≤ u.1.toInt ∧ u.1.toInt ≤ b + 2295 := by
    intro t j b h0 hb hb2
    refine lp_n (b := sfB R (Int32.ofNat X) (Int32.ofNat m) j) (fun i (v : Int32 × Int32 × Int32 × Int32 × Int32) => 0 ≤ v.1.toInt ∧ v.1.toInt ≤ b + i * 255 ∧ v.2.2.2.2.toInt = X - m + i) (fun u => 0 ≤ u.1.toInt ∧ u.1.toInt ≤ b + 2295) (2 * m + 1) (fun i v hi hp => ?_) (fun v hp => ?_) ⟨h0, by dsimp only; omega, by dsimp only; omega⟩
    · obtain ⟨p1, p2, p3⟩ := hp
      have q : ¬ Int32.ofNat X + Int32.ofNat m < v.2.2.2.2 := by rw [i_lt, ex, p3]; omega
      have hu := @ush_24 (R v.2.2.2.2 j)
      refine ⟨_, by unfold sfB; rw [if_neg q], ?_⟩
      dsimp only
      rw [i_add (by omega) (by omega), i_add (by rw [e1]; omega) (by rw [e1]; omega), e1]
      exact ⟨by omega, by omega, by omega⟩
    · obtain ⟨p1, p2, p3⟩ := hp
      have q : Int32.ofNat X + Int32.ofNat m < v.2.2.2.2 := by rw [i_lt, ex, p3]; omega
      exact ⟨_, by unfold sfB; rw [if_pos q], p1, by dsimp only; omega⟩
  refine lp_n (b := sfO R (Int32.ofNat X) (Int32.ofNat Y) (Int32.ofNat m)) (fun i (v : Int32 × Int32 × Int32 × Int32 × Int32) => 0 ≤ v.1.toInt ∧ v.1.toInt ≤ i * 2295 ∧ v.2.2.2.2.toInt = Y - m + i) (fun u => 0 ≤ u.1.toInt ∧ u.1.toInt ≤ 100000) (2 * m + 1) (fun i v hi hp => ?_) (fun v hp => ?_) ⟨Int.le_refl _, Int.le_refl _, by dsimp only; omega⟩
  · obtain ⟨p1, p2, p3⟩ := hp
    have q : ¬ Int32.ofNat Y + Int32.ofNat m < v.2.2.2.2 := by rw [i_lt, ey, p3]; omega
    obtain ⟨u, u1, u2, u3⟩ := inn (v.1, v.2.1, v.2.2.1, v.2.2.2.1) v.2.2.2.2 (i * 2295) p1 p2 (by omega)
    refine ⟨_, by unfold sfO; rw [if_neg q, u1]; rfl, ?_⟩
    dsimp only
    rw [i_add (by rw [e1]; omega) (by rw [e1]; omega), e1]
    exact ⟨u2, by omega, by omega⟩
  · obtain ⟨p1, p2, p3⟩ := hp
    have q : Int32.ofNat Y + Int32.ofNat m < v.2.2.2.2 := by rw [i_lt, ey, p3]; omega
    exact ⟨_, by unfold sfO; rw [if_pos q], p1, by dsimp only; omega⟩
theorem mean_v {g : ps_G} {n a r gr b : Int32} (hn : 0 < n.toInt) : ∃ v, fX11_mean g n a r gr b = some v ∧ ∀ g', fX11_mean g' n a r gr b = some v := by
  have e0 : (0 : Int32).toInt = 0 := rfl
  have n0 : 0 < n := by rw [i_lt, e0]; exact hn
  have nz : ¬ n = 0 := by rw [i_eq, e0]; omega
  by_cases z : a ≤ 0
  · exact ⟨0, by simp (decide := true) only [fX11_mean, z, ob_n, b2_n, tc_rn, tc_ln, F_sF, A_sF, R_sF, L_sF, F_sA, A_sA, R_sA, L_sA, F_sR, A_sR, R_sR, L_sR, F_sL, A_sL, R_sL, L_sL, and_true, true_and, and_false, false_and, and_self, reduceIte, sF_sF, sA_sA, false_or, or_false, true_or, or_true, not_false_eq_true, not_true_eq_false, decide_true, decide_false, Bool.true_or, Bool.or_true, Bool.false_and, Bool.true_and, Bool.false_or, Bool.or_false, Bool.and_true, Bool.and_false], fun g' => by simp (decide := true) only [fX11_mean, z, ob_n, b2_n, tc_rn, tc_ln, F_sF, A_sF, R_sF, L_sF, F_sA, A_sA, R_sA, L_sA, F_sR, A_sR, R_sR, L_sR, F_sL, A_sL, R_sL, L_sL, and_true, true_and, and_false, false_and, and_self, reduceIte, sF_sF, sA_sA, false_or, or_false, true_or, or_true, not_false_eq_true, not_true_eq_false, decide_true, decide_false, Bool.true_or, Bool.or_true, Bool.false_and, Bool.true_and, Bool.false_or, Bool.or_false, Bool.and_true, Bool.and_false]⟩
  · have az : ¬ a = 0 := fun e => z (by rw [e]; decide)
    exact ⟨_, by simp (decide := true) only [fX11_mean, z, n0, nz, az, q_div, ob_n, b2_n, tc_rn, tc_ln, F_sF, A_sF, R_sF, L_sF, F_sA, A_sA, R_sA, L_sA, F_sR, A_sR, R_sR, L_sR, F_sL, A_sL, R_sL, L_sL, and_true, true_and, and_false, false_and, and_self, reduceIte, sF_sF, sA_sA, false_or, or_false, true_or, or_true, not_false_eq_true, not_true_eq_false, decide_true, decide_false, Bool.true_or, Bool.or_true, Bool.false_and, Bool.true_and, Bool.false_or, Bool.or_false, Bool.and_true, Bool.and_false]; rfl, fun g' => by simp (decide := true) only [fX11_mean, z, n0, nz, az, q_div, ob_n, b2_n, tc_rn, tc_ln, F_sF, A_sF, R_sF, L_sF, F_sA, A_sA, R_sA, L_sA, F_sR, A_sR, R_sR, L_sR, F_sL, A_sL, R_sL, L_sL, and_true, true_and, and_false, false_and, and_self, reduceIte, sF_sF, sA_sA, false_or, or_false, true_or, or_true, not_false_eq_true, not_true_eq_false, decide_true, decide_false, Bool.true_or, Bool.or_true, Bool.false_and, Bool.true_and, Bool.false_or, Bool.or_false, Bool.and_true, Bool.and_false]⟩
theorem m2_p {m : Nat} (hm : m ≤ 4) : (2 * Int32.ofNat m + 1) * (2 * Int32.ofNat m + 1) = Int32.ofNat ((2 * m + 1) * (2 * m + 1)) ∧ (2 * m + 1) * (2 * m + 1) ≤ 81 := by
  have e2 : (2 : Int32) * Int32.ofNat m = Int32.ofNat (2 * m) := n_mul (n := 2)
  have e3 : Int32.ofNat (2 * m) + 1 = Int32.ofNat (2 * m + 1) := n_suc
  refine ⟨by rw [e2, e3, n_mul], ?_⟩
  have : m = 0 ∨ m = 1 ∨ m = 2 ∨ m = 3 ∨ m = 4 := by omega
  rcases this with rfl | rfl | rfl | rfl | rfl <;> decide
theorem soft5 {s : e_S} {g : ps_G} {R : Int32 → Int32 → Int32} {X Y m : Nat} (hX : X < 24) (hY : Y < 24) (hm : m ≤ 4) (hR : ∀ x y, fX5_near (e_g s g) 14 x y = some (R x y)) : fX5_soft (e_g s g) 14 (Int32.ofNat X) (Int32.ofNat Y) (Int32.ofNat m) = some (sfV R (Int32.ofNat m) (Int32.ofNat X) (Int32.ofNat Y)) := by
  have ei : ∀ j, (fun t : Int32 × Int32 × Int32 × Int32 × Int32 => bX5_soft_30 (e_g s g) 14 (Int32.ofNat X) (Int32.ofNat Y) (Int32.ofNat m) j t.1 t.2.1 t.2.2.1 t.2.2.2.1 t.2.2.2.2) = sfB R (Int32.ofNat X) (Int32.ofNat m) j := by
    intro j; funext t
    simp (decide := true) only [bX5_soft_30, sfB, ob14, hR, fX11_red, fX11_green, fX11_blue, ob_n, b2_n, tc_rn, tc_ln, F_sF, A_sF, R_sF, L_sF, F_sA, A_sA, R_sA, L_sA, F_sR, A_sR, R_sR, L_sR, F_sL, A_sL, R_sL, L_sL, and_true, true_and, and_false, false_and, and_self, reduceIte, sF_sF, sA_sA, false_or, or_false, true_or, or_true, not_false_eq_true, not_true_eq_false, decide_true, decide_false, Bool.true_or, Bool.or_true, Bool.false_and, Bool.true_and, Bool.false_or, Bool.or_false, Bool.and_true, Bool.and_false]
  have eo : (fun t : Int32 × Int32 × Int32 × Int32 × Int32 => bX5_soft_17 (e_g s g) 14 (Int32.ofNat X) (Int32.ofNat Y) (Int32.ofNat m) t.1 t.2.1 t.2.2.1 t.2.2.2.1 t.2.2.2.2) = sfO R (Int32.ofNat X) (Int32.ofNat Y) (Int32.ofNat m) := by
    funext t
    unfold bX5_soft_17 sfO
    rw [ei]
  obtain ⟨t, t1, t2, t3⟩ := sf_lp (R := R) hX hY hm
  obtain ⟨e2, e3⟩ := m2_p hm
  obtain ⟨v, v1, v2⟩ := mean_v (g := e_g s g) (n := Int32.ofNat ((2 * m + 1) * (2 * m + 1))) (a := t.1) (r := t.2.1) (gr := t.2.2.1) (b := t.2.2.2) (by rw [n_int (by omega)]; have : 0 < (2 * m + 1) * (2 * m + 1) := Nat.mul_pos (by omega) (by omega); omega)
  unfold fX5_soft sfV
  rw [eo, t1, e2, ob_n, ob_n, v1, v2 cmG, ob_n]
  rfl
theorem soft12 {s : e_S} {g : ps_G} {R : Int32 → Int32 → Int32} {X Y m : Nat} (hX : X < 24) (hY : Y < 24) (hm : m ≤ 4) (hR : ∀ x y, fX12_near (e_g s g) 139 x y = some (R x y)) : fX12_soft (e_g s g) 139 (Int32.ofNat m) (Int32.ofNat X) (Int32.ofNat Y) = some (sfV R (Int32.ofNat m) (Int32.ofNat X) (Int32.ofNat Y)) := by
  have ei : ∀ j, (fun t : Int32 × Int32 × Int32 × Int32 × Int32 => bX12_soft_30 (e_g s g) 139 (Int32.ofNat m) (Int32.ofNat X) (Int32.ofNat Y) j t.1 t.2.1 t.2.2.1 t.2.2.2.1 t.2.2.2.2) = sfB R (Int32.ofNat X) (Int32.ofNat m) j := by
    intro j; funext t
    simp (decide := true) only [bX12_soft_30, sfB, ob139, hR, fX12_alpha, part_k, ob_n, b2_n, tc_rn, tc_ln, F_sF, A_sF, R_sF, L_sF, F_sA, A_sA, R_sA, L_sA, F_sR, A_sR, R_sR, L_sR, F_sL, A_sL, R_sL, L_sL, and_true, true_and, and_false, false_and, and_self, reduceIte, sF_sF, sA_sA, false_or, or_false, true_or, or_true, not_false_eq_true, not_true_eq_false, decide_true, decide_false, Bool.true_or, Bool.or_true, Bool.false_and, Bool.true_and, Bool.false_or, Bool.or_false, Bool.and_true, Bool.and_false]
  have eo : (fun t : Int32 × Int32 × Int32 × Int32 × Int32 => bX12_soft_17 (e_g s g) 139 (Int32.ofNat m) (Int32.ofNat X) (Int32.ofNat Y) t.1 t.2.1 t.2.2.1 t.2.2.2.1 t.2.2.2.2) = sfO R (Int32.ofNat X) (Int32.ofNat Y) (Int32.ofNat m) := by
    funext t
    unfold bX12_soft_17 sfO
    rw [ei]
  obtain ⟨t, t1, t2, t3⟩ := sf_lp (R := R) hX hY hm
  obtain ⟨e2, e3⟩ := m2_p hm
  have hp : 0 < (2 * m + 1) * (2 * m + 1) := Nat.mul_pos (by omega) (by omega)
  have e0 : (0 : Int32).toInt = 0 := rfl
  have n0 : 0 < Int32.ofNat ((2 * m + 1) * (2 * m + 1)) := by rw [i_lt, e0, n_int (by omega)]; omega
  have nz : ¬ Int32.ofNat ((2 * m + 1) * (2 * m + 1)) = 0 := by rw [i_eq, e0, n_int (by omega)]; omega
  unfold fX12_soft sfV
  rw [eo, t1, e2, ob_n, ob_n]
  by_cases z : t.1 = 0
  · simp (decide := true) only [fX11_mean, z, jX12_soft_186, Option.getD_some, ob_n, b2_n, tc_rn, tc_ln, F_sF, A_sF, R_sF, L_sF, F_sA, A_sA, R_sA, L_sA, F_sR, A_sR, R_sR, L_sR, F_sL, A_sL, R_sL, L_sL, and_true, true_and, and_false, false_and, and_self, reduceIte, sF_sF, sA_sA, false_or, or_false, true_or, or_true, not_false_eq_true, not_true_eq_false, decide_true, decide_false, Bool.true_or, Bool.or_true, Bool.false_and, Bool.true_and, Bool.false_or, Bool.or_false, Bool.and_true, Bool.and_false]
  · have z1 : ¬ t.1 ≤ 0 := fun q => z (by rw [i_le, e0] at q; rw [i_eq, e0]; omega)
    simp (decide := true) only [fX11_mean, z, z1, n0, nz, q_div, jX12_soft_186, fX12_colour, Option.getD_some, ob_n, b2_n, tc_rn, tc_ln, F_sF, A_sF, R_sF, L_sF, F_sA, A_sA, R_sA, L_sA, F_sR, A_sR, R_sR, L_sR, F_sL, A_sL, R_sL, L_sL, and_true, true_and, and_false, false_and, and_self, reduceIte, sF_sF, sA_sA, false_or, or_false, true_or, or_true, not_false_eq_true, not_true_eq_false, decide_true, decide_false, Bool.true_or, Bool.or_true, Bool.false_and, Bool.true_and, Bool.false_or, Bool.or_false, Bool.and_true, Bool.and_false]
