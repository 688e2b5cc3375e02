-- needs: 07 10 13 14 20 21 22 23 24 25 26 27 32 33 34 36 38 39 40 41 42 43 44 46 47 48 52 53 54
/-! ===== pixels painted anew: what changed, and which TILES are forgotten ===== -/
/-- TILE (i, j) meets the box -/
def ov (L T R B : Int32) (i j : Nat) : Bool := decide (L.toInt < 8 * i + 8 ∧ 8 * (i : Int) ≤ R.toInt ∧ T.toInt < 8 * j + 8 ∧ 8 * (j : Int) ≤ B.toInt)
def fbR (P : Nat → Bool) (f : Nat → Int32) (n : Nat) : Nat → Int32 := fun k => if k < n ∧ P k = true then 0 else f k
theorem fbR_0 {P : Nat → Bool} {f : Nat → Int32} : fbR P f 0 = f := by
  funext k; unfold fbR; rw [if_neg (fun z => by omega)]
theorem fbR_t {P : Nat → Bool} {f : Nat → Int32} {n : Nat} (h : P n = true) : upd (fbR P f n) n 0 = fbR P f (n + 1) := by
  funext k
  rw [upd_r]
  unfold fbR
  by_cases e : k = n
  · rw [if_pos e, if_pos ⟨by omega, by rw [e]; exact h⟩]
  · rw [if_neg e]
    by_cases q : k < n ∧ P k = true
    · rw [if_pos q, if_pos ⟨by omega, q.2⟩]
    · rw [if_neg q, if_neg (fun z => q ⟨by omega, z.2⟩)]
theorem fbR_f {P : Nat → Bool} {f : Nat → Int32} {n : Nat} (h : ¬ P n = true) : fbR P f n = fbR P f (n + 1) := by
  funext k
  unfold fbR
  by_cases e : k = n
  · rw [if_neg (fun z => by omega), if_neg (fun z => h (by rw [← e]; exact z.2))]
  · by_cases q : k < n ∧ P k = true
    · rw [if_pos q, if_pos ⟨by omega, q.2⟩]
    · rw [if_neg q, if_neg (fun z => q ⟨by omega, z.2⟩)]
theorem i8 {i : Nat} (h : i < 10) : (Int32.ofNat i * 8).toInt = 8 * i ∧ (Int32.ofNat i * 8 + 8).toInt = 8 * i + 8 ∧ (Int32.ofNat i * 8 + 7).toInt = 8 * i + 7 := by
  have e : Int32.ofNat i * 8 = Int32.ofNat (i * 8) := n_mul (m := 8)
  have e1 : Int32.ofNat (i * 8) + 8 = Int32.ofNat (i * 8 + 8) := n_add (m := 8)
  have e2 : Int32.ofNat (i * 8) + 7 = Int32.ofNat (i * 8 + 7) := n_add (m := 7)
  rw [e, e1, e2, n_int (by omega), n_int (by omega), n_int (by omega)]
  omega
theorem ov_c {L T R B : Int32} {i j : Nat} (hi : i < 10) (hj : j < 10) : ((Int32.ofNat i * 8 + 8 ≤ L) ∨ ((R < Int32.ofNat i * 8) ∨ ((Int32.ofNat j * 8 + 8 ≤ T) ∨ (B < Int32.ofNat j * 8)))) ↔ ¬ ov L T R B i j = true := by
  obtain ⟨a1, a2, a3⟩ := i8 hi
  obtain ⟨b1, b2, b3⟩ := i8 hj
  unfold ov
  rw [decide_eq_true_iff, i_le, i_lt, i_le, i_lt, a1, a2, b1, b2]
  omega
theorem ov_m {L T R B : Int32} {i j : Nat} (hi : i < 10) (hj : j < 10) : ((R < Int32.ofNat i * 8) ∨ ((Int32.ofNat i * 8 + 7 < L) ∨ ((B < Int32.ofNat j * 8) ∨ (Int32.ofNat j * 8 + 7 < T)))) ↔ ¬ ov L T R B i j = true := by
  obtain ⟨a1, a2, a3⟩ := i8 hi
  obtain ⟨b1, b2, b3⟩ := i8 hj
  unfold ov
  rw [decide_eq_true_iff, i_lt, i_lt, i_lt, i_lt, a1, a3, b1, b3]
  omega
/-- the class's state behind forgetBox -/
def fbC (s : e_S) (L T R B : Int32) : e_S := sA (sF s 20 5 0) 88 (fbR (fun k => ov L T R B (k % 3) (k / 3)) (s.2.1 88) 9)
theorem forgetBox11 {s : e_S} {g : ps_G} {L T R B : Int32} : fX10_forgetBox (e_g s g) 20 L T R B = some (e_g (fbC s L T R B) g) := by
  have hl : q_lp (fun t => bX10_forgetBox_8 20 L T R B t.1 t.2) ((0 : Int32), e_g (sF s 20 5 0) g) = some (e_g (fbC s L T R B) g) := by
    refine lp_0 (fun i => (Int32.ofNat i, e_g (sA (sF s 20 5 0) 88 (fbR (fun k => ov L T R B (k % 3) (k / 3)) (s.2.1 88) i)) g)) 9 ?_ (fun i hi => ?_) ?_
    · have := @sA_id (sF s 20 5 0) 88
      rw [A_sF] at this
      rw [fbR_0, this]; rfl
    · have n9 : ¬ (9 : Int32) ≤ Int32.ofNat i := nle (b := 9) hi (by decide)
      have l9 : Int32.ofNat 9 = 9 := rfl
      have r1 : q_rem (Int32.ofNat i) 3 = Int32.ofNat (i % 3) := n_rem (b := 3) (by omega) (by omega)
      have r2 : Int32.ofNat i / 3 = Int32.ofNat (i / 3) := n_div (b := 3) (by omega) (by omega)
      have z0 : vp_nar .boolean (0 : Int32) = 0 := by decide
      have oc := ov_c (L := L) (T := T) (R := R) (B := B) (show i % 3 < 10 by omega) (show i / 3 < 10 by omega)
      by_cases q : ov L T R B (i % 3) (i / 3) = true
      · simp (decide := true) only [bX10_forgetBox_8, jX10_forgetBox_75_8, f20_7, l88, l9, n9, r1, r2, oc, q, u88, z0, n_in2 hi (by decide), n_idx (show i < 2147483648 by omega), n_suc, ob_n, b2_n, tc_rn, tc_ln, F_sF, A_sF, R_sF, L_sF, F_sA, A_sA, R_sA, L_sA, F_sR, A_sR, R_sR, L_sR, F_sL, A_sL, R_sL, L_sL, and_true, true_and, and_false, false_and, and_self, reduceIte, sF_sF, sA_sA, false_or, or_false, true_or, or_true, not_false_eq_true, not_true_eq_false, decide_true, decide_false, Bool.true_or, Bool.or_true, Bool.false_and, Bool.true_and, Bool.false_or, Bool.or_false, Bool.and_true, Bool.and_false]
        rw [fbR_t (P := fun k => ov L T R B (k % 3) (k / 3)) q]
      · simp (decide := true) only [bX10_forgetBox_8, jX10_forgetBox_75_8, f20_7, l88, l9, n9, r1, r2, oc, q, n_suc, ob_n, b2_n, tc_rn, tc_ln, F_sF, A_sF, R_sF, L_sF, F_sA, A_sA, R_sA, L_sA, F_sR, A_sR, R_sR, L_sR, F_sL, A_sL, R_sL, L_sL, and_true, true_and, and_false, false_and, and_self, reduceIte, sF_sF, sA_sA, false_or, or_false, true_or, or_true, not_false_eq_true, not_true_eq_false, decide_true, decide_false, Bool.true_or, Bool.or_true, Bool.false_and, Bool.true_and, Bool.false_or, Bool.or_false, Bool.and_true, Bool.and_false]
        rw [← fbR_f (P := fun k => ov L T R B (k % 3) (k / 3)) q]
    · have n9 : (9 : Int32) ≤ Int32.ofNat 9 := by decide
      have l9 : Int32.ofNat 9 = 9 := rfl
      simp (decide := true) only [bX10_forgetBox_8, f20_7, l88, l9, fbC, ob_n, b2_n, tc_rn, tc_ln, F_sF, A_sF, R_sF, L_sF, F_sA, A_sA, R_sA, L_sA, F_sR, A_sR, R_sR, L_sR, F_sL, A_sL, R_sL, L_sL, and_true, true_and, and_false, false_and, and_self, reduceIte, sF_sF, sA_sA, false_or, or_false, true_or, or_true, not_false_eq_true, not_true_eq_false, decide_true, decide_false, Bool.true_or, Bool.or_true, Bool.false_and, Bool.true_and, Bool.false_or, Bool.or_false, Bool.and_true, Bool.and_false]
  have w5 : ∀ s', q_sB 10 5 (e_g s' g) 20 (0 : Int32) = some (e_g (sF s' 20 5 0) g) := fun s' => by simp (decide := true) only [w20_5]
  simp (decide := true) only [fX10_forgetBox, w5, hl, ob_n, b2_n, tc_rn, tc_ln, F_sF, A_sF, R_sF, L_sF, F_sA, A_sA, R_sA, L_sA, F_sR, A_sR, R_sR, L_sR, F_sL, A_sL, R_sL, L_sL, and_true, true_and, and_false, false_and, and_self, reduceIte, sF_sF, sA_sA, false_or, or_false, true_or, or_true, not_false_eq_true, not_true_eq_false, decide_true, decide_false, Bool.true_or, Bool.or_true, Bool.false_and, Bool.true_and, Bool.false_or, Bool.or_false, Bool.and_true, Bool.and_false]
def fbM (s : e_S) (w : Nat) (L T R B : Int32) : e_S := sA s 148 (fbR (fun k => ov L T R B (k % ((w + 7) / 8)) (k / ((w + 7) / 8))) (s.2.1 148) 9)
theorem across12 {s : e_S} {g : ps_G} {w : Nat} (hw : w ≤ 24) (e1 : s.1 139 13 = Int32.ofNat w) : fX12_across (e_g s g) 139 = some (Int32.ofNat ((w + 7) / 8)) := by
  have r1 : Int32.ofNat w + 7 = Int32.ofNat (w + 7) := n_add (m := 7)
  have r2 : Int32.ofNat (w + 7) / 8 = Int32.ofNat ((w + 7) / 8) := n_div (b := 8) (by omega) (by omega)
  simp (decide := true) only [fX12_across, f139_13, ob_n, b2_n, tc_rn, tc_ln, F_sF, A_sF, R_sF, L_sF, F_sA, A_sA, R_sA, L_sA, F_sR, A_sR, R_sR, L_sR, F_sL, A_sL, R_sL, L_sL, and_true, true_and, and_false, false_and, and_self, reduceIte, sF_sF, sA_sA, false_or, or_false, true_or, or_true, not_false_eq_true, not_true_eq_false, decide_true, decide_false, Bool.true_or, Bool.or_true, Bool.false_and, Bool.true_and, Bool.false_or, Bool.or_false, Bool.and_true, Bool.and_false, e1, r1, r2]
theorem forgetBox12 {s : e_S} {g : ps_G} {w : Nat} {x0 y0 x1 y1 : Int32} (hw : w ≤ 24) (hw1 : 1 ≤ w) (e1 : s.1 139 13 = Int32.ofNat w) : fX12_forgetBox (e_g s g) 139 x0 y0 x1 y1 = some (e_g (fbM s w (x0 - rS (s.2.1 142) 30) (y0 - rS (s.2.1 142) 30) (x1 + rS (s.2.1 142) 30) (y1 + rS (s.2.1 142) 30)) g) := by
  generalize hr : rS (s.2.1 142) 30 = r
  have hl : q_lp (fun t => bX12_forgetBox_9 139 x0 y0 x1 y1 r t.1 t.2) ((0 : Int32), e_g s g) = some (e_g (fbM s w (x0 - r) (y0 - r) (x1 + r) (y1 + r)) g) := by
    refine lp_0 (fun i => (Int32.ofNat i, e_g (sA s 148 (fbR (fun k => ov (x0 - r) (y0 - r) (x1 + r) (y1 + r) (k % ((w + 7) / 8)) (k / ((w + 7) / 8))) (s.2.1 148) i)) g)) 9 ?_ (fun i hi => ?_) ?_
    · rw [fbR_0, sA_id]; rfl
    · have n9 : ¬ (9 : Int32) ≤ Int32.ofNat i := nle (b := 9) hi (by decide)
      have a1 : 1 ≤ (w + 7) / 8 := by omega
      have a2 : (w + 7) / 8 ≤ 3 := by omega
      have q1 : i % ((w + 7) / 8) < 10 := Nat.lt_trans (Nat.mod_lt _ (by omega)) (by omega)
      have q2 : i / ((w + 7) / 8) < 10 := Nat.lt_of_le_of_lt (Nat.div_le_self _ _) (by omega)
      have nz : ¬ Int32.ofNat ((w + 7) / 8) = 0 := by
        show ¬ Int32.ofNat ((w + 7) / 8) = Int32.ofNat 0
        rw [n_eq (by omega) (by omega)]; omega
      have r1 : q_mod (Int32.ofNat i) (Int32.ofNat ((w + 7) / 8)) = some (Int32.ofNat (i % ((w + 7) / 8))) := by
        unfold q_mod; rw [if_neg nz, n_rem (by omega) (by omega)]
      have r2 : q_div (Int32.ofNat i) (Int32.ofNat ((w + 7) / 8)) = some (Int32.ofNat (i / ((w + 7) / 8))) := by
        unfold q_div; rw [if_neg nz, n_div (by omega) (by omega)]
      have z0 : vp_nar .boolean (0 : Int32) = 0 := by decide
      have ac := fun f => across12 (s := sA s 148 f) (g := g) hw (by rw [F_sA]; exact e1)
      have oc := ov_m (L := x0 - r) (T := y0 - r) (R := x1 + r) (B := y1 + r) q1 q2
      by_cases q : ov (x0 - r) (y0 - r) (x1 + r) (y1 + r) (i % ((w + 7) / 8)) (i / ((w + 7) / 8)) = true
      · simp (decide := true) only [bX12_forgetBox_9, jX12_forgetBox_91_9, f139_21, ob139, n9, ac, r1, r2, oc, q, u148, z0, n_in2 hi (by decide), n_idx (show i < 2147483648 by omega), n_suc, ob_n, b2_n, tc_rn, tc_ln, F_sF, A_sF, R_sF, L_sF, F_sA, A_sA, R_sA, L_sA, F_sR, A_sR, R_sR, L_sR, F_sL, A_sL, R_sL, L_sL, and_true, true_and, and_false, false_and, and_self, reduceIte, sF_sF, sA_sA, false_or, or_false, true_or, or_true, not_false_eq_true, not_true_eq_false, decide_true, decide_false, Bool.true_or, Bool.or_true, Bool.false_and, Bool.true_and, Bool.false_or, Bool.or_false, Bool.and_true, Bool.and_false]
        rw [fbR_t (P := fun k => ov (x0 - r) (y0 - r) (x1 + r) (y1 + r) (k % ((w + 7) / 8)) (k / ((w + 7) / 8))) q]
      · simp (decide := true) only [bX12_forgetBox_9, jX12_forgetBox_91_9, ob139, n9, ac, r1, r2, oc, q, n_suc, ob_n, b2_n, tc_rn, tc_ln, F_sF, A_sF, R_sF, L_sF, F_sA, A_sA, R_sA, L_sA, F_sR, A_sR, R_sR, L_sR, F_sL, A_sL, R_sL, L_sL, and_true, true_and, and_false, false_and, and_self, reduceIte, sF_sF, sA_sA, false_or, or_false, true_or, or_true, not_false_eq_true, not_true_eq_false, decide_true, decide_false, Bool.true_or, Bool.or_true, Bool.false_and, Bool.true_and, Bool.false_or, Bool.or_false, Bool.and_true, Bool.and_false]
        rw [← fbR_f (P := fun k => ov (x0 - r) (y0 - r) (x1 + r) (y1 + r) (k % ((w + 7) / 8)) (k / ((w + 7) / 8))) q]
    · simp (decide := true) only [bX12_forgetBox_9, fbM, ob_n, b2_n, tc_rn, tc_ln, F_sF, A_sF, R_sF, L_sF, F_sA, A_sA, R_sA, L_sA, F_sR, A_sR, R_sR, L_sR, F_sL, A_sL, R_sL, L_sL, and_true, true_and, and_false, false_and, and_self, reduceIte, sF_sF, sA_sA, false_or, or_false, true_or, or_true, not_false_eq_true, not_true_eq_false, decide_true, decide_false, Bool.true_or, Bool.or_true, Bool.false_and, Bool.true_and, Bool.false_or, Bool.or_false, Bool.and_true, Bool.and_false]
  simp (decide := true) only [fX12_forgetBox, ob139, reach12, hr, hl, ob_n, b2_n, tc_rn, tc_ln, F_sF, A_sF, R_sF, L_sF, F_sA, A_sA, R_sA, L_sA, F_sR, A_sR, R_sR, L_sR, F_sL, A_sL, R_sL, L_sL, and_true, true_and, and_false, false_and, and_self, reduceIte, sF_sF, sA_sA, false_or, or_false, true_or, or_true, not_false_eq_true, not_true_eq_false, decide_true, decide_false, Bool.true_or, Bool.or_true, Bool.false_and, Bool.true_and, Bool.false_or, Bool.or_false, Bool.and_true, Bool.and_false]
theorem G8_box {s s' : e_S} {w h : Nat} {L T R B : Int32} (hw : w ≤ 24) (hh : h ≤ 24) (hw1 : 1 ≤ w) (h8 : G8 s w h) (e1 : s'.1 20 8 = s.1 20 8) (e2 : s'.1 139 23 = s.1 139 23) (e3 : s'.2.1 87 = s.2.1 87) (e4 : s'.2.1 149 = s.2.1 149) (e5 : s'.2.1 88 = fbR (fun k => ov L T R B (k % 3) (k / 3)) (s.2.1 88) 9) (e6 : s'.2.1 148 = fbR (fun k => ov L T R B (k % ((w + 7) / 8)) (k / ((w + 7) / 8))) (s.2.1 148) 9) (e7 : s'.1 20 5 = 0) : G8 s' w h := by
  obtain ⟨a1, a2, a3, a4, a5, a6, a7⟩ := h8
  have f01 : ∀ (P : Nat → Bool) (f : Nat → Int32) t, (f t = 0 ∨ f t = 1) → (fbR P f 9 t = 0 ∨ fbR P f 9 t = 1) := by
    intro P f t z
    unfold fbR
    split
    · exact Or.inl rfl
    · exact z
  refine ⟨by rw [e1, e2]; exact a1, fun t ht => ⟨by rw [e6]; exact f01 _ _ t (a2 t ht).1, by rw [e5]; exact f01 _ _ t (a2 t ht).2⟩, fun x y hx hy => ?_, fun t ht h2 => ?_, fun x y hx hy q => ?_, Or.inl e7, fun q => absurd q (by rw [e7]; decide)⟩
  · have b := a3 x y hx hy
    rw [e5, e6]
    have m1 : (3 * y + x) % 3 = x := by omega
    have m2 : (3 * y + x) / 3 = y := by omega
    by_cases z : x < (w + 7) / 8 ∧ y < (h + 7) / 8
    · rw [if_pos z] at b ⊢
      have m3 : ((w + 7) / 8 * y + x) % ((w + 7) / 8) = x := by rw [Nat.mul_add_mod]; exact Nat.mod_eq_of_lt z.1
      have m4 : ((w + 7) / 8 * y + x) / ((w + 7) / 8) = y := by rw [Nat.mul_add_div (by omega), Nat.div_eq_of_lt z.1, Nat.add_zero]
      have m5 : (w + 7) / 8 * y + x < 9 := by
        have : (w + 7) / 8 * y ≤ 3 * y := Nat.mul_le_mul_right y (by omega)
        omega
      unfold fbR
      dsimp only
      simp only [m1, m2, m3, m4, b]
      by_cases z2 : ov L T R B x y = true
      · rw [if_pos ⟨by omega, z2⟩, if_pos ⟨m5, z2⟩]
      · rw [if_neg (fun z3 => z2 z3.2), if_neg (fun z3 => z2 z3.2)]
    · rw [if_neg z] at b ⊢
      unfold fbR
      rw [b]
      split <;> rfl
  · rw [e6]
    unfold fbR
    rw [a4 t ht h2]
    split <;> rfl
  · rw [e3, e4]
    refine a5 x y hx hy ?_
    rw [e5] at q
    unfold fbR at q
    split at q
    · exact absurd q (by decide)
    · exact q
/-- the count, and the box, of what differs among the first k -/
def bx (D : Nat → Bool) (w : Nat) (M : Int32) : Nat → Int32 × Int32 × Int32 × Int32 × Int32
  | 0 => (0, M, M, -1, -1)
  | k + 1 => if D k then ((bx D w M k).1 + 1, fJ9_min_7cf53 (bx D w M k).2.1 (Int32.ofNat (k % w)), fJ9_min_7cf53 (bx D w M k).2.2.1 (Int32.ofNat (k / w)), fJ9_max_7cf53 (bx D w M k).2.2.2.1 (Int32.ofNat (k % w)), fJ9_max_7cf53 (bx D w M k).2.2.2.2 (Int32.ofNat (k / w))) else bx D w M k
theorem bx_s {D : Nat → Bool} {w k : Nat} {M : Int32} : bx D w M (k + 1) = if D k then ((bx D w M k).1 + 1, fJ9_min_7cf53 (bx D w M k).2.1 (Int32.ofNat (k % w)), fJ9_min_7cf53 (bx D w M k).2.2.1 (Int32.ofNat (k / w)), fJ9_max_7cf53 (bx D w M k).2.2.2.1 (Int32.ofNat (k % w)), fJ9_max_7cf53 (bx D w M k).2.2.2.2 (Int32.ofNat (k / w))) else bx D w M k := rfl
theorem bx_eq {D : Nat → Bool} {w h : Nat} (hw : w ≤ 24) (hh : h ≤ 24) : ∀ k, k ≤ h * w → (bx D w 24 k).1 = Int32.ofNat (cnt D k) ∧ (bx D w 99 k).1 = Int32.ofNat (cnt D k) ∧ (cnt D k = 0 → bx D w 24 k = (0, 24, 24, -1, -1) ∧ bx D w 99 k = (0, 99, 99, -1, -1)) ∧ (0 < cnt D k → bx D w 24 k = bx D w 99 k) := by
  intro k
  induction k with
  | zero => exact fun _ => ⟨rfl, rfl, fun _ => ⟨rfl, rfl⟩, fun z => absurd z (Nat.lt_irrefl 0)⟩
  | succ k ih =>
    intro hk
    obtain ⟨a1, a2, a3, a4⟩ := ih (by omega)
    rw [bx_s, bx_s, cnt_s]
    by_cases q : D k = true
    · have hw0 : 0 < w := by
        rcases Nat.eq_zero_or_pos w with z | z
        · rw [z, Nat.mul_zero] at hk; omega
        · exact z
      have d1 : k % w < w := Nat.mod_lt _ hw0
      have d2 : k / w < h := Nat.div_lt_of_lt_mul (by rw [Nat.mul_comm]; omega)
      rw [if_pos q, if_pos q, if_pos q]
      refine ⟨by show (bx D w 24 k).1 + 1 = _; rw [a1, n_suc], by show (bx D w 99 k).1 + 1 = _; rw [a2, n_suc], fun z => by omega, fun _ => ?_⟩
      by_cases z : cnt D k = 0
      · obtain ⟨b1, b2⟩ := a3 z
        rw [b1, b2]
        have mn : ∀ (M : Int32) (n : Nat), n < 24 → (M = 24 ∨ M = 99) → fJ9_min_7cf53 M (Int32.ofNat n) = Int32.ofNat n := by
          intro M n hn hM
          unfold fJ9_min_7cf53
          rw [if_pos]
          rw [i_lt, n_int (by omega)]
          rcases hM with rfl | rfl
          · show (n : Int) < 24; omega
          · show (n : Int) < 99; omega
        dsimp only
        rw [mn 24 _ (by omega) (Or.inl rfl), mn 24 _ (by omega) (Or.inl rfl), mn 99 _ (by omega) (Or.inr rfl), mn 99 _ (by omega) (Or.inr rfl)]
      · rw [a4 (by omega)]
    · rw [if_neg q, if_neg q, if_neg q]
      exact ⟨a1, a2, a3, a4⟩
theorem cnt_0 {D : Nat → Bool} {n : Nat} (h : cnt D n = 0) : ∀ k, k < n → D k = false := by
  intro k hk
  have := cnt_mono (P := D) (show k + 1 ≤ n by omega)
  rw [cnt_s] at this
  cases e : D k with
  | false => rfl
  | true => rw [e, if_pos rfl] at this; omega
theorem repaint11l {s : e_S} {g : ps_G} {a b pa na w h : Nat} {x3 : Option Nat} {F f : Nat → Int32} (hw : w ≤ 24) (hh : h ≤ 24) (e0 : s.2.2.1 8 0 = some a) (s0 : q_fI 9 0 (e_g s g) a = some (Int32.ofNat w)) (s1 : q_fI 9 1 (e_g s g) a = some (Int32.ofNat h)) (r1 : ∀ i, q_aI (e_g s g) na i = if i < 0 ∨ 576 ≤ i.toNatClampNeg then none else some (f i.toNatClampNeg)) (r2 : q_fR 4 15 (e_g s g) b = some (some pa)) (r3 : ∀ i, q_aI (e_g s g) pa i = if i < 0 ∨ 576 ≤ i.toNatClampNeg then none else some (F i.toNatClampNeg)) : q_lp (fun s_1 => bX11_repaint_30 (e_g s g) 8 b na x3 s_1.1 s_1.2.1 s_1.2.2.1 s_1.2.2.2.1 s_1.2.2.2.2.1 s_1.2.2.2.2.2) ((24 : Int32), (-1 : Int32), (24 : Int32), (-1 : Int32), (0 : Int32), (0 : Int32)) = some ((bx (fun k => decide (¬ f k = F k)) w 24 (h * w)).2.1, (bx (fun k => decide (¬ f k = F k)) w 24 (h * w)).2.2.2.1, (bx (fun k => decide (¬ f k = F k)) w 24 (h * w)).2.2.1, (bx (fun k => decide (¬ f k = F k)) w 24 (h * w)).2.2.2.2, (bx (fun k => decide (¬ f k = F k)) w 24 (h * w)).1) := by
  have hwh := wh_le hw hh
  generalize hX : bx (fun k => decide (¬ f k = F k)) w 24 = X
  have X0 : X 0 = (0, 24, 24, -1, -1) := by rw [← hX]; rfl
  refine lp_0 (fun y => ((X (y * w)).2.1, (X (y * w)).2.2.2.1, (X (y * w)).2.2.1, (X (y * w)).2.2.2.2, (X (y * w)).1, Int32.ofNat y)) h (by rw [Nat.zero_mul, X0]; rfl) (fun y hy => ?_) ?_
  · have inn : q_lp (fun s_1 => bX11_repaint_45 (e_g s g) 8 b na x3 (Int32.ofNat y) s_1.1 s_1.2.1 s_1.2.2.1 s_1.2.2.2.1 s_1.2.2.2.2.1 s_1.2.2.2.2.2) ((X (y * w)).2.1, (X (y * w)).2.2.2.1, (X (y * w)).2.2.1, (X (y * w)).2.2.2.2, (X (y * w)).1, (0 : Int32)) = some ((X (y * w + w)).2.1, (X (y * w + w)).2.2.2.1, (X (y * w + w)).2.2.1, (X (y * w + w)).2.2.2.2, (X (y * w + w)).1) := by
      refine lp_0 (fun x => ((X (y * w + x)).2.1, (X (y * w + x)).2.2.2.1, (X (y * w + x)).2.2.1, (X (y * w + x)).2.2.2.2, (X (y * w + x)).1, Int32.ofNat x)) w rfl (fun x hx => ?_) ?_
      · have hlt := at_lt hx hy
        have st : X (y * w + (x + 1)) = if ¬ f (y * w + x) = F (y * w + x) then ((X (y * w + x)).1 + 1, fJ9_min_7cf53 (X (y * w + x)).2.1 (Int32.ofNat x), fJ9_min_7cf53 (X (y * w + x)).2.2.1 (Int32.ofNat y), fJ9_max_7cf53 (X (y * w + x)).2.2.2.1 (Int32.ofNat x), fJ9_max_7cf53 (X (y * w + x)).2.2.2.2 (Int32.ofNat y)) else X (y * w + x) := by
          rw [← hX, ← Nat.add_assoc, bx_s, (md (y := y) hx).1, (md (y := y) hx).2]
          by_cases z : f (y * w + x) = F (y * w + x)
          · rw [if_neg (by simpa using z), if_neg (fun q => q z)]
          · rw [if_pos (by simpa using z), if_pos z]
        by_cases z : f (y * w + x) = F (y * w + x)
        · rw [if_neg (fun q => q z)] at st
          simp (decide := true) only [bX11_repaint_45, f8_0, e0, s0, nle hx (by omega), n_mul, n_add, r1, r2, r3, n_in2 (show y * w + x < 576 by omega) (by decide), n_idx (show y * w + x < 2147483648 by omega), z, n_suc, st, ob_n, b2_n, tc_rn, tc_ln, F_sF, A_sF, R_sF, L_sF, F_sA, A_sA, R_sA, L_sA, F_sR, A_sR, R_sR, L_sR, F_sL, A_sL, R_sL, L_sL, and_true, true_and, and_false, false_and, and_self, reduceIte, sF_sF, sA_sA, false_or, or_false, true_or, or_true, not_false_eq_true, not_true_eq_false, decide_true, decide_false, Bool.true_or, Bool.or_true, Bool.false_and, Bool.true_and, Bool.false_or, Bool.or_false, Bool.and_true, Bool.and_false]
        · rw [if_pos z] at st
          simp (decide := true) only [bX11_repaint_45, f8_0, e0, s0, nle hx (by omega), n_mul, n_add, r1, r2, r3, n_in2 (show y * w + x < 576 by omega) (by decide), n_idx (show y * w + x < 2147483648 by omega), z, n_suc, st, ob_n, b2_n, tc_rn, tc_ln, F_sF, A_sF, R_sF, L_sF, F_sA, A_sA, R_sA, L_sA, F_sR, A_sR, R_sR, L_sR, F_sL, A_sL, R_sL, L_sL, and_true, true_and, and_false, false_and, and_self, reduceIte, sF_sF, sA_sA, false_or, or_false, true_or, or_true, not_false_eq_true, not_true_eq_false, decide_true, decide_false, Bool.true_or, Bool.or_true, Bool.false_and, Bool.true_and, Bool.false_or, Bool.or_false, Bool.and_true, Bool.and_false]
      · simp (decide := true) only [bX11_repaint_45, f8_0, e0, s0, nlr (show w < 2147483648 by omega), ob_n, b2_n, tc_rn, tc_ln, F_sF, A_sF, R_sF, L_sF, F_sA, A_sA, R_sA, L_sA, F_sR, A_sR, R_sR, L_sR, F_sL, A_sL, R_sL, L_sL, and_true, true_and, and_false, false_and, and_self, reduceIte, sF_sF, sA_sA, false_or, or_false, true_or, or_true, not_false_eq_true, not_true_eq_false, decide_true, decide_false, Bool.true_or, Bool.or_true, Bool.false_and, Bool.true_and, Bool.false_or, Bool.or_false, Bool.and_true, Bool.and_false]
    simp (decide := true) only [bX11_repaint_30, f8_0, e0, s1, nle hy (by omega), inn, n_suc, Nat.succ_mul, ob_n, b2_n, tc_rn, tc_ln, F_sF, A_sF, R_sF, L_sF, F_sA, A_sA, R_sA, L_sA, F_sR, A_sR, R_sR, L_sR, F_sL, A_sL, R_sL, L_sL, and_true, true_and, and_false, false_and, and_self, reduceIte, sF_sF, sA_sA, false_or, or_false, true_or, or_true, not_false_eq_true, not_true_eq_false, decide_true, decide_false, Bool.true_or, Bool.or_true, Bool.false_and, Bool.true_and, Bool.false_or, Bool.or_false, Bool.and_true, Bool.and_false]
  · simp (decide := true) only [bX11_repaint_30, f8_0, e0, s1, nlr (show h < 2147483648 by omega), ob_n, b2_n, tc_rn, tc_ln, F_sF, A_sF, R_sF, L_sF, F_sA, A_sA, R_sA, L_sA, F_sR, A_sR, R_sR, L_sR, F_sL, A_sL, R_sL, L_sL, and_true, true_and, and_false, false_and, and_self, reduceIte, sF_sF, sA_sA, false_or, or_false, true_or, or_true, not_false_eq_true, not_true_eq_false, decide_true, decide_false, Bool.true_or, Bool.or_true, Bool.false_and, Bool.true_and, Bool.false_or, Bool.or_false, Bool.and_true, Bool.and_false]
theorem changed12l {s : e_S} {g : ps_G} {l w h : Nat} {F f : Nat → Int32} (hw : w ≤ 24) (hh : h ≤ 24) (hl : l < 30) (e1 : s.1 139 13 = Int32.ofNat w) (e2 : s.1 139 14 = Int32.ofNat h) (hf : ∀ k, k < w * h → s.2.1 142 (1169 * l + (17 + k)) = f k) (hF : ∀ k, k < w * h → s.2.1 158 k = F k) : q_lp (fun s_1 => bX12_changed_18 (e_g s g) 139 (Int32.ofNat l) s_1.1 s_1.2.1 s_1.2.2.1 s_1.2.2.2.1 s_1.2.2.2.2.1 s_1.2.2.2.2.2) ((0 : Int32), (99 : Int32), (99 : Int32), (-1 : Int32), (-1 : Int32), (0 : Int32)) = some (bx (fun k => decide (¬ f k = F k)) w 99 (h * w)) := by
  have hwh := wh_le hw hh
  generalize hX : bx (fun k => decide (¬ f k = F k)) w 99 = X
  have X0 : X 0 = (0, 99, 99, -1, -1) := by rw [← hX]; rfl
  refine lp_0 (fun y => ((X (y * w)).1, (X (y * w)).2.1, (X (y * w)).2.2.1, (X (y * w)).2.2.2.1, (X (y * w)).2.2.2.2, Int32.ofNat y)) h (by rw [Nat.zero_mul, X0]; rfl) (fun y hy => ?_) ?_
  · have inn : q_lp (fun s_1 => bX12_changed_30 (e_g s g) 139 (Int32.ofNat l) (Int32.ofNat y) s_1.1 s_1.2.1 s_1.2.2.1 s_1.2.2.2.1 s_1.2.2.2.2.1 s_1.2.2.2.2.2) ((X (y * w)).1, (X (y * w)).2.1, (X (y * w)).2.2.1, (X (y * w)).2.2.2.1, (X (y * w)).2.2.2.2, (0 : Int32)) = some (X (y * w + w)) := by
      refine lp_0 (fun x => ((X (y * w + x)).1, (X (y * w + x)).2.1, (X (y * w + x)).2.2.1, (X (y * w + x)).2.2.2.1, (X (y * w + x)).2.2.2.2, Int32.ofNat x)) w rfl (fun x hx => ?_) ?_
      · have hlt := at_lt hx hy
        have st : X (y * w + (x + 1)) = if ¬ f (y * w + x) = F (y * w + x) then ((X (y * w + x)).1 + 1, fJ9_min_7cf53 (X (y * w + x)).2.1 (Int32.ofNat x), fJ9_min_7cf53 (X (y * w + x)).2.2.1 (Int32.ofNat y), fJ9_max_7cf53 (X (y * w + x)).2.2.2.1 (Int32.ofNat x), fJ9_max_7cf53 (X (y * w + x)).2.2.2.2 (Int32.ofNat y)) else X (y * w + x) := by
          rw [← hX, ← Nat.add_assoc, bx_s, (md (y := y) hx).1, (md (y := y) hx).2]
          by_cases z : f (y * w + x) = F (y * w + x)
          · rw [if_neg (by simpa using z), if_neg (fun q => q z)]
          · rw [if_pos (by simpa using z), if_pos z]
        have gg : fX12_get (e_g s g) 139 (Int32.ofNat l) (17 + Int32.ofNat (y * w + x)) = some (f (y * w + x)) := by
          rw [show (17 : Int32) + Int32.ofNat (y * w + x) = Int32.ofNat (17 + (y * w + x)) from n_add (n := 17), ← hf _ hlt]
          exact get12 (n := 17 + (y * w + x)) hl (by omega)
        have mi : ∀ a b : Int32, (if a ≤ b then a else b) = fJ9_min_7cf53 a b := fun a b => if_le
        have ma : ∀ a b : Int32, (if b ≤ a then a else b) = fJ9_max_7cf53 a b := fun a b => if_le
        by_cases z : f (y * w + x) = F (y * w + x)
        · rw [if_neg (fun q => q z)] at st
          simp (decide := true) only [bX12_changed_30, f139_13, f139_35, a158, ob139, e1, nle hx (by omega), at12n e1, gg, n_in2 (show y * w + x < 576 by omega) (by decide), n_idx (show y * w + x < 2147483648 by omega), hF _ hlt, z, n_suc, st, ob_n, b2_n, tc_rn, tc_ln, F_sF, A_sF, R_sF, L_sF, F_sA, A_sA, R_sA, L_sA, F_sR, A_sR, R_sR, L_sR, F_sL, A_sL, R_sL, L_sL, and_true, true_and, and_false, false_and, and_self, reduceIte, sF_sF, sA_sA, false_or, or_false, true_or, or_true, not_false_eq_true, not_true_eq_false, decide_true, decide_false, Bool.true_or, Bool.or_true, Bool.false_and, Bool.true_and, Bool.false_or, Bool.or_false, Bool.and_true, Bool.and_false]
        · rw [if_pos z] at st
          simp (decide := true) only [bX12_changed_30, f139_13, f139_35, a158, ob139, e1, nle hx (by omega), at12n e1, gg, n_in2 (show y * w + x < 576 by omega) (by decide), n_idx (show y * w + x < 2147483648 by omega), hF _ hlt, z, n_suc, st, mi, ma, ob_n, b2_n, tc_rn, tc_ln, F_sF, A_sF, R_sF, L_sF, F_sA, A_sA, R_sA, L_sA, F_sR, A_sR, R_sR, L_sR, F_sL, A_sL, R_sL, L_sL, and_true, true_and, and_false, false_and, and_self, reduceIte, sF_sF, sA_sA, false_or, or_false, true_or, or_true, not_false_eq_true, not_true_eq_false, decide_true, decide_false, Bool.true_or, Bool.or_true, Bool.false_and, Bool.true_and, Bool.false_or, Bool.or_false, Bool.and_true, Bool.and_false]
      · simp (decide := true) only [bX12_changed_30, f139_13, e1, nlr (show w < 2147483648 by omega), ob_n, b2_n, tc_rn, tc_ln, F_sF, A_sF, R_sF, L_sF, F_sA, A_sA, R_sA, L_sA, F_sR, A_sR, R_sR, L_sR, F_sL, A_sL, R_sL, L_sL, and_true, true_and, and_false, false_and, and_self, reduceIte, sF_sF, sA_sA, false_or, or_false, true_or, or_true, not_false_eq_true, not_true_eq_false, decide_true, decide_false, Bool.true_or, Bool.or_true, Bool.false_and, Bool.true_and, Bool.false_or, Bool.or_false, Bool.and_true, Bool.and_false]
    simp (decide := true) only [bX12_changed_18, f139_14, e2, nle hy (by omega), inn, n_suc, Nat.succ_mul, ob_n, b2_n, tc_rn, tc_ln, F_sF, A_sF, R_sF, L_sF, F_sA, A_sA, R_sA, L_sA, F_sR, A_sR, R_sR, L_sR, F_sL, A_sL, R_sL, L_sL, and_true, true_and, and_false, false_and, and_self, reduceIte, sF_sF, sA_sA, false_or, or_false, true_or, or_true, not_false_eq_true, not_true_eq_false, decide_true, decide_false, Bool.true_or, Bool.or_true, Bool.false_and, Bool.true_and, Bool.false_or, Bool.or_false, Bool.and_true, Bool.and_false]
  · simp (decide := true) only [bX12_changed_18, f139_14, e2, nlr (show h < 2147483648 by omega), ob_n, b2_n, tc_rn, tc_ln, F_sF, A_sF, R_sF, L_sF, F_sA, A_sA, R_sA, L_sA, F_sR, A_sR, R_sR, L_sR, F_sL, A_sL, R_sL, L_sL, and_true, true_and, and_false, false_and, and_self, reduceIte, sF_sF, sA_sA, false_or, or_false, true_or, or_true, not_false_eq_true, not_true_eq_false, decide_true, decide_false, Bool.true_or, Bool.or_true, Bool.false_and, Bool.true_and, Bool.false_or, Bool.or_false, Bool.and_true, Bool.and_false]
