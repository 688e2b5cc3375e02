-- needs: 07 10 13 14 20 21 22 23 24 25 26 27 32 38 52 53 54 58 70
/-! ===== FILTERS: the middle of nine, edges ===== -/
/-- the place for v among the first k, and the row with room for it -/
def insN (v : Int32) : Nat → (Nat → Int32) → Nat × (Nat → Int32)
  | 0, f => (0, f)
  | k + 1, f => if f k ≤ v then (k + 1, f) else insN v k (upd f (k + 1) (f k))
def ins9 (f : Nat → Int32) (v : Int32) (k : Nat) : Nat → Int32 := upd (insN v k f).2 (insN v k f).1 v
theorem insN_le {v : Int32} : ∀ {k : Nat} {f : Nat → Int32}, (insN v k f).1 ≤ k := by
  intro k
  induction k with
  | zero => intro f; exact Nat.le_refl _
  | succ k ih =>
    intro f
    show (if f k ≤ v then ((k + 1, f) : Nat × (Nat → Int32)) else insN v k (upd f (k + 1) (f k))).1 ≤ k + 1
    split
    · exact Nat.le_refl _
    · have := ih (f := upd f (k + 1) (f k)); omega
theorem ins9_c {v : Int32} {m : Nat} : ∀ {k : Nat} {f f' : Nat → Int32}, k < m → (∀ i, i < m → ¬ i = k → f i = f' i) → ∀ i, i < m → ins9 f v k i = ins9 f' v k i := by
  intro k
  induction k with
  | zero =>
    intro f f' hk e i hi
    show upd f 0 v i = upd f' 0 v i
    rw [upd_r, upd_r]
    split
    · rfl
    · exact e i hi (by omega)
  | succ k ih =>
    intro f f' hk e i hi
    have ek : f k = f' k := e k (by omega) (by omega)
    unfold ins9
    show upd (if f k ≤ v then ((k + 1, f) : Nat × (Nat → Int32)) else insN v k (upd f (k + 1) (f k))).2 (if f k ≤ v then ((k + 1, f) : Nat × (Nat → Int32)) else insN v k (upd f (k + 1) (f k))).1 v i = upd (if f' k ≤ v then ((k + 1, f') : Nat × (Nat → Int32)) else insN v k (upd f' (k + 1) (f' k))).2 (if f' k ≤ v then ((k + 1, f') : Nat × (Nat → Int32)) else insN v k (upd f' (k + 1) (f' k))).1 v i
    rw [← ek]
    by_cases z : f k ≤ v
    · rw [if_pos z, if_pos z]
      dsimp only
      rw [upd_r, upd_r]
      split
      · rfl
      · exact e i hi (by omega)
    · rw [if_neg z, if_neg z]
      refine ih (by omega) (fun j hj hne => ?_) i hi
      rw [upd_r, upd_r]
      split
      · rfl
      · exact e j hj (by omega)
/-- nine put in order, one by one -/
def medR (f : Nat → Int32) (u : Nat → Int32) : Nat → (Nat → Int32)
  | 0 => f
  | k + 1 => ins9 (medR f u k) (u k) k
theorem medR_c {f f' u : Nat → Int32} : ∀ {k : Nat}, ∀ i, i < k → medR f u k i = medR f' u k i := by
  intro k
  induction k with
  | zero => intro i hi; omega
  | succ k ih =>
    intro i hi
    exact ins9_c (k := k) (by omega) (fun j hj hne => ih j (by omega)) i hi
def med (u : Nat → Int32) : Int32 := medR (fun _ => 0) u 9 4
theorem ins5 {s : e_S} {g : ps_G} {x1 x2 x3 x4 x5 v : Int32} : ∀ {k : Nat} {f : Nat → Int32}, k < 9 → q_lp (fun t => bX5_middle_54 14 x1 x2 x3 x4 x5 v t.1 t.2) (Int32.ofNat k, e_g (sA s 19 f) g) = some (Int32.ofNat (insN v k f).1, e_g (sA s 19 (insN v k f).2) g) := by
  intro k
  induction k with
  | zero =>
    intro f hk
    exact lp_end (by simp (decide := true) only [bX5_middle_54, insN, ob_n, b2_n, tc_rn, tc_ln, F_sF, A_sF, R_sF, L_sF, F_sA, A_sA, R_sA, L_sA, F_sR, A_sR, R_sR, L_sR, F_sL, A_sL, R_sL, L_sL, and_true, true_and, and_false, false_and, and_self, reduceIte, sF_sF, sA_sA, false_or, or_false, true_or, or_true, not_false_eq_true, not_true_eq_false, decide_true, decide_false, Bool.true_or, Bool.or_true, Bool.false_and, Bool.true_and, Bool.false_or, Bool.or_false, Bool.and_true, Bool.and_false])
  | succ k ih =>
    intro f hk
    have n0 : ¬ Int32.ofNat (k + 1) ≤ 0 := nle (a := 0) (b := k + 1) (by omega) (by omega)
    have s1 : Int32.ofNat (k + 1) - 1 = Int32.ofNat k := n_sub (b := 1) (by omega) (by omega)
    have s2 : Int32.ofNat (k + 1) + -1 = Int32.ofNat k := by rw [Int32.add_neg_eq_sub, s1]
    have e : insN v (k + 1) f = if f k ≤ v then (k + 1, f) else insN v k (upd f (k + 1) (f k)) := rfl
    rw [e]
    by_cases z : f k ≤ v
    · rw [if_pos z]
      exact lp_end (by simp (decide := true) only [bX5_middle_54, n0, f14_6, a19, s1, n_in2 (show k < 9 by omega) (by decide), n_idx (show k < 2147483648 by omega), z, ob_n, b2_n, tc_rn, tc_ln, F_sF, A_sF, R_sF, L_sF, F_sA, A_sA, R_sA, L_sA, F_sR, A_sR, R_sR, L_sR, F_sL, A_sL, R_sL, L_sL, and_true, true_and, and_false, false_and, and_self, reduceIte, sF_sF, sA_sA, false_or, or_false, true_or, or_true, not_false_eq_true, not_true_eq_false, decide_true, decide_false, Bool.true_or, Bool.or_true, Bool.false_and, Bool.true_and, Bool.false_or, Bool.or_false, Bool.and_true, Bool.and_false])
    · rw [if_neg z, ← ih (by omega)]
      exact lp_go (by simp (decide := true) only [bX5_middle_54, n0, f14_6, a19, u19, s1, s2, n_in2 (show k < 9 by omega) (by decide), n_idx (show k < 2147483648 by omega), n_in2 (show k + 1 < 9 by omega) (by decide), n_idx (show k + 1 < 2147483648 by omega), z, ob_n, b2_n, tc_rn, tc_ln, F_sF, A_sF, R_sF, L_sF, F_sA, A_sA, R_sA, L_sA, F_sR, A_sR, R_sR, L_sR, F_sL, A_sL, R_sL, L_sL, and_true, true_and, and_false, false_and, and_self, reduceIte, sF_sF, sA_sA, false_or, or_false, true_or, or_true, not_false_eq_true, not_true_eq_false, decide_true, decide_false, Bool.true_or, Bool.or_true, Bool.false_and, Bool.true_and, Bool.false_or, Bool.or_false, Bool.and_true, Bool.and_false])
theorem ins12 {s : e_S} {g : ps_G} {x1 x2 x3 x4 x5 x6 v : Int32} : ∀ {k : Nat} {f : Nat → Int32}, k < 9 → q_lp (fun t => bX12_middle_47 139 x1 x2 x3 x4 x5 x6 v t.1 t.2) (Int32.ofNat k, e_g (sA s 151 f) g) = some (Int32.ofNat (insN v k f).1, e_g (sA s 151 (insN v k f).2) g) := by
  intro k
  induction k with
  | zero =>
    intro f hk
    exact lp_end (by simp (decide := true) only [bX12_middle_47, insN, ob_n, b2_n, tc_rn, tc_ln, F_sF, A_sF, R_sF, L_sF, F_sA, A_sA, R_sA, L_sA, F_sR, A_sR, R_sR, L_sR, F_sL, A_sL, R_sL, L_sL, and_true, true_and, and_false, false_and, and_self, reduceIte, sF_sF, sA_sA, false_or, or_false, true_or, or_true, not_false_eq_true, not_true_eq_false, decide_true, decide_false, Bool.true_or, Bool.or_true, Bool.false_and, Bool.true_and, Bool.false_or, Bool.or_false, Bool.and_true, Bool.and_false])
  | succ k ih =>
    intro f hk
    have n0 : ¬ Int32.ofNat (k + 1) ≤ 0 := nle (a := 0) (b := k + 1) (by omega) (by omega)
    have s1 : Int32.ofNat (k + 1) - 1 = Int32.ofNat k := n_sub (b := 1) (by omega) (by omega)
    have s2 : Int32.ofNat (k + 1) + -1 = Int32.ofNat k := by rw [Int32.add_neg_eq_sub, s1]
    have e : insN v (k + 1) f = if f k ≤ v then (k + 1, f) else insN v k (upd f (k + 1) (f k)) := rfl
    rw [e]
    by_cases z : f k ≤ v
    · rw [if_pos z]
      exact lp_end (by simp (decide := true) only [bX12_middle_47, n0, f139_27, a151, s1, n_in2 (show k < 9 by omega) (by decide), n_idx (show k < 2147483648 by omega), z, ob_n, b2_n, tc_rn, tc_ln, F_sF, A_sF, R_sF, L_sF, F_sA, A_sA, R_sA, L_sA, F_sR, A_sR, R_sR, L_sR, F_sL, A_sL, R_sL, L_sL, and_true, true_and, and_false, false_and, and_self, reduceIte, sF_sF, sA_sA, false_or, or_false, true_or, or_true, not_false_eq_true, not_true_eq_false, decide_true, decide_false, Bool.true_or, Bool.or_true, Bool.false_and, Bool.true_and, Bool.false_or, Bool.or_false, Bool.and_true, Bool.and_false])
    · rw [if_neg z, ← ih (by omega)]
      exact lp_go (by simp (decide := true) only [bX12_middle_47, n0, f139_27, a151, u151, s1, s2, n_in2 (show k < 9 by omega) (by decide), n_idx (show k < 2147483648 by omega), n_in2 (show k + 1 < 9 by omega) (by decide), n_idx (show k + 1 < 2147483648 by omega), z, ob_n, b2_n, tc_rn, tc_ln, F_sF, A_sF, R_sF, L_sF, F_sA, A_sA, R_sA, L_sA, F_sR, A_sR, R_sR, L_sR, F_sL, A_sL, R_sL, L_sL, and_true, true_and, and_false, false_and, and_self, reduceIte, sF_sF, sA_sA, false_or, or_false, true_or, or_true, not_false_eq_true, not_true_eq_false, decide_true, decide_false, Bool.true_or, Bool.or_true, Bool.false_and, Bool.true_and, Bool.false_or, Bool.or_false, Bool.and_true, Bool.and_false])
/-- the nine around a place -/
def ar9 (R : Int32 → Int32 → Int32) (x y : Int32) (k : Nat) : Int32 := R (x + Int32.ofNat (k % 3) - 1) (y + Int32.ofNat (k / 3) - 1)
/-- the middle of the nine by the byte at shift sh -/
def mdV (R : Int32 → Int32 → Int32) (x y sh : Int32) : Int32 := med (fun k => q_shr (ar9 R x y k) sh &&& 255)
theorem mid5r {s : e_S} {g : ps_G} {R : Int32 → Int32 → Int32} {x y acc sh : Int32} {f : Nat → Int32} (hR : ∀ f x y, fX5_near (e_g (sA s 19 f) g) 14 x y = some (R x y)) : q_lp (fun t => bX5_middle_14 14 x y acc sh t.1 t.2) ((0 : Int32), e_g (sA s 19 f) g) = some (e_g (sA s 19 (medR f (fun k => q_shr (ar9 R x y k) sh &&& 255) 9)) g) := by
  refine lp_0 (fun k => (Int32.ofNat k, e_g (sA s 19 (medR f (fun k => q_shr (ar9 R x y k) sh &&& 255) k)) g)) 9 rfl (fun k hk => ?_) ?_
  · have q1 : ¬ (9 : Int32) ≤ Int32.ofNat k := nle (b := 9) hk (by decide)
    have r1 : q_rem (Int32.ofNat k) 3 = Int32.ofNat (k % 3) := n_rem (b := 3) (by omega) (by omega)
    have r2 : Int32.ofNat k / 3 = Int32.ofNat (k / 3) := n_div (b := 3) (by omega) (by omega)
    have il := @insN_le (q_shr (ar9 R x y k) sh &&& 255) k (medR f (fun k => q_shr (ar9 R x y k) sh &&& 255) k)
    have i5 := fun v f => ins5 (s := s) (g := g) (x1 := x) (x2 := y) (x3 := acc) (x4 := sh) (x5 := Int32.ofNat k) (v := v) (f := f) hk
    have ear : R (x + Int32.ofNat (k % 3) - 1) (y + Int32.ofNat (k / 3) - 1) = ar9 R x y k := rfl
    have em : medR f (fun k => q_shr (ar9 R x y k) sh &&& 255) (k + 1) = upd (insN (q_shr (ar9 R x y k) sh &&& 255) k (medR f (fun k => q_shr (ar9 R x y k) sh &&& 255) k)).2 (insN (q_shr (ar9 R x y k) sh &&& 255) k (medR f (fun k => q_shr (ar9 R x y k) sh &&& 255) k)).1 (q_shr (ar9 R x y k) sh &&& 255) := rfl
    simp (decide := true) only [bX5_middle_14, jX5_middle_95_14, q1, ob14, r1, r2, hR, ear, i5, f14_6, u19, n_in2 (show (insN (q_shr (ar9 R x y k) sh &&& 255) k (medR f (fun k => q_shr (ar9 R x y k) sh &&& 255) k)).1 < 9 by omega) (by decide), n_idx (show (insN (q_shr (ar9 R x y k) sh &&& 255) k (medR f (fun k => q_shr (ar9 R x y k) sh &&& 255) k)).1 < 2147483648 by omega), n_suc, em, ob_n, b2_n, tc_rn, tc_ln, F_sF, A_sF, R_sF, L_sF, F_sA, A_sA, R_sA, L_sA, F_sR, A_sR, R_sR, L_sR, F_sL, A_sL, R_sL, L_sL, and_true, true_and, and_false, false_and, and_self, reduceIte, sF_sF, sA_sA, false_or, or_false, true_or, or_true, not_false_eq_true, not_true_eq_false, decide_true, decide_false, Bool.true_or, Bool.or_true, Bool.false_and, Bool.true_and, Bool.false_or, Bool.or_false, Bool.and_true, Bool.and_false]
  · simp (decide := true) only [bX5_middle_14, ob_n, b2_n, tc_rn, tc_ln, F_sF, A_sF, R_sF, L_sF, F_sA, A_sA, R_sA, L_sA, F_sR, A_sR, R_sR, L_sR, F_sL, A_sL, R_sL, L_sL, and_true, true_and, and_false, false_and, and_self, reduceIte, sF_sF, sA_sA, false_or, or_false, true_or, or_true, not_false_eq_true, not_true_eq_false, decide_true, decide_false, Bool.true_or, Bool.or_true, Bool.false_and, Bool.true_and, Bool.false_or, Bool.or_false, Bool.and_true, Bool.and_false]
theorem middle5 {s : e_S} {g : ps_G} {R : Int32 → Int32 → Int32} {x y : Int32} {f : Nat → Int32} (hR : ∀ f x y, fX5_near (e_g (sA s 19 f) g) 14 x y = some (R x y)) : ∃ f', fX5_middle (e_g (sA s 19 f) g) 14 x y = some (0 ||| q_shl (mdV R x y 24) 24 ||| q_shl (mdV R x y 16) 16 ||| q_shl (mdV R x y 8) 8 ||| q_shl (mdV R x y 0) 0, e_g (sA s 19 f') g) := by
  have st : ∀ (f : Nat → Int32) acc sh, ¬ sh < 0 → bX5_middle_6 14 x y acc sh (e_g (sA s 19 f) g) = some (.inl (acc ||| q_shl (mdV R x y sh) sh, sh + -8, e_g (sA s 19 (medR f (fun k => q_shr (ar9 R x y k) sh &&& 255) 9)) g)) := by
    intro f acc sh hs
    have i4 : (4 : Int32).toNatClampNeg = 4 := by decide
    have n4 : ¬ ((4 : Int32) < 0 ∨ 9 ≤ 4) := by decide
    have em : medR f (fun k => q_shr (ar9 R x y k) sh &&& 255) 9 4 = mdV R x y sh := medR_c 4 (by omega)
    simp (decide := true) only [bX5_middle_6, hs, mid5r hR, f14_6, a19, i4, n4, em, ob_n, b2_n, tc_rn, tc_ln, F_sF, A_sF, R_sF, L_sF, F_sA, A_sA, R_sA, L_sA, F_sR, A_sR, R_sR, L_sR, F_sL, A_sL, R_sL, L_sL, and_true, true_and, and_false, false_and, and_self, reduceIte, sF_sF, sA_sA, false_or, or_false, true_or, or_true, not_false_eq_true, not_true_eq_false, decide_true, decide_false, Bool.true_or, Bool.or_true, Bool.false_and, Bool.true_and, Bool.false_or, Bool.or_false, Bool.and_true, Bool.and_false]
  refine ⟨medR (medR (medR (medR f (fun k => q_shr (ar9 R x y k) 24 &&& 255) 9) (fun k => q_shr (ar9 R x y k) 16 &&& 255) 9) (fun k => q_shr (ar9 R x y k) 8 &&& 255) 9) (fun k => q_shr (ar9 R x y k) 0 &&& 255) 9, ?_⟩
  have lp : q_lp (fun t => bX5_middle_6 14 x y t.1 t.2.1 t.2.2) ((0 : Int32), (24 : Int32), e_g (sA s 19 f) g) = some (0 ||| q_shl (mdV R x y 24) 24 ||| q_shl (mdV R x y 16) 16 ||| q_shl (mdV R x y 8) 8 ||| q_shl (mdV R x y 0) 0, e_g (sA s 19 (medR (medR (medR (medR f (fun k => q_shr (ar9 R x y k) 24 &&& 255) 9) (fun k => q_shr (ar9 R x y k) 16 &&& 255) 9) (fun k => q_shr (ar9 R x y k) 8 &&& 255) 9) (fun k => q_shr (ar9 R x y k) 0 &&& 255) 9)) g) := by
    rw [lp_go (st f 0 24 (by decide)), show (24 : Int32) + -8 = 16 by decide]
    rw [lp_go (st _ _ 16 (by decide)), show (16 : Int32) + -8 = 8 by decide]
    rw [lp_go (st _ _ 8 (by decide)), show (8 : Int32) + -8 = 0 by decide]
    rw [lp_go (st _ _ 0 (by decide)), show (0 : Int32) + -8 = -8 by decide]
    exact lp_end (by simp (decide := true) only [bX5_middle_6, ob_n, b2_n, tc_rn, tc_ln, F_sF, A_sF, R_sF, L_sF, F_sA, A_sA, R_sA, L_sA, F_sR, A_sR, R_sR, L_sR, F_sL, A_sL, R_sL, L_sL, and_true, true_and, and_false, false_and, and_self, reduceIte, sF_sF, sA_sA, false_or, or_false, true_or, or_true, not_false_eq_true, not_true_eq_false, decide_true, decide_false, Bool.true_or, Bool.or_true, Bool.false_and, Bool.true_and, Bool.false_or, Bool.or_false, Bool.and_true, Bool.and_false])
  unfold fX5_middle
  rw [lp, ob_n]
theorem middle12 {s : e_S} {g : ps_G} {R : Int32 → Int32 → Int32} {X Y : Nat} {k : Int32} {f : Nat → Int32} (hX : X < 24) (hY : Y < 24) (hR : ∀ f x y, fX12_near (e_g (sA s 151 f) g) 139 x y = some (R x y)) : ∃ f', fX12_middle (e_g (sA s 151 f) g) 139 (Int32.ofNat X) (Int32.ofNat Y) k = some (med (fun j => fX12_part (ar9 R (Int32.ofNat X) (Int32.ofNat Y) j) k), e_g (sA s 151 f') g) := by
  generalize hu : (fun j => fX12_part (ar9 R (Int32.ofNat X) (Int32.ofNat Y) j) k) = u
  have e1 : (1 : Int32).toInt = 1 := rfl
  have cx : ∀ i, i ≤ 3 → (Int32.ofNat X + Int32.ofNat i - 1).toInt = X + i - 1 := fun i hi => by
    rw [n_add, i_sub (by rw [n_int (by omega), e1]; omega) (by rw [n_int (by omega), e1]; omega), n_int (by omega), e1]; omega
  have cy : ∀ i, i ≤ 3 → (Int32.ofNat Y + Int32.ofNat i - 1).toInt = Y + i - 1 := fun i hi => by
    rw [n_add, i_sub (by rw [n_int (by omega), e1]; omega) (by rw [n_int (by omega), e1]; omega), n_int (by omega), e1]; omega
  have ux : (Int32.ofNat X + 1).toInt = X + 1 := by rw [n_suc, n_int (by omega)]; omega
  have uy : (Int32.ofNat Y + 1).toInt = Y + 1 := by rw [n_suc, n_int (by omega)]; omega
  have sx : ∀ i, Int32.ofNat X + Int32.ofNat i - 1 + 1 = Int32.ofNat X + Int32.ofNat (i + 1) - 1 := fun i => by
    rw [Int32.sub_add_cancel, ← n_suc, ← Int32.add_assoc, Int32.add_sub_cancel]
  have sy : ∀ i, Int32.ofNat Y + Int32.ofNat i - 1 + 1 = Int32.ofNat Y + Int32.ofNat (i + 1) - 1 := fun i => by
    rw [Int32.sub_add_cancel, ← n_suc, ← Int32.add_assoc, Int32.add_sub_cancel]
  have inn : ∀ j, j < 3 → q_lp (fun t => bX12_middle_21 139 (Int32.ofNat X) (Int32.ofNat Y) k (Int32.ofNat Y + Int32.ofNat j - 1) t.1 t.2.1 t.2.2) (Int32.ofNat (3 * j), Int32.ofNat X - 1, e_g (sA s 151 (medR f u (3 * j))) g) = some (Int32.ofNat (3 * j + 3), e_g (sA s 151 (medR f u (3 * j + 3))) g) := by
    intro j hj
    refine lp_0 (fun i => (Int32.ofNat (3 * j + i), Int32.ofNat X + Int32.ofNat i - 1, e_g (sA s 151 (medR f u (3 * j + i))) g)) 3 ?_ (fun i hi => ?_) ?_
    · show _ = (_, Int32.ofNat X + 0 - 1, _)
      rw [Int32.add_zero]; rfl
    · have q1 : ¬ Int32.ofNat X + 1 < Int32.ofNat X + Int32.ofNat i - 1 := by rw [i_lt, ux, cx i (by omega)]; omega
      rw [n_suc] at q1
      have hk : 3 * j + i < 9 := by omega
      have ev : fX12_part (R (Int32.ofNat X + Int32.ofNat i - 1) (Int32.ofNat Y + Int32.ofNat j - 1)) k = u (3 * j + i) := by
        rw [← hu]
        dsimp only
        unfold ar9
        rw [show (3 * j + i) % 3 = i by omega, show (3 * j + i) / 3 = j by omega]
      have i5 := fun v f => ins12 (s := s) (g := g) (x1 := Int32.ofNat X) (x2 := Int32.ofNat Y) (x3 := k) (x4 := Int32.ofNat (3 * j + i)) (x5 := Int32.ofNat Y + Int32.ofNat j - 1) (x6 := Int32.ofNat X + Int32.ofNat i - 1) (v := v) (f := f) hk
      have il := @insN_le (u (3 * j + i)) (3 * j + i) (medR f u (3 * j + i))
      have em : medR f u (3 * j + (i + 1)) = upd (insN (u (3 * j + i)) (3 * j + i) (medR f u (3 * j + i))).2 (insN (u (3 * j + i)) (3 * j + i) (medR f u (3 * j + i))).1 (u (3 * j + i)) := rfl
      simp (decide := true) only [bX12_middle_21, jX12_middle_88_21, q1, ob139, hR, ev, i5, f139_27, u151, n_in2 (show (insN (u (3 * j + i)) (3 * j + i) (medR f u (3 * j + i))).1 < 9 by omega) (by decide), n_idx (show (insN (u (3 * j + i)) (3 * j + i) (medR f u (3 * j + i))).1 < 2147483648 by omega), n_suc, sx, em, Nat.add_assoc, ob_n, b2_n, tc_rn, tc_ln, F_sF, A_sF, R_sF, L_sF, F_sA, A_sA, R_sA, L_sA, F_sR, A_sR, R_sR, L_sR, F_sL, A_sL, R_sL, L_sL, and_true, true_and, and_false, false_and, and_self, reduceIte, sF_sF, sA_sA, false_or, or_false, true_or, or_true, not_false_eq_true, not_true_eq_false, decide_true, decide_false, Bool.true_or, Bool.or_true, Bool.false_and, Bool.true_and, Bool.false_or, Bool.or_false, Bool.and_true, Bool.and_false]
    · have q1 : Int32.ofNat X + 1 < Int32.ofNat X + Int32.ofNat 3 - 1 := by rw [i_lt, ux, cx 3 (by omega)]; omega
      simp (decide := true) only [bX12_middle_21, q1, ob_n, b2_n, tc_rn, tc_ln, F_sF, A_sF, R_sF, L_sF, F_sA, A_sA, R_sA, L_sA, F_sR, A_sR, R_sR, L_sR, F_sL, A_sL, R_sL, L_sL, and_true, true_and, and_false, false_and, and_self, reduceIte, sF_sF, sA_sA, false_or, or_false, true_or, or_true, not_false_eq_true, not_true_eq_false, decide_true, decide_false, Bool.true_or, Bool.or_true, Bool.false_and, Bool.true_and, Bool.false_or, Bool.or_false, Bool.and_true, Bool.and_false]
  have out : q_lp (fun t => bX12_middle_8 139 (Int32.ofNat X) (Int32.ofNat Y) k t.1 t.2.1 t.2.2) ((0 : Int32), Int32.ofNat Y - 1, e_g (sA s 151 f) g) = some (e_g (sA s 151 (medR f u 9)) g) := by
    refine lp_0 (fun j => (Int32.ofNat (3 * j), Int32.ofNat Y + Int32.ofNat j - 1, e_g (sA s 151 (medR f u (3 * j))) g)) 3 ?_ (fun j hj => ?_) ?_
    · show _ = (_, Int32.ofNat Y + 0 - 1, _)
      rw [Int32.add_zero]; rfl
    · have q1 : ¬ Int32.ofNat Y + 1 < Int32.ofNat Y + Int32.ofNat j - 1 := by rw [i_lt, uy, cy j (by omega)]; omega
      simp (decide := true) only [bX12_middle_8, q1, inn j hj, sy, Nat.mul_succ, ob_n, b2_n, tc_rn, tc_ln, F_sF, A_sF, R_sF, L_sF, F_sA, A_sA, R_sA, L_sA, F_sR, A_sR, R_sR, L_sR, F_sL, A_sL, R_sL, L_sL, and_true, true_and, and_false, false_and, and_self, reduceIte, sF_sF, sA_sA, false_or, or_false, true_or, or_true, not_false_eq_true, not_true_eq_false, decide_true, decide_false, Bool.true_or, Bool.or_true, Bool.false_and, Bool.true_and, Bool.false_or, Bool.or_false, Bool.and_true, Bool.and_false]
    · have q1 : Int32.ofNat Y + 1 < Int32.ofNat Y + Int32.ofNat 3 - 1 := by rw [i_lt, uy, cy 3 (by omega)]; omega
      simp (decide := true) only [bX12_middle_8, q1, ob_n, b2_n, tc_rn, tc_ln, F_sF, A_sF, R_sF, L_sF, F_sA, A_sA, R_sA, L_sA, F_sR, A_sR, R_sR, L_sR, F_sL, A_sL, R_sL, L_sL, and_true, true_and, and_false, false_and, and_self, reduceIte, sF_sF, sA_sA, false_or, or_false, true_or, or_true, not_false_eq_true, not_true_eq_false, decide_true, decide_false, Bool.true_or, Bool.or_true, Bool.false_and, Bool.true_and, Bool.false_or, Bool.or_false, Bool.and_true, Bool.and_false]
  have i4 : (4 : Int32).toNatClampNeg = 4 := by decide
  have n4 : ¬ ((4 : Int32) < 0 ∨ 9 ≤ 4) := by decide
  have em : medR f u 9 4 = med u := medR_c 4 (by omega)
  refine ⟨medR f u 9, ?_⟩
  simp (decide := true) only [fX12_middle, out, f139_27, a151, i4, n4, em, ob_n, b2_n, tc_rn, tc_ln, F_sF, A_sF, R_sF, L_sF, F_sA, A_sA, R_sA, L_sA, F_sR, A_sR, R_sR, L_sR, F_sL, A_sL, R_sL, L_sL, and_true, true_and, and_false, false_and, and_self, reduceIte, sF_sF, sA_sA, false_or, or_false, true_or, or_true, not_false_eq_true, not_true_eq_false, decide_true, decide_false, Bool.true_or, Bool.or_true, Bool.false_and, Bool.true_and, Bool.false_or, Bool.or_false, Bool.and_true, Bool.and_false]
/-- the edges at a place -/
def edV (R : Int32 → Int32 → Int32) (x y : Int32) : Int32 := fJ9_min_7cf53 255 (fJ9_abs_0f7a4 (fX11_luma (R (x + 1) (y - 1)) + 2 * fX11_luma (R (x + 1) y) + fX11_luma (R (x + 1) (y + 1)) - fX11_luma (R (x - 1) (y - 1)) - 2 * fX11_luma (R (x - 1) y) - fX11_luma (R (x - 1) (y + 1))) + fJ9_abs_0f7a4 (fX11_luma (R (x - 1) (y + 1)) + 2 * fX11_luma (R x (y + 1)) + fX11_luma (R (x + 1) (y + 1)) - fX11_luma (R (x - 1) (y - 1)) - 2 * fX11_luma (R x (y - 1)) - fX11_luma (R (x + 1) (y - 1))))
theorem ar_k {R : Int32 → Int32 → Int32} {x y : Int32} : ar9 R x y 0 = R (x - 1) (y - 1) ∧ ar9 R x y 1 = R x (y - 1) ∧ ar9 R x y 2 = R (x + 1) (y - 1) ∧ ar9 R x y 3 = R (x - 1) y ∧ ar9 R x y 5 = R (x + 1) y ∧ ar9 R x y 6 = R (x - 1) (y + 1) ∧ ar9 R x y 7 = R x (y + 1) ∧ ar9 R x y 8 = R (x + 1) (y + 1) := by
  have z0 : ∀ v : Int32, v + Int32.ofNat 0 - 1 = v - 1 := fun v => by
    show v + 0 - 1 = v - 1
    rw [Int32.add_zero]
  have z1 : ∀ v : Int32, v + Int32.ofNat 1 - 1 = v := fun v => by
    show v + 1 - 1 = v
    rw [Int32.add_sub_cancel]
  have z2 : ∀ v : Int32, v + Int32.ofNat 2 - 1 = v + 1 := fun v => by
    show v + 2 - 1 = v + 1
    rw [r_as]; rfl
  unfold ar9
  refine ⟨?_, ?_, ?_, ?_, ?_, ?_, ?_, ?_⟩ <;> simp only [Nat.reduceMod, Nat.reduceDiv, z0, z1, z2]
theorem edges5 {s : e_S} {g : ps_G} {R : Int32 → Int32 → Int32} {x y : Int32} {f : Nat → Int32} (hR : ∀ f x y, fX5_near (e_g (sA s 19 f) g) 14 x y = some (R x y)) : ∃ f', fX5_edges (e_g (sA s 19 f) g) 14 x y = some (fX11_pack (q_ush (R x y) 24) (edV R x y) (edV R x y) (edV R x y), e_g (sA s 19 f') g) := by
  have lp : q_lp (fun t => bX5_edges_2 14 x y t.1 t.2) ((0 : Int32), e_g (sA s 19 f) g) = some (e_g (sA s 19 (cpT f (fun k => fX11_luma (ar9 R x y k)) 0 9)) g) := by
    refine fillN (fun f => e_g (sA s 19 f) g) 0 9 (fun k => fX11_luma (ar9 R x y k)) f (fun f i hi _ => ?_) (fun f => ?_)
    · have q1 : ¬ (9 : Int32) ≤ Int32.ofNat i := nle (b := 9) hi (by decide)
      have r1 : q_rem (Int32.ofNat i) 3 = Int32.ofNat (i % 3) := n_rem (b := 3) (by omega) (by omega)
      have r2 : Int32.ofNat i / 3 = Int32.ofNat (i / 3) := n_div (b := 3) (by omega) (by omega)
      have ear : R (x + Int32.ofNat (i % 3) - 1) (y + Int32.ofNat (i / 3) - 1) = ar9 R x y i := rfl
      simp (decide := true) only [bX5_edges_2, q1, f14_6, ob14, r1, r2, hR, ear, u19, n_in2 hi (by decide), n_idx (show i < 2147483648 by omega), n_suc, Nat.zero_add, ob_n, b2_n, tc_rn, tc_ln, F_sF, A_sF, R_sF, L_sF, F_sA, A_sA, R_sA, L_sA, F_sR, A_sR, R_sR, L_sR, F_sL, A_sL, R_sL, L_sL, and_true, true_and, and_false, false_and, and_self, reduceIte, sF_sF, sA_sA, false_or, or_false, true_or, or_true, not_false_eq_true, not_true_eq_false, decide_true, decide_false, Bool.true_or, Bool.or_true, Bool.false_and, Bool.true_and, Bool.false_or, Bool.or_false, Bool.and_true, Bool.and_false]
    · simp (decide := true) only [bX5_edges_2, ob_n, b2_n, tc_rn, tc_ln, F_sF, A_sF, R_sF, L_sF, F_sA, A_sA, R_sA, L_sA, F_sR, A_sR, R_sR, L_sR, F_sL, A_sL, R_sL, L_sL, and_true, true_and, and_false, false_and, and_self, reduceIte, sF_sF, sA_sA, false_or, or_false, true_or, or_true, not_false_eq_true, not_true_eq_false, decide_true, decide_false, Bool.true_or, Bool.or_true, Bool.false_and, Bool.true_and, Bool.false_or, Bool.or_false, Bool.and_true, Bool.and_false]
  generalize hf : cpT f (fun k => fX11_luma (ar9 R x y k)) 0 9 = f' at lp
  have hv : ∀ k, k < 9 → f' k = fX11_luma (ar9 R x y k) := fun k hk => by
    have := cpT_in (A := f) (N := fun k => fX11_luma (ar9 R x y k)) (b := 0) hk
    rw [Nat.zero_add, hf] at this
    exact this
  obtain ⟨a0, a1, a2, a3, a5, a6, a7, a8⟩ := @ar_k R x y
  have i0 : (0 : Int32).toNatClampNeg = 0 := by decide
  have i1 : (1 : Int32).toNatClampNeg = 1 := by decide
  have i2 : (2 : Int32).toNatClampNeg = 2 := by decide
  have i3 : (3 : Int32).toNatClampNeg = 3 := by decide
  have i5 : (5 : Int32).toNatClampNeg = 5 := by decide
  have i6 : (6 : Int32).toNatClampNeg = 6 := by decide
  have i7 : (7 : Int32).toNatClampNeg = 7 := by decide
  have i8 : (8 : Int32).toNatClampNeg = 8 := by decide
  refine ⟨f', ?_⟩
  simp (decide := true) only [fX5_edges, lp, f14_6, a19, i0, i1, i2, i3, i5, i6, i7, i8, hv 0 (by omega), hv 1 (by omega), hv 2 (by omega), hv 3 (by omega), hv 5 (by omega), hv 6 (by omega), hv 7 (by omega), hv 8 (by omega), a0, a1, a2, a3, a5, a6, a7, a8, ob14, hR, edV, ob_n, b2_n, tc_rn, tc_ln, F_sF, A_sF, R_sF, L_sF, F_sA, A_sA, R_sA, L_sA, F_sR, A_sR, R_sR, L_sR, F_sL, A_sL, R_sL, L_sL, and_true, true_and, and_false, false_and, and_self, reduceIte, sF_sF, sA_sA, false_or, or_false, true_or, or_true, not_false_eq_true, not_true_eq_false, decide_true, decide_false, Bool.true_or, Bool.or_true, Bool.false_and, Bool.true_and, Bool.false_or, Bool.or_false, Bool.and_true, Bool.and_false]
theorem edges12 {s : e_S} {g : ps_G} {R : Int32 → Int32 → Int32} {x y : Int32} (hR : ∀ x y, fX12_near (e_g s g) 139 x y = some (R x y)) : fX12_edges (e_g s g) 139 x y = some (edV R x y) := by
  simp (decide := true) only [fX12_edges, fX12_brightAt, ob139, hR, bright_k, least12, abs12, edV, ob_n, b2_n, tc_rn, tc_ln, F_sF, A_sF, R_sF, L_sF, F_sA, A_sA, R_sA, L_sA, F_sR, A_sR, R_sR, L_sR, F_sL, A_sL, R_sL, L_sL, and_true, true_and, and_false, false_and, and_self, reduceIte, sF_sF, sA_sA, false_or, or_false, true_or, or_true, not_false_eq_true, not_true_eq_false, decide_true, decide_false, Bool.true_or, Bool.or_true, Bool.false_and, Bool.true_and, Bool.false_or, Bool.or_false, Bool.and_true, Bool.and_false]
