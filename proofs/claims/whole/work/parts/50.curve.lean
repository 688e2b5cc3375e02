-- needs: 07 10 13 14 20 21 22 23 24 25 26 27 32 33 34 38 39 40 41 43
/-! ===== curve ===== -/
theorem sA_32 {s : e_S} {i j : Nat} {r r' r'' : Nat → Int32} (h : ¬ i = j) : sA (sA (sA s i r) j r') i r'' = sA (sA s i r'') j r' := by
  obtain ⟨a, b, c, d⟩ := s
  show (a, rs (rs (rs b i r) j r') i r'', c, d) = (a, rs (rs b i r'') j r', c, d)
  congr 2
  funext k
  unfold rs
  by_cases h1 : k = i
  · rw [if_pos h1, if_neg (fun q => h (h1.symm.trans q)), if_pos h1]
  · rw [if_neg h1]
    by_cases h2 : k = j
    · rw [if_pos h2, if_pos h2]
    · rw [if_neg h2, if_neg h1, if_neg h2, if_neg h1]
def shf (f : Nat → Int32) (b p n : Nat) : Nat → Int32 := fun k => if b + p < k ∧ k ≤ b + n then f (k - 1) else f k
theorem shf_n {f : Nat → Int32} {b n : Nat} : shf f b n n = f := by
  funext k
  exact if_neg (by omega)
theorem shf_up {f : Nat → Int32} {b m n : Nat} (h : m + 1 ≤ n) : upd (shf f b (m + 1) n) (b + (m + 1)) (f (b + m)) = shf f b m n := by
  funext k
  rw [upd_r]
  unfold shf
  by_cases h1 : k = b + (m + 1)
  · rw [if_pos h1, if_pos (by omega), h1]; congr 1
  · rw [if_neg h1]
    by_cases h2 : b + (m + 1) < k ∧ k ≤ b + n
    · rw [if_pos h2, if_pos (by omega)]
    · rw [if_neg h2, if_neg (by omega)]
theorem shf_lo {f : Nat → Int32} {b p n k : Nat} (h : k ≤ b + p) : shf f b p n k = f k := if_neg (by omega)
theorem n_prd {m : Nat} (h : m < 2147483647) : Int32.ofNat (m + 1) + (-1) = Int32.ofNat m := by
  rw [i_eq, i_add (by rw [n_int (by omega)]; show (-2147483648 : Int) ≤ ((m + 1 : Nat) : Int) + -1; omega) (by rw [n_int (by omega)]; show ((m + 1 : Nat) : Int) + -1 < 2147483648; omega), n_int (by omega), n_int (by omega)]
  show ((m + 1 : Nat) : Int) + -1 = m
  omega
/-- where x belongs -/
theorem fpos (X : Nat → Int32) (b : Nat) (x : Int32) : ∀ n, ∃ p, p ≤ n ∧ (∀ i, i < p → X (b + i) < x) ∧ (p = n ∨ x ≤ X (b + p))
  | 0 => ⟨0, Nat.le_refl _, fun i hi => absurd hi (by omega), Or.inl rfl⟩
  | n + 1 => by
    obtain ⟨p, h1, h2, h3⟩ := fpos X b x n
    by_cases q : p = n
    · by_cases q2 : X (b + n) < x
      · refine ⟨n + 1, Nat.le_refl _, fun i hi => ?_, Or.inl rfl⟩
        by_cases q3 : i = n
        · rw [q3]; exact q2
        · exact h2 i (by omega)
      · refine ⟨n, by omega, by rw [← q]; exact h2, Or.inr ?_⟩
        rw [i_lt] at q2
        rw [i_le]; omega
    · refine ⟨p, by omega, h2, Or.inr ?_⟩
      rcases h3 with h3 | h3
      · exact absurd h3 q
      · exact h3
theorem bend11s {s : e_S} {g : ps_G} {c n p : Nat} {x y c0 n0 p0 : Int32} (hc : c < 32) (hn : n ≤ 7) (hp : p ≤ n) (e2 : p0 = Int32.ofNat p) : q_lp (fun t => bX5_bendCurve_92 14 c0 x y (Int32.ofNat (8 * c)) n0 p0 t.1 t.2) (Int32.ofNat n, e_g s g) = some (e_g (sA (sA s 15 (shf (s.2.1 15) (8 * c) p n)) 16 (shf (s.2.1 16) (8 * c) p n)) g) := by
  subst e2
  have := lp_st (b := fun t => bX5_bendCurve_92 14 c0 x y (Int32.ofNat (8 * c)) n0 (Int32.ofNat p) t.1 t.2) (fun i => (Int32.ofNat (n - i), e_g (sA (sA s 15 (shf (s.2.1 15) (8 * c) (n - i) n)) 16 (shf (s.2.1 16) (8 * c) (n - i) n)) g)) (n - p) (r := e_g (sA (sA s 15 (shf (s.2.1 15) (8 * c) p n)) 16 (shf (s.2.1 16) (8 * c) p n)) g) (fun i hi => ?_) ?_ 0 (by omega)
  · rw [Nat.sub_zero, shf_n, shf_n] at this
    have e : sA (sA s 15 (s.2.1 15)) 16 (s.2.1 16) = s := by rw [sA_id, sA_id]
    rw [e] at this
    exact this
  · obtain ⟨m, hm⟩ : ∃ m, n - i = m + 1 := ⟨n - i - 1, by omega⟩
    rw [hm, show n - (i + 1) = m by omega]
    have q1 : ¬ Int32.ofNat (m + 1) ≤ Int32.ofNat p := by rw [n_le (by omega) (by omega)]; omega
    have i1 : Int32.ofNat (8 * c) + Int32.ofNat (m + 1) = Int32.ofNat (8 * c + (m + 1)) := n_add
    have i2 : Int32.ofNat (8 * c + (m + 1)) - 1 = Int32.ofNat (8 * c + m) := n_sub (b := 1) (by omega) (by omega)
    have l1 : 8 * c + (m + 1) < 256 := by omega
    have l2 : 8 * c + m < 256 := by omega
    simp (decide := true) only [bX5_bendCurve_92, f14_0, a15, u15, f14_1, a16, u16, ob_s, b2_s, tc_r, tc_l, F_sF, A_sF, R_sF, L_sF, F_sA, A_sA, R_sA, L_sA, F_sR, A_sR, R_sR, L_sR, F_sL, A_sL, R_sL, L_sL, and_true, true_and, and_false, false_and, and_self, reduceIte, sF_sF, sA_sA, false_or, or_false, true_or, or_true, not_false_eq_true, not_true_eq_false, decide_true, decide_false, Bool.true_or, Bool.or_true, Bool.false_and, Bool.true_and, Bool.false_or, Bool.or_false, Bool.and_true, Bool.and_false, q1, i1, i2, n_in2 l2 (by decide), n_idx (show 8 * c + m < 2147483648 by omega), n_in2 l1 (by decide), n_idx (show 8 * c + (m + 1) < 2147483648 by omega), shf_lo (f := s.2.1 15) (b := 8 * c) (p := m + 1) (n := n) (k := 8 * c + m) (by omega), shf_lo (f := s.2.1 16) (b := 8 * c) (p := m + 1) (n := n) (k := 8 * c + m) (by omega), shf_up (f := s.2.1 15) (b := 8 * c) (m := m) (n := n) (by omega), shf_up (f := s.2.1 16) (b := 8 * c) (m := m) (n := n) (by omega), n_prd (show m < 2147483647 by omega), sA_32 (show ¬ 15 = 16 by decide)]
  · rw [show n - (n - p) = p by omega]
    have q1 : Int32.ofNat p ≤ Int32.ofNat p := by rw [i_le]; omega
    simp (decide := true) only [bX5_bendCurve_92, f14_0, a15, u15, f14_1, a16, u16, ob_s, b2_s, tc_r, tc_l, F_sF, A_sF, R_sF, L_sF, F_sA, A_sA, R_sA, L_sA, F_sR, A_sR, R_sR, L_sR, F_sL, A_sL, R_sL, L_sL, and_true, true_and, and_false, false_and, and_self, reduceIte, sF_sF, sA_sA, false_or, or_false, true_or, or_true, not_false_eq_true, not_true_eq_false, decide_true, decide_false, Bool.true_or, Bool.or_true, Bool.false_and, Bool.true_and, Bool.false_or, Bool.or_false, Bool.and_true, Bool.and_false, q1]
theorem bend12s {s : e_S} {g : ps_G} {c n p : Nat} {x y p0 : Int32} (hc : c < 32) (hn : n ≤ 7) (hp : p ≤ n) (e2 : p0 = Int32.ofNat p) : q_lp (fun t => bX12_curve_226 139 x y (Int32.ofNat c) p0 t.1 t.2) (Int32.ofNat n, e_g s g) = some (e_g (sA (sA s 153 (shf (s.2.1 153) (8 * c) p n)) 154 (shf (s.2.1 154) (8 * c) p n)) g) := by
  subst e2
  have := lp_st (b := fun t => bX12_curve_226 139 x y (Int32.ofNat c) (Int32.ofNat p) t.1 t.2) (fun i => (Int32.ofNat (n - i), e_g (sA (sA s 153 (shf (s.2.1 153) (8 * c) (n - i) n)) 154 (shf (s.2.1 154) (8 * c) (n - i) n)) g)) (n - p) (r := e_g (sA (sA s 153 (shf (s.2.1 153) (8 * c) p n)) 154 (shf (s.2.1 154) (8 * c) p n)) g) (fun i hi => ?_) ?_ 0 (by omega)
  · rw [Nat.sub_zero, shf_n, shf_n] at this
    have e : sA (sA s 153 (s.2.1 153)) 154 (s.2.1 154) = s := by rw [sA_id, sA_id]
    rw [e] at this
    exact this
  · obtain ⟨m, hm⟩ : ∃ m, n - i = m + 1 := ⟨n - i - 1, by omega⟩
    rw [hm, show n - (i + 1) = m by omega]
    have q1 : ¬ Int32.ofNat (m + 1) ≤ Int32.ofNat p := by rw [n_le (by omega) (by omega)]; omega
    have i1 : 8 * Int32.ofNat c + Int32.ofNat (m + 1) = Int32.ofNat (8 * c + (m + 1)) := by
      show Int32.ofNat 8 * Int32.ofNat c + _ = _
      rw [n_mul, n_add]
    have i2 : Int32.ofNat (8 * c + (m + 1)) - 1 = Int32.ofNat (8 * c + m) := n_sub (b := 1) (by omega) (by omega)
    have l1 : 8 * c + (m + 1) < 256 := by omega
    have l2 : 8 * c + m < 256 := by omega
    simp (decide := true) only [bX12_curve_226, f139_29, a153, u153, f139_30, a154, u154, ob_s, b2_s, tc_r, tc_l, F_sF, A_sF, R_sF, L_sF, F_sA, A_sA, R_sA, L_sA, F_sR, A_sR, R_sR, L_sR, F_sL, A_sL, R_sL, L_sL, and_true, true_and, and_false, false_and, and_self, reduceIte, sF_sF, sA_sA, false_or, or_false, true_or, or_true, not_false_eq_true, not_true_eq_false, decide_true, decide_false, Bool.true_or, Bool.or_true, Bool.false_and, Bool.true_and, Bool.false_or, Bool.or_false, Bool.and_true, Bool.and_false, q1, i1, i2, n_in2 l2 (by decide), n_idx (show 8 * c + m < 2147483648 by omega), n_in2 l1 (by decide), n_idx (show 8 * c + (m + 1) < 2147483648 by omega), shf_lo (f := s.2.1 153) (b := 8 * c) (p := m + 1) (n := n) (k := 8 * c + m) (by omega), shf_lo (f := s.2.1 154) (b := 8 * c) (p := m + 1) (n := n) (k := 8 * c + m) (by omega), shf_up (f := s.2.1 153) (b := 8 * c) (m := m) (n := n) (by omega), shf_up (f := s.2.1 154) (b := 8 * c) (m := m) (n := n) (by omega), n_prd (show m < 2147483647 by omega), sA_32 (show ¬ 153 = 154 by decide)]
  · rw [show n - (n - p) = p by omega]
    have q1 : Int32.ofNat p ≤ Int32.ofNat p := by rw [i_le]; omega
    simp (decide := true) only [bX12_curve_226, f139_29, a153, u153, f139_30, a154, u154, ob_s, b2_s, tc_r, tc_l, F_sF, A_sF, R_sF, L_sF, F_sA, A_sA, R_sA, L_sA, F_sR, A_sR, R_sR, L_sR, F_sL, A_sL, R_sL, L_sL, and_true, true_and, and_false, false_and, and_self, reduceIte, sF_sF, sA_sA, false_or, or_false, true_or, or_true, not_false_eq_true, not_true_eq_false, decide_true, decide_false, Bool.true_or, Bool.or_true, Bool.false_and, Bool.true_and, Bool.false_or, Bool.or_false, Bool.and_true, Bool.and_false, q1]
theorem ile_nlt {a b : Int32} : a ≤ b ↔ ¬ b < a := by rw [i_le, i_lt]; omega
/-- how many POINTS of the CURVE there are, one of them new or changed -/
theorem bend11 {s : e_S} {g : ps_G} {c n p : Nat} {x y : Int32} (hc : c < 32) (hn : n ≤ 8) (e : s.2.1 17 c = Int32.ofNat n) (hp : p ≤ n) (h1 : ∀ i, i < p → s.2.1 15 (8 * c + i) < x) (h2 : p = n ∨ x ≤ s.2.1 15 (8 * c + p)) : fX5_bendCurve (e_g s g) 14 (Int32.ofNat c) x y = if p < n ∧ s.2.1 15 (8 * c + p) = x then some (Int32.ofNat n, e_g (sA s 16 (upd (s.2.1 16) (8 * c + p) y)) g) else if n < 8 then some (Int32.ofNat (n + 1), e_g (sA (sA (sA s 15 (upd (shf (s.2.1 15) (8 * c) p n) (8 * c + p) x)) 16 (upd (shf (s.2.1 16) (8 * c) p n) (8 * c + p) y)) 17 (upd (s.2.1 17) c (Int32.ofNat (n + 1)))) g) else some (-1, e_g s g) := by
  have e8 : Int32.ofNat c * 8 = Int32.ofNat (8 * c) := by
    show Int32.ofNat c * Int32.ofNat 8 = _
    rw [n_mul, Nat.mul_comm]
  have hl : q_lp (fun t => bX5_bendCurve_17 (e_g s g) 14 (Int32.ofNat c) x y (Int32.ofNat (8 * c)) (Int32.ofNat n) t) (0 : Int32) = some (Int32.ofNat p) := by
    refine lp_0 (fun i => Int32.ofNat i) p rfl (fun i hi => ?_) ?_
    · have q1 : ¬ Int32.ofNat n ≤ Int32.ofNat i := by rw [n_le (by omega) (by omega)]; omega
      have q2 : ¬ x ≤ s.2.1 15 (8 * c + i) := by rw [ile_nlt]; exact not_not_intro (h1 i hi)
      simp (decide := true) only [bX5_bendCurve_17, f14_0, a15, ob_s, b2_s, tc_r, tc_l, F_sF, A_sF, R_sF, L_sF, F_sA, A_sA, R_sA, L_sA, F_sR, A_sR, R_sR, L_sR, F_sL, A_sL, R_sL, L_sL, and_true, true_and, and_false, false_and, and_self, reduceIte, sF_sF, sA_sA, false_or, or_false, true_or, or_true, not_false_eq_true, not_true_eq_false, decide_true, decide_false, Bool.true_or, Bool.or_true, Bool.false_and, Bool.true_and, Bool.false_or, Bool.or_false, Bool.and_true, Bool.and_false, q1, n_add, n_in2 (show 8 * c + i < 256 by omega) (by decide), n_idx (show 8 * c + i < 2147483648 by omega), q2, n_suc]
    · by_cases q : p = n
      · have q1 : Int32.ofNat n ≤ Int32.ofNat p := by rw [n_le (by omega) (by omega)]; omega
        simp (decide := true) only [bX5_bendCurve_17, f14_0, a15, ob_s, b2_s, tc_r, tc_l, F_sF, A_sF, R_sF, L_sF, F_sA, A_sA, R_sA, L_sA, F_sR, A_sR, R_sR, L_sR, F_sL, A_sL, R_sL, L_sL, and_true, true_and, and_false, false_and, and_self, reduceIte, sF_sF, sA_sA, false_or, or_false, true_or, or_true, not_false_eq_true, not_true_eq_false, decide_true, decide_false, Bool.true_or, Bool.or_true, Bool.false_and, Bool.true_and, Bool.false_or, Bool.or_false, Bool.and_true, Bool.and_false, q1]
      · have q1 : ¬ Int32.ofNat n ≤ Int32.ofNat p := by rw [n_le (by omega) (by omega)]; omega
        have q2 : x ≤ s.2.1 15 (8 * c + p) := h2.resolve_left q
        simp (decide := true) only [bX5_bendCurve_17, f14_0, a15, ob_s, b2_s, tc_r, tc_l, F_sF, A_sF, R_sF, L_sF, F_sA, A_sA, R_sA, L_sA, F_sR, A_sR, R_sR, L_sR, F_sL, A_sL, R_sL, L_sL, and_true, true_and, and_false, false_and, and_self, reduceIte, sF_sF, sA_sA, false_or, or_false, true_or, or_true, not_false_eq_true, not_true_eq_false, decide_true, decide_false, Bool.true_or, Bool.or_true, Bool.false_and, Bool.true_and, Bool.false_or, Bool.or_false, Bool.and_true, Bool.and_false, q1, n_add, n_in2 (show 8 * c + p < 256 by omega) (by decide), n_idx (show 8 * c + p < 2147483648 by omega), q2]
  have c8 : Int32.ofNat n < 8 ↔ n < 8 := by
    show Int32.ofNat n < Int32.ofNat 8 ↔ _
    rw [n_lt (by omega) (by omega)]
  have j79 : ¬ (p < n ∧ s.2.1 15 (8 * c + p) = x) → jX5_bendCurve_79 (e_g s g) 14 (Int32.ofNat c) x y (Int32.ofNat (8 * c)) (Int32.ofNat n) (Int32.ofNat p) = if n < 8 then some (Int32.ofNat (n + 1), e_g (sA (sA (sA s 15 (upd (shf (s.2.1 15) (8 * c) p n) (8 * c + p) x)) 16 (upd (shf (s.2.1 16) (8 * c) p n) (8 * c + p) y)) 17 (upd (s.2.1 17) c (Int32.ofNat (n + 1)))) g) else some (-1, e_g s g) := by
    intro _
    by_cases q8 : n < 8
    · have sh := bend11s (s := s) (g := g) (x := x) (y := y) (c0 := Int32.ofNat c) (n0 := Int32.ofNat n) hc (show n ≤ 7 by omega) hp rfl
      have l1 : 8 * c + p < 256 := by omega
      simp (decide := true) only [jX5_bendCurve_79, c8, q8, sh, f14_0, f14_1, f14_2, u15, u16, u17, n_add, n_in2 l1 (by decide), n_idx (show 8 * c + p < 2147483648 by omega), n_in2 hc (by decide), n_idx (show c < 2147483648 by omega), n_suc, sA_32 (show ¬ 15 = 16 by decide), ob_s, b2_s, tc_r, tc_l, F_sF, A_sF, R_sF, L_sF, F_sA, A_sA, R_sA, L_sA, F_sR, A_sR, R_sR, L_sR, F_sL, A_sL, R_sL, L_sL, and_true, true_and, and_false, false_and, and_self, reduceIte, sF_sF, sA_sA, false_or, or_false, true_or, or_true, not_false_eq_true, not_true_eq_false, decide_true, decide_false, Bool.true_or, Bool.or_true, Bool.false_and, Bool.true_and, Bool.false_or, Bool.or_false, Bool.and_true, Bool.and_false]
    · simp (decide := true) only [jX5_bendCurve_79, c8, q8, ob_s, b2_s, tc_r, tc_l, F_sF, A_sF, R_sF, L_sF, F_sA, A_sA, R_sA, L_sA, F_sR, A_sR, R_sR, L_sR, F_sL, A_sL, R_sL, L_sL, and_true, true_and, and_false, false_and, and_self, reduceIte, sF_sF, sA_sA, false_or, or_false, true_or, or_true, not_false_eq_true, not_true_eq_false, decide_true, decide_false, Bool.true_or, Bool.or_true, Bool.false_and, Bool.true_and, Bool.false_or, Bool.or_false, Bool.and_true, Bool.and_false]
  by_cases q : p = n
  · have q0 : ¬ (p < n ∧ s.2.1 15 (8 * c + p) = x) := by omega
    have q1 : Int32.ofNat n ≤ Int32.ofNat p := by rw [n_le (by omega) (by omega)]; omega
    rw [if_neg q0, ← j79 q0]
    simp (decide := true) only [fX5_bendCurve, jX5_bendCurve_44, f14_2, a17, n_in2 hc (by decide), n_idx (show c < 2147483648 by omega), e, e8, hl, q1, ob_s, b2_s, tc_r, tc_l, F_sF, A_sF, R_sF, L_sF, F_sA, A_sA, R_sA, L_sA, F_sR, A_sR, R_sR, L_sR, F_sL, A_sL, R_sL, L_sL, and_true, true_and, and_false, false_and, and_self, reduceIte, sF_sF, sA_sA, false_or, or_false, true_or, or_true, not_false_eq_true, not_true_eq_false, decide_true, decide_false, Bool.true_or, Bool.or_true, Bool.false_and, Bool.true_and, Bool.false_or, Bool.or_false, Bool.and_true, Bool.and_false]
  · have q1 : ¬ Int32.ofNat n ≤ Int32.ofNat p := by rw [n_le (by omega) (by omega)]; omega
    have l1 : 8 * c + p < 256 := by omega
    by_cases q2 : s.2.1 15 (8 * c + p) = x
    · rw [if_pos ⟨by omega, q2⟩]
      simp (decide := true) only [fX5_bendCurve, jX5_bendCurve_44, f14_0, f14_1, f14_2, a15, u16, a17, n_in2 hc (by decide), n_idx (show c < 2147483648 by omega), e, e8, hl, q1, n_add, n_in2 l1 (by decide), n_idx (show 8 * c + p < 2147483648 by omega), q2, ob_s, b2_s, tc_r, tc_l, F_sF, A_sF, R_sF, L_sF, F_sA, A_sA, R_sA, L_sA, F_sR, A_sR, R_sR, L_sR, F_sL, A_sL, R_sL, L_sL, and_true, true_and, and_false, false_and, and_self, reduceIte, sF_sF, sA_sA, false_or, or_false, true_or, or_true, not_false_eq_true, not_true_eq_false, decide_true, decide_false, Bool.true_or, Bool.or_true, Bool.false_and, Bool.true_and, Bool.false_or, Bool.or_false, Bool.and_true, Bool.and_false]
    · have q0 : ¬ (p < n ∧ s.2.1 15 (8 * c + p) = x) := fun z => q2 z.2
      rw [if_neg q0, ← j79 q0]
      simp (decide := true) only [fX5_bendCurve, jX5_bendCurve_44, f14_0, f14_2, a15, a17, n_in2 hc (by decide), n_idx (show c < 2147483648 by omega), e, e8, hl, q1, n_add, n_in2 l1 (by decide), n_idx (show 8 * c + p < 2147483648 by omega), q2, ob_s, b2_s, tc_r, tc_l, F_sF, A_sF, R_sF, L_sF, F_sA, A_sA, R_sA, L_sA, F_sR, A_sR, R_sR, L_sR, F_sL, A_sL, R_sL, L_sL, and_true, true_and, and_false, false_and, and_self, reduceIte, sF_sF, sA_sA, false_or, or_false, true_or, or_true, not_false_eq_true, not_true_eq_false, decide_true, decide_false, Bool.true_or, Bool.or_true, Bool.false_and, Bool.true_and, Bool.false_or, Bool.or_false, Bool.and_true, Bool.and_false]
/-- the CURVES behind curve, in the reference -/
def cvM (s : e_S) (c n p : Nat) (x y : Int32) : e_S := if p < n ∧ s.2.1 153 (8 * c + p) = x then sA (sA s 153 (upd (s.2.1 153) (8 * c + p) x)) 154 (upd (s.2.1 154) (8 * c + p) y) else sA (sA (sA s 153 (upd (shf (s.2.1 153) (8 * c) p n) (8 * c + p) x)) 154 (upd (shf (s.2.1 154) (8 * c) p n) (8 * c + p) y)) 152 (upd (s.2.1 152) c (Int32.ofNat (n + 1)))
theorem sA_cm {s : e_S} {i j : Nat} {r r' : Nat → Int32} (h : ¬ i = j) : sA (sA s i r) j r' = sA (sA s j r') i r := by
  obtain ⟨a, b, c, d⟩ := s
  show (a, rs (rs b i r) j r', c, d) = (a, rs (rs b j r') i r, c, d)
  congr 2
  funext k
  unfold rs
  by_cases h1 : k = i
  · rw [if_neg (fun q => h (h1.symm.trans q)), if_pos h1, if_pos h1]
  · by_cases h2 : k = j
    · rw [if_pos h2, if_neg h1, if_pos h2]
    · rw [if_neg h2, if_neg h1, if_neg h1, if_neg h2]
theorem bend12 {s : e_S} {g : ps_G} {c n p : Nat} {x y : Int32} (hc : c < 32) (hn : n ≤ 8) (e : s.2.1 152 c = Int32.ofNat n) (hp : p ≤ n) (h1 : ∀ i, i < p → s.2.1 153 (8 * c + i) < x) (h2 : p = n ∨ x ≤ s.2.1 153 (8 * c + p)) : (Option.bind (q_lp (fun t => bX12_curve_106 (e_g s g) 139 x y (Int32.ofNat c) t) (0 : Int32)) fun t => jX12_curve_141 (e_g s g) 139 x y (Int32.ofNat c) t) = if ¬ (p < n ∧ s.2.1 153 (8 * c + p) = x) ∧ n = 8 then some (0, e_g (sF s 139 0 2) g) else some (if p < n ∧ s.2.1 153 (8 * c + p) = x then Int32.ofNat n else Int32.ofNat (n + 1), e_g (fg12 (cvM (sF s 139 0 0) c n p x y)) g) := by
  have e8 : ∀ i, 8 * Int32.ofNat c + Int32.ofNat i = Int32.ofNat (8 * c + i) := fun i => by
    show Int32.ofNat 8 * Int32.ofNat c + _ = _
    rw [n_mul, n_add]
  have hl : q_lp (fun t => bX12_curve_106 (e_g s g) 139 x y (Int32.ofNat c) t) (0 : Int32) = some (Int32.ofNat p) := by
    refine lp_0 (fun i => Int32.ofNat i) p rfl (fun i hi => ?_) ?_
    · have q1 : ¬ Int32.ofNat n ≤ Int32.ofNat i := by rw [n_le (by omega) (by omega)]; omega
      have q2 : ¬ x ≤ s.2.1 153 (8 * c + i) := by rw [ile_nlt]; exact not_not_intro (h1 i hi)
      simp (decide := true) only [bX12_curve_106, f139_28, a152, f139_29, a153, ob_s, b2_s, tc_r, tc_l, F_sF, A_sF, R_sF, L_sF, F_sA, A_sA, R_sA, L_sA, F_sR, A_sR, R_sR, L_sR, F_sL, A_sL, R_sL, L_sL, and_true, true_and, and_false, false_and, and_self, reduceIte, sF_sF, sA_sA, false_or, or_false, true_or, or_true, not_false_eq_true, not_true_eq_false, decide_true, decide_false, Bool.true_or, Bool.or_true, Bool.false_and, Bool.true_and, Bool.false_or, Bool.or_false, Bool.and_true, Bool.and_false, n_in2 hc (by decide), n_idx (show c < 2147483648 by omega), e, q1, e8, n_in2 (show 8 * c + i < 256 by omega) (by decide), n_idx (show 8 * c + i < 2147483648 by omega), q2, n_suc]
    · by_cases q : p = n
      · have q1 : Int32.ofNat n ≤ Int32.ofNat p := by rw [n_le (by omega) (by omega)]; omega
        simp (decide := true) only [bX12_curve_106, f139_28, a152, f139_29, a153, ob_s, b2_s, tc_r, tc_l, F_sF, A_sF, R_sF, L_sF, F_sA, A_sA, R_sA, L_sA, F_sR, A_sR, R_sR, L_sR, F_sL, A_sL, R_sL, L_sL, and_true, true_and, and_false, false_and, and_self, reduceIte, sF_sF, sA_sA, false_or, or_false, true_or, or_true, not_false_eq_true, not_true_eq_false, decide_true, decide_false, Bool.true_or, Bool.or_true, Bool.false_and, Bool.true_and, Bool.false_or, Bool.or_false, Bool.and_true, Bool.and_false, n_in2 hc (by decide), n_idx (show c < 2147483648 by omega), e, q1]
      · have q1 : ¬ Int32.ofNat n ≤ Int32.ofNat p := by rw [n_le (by omega) (by omega)]; omega
        have q2 : x ≤ s.2.1 153 (8 * c + p) := h2.resolve_left q
        simp (decide := true) only [bX12_curve_106, f139_28, a152, f139_29, a153, ob_s, b2_s, tc_r, tc_l, F_sF, A_sF, R_sF, L_sF, F_sA, A_sA, R_sA, L_sA, F_sR, A_sR, R_sR, L_sR, F_sL, A_sL, R_sL, L_sL, and_true, true_and, and_false, false_and, and_self, reduceIte, sF_sF, sA_sA, false_or, or_false, true_or, or_true, not_false_eq_true, not_true_eq_false, decide_true, decide_false, Bool.true_or, Bool.or_true, Bool.false_and, Bool.true_and, Bool.false_or, Bool.or_false, Bool.and_true, Bool.and_false, n_in2 hc (by decide), n_idx (show c < 2147483648 by omega), e, q1, e8, n_in2 (show 8 * c + p < 256 by omega) (by decide), n_idx (show 8 * c + p < 2147483648 by omega), q2]
  have c8 : Int32.ofNat n = 8 ↔ n = 8 := n_eq (b := 8) (by omega) (by omega)
  rw [hl, ob_s]
  have no : ¬ (p < n ∧ s.2.1 153 (8 * c + p) = x) → jX12_curve_174 (e_g s g) 139 x y (Int32.ofNat c) (Int32.ofNat p) = if n = 8 then some (0, e_g (sF s 139 0 2) g) else some (Int32.ofNat (n + 1), e_g (fg12 (cvM (sF s 139 0 0) c n p x y)) g) := by
    intro q0
    by_cases q8 : n = 8
    · simp (decide := true) only [jX12_curve_174, jX12_curve_175, jX12_curve_200, f139_28, a152, n_in2 hc (by decide), n_idx (show c < 2147483648 by omega), e, c8, q8, w139_0, f139_0, ob_s, b2_s, tc_r, tc_l, F_sF, A_sF, R_sF, L_sF, F_sA, A_sA, R_sA, L_sA, F_sR, A_sR, R_sR, L_sR, F_sL, A_sL, R_sL, L_sL, and_true, true_and, and_false, false_and, and_self, reduceIte, sF_sF, sA_sA, false_or, or_false, true_or, or_true, not_false_eq_true, not_true_eq_false, decide_true, decide_false, Bool.true_or, Bool.or_true, Bool.false_and, Bool.true_and, Bool.false_or, Bool.or_false, Bool.and_true, Bool.and_false]
    · have sh := bend12s (s := sF s 139 0 0) (g := g) (x := x) (y := y) hc (show n ≤ 7 by omega) hp rfl
      have l1 : 8 * c + p < 256 := by omega
      have ev : cvM (sF s 139 0 0) c n p x y = sA (sA (sA (sF s 139 0 0) 153 (upd (shf (s.2.1 153) (8 * c) p n) (8 * c + p) x)) 154 (upd (shf (s.2.1 154) (8 * c) p n) (8 * c + p) y)) 152 (upd (s.2.1 152) c (Int32.ofNat (n + 1))) := by
        unfold cvM
        simp (decide := true) only [ob_s, b2_s, tc_r, tc_l, F_sF, A_sF, R_sF, L_sF, F_sA, A_sA, R_sA, L_sA, F_sR, A_sR, R_sR, L_sR, F_sL, A_sL, R_sL, L_sL, and_true, true_and, and_false, false_and, and_self, reduceIte, sF_sF, sA_sA, false_or, or_false, true_or, or_true, not_false_eq_true, not_true_eq_false, decide_true, decide_false, Bool.true_or, Bool.or_true, Bool.false_and, Bool.true_and, Bool.false_or, Bool.or_false, Bool.and_true, Bool.and_false, q0]
      rw [if_neg q8, ev]
      simp (decide := true) only [jX12_curve_174, jX12_curve_175, jX12_curve_199, jX12_curve_200, jX12_curve_306, f139_28, f139_29, f139_30, a152, u152, u153, u154, n_in2 hc (by decide), n_idx (show c < 2147483648 by omega), e, c8, q8, w139_0, f139_0, sh, e8, n_in2 l1 (by decide), n_idx (show 8 * c + p < 2147483648 by omega), n_suc, ob139, forget12, upd_s, fg12, ob_s, b2_s, tc_r, tc_l, F_sF, A_sF, R_sF, L_sF, F_sA, A_sA, R_sA, L_sA, F_sR, A_sR, R_sR, L_sR, F_sL, A_sL, R_sL, L_sL, and_true, true_and, and_false, false_and, and_self, reduceIte, sF_sF, sA_sA, false_or, or_false, true_or, or_true, not_false_eq_true, not_true_eq_false, decide_true, decide_false, Bool.true_or, Bool.or_true, Bool.false_and, Bool.true_and, Bool.false_or, Bool.or_false, Bool.and_true, Bool.and_false]
      congr 3
      rw [sA_cm (i := 152) (j := 153) (by decide), sA_32 (by decide), sA_cm (i := 152) (j := 154) (by decide)]
      simp (decide := true) only [ob_s, b2_s, tc_r, tc_l, F_sF, A_sF, R_sF, L_sF, F_sA, A_sA, R_sA, L_sA, F_sR, A_sR, R_sR, L_sR, F_sL, A_sL, R_sL, L_sL, and_true, true_and, and_false, false_and, and_self, reduceIte, sF_sF, sA_sA, false_or, or_false, true_or, or_true, not_false_eq_true, not_true_eq_false, decide_true, decide_false, Bool.true_or, Bool.or_true, Bool.false_and, Bool.true_and, Bool.false_or, Bool.or_false, Bool.and_true, Bool.and_false]
  by_cases q : p = n
  · have q0 : ¬ (p < n ∧ s.2.1 153 (8 * c + p) = x) := by omega
    have q1 : Int32.ofNat n ≤ Int32.ofNat p := by rw [n_le (by omega) (by omega)]; omega
    have := no q0
    by_cases q8 : n = 8
    · rw [if_pos ⟨q0, q8⟩]
      rw [if_pos q8] at this
      simp (decide := true) only [jX12_curve_141, f139_28, a152, n_in2 hc (by decide), n_idx (show c < 2147483648 by omega), e, q1, this, ob_s, b2_s, tc_r, tc_l, F_sF, A_sF, R_sF, L_sF, F_sA, A_sA, R_sA, L_sA, F_sR, A_sR, R_sR, L_sR, F_sL, A_sL, R_sL, L_sL, and_true, true_and, and_false, false_and, and_self, reduceIte, sF_sF, sA_sA, false_or, or_false, true_or, or_true, not_false_eq_true, not_true_eq_false, decide_true, decide_false, Bool.true_or, Bool.or_true, Bool.false_and, Bool.true_and, Bool.false_or, Bool.or_false, Bool.and_true, Bool.and_false]
    · rw [if_neg (fun z => q8 z.2), if_neg q0]
      rw [if_neg q8] at this
      simp (decide := true) only [jX12_curve_141, f139_28, a152, n_in2 hc (by decide), n_idx (show c < 2147483648 by omega), e, q1, this, ob_s, b2_s, tc_r, tc_l, F_sF, A_sF, R_sF, L_sF, F_sA, A_sA, R_sA, L_sA, F_sR, A_sR, R_sR, L_sR, F_sL, A_sL, R_sL, L_sL, and_true, true_and, and_false, false_and, and_self, reduceIte, sF_sF, sA_sA, false_or, or_false, true_or, or_true, not_false_eq_true, not_true_eq_false, decide_true, decide_false, Bool.true_or, Bool.or_true, Bool.false_and, Bool.true_and, Bool.false_or, Bool.or_false, Bool.and_true, Bool.and_false]
  · have q1 : ¬ Int32.ofNat n ≤ Int32.ofNat p := by rw [n_le (by omega) (by omega)]; omega
    have l1 : 8 * c + p < 256 := by omega
    by_cases q2 : s.2.1 153 (8 * c + p) = x
    · have q0 : p < n ∧ s.2.1 153 (8 * c + p) = x := ⟨by omega, q2⟩
      have ev : cvM (sF s 139 0 0) c n p x y = sA (sA (sF s 139 0 0) 153 (upd (s.2.1 153) (8 * c + p) x)) 154 (upd (s.2.1 154) (8 * c + p) y) := by
        unfold cvM
        simp (decide := true) only [ob_s, b2_s, tc_r, tc_l, F_sF, A_sF, R_sF, L_sF, F_sA, A_sA, R_sA, L_sA, F_sR, A_sR, R_sR, L_sR, F_sL, A_sL, R_sL, L_sL, and_true, true_and, and_false, false_and, and_self, reduceIte, sF_sF, sA_sA, false_or, or_false, true_or, or_true, not_false_eq_true, not_true_eq_false, decide_true, decide_false, Bool.true_or, Bool.or_true, Bool.false_and, Bool.true_and, Bool.false_or, Bool.or_false, Bool.and_true, Bool.and_false, q0.1, q2]
      rw [if_neg (fun z => z.1 q0), if_pos q0, ev]
      simp (decide := true) only [jX12_curve_141, jX12_curve_175, jX12_curve_199, jX12_curve_200, jX12_curve_306, f139_28, f139_29, f139_30, a152, a153, u153, u154, n_in2 hc (by decide), n_idx (show c < 2147483648 by omega), e, q1, e8, n_in2 l1 (by decide), n_idx (show 8 * c + p < 2147483648 by omega), q2, w139_0, f139_0, ob139, forget12, fg12, ob_s, b2_s, tc_r, tc_l, F_sF, A_sF, R_sF, L_sF, F_sA, A_sA, R_sA, L_sA, F_sR, A_sR, R_sR, L_sR, F_sL, A_sL, R_sL, L_sL, and_true, true_and, and_false, false_and, and_self, reduceIte, sF_sF, sA_sA, false_or, or_false, true_or, or_true, not_false_eq_true, not_true_eq_false, decide_true, decide_false, Bool.true_or, Bool.or_true, Bool.false_and, Bool.true_and, Bool.false_or, Bool.or_false, Bool.and_true, Bool.and_false]
    · have q0 : ¬ (p < n ∧ s.2.1 153 (8 * c + p) = x) := fun z => q2 z.2
      have := no q0
      by_cases q8 : n = 8
      · rw [if_pos ⟨q0, q8⟩]
        rw [if_pos q8] at this
        simp (decide := true) only [jX12_curve_141, f139_28, f139_29, a152, a153, n_in2 hc (by decide), n_idx (show c < 2147483648 by omega), e, q1, e8, n_in2 l1 (by decide), n_idx (show 8 * c + p < 2147483648 by omega), q2, this, ob_s, b2_s, tc_r, tc_l, F_sF, A_sF, R_sF, L_sF, F_sA, A_sA, R_sA, L_sA, F_sR, A_sR, R_sR, L_sR, F_sL, A_sL, R_sL, L_sL, and_true, true_and, and_false, false_and, and_self, reduceIte, sF_sF, sA_sA, false_or, or_false, true_or, or_true, not_false_eq_true, not_true_eq_false, decide_true, decide_false, Bool.true_or, Bool.or_true, Bool.false_and, Bool.true_and, Bool.false_or, Bool.or_false, Bool.and_true, Bool.and_false]
      · rw [if_neg (fun z => q8 z.2), if_neg q0]
        rw [if_neg q8] at this
        simp (decide := true) only [jX12_curve_141, f139_28, f139_29, a152, a153, n_in2 hc (by decide), n_idx (show c < 2147483648 by omega), e, q1, e8, n_in2 l1 (by decide), n_idx (show 8 * c + p < 2147483648 by omega), q2, this, ob_s, b2_s, tc_r, tc_l, F_sF, A_sF, R_sF, L_sF, F_sA, A_sA, R_sA, L_sA, F_sR, A_sR, R_sR, L_sR, F_sL, A_sL, R_sL, L_sL, and_true, true_and, and_false, false_and, and_self, reduceIte, sF_sF, sA_sA, false_or, or_false, true_or, or_true, not_false_eq_true, not_true_eq_false, decide_true, decide_false, Bool.true_or, Bool.or_true, Bool.false_and, Bool.true_and, Bool.false_or, Bool.or_false, Bool.and_true, Bool.and_false]
theorem shf_in {f : Nat → Int32} {b p n k : Nat} (h1 : p < k) (h2 : k ≤ n) : shf f b p n (b + k) = f (b + (k - 1)) := by
  unfold shf
  rw [if_pos (by omega)]
  congr 1; omega
theorem shf_out {f : Nat → Int32} {b p n k : Nat} (h : ¬ (b + p < k ∧ k ≤ b + n)) : shf f b p n k = f k := if_neg h
/-- one POINT more keeps a CURVE in order -/
theorem curve_ins {X Y X' Y' : Nat → Int32} {b n p : Nat} {x y : Int32} (hx : rg x 0 255 = true) (hy : rg y 0 255 = true) (hp : p ≤ n) (h : ∀ k, k < n → X (b + k) = X' (b + k) ∧ Y (b + k) = Y' (b + k) ∧ rg (X' (b + k)) 0 255 ∧ rg (Y' (b + k)) 0 255 ∧ (0 < k → X' (b + k - 1) < X' (b + k))) (h1 : ∀ i, i < p → X' (b + i) < x) (h2 : p < n → x < X' (b + p)) : ∀ k, k < n + 1 → upd (shf X b p n) (b + p) x (b + k) = upd (shf X' b p n) (b + p) x (b + k) ∧ upd (shf Y b p n) (b + p) y (b + k) = upd (shf Y' b p n) (b + p) y (b + k) ∧ rg (upd (shf X' b p n) (b + p) x (b + k)) 0 255 ∧ rg (upd (shf Y' b p n) (b + p) y (b + k)) 0 255 ∧ (0 < k → upd (shf X' b p n) (b + p) x (b + k - 1) < upd (shf X' b p n) (b + p) x (b + k)) := by
  intro k hk
  by_cases k1 : k = p
  · rw [k1, upd_s, upd_s, upd_s, upd_s]
    refine ⟨rfl, rfl, hx, hy, fun hz => ?_⟩
    rw [upd_n (by omega), shf_lo (by omega), show b + p - 1 = b + (p - 1) by omega]
    exact h1 _ (by omega)
  · rw [upd_n (by omega), upd_n (by omega), upd_n (by omega), upd_n (by omega)]
    by_cases k2 : k < p
    · rw [shf_lo (by omega), shf_lo (by omega), shf_lo (by omega), shf_lo (by omega)]
      obtain ⟨a1, a2, a3, a4, a5⟩ := h k (by omega)
      refine ⟨a1, a2, a3, a4, fun hz => ?_⟩
      rw [upd_n (by omega), shf_lo (by omega)]
      exact a5 hz
    · rw [shf_in (by omega) (by omega), shf_in (by omega) (by omega), shf_in (by omega) (by omega), shf_in (by omega) (by omega)]
      obtain ⟨a1, a2, a3, a4, a5⟩ := h (k - 1) (by omega)
      refine ⟨a1, a2, a3, a4, fun hz => ?_⟩
      by_cases k3 : k - 1 = p
      · rw [show b + k - 1 = b + p by omega, upd_s, k3]
        exact h2 (by omega)
      · rw [upd_n (by omega), show b + k - 1 = b + (k - 1) by omega, shf_in (by omega) (by omega)]
        have := a5 (by omega)
        rw [show b + (k - 1) - 1 = b + (k - 1 - 1) by omega] at this
        exact this
theorem curve_set {X Y X' Y' : Nat → Int32} {b n p : Nat} {x y : Int32} (hx : X' (b + p) = x) (hy : rg y 0 255 = true) (h : ∀ k, k < n → X (b + k) = X' (b + k) ∧ Y (b + k) = Y' (b + k) ∧ rg (X' (b + k)) 0 255 ∧ rg (Y' (b + k)) 0 255 ∧ (0 < k → X' (b + k - 1) < X' (b + k))) : ∀ k, k < n → X (b + k) = upd X' (b + p) x (b + k) ∧ upd Y (b + p) y (b + k) = upd Y' (b + p) y (b + k) ∧ rg (upd X' (b + p) x (b + k)) 0 255 ∧ rg (upd Y' (b + p) y (b + k)) 0 255 ∧ (0 < k → upd X' (b + p) x (b + k - 1) < upd X' (b + p) x (b + k)) := by
  have e : upd X' (b + p) x = X' := by
    funext j
    rw [upd_r]
    by_cases q : j = b + p
    · rw [if_pos q, q, hx]
    · rw [if_neg q]
  rw [e]
  intro k hk
  obtain ⟨a1, a2, a3, a4, a5⟩ := h k hk
  refine ⟨a1, ?_, a3, ?_, a5⟩
  · rw [upd_r, upd_r]
    by_cases q : b + k = b + p
    · rw [if_pos q, if_pos q]
    · rw [if_neg q, if_neg q]; exact a2
  · rw [upd_r]
    by_cases q : b + k = b + p
    · rw [if_pos q]; exact hy
    · rw [if_neg q]; exact a4
def vOk (k c x y : Int32) : Bool := rg k 0 7 && rg c 0 3 && (decide (x = -1) || (rg x 0 255 && rg y 0 255))
theorem x_cases {x : Int32} : rg x (-1) 255 = (decide (x = -1) || rg x 0 255) := by
  rw [Bool.eq_iff_iff, Bool.or_eq_true, rg_i, rg_i, decide_eq_true_iff, i_eq]
  show (-1 ≤ x.toInt ∧ x.toInt ≤ 255) ↔ (x.toInt = -1 ∨ (0 ≤ x.toInt ∧ x.toInt ≤ 255))
  omega
theorem curve11a {s : e_S} {g : ps_G} {k c x y : Int32} (hg : 195 ≤ g.1) : fX11_curve (e_g s g) 8 k c x y = if vOk k c x y then jX11_curve_34 (e_g s g) 8 k c x y else some (.inl "java/lang/IllegalArgumentException", e_g s (nx g)) := by
  by_cases a1 : rg k 0 7
  · by_cases a2 : rg c 0 3
    · by_cases a3 : x = -1
      · have z : rg (-1) (-1) 255 = true := by decide
        simp (decide := true) only [fX11_curve, rng hg, a1, a2, a3, z, vOk, ob_s, b2_s, tc_r, tc_l, F_sF, A_sF, R_sF, L_sF, F_sA, A_sA, R_sA, L_sA, F_sR, A_sR, R_sR, L_sR, F_sL, A_sL, R_sL, L_sL, and_true, true_and, and_false, false_and, and_self, reduceIte, sF_sF, sA_sA, false_or, or_false, true_or, or_true, not_false_eq_true, not_true_eq_false, decide_true, decide_false, Bool.true_or, Bool.or_true, Bool.false_and, Bool.true_and, Bool.false_or, Bool.or_false, Bool.and_true, Bool.and_false]
      · by_cases a4 : rg x 0 255
        · have z : rg x (-1) 255 = true := by rw [x_cases, a4, Bool.or_true]
          have z2 : ¬ x < 0 := by
            have := rg_i.mp a4
            rw [i_lt]
            have q : 0 ≤ x.toInt := this.1
            rw [i_0]; omega
          by_cases a5 : rg y 0 255 <;> simp (decide := true) only [fX11_curve, rng hg, a1, a2, a3, a4, a5, z, z2, vOk, ob_s, b2_s, tc_r, tc_l, F_sF, A_sF, R_sF, L_sF, F_sA, A_sA, R_sA, L_sA, F_sR, A_sR, R_sR, L_sR, F_sL, A_sL, R_sL, L_sL, and_true, true_and, and_false, false_and, and_self, reduceIte, sF_sF, sA_sA, false_or, or_false, true_or, or_true, not_false_eq_true, not_true_eq_false, decide_true, decide_false, Bool.true_or, Bool.or_true, Bool.false_and, Bool.true_and, Bool.false_or, Bool.or_false, Bool.and_true, Bool.and_false]
        · have z : rg x (-1) 255 = false := by
            rw [x_cases, decide_eq_false a3]
            cases q : rg x 0 255 with
            | true => exact absurd q a4
            | false => rfl
          simp (decide := true) only [fX11_curve, rng hg, a1, a2, a3, a4, z, vOk, ob_s, b2_s, tc_r, tc_l, F_sF, A_sF, R_sF, L_sF, F_sA, A_sA, R_sA, L_sA, F_sR, A_sR, R_sR, L_sR, F_sL, A_sL, R_sL, L_sL, and_true, true_and, and_false, false_and, and_self, reduceIte, sF_sF, sA_sA, false_or, or_false, true_or, or_true, not_false_eq_true, not_true_eq_false, decide_true, decide_false, Bool.true_or, Bool.or_true, Bool.false_and, Bool.true_and, Bool.false_or, Bool.or_false, Bool.and_true, Bool.and_false]
    · simp (decide := true) only [fX11_curve, rng hg, a1, a2, vOk, ob_s, b2_s, tc_r, tc_l, F_sF, A_sF, R_sF, L_sF, F_sA, A_sA, R_sA, L_sA, F_sR, A_sR, R_sR, L_sR, F_sL, A_sL, R_sL, L_sL, and_true, true_and, and_false, false_and, and_self, reduceIte, sF_sF, sA_sA, false_or, or_false, true_or, or_true, not_false_eq_true, not_true_eq_false, decide_true, decide_false, Bool.true_or, Bool.or_true, Bool.false_and, Bool.true_and, Bool.false_or, Bool.or_false, Bool.and_true, Bool.and_false]
  · simp (decide := true) only [fX11_curve, rng hg, a1, vOk, ob_s, b2_s, tc_r, tc_l, F_sF, A_sF, R_sF, L_sF, F_sA, A_sA, R_sA, L_sA, F_sR, A_sR, R_sR, L_sR, F_sL, A_sL, R_sL, L_sL, and_true, true_and, and_false, false_and, and_self, reduceIte, sF_sF, sA_sA, false_or, or_false, true_or, or_true, not_false_eq_true, not_true_eq_false, decide_true, decide_false, Bool.true_or, Bool.or_true, Bool.false_and, Bool.true_and, Bool.false_or, Bool.or_false, Bool.and_true, Bool.and_false]
theorem curve12a {s : e_S} {g : ps_G} {k c x y : Int32} : fX12_curve (e_g s g) 139 k c x y = jX12_curve_52 (e_g s g) 139 k c x y (if vOk k c x y then 1 else 0) := by
  by_cases a1 : rg k 0 7
  · by_cases a2 : rg c 0 3
    · by_cases a3 : x = -1
      · simp (decide := true) only [fX12_curve, jX12_curve_47, jX12_curve_51, rin, a1, a2, a3, vOk, ob_s, b2_s, tc_r, tc_l, F_sF, A_sF, R_sF, L_sF, F_sA, A_sA, R_sA, L_sA, F_sR, A_sR, R_sR, L_sR, F_sL, A_sL, R_sL, L_sL, and_true, true_and, and_false, false_and, and_self, reduceIte, sF_sF, sA_sA, false_or, or_false, true_or, or_true, not_false_eq_true, not_true_eq_false, decide_true, decide_false, Bool.true_or, Bool.or_true, Bool.false_and, Bool.true_and, Bool.false_or, Bool.or_false, Bool.and_true, Bool.and_false]
      · by_cases a4 : rg x 0 255
        · by_cases a5 : rg y 0 255 <;> simp (decide := true) only [fX12_curve, jX12_curve_47, jX12_curve_51, rin, a1, a2, a3, a4, a5, vOk, ob_s, b2_s, tc_r, tc_l, F_sF, A_sF, R_sF, L_sF, F_sA, A_sA, R_sA, L_sA, F_sR, A_sR, R_sR, L_sR, F_sL, A_sL, R_sL, L_sL, and_true, true_and, and_false, false_and, and_self, reduceIte, sF_sF, sA_sA, false_or, or_false, true_or, or_true, not_false_eq_true, not_true_eq_false, decide_true, decide_false, Bool.true_or, Bool.or_true, Bool.false_and, Bool.true_and, Bool.false_or, Bool.or_false, Bool.and_true, Bool.and_false]
        · simp (decide := true) only [fX12_curve, jX12_curve_47, jX12_curve_51, rin, a1, a2, a3, a4, vOk, ob_s, b2_s, tc_r, tc_l, F_sF, A_sF, R_sF, L_sF, F_sA, A_sA, R_sA, L_sA, F_sR, A_sR, R_sR, L_sR, F_sL, A_sL, R_sL, L_sL, and_true, true_and, and_false, false_and, and_self, reduceIte, sF_sF, sA_sA, false_or, or_false, true_or, or_true, not_false_eq_true, not_true_eq_false, decide_true, decide_false, Bool.true_or, Bool.or_true, Bool.false_and, Bool.true_and, Bool.false_or, Bool.or_false, Bool.and_true, Bool.and_false]
    · simp (decide := true) only [fX12_curve, jX12_curve_47, jX12_curve_51, rin, a1, a2, vOk, ob_s, b2_s, tc_r, tc_l, F_sF, A_sF, R_sF, L_sF, F_sA, A_sA, R_sA, L_sA, F_sR, A_sR, R_sR, L_sR, F_sL, A_sL, R_sL, L_sL, and_true, true_and, and_false, false_and, and_self, reduceIte, sF_sF, sA_sA, false_or, or_false, true_or, or_true, not_false_eq_true, not_true_eq_false, decide_true, decide_false, Bool.true_or, Bool.or_true, Bool.false_and, Bool.true_and, Bool.false_or, Bool.or_false, Bool.and_true, Bool.and_false]
  · simp (decide := true) only [fX12_curve, jX12_curve_47, jX12_curve_51, rin, a1, vOk, ob_s, b2_s, tc_r, tc_l, F_sF, A_sF, R_sF, L_sF, F_sA, A_sA, R_sA, L_sA, F_sR, A_sR, R_sR, L_sR, F_sL, A_sL, R_sL, L_sL, and_true, true_and, and_false, false_and, and_self, reduceIte, sF_sF, sA_sA, false_or, or_false, true_or, or_true, not_false_eq_true, not_true_eq_false, decide_true, decide_false, Bool.true_or, Bool.or_true, Bool.false_and, Bool.true_and, Bool.false_or, Bool.or_false, Bool.and_true, Bool.and_false]
/-- the rest of the relation, where CURVES alone have changed and TILES are forgotten -/
theorem rel_curve {s s' : e_S} {g : ps_G} (hR : Rel s g) (h4 : G4 s') (hA : ∀ j, j ∈ reA → ¬ (j = 15 ∨ j = 16 ∨ j = 17 ∨ j = 152 ∨ j = 153 ∨ j = 154 ∨ j = 87 ∨ j = 88 ∨ j = 148) → s'.2.1 j = s.2.1 j) (hF : ∀ p, p ∈ reF → ¬ p = (20, 5) → s'.1 p.1 p.2 = s.1 p.1 p.2) (hr : ∀ j, j = 8 ∨ j = 12 ∨ j = 13 → s'.2.2.1 j = s.2.2.1 j) (t1 : ∀ t, t < 9 → s'.2.1 148 t = 0) (t2 : ∀ t, t < 9 → s'.2.1 88 t = 0) (t3 : s'.1 20 5 = 0) : Rel s' g := by
  obtain ⟨h1, h2, h3, -, h5, h6, ⟨w, h, h7, h8, h9⟩, h10, h11⟩ := hR
  have A := fun j (hj : reA.contains j = true) (hn : ¬ (j = 15 ∨ j = 16 ∨ j = 17 ∨ j = 152 ∨ j = 153 ∨ j = 154 ∨ j = 87 ∨ j = 88 ∨ j = 148)) => hA j (List.contains_iff_mem.mp hj) hn
  have F := fun j k (hj : reF.contains (j, k) = true) (hn : ¬ (j, k) = (20, 5)) => hF (j, k) (List.contains_iff_mem.mp hj) hn
  dsimp only at F
  have r8 := hr 8 (Or.inl rfl)
  have r12 := hr 12 (Or.inr (Or.inl rfl))
  have r13 := hr 13 (Or.inr (Or.inr rfl))
  refine ⟨?_, ?_, ?_, h4, ?_, ?_, ⟨w, h, ?_, G8_forget h7.2.1 h7.2.2.2.1 ?_ t1 t2 t3, ?_⟩, ?_, ?_⟩
  · unfold G1 at h1 ⊢
    rw [F 8 14 (by decide) (by decide), F 139 2 (by decide) (by decide), F 8 15 (by decide) (by decide), F 139 4 (by decide) (by decide), F 8 16 (by decide) (by decide), F 139 5 (by decide) (by decide), A 137 (by decide) (by decide), A 140 (by decide) (by decide)]
    exact h1
  · unfold G2 at h2 ⊢
    rw [F 93 0 (by decide) (by decide), F 93 1 (by decide) (by decide), F 93 2 (by decide) (by decide), F 93 3 (by decide) (by decide), F 93 4 (by decide) (by decide), F 93 5 (by decide) (by decide), F 93 6 (by decide) (by decide), F 93 7 (by decide) (by decide), F 93 8 (by decide) (by decide), F 139 34 (by decide) (by decide), F 139 36 (by decide) (by decide), F 139 37 (by decide) (by decide), F 139 38 (by decide) (by decide), F 139 39 (by decide) (by decide), F 139 40 (by decide) (by decide), F 139 41 (by decide) (by decide), F 139 42 (by decide) (by decide), F 139 43 (by decide) (by decide), A 94 (by decide) (by decide), A 95 (by decide) (by decide), A 96 (by decide) (by decide), A 159 (by decide) (by decide), A 160 (by decide) (by decide), A 161 (by decide) (by decide)]
    exact h2
  · unfold G3 at h3 ⊢
    rw [F 14 4 (by decide) (by decide), F 14 5 (by decide) (by decide), F 139 25 (by decide) (by decide), F 139 26 (by decide) (by decide), A 18 (by decide) (by decide), A 150 (by decide) (by decide)]
    exact h3
  · unfold G5 at h5 ⊢
    rw [A 112 (by decide) (by decide), A 113 (by decide) (by decide), A 173 (by decide) (by decide), A 180 (by decide) (by decide)]
    exact h5
  · unfold G6 at h6 ⊢
    rw [A 99 (by decide) (by decide), A 100 (by decide) (by decide), A 101 (by decide) (by decide), A 102 (by decide) (by decide), A 103 (by decide) (by decide), A 104 (by decide) (by decide), A 163 (by decide) (by decide), A 164 (by decide) (by decide), A 165 (by decide) (by decide), A 166 (by decide) (by decide), A 171 (by decide) (by decide), A 172 (by decide) (by decide)]
    exact h6
  · unfold G7 at h7 ⊢
    rw [F 139 13 (by decide) (by decide), F 139 14 (by decide) (by decide), F 89 0 (by decide) (by decide), F 89 1 (by decide) (by decide), A 90 (by decide) (by decide), A 155 (by decide) (by decide)]
    exact h7
  · rw [F 20 8 (by decide) (by decide), F 139 23 (by decide) (by decide)]; exact h8.1
  · unfold G10 at h9 ⊢
    rw [F 8 2 (by decide) (by decide), F 8 4 (by decide) (by decide), F 139 10 (by decide) (by decide), F 139 11 (by decide) (by decide), F 139 12 (by decide) (by decide), A 142 (by decide) (by decide), A 143 (by decide) (by decide), r8, r12, r13]
    exact h9
  · unfold G9 at h10 ⊢
    rw [F 122 1 (by decide) (by decide), F 139 7 (by decide) (by decide), A 123 (by decide) (by decide), A 141 (by decide) (by decide)]
    exact h10
  · unfold G11 at h11 ⊢
    rw [A 182 (by decide) (by decide), A 183 (by decide) (by decide), A 184 (by decide) (by decide), A 185 (by decide) (by decide), A 186 (by decide) (by decide)]
    exact h11
