-- needs: 07 10 13 14 20 21 22 23 24 25 26 27 32 38 45 52 53 54 58 70 71 72
/-! ===== FILTERS: a whole picture ===== -/
noncomputable def flV (kind n : Int32) (R : Int32 → Int32 → Int32) (K : Nat → Int32) (dv os x y : Int32) : Int32 := if kind = 0 then sfV R n x y else if kind = 2 then 0 ||| q_shl (mdV R x y 24) 24 ||| q_shl (mdV R x y 16) 16 ||| q_shl (mdV R x y 8) 8 ||| q_shl (mdV R x y 0) 0 else if kind = 3 then fX11_pack (q_ush (R x y) 24) (edV R x y) (edV R x y) (edV R x y) else if kind = 5 then R (x / n * n) (y / n * n) else if kind = 12 then huV (R x y) n else fcV kind n R K dv os x y
def FOk (kind n : Int32) : Prop := (kind = 0 ∧ ∃ m : Nat, m ≤ 4 ∧ n = Int32.ofNat m) ∨ (kind = 5 ∧ 0 < n.toInt) ∨ (kind = 7 ∧ 1 < n.toInt ∧ n.toInt ≤ 64) ∨ ((kind = 1 ∨ kind = 6 ∨ kind = 9 ∨ kind = 12 ∨ kind = 13) ∧ rg n 0 255 = true) ∨ (kind = 2 ∨ kind = 3 ∨ kind = 4 ∨ kind = 8 ∨ kind = 10 ∨ kind = 11)
theorem fOk_F {kind n : Int32} (h1 : rg kind 0 13 = true) (h2 : rg n (fX5_leastAmount kind) (fX5_greatestAmount kind) = true) : FOk kind n := by
  have hk : kind = 0 ∨ kind = 1 ∨ kind = 2 ∨ kind = 3 ∨ kind = 4 ∨ kind = 5 ∨ kind = 6 ∨ kind = 7 ∨ kind = 8 ∨ kind = 9 ∨ kind = 10 ∨ kind = 11 ∨ kind = 12 ∨ kind = 13 := by
    rw [rg_i] at h1
    have a : 0 ≤ kind.toInt := h1.1
    have b : kind.toInt ≤ 13 := h1.2
    obtain ⟨n, rfl, hn⟩ : ∃ n : Nat, kind = Int32.ofNat n ∧ n < 14 := ⟨kind.toInt.toNat, n_of (by omega), by omega⟩
    have : n = 0 ∨ n = 1 ∨ n = 2 ∨ n = 3 ∨ n = 4 ∨ n = 5 ∨ n = 6 ∨ n = 7 ∨ n = 8 ∨ n = 9 ∨ n = 10 ∨ n = 11 ∨ n = 12 ∨ n = 13 := by omega
    rcases this with rfl | rfl | rfl | rfl | rfl | rfl | rfl | rfl | rfl | rfl | rfl | rfl | rfl | rfl <;> decide
  unfold FOk
  rcases hk with rfl | rfl | rfl | rfl | rfl | rfl | rfl | rfl | rfl | rfl | rfl | rfl | rfl | rfl
  · have e1 : fX5_leastAmount 0 = 1 := by decide
    have e2 : fX5_greatestAmount 0 = 4 := by decide
    rw [e1, e2, rg_i] at h2
    have a : 1 ≤ n.toInt := h2.1
    have b : n.toInt ≤ 4 := h2.2
    exact Or.inl ⟨rfl, n.toInt.toNat, by omega, n_of (by omega)⟩
  · exact Or.inr (Or.inr (Or.inr (Or.inl ⟨Or.inl rfl, h2⟩)))
  · exact Or.inr (Or.inr (Or.inr (Or.inr (Or.inl rfl))))
  · exact Or.inr (Or.inr (Or.inr (Or.inr (Or.inr (Or.inl rfl)))))
  · exact Or.inr (Or.inr (Or.inr (Or.inr (Or.inr (Or.inr (Or.inl rfl))))))
  · have e1 : fX5_leastAmount 5 = 2 := by decide
    rw [e1, rg_i] at h2
    have a : 2 ≤ n.toInt := h2.1
    exact Or.inr (Or.inl ⟨rfl, by omega⟩)
  · exact Or.inr (Or.inr (Or.inr (Or.inl ⟨Or.inr (Or.inl rfl), h2⟩)))
  · have e1 : fX5_leastAmount 7 = 2 := by decide
    have e2 : fX5_greatestAmount 7 = 64 := by decide
    rw [e1, e2, rg_i] at h2
    have a : 2 ≤ n.toInt := h2.1
    have b : n.toInt ≤ 64 := h2.2
    exact Or.inr (Or.inr (Or.inl ⟨rfl, by omega, b⟩))
  · exact Or.inr (Or.inr (Or.inr (Or.inr (Or.inr (Or.inr (Or.inr (Or.inl rfl)))))))
  · exact Or.inr (Or.inr (Or.inr (Or.inl ⟨Or.inr (Or.inr (Or.inl rfl)), h2⟩)))
  · exact Or.inr (Or.inr (Or.inr (Or.inr (Or.inr (Or.inr (Or.inr (Or.inr (Or.inl rfl))))))))
  · exact Or.inr (Or.inr (Or.inr (Or.inr (Or.inr (Or.inr (Or.inr (Or.inr (Or.inr rfl))))))))
  · exact Or.inr (Or.inr (Or.inr (Or.inl ⟨Or.inr (Or.inr (Or.inr (Or.inl rfl))), h2⟩)))
  · exact Or.inr (Or.inr (Or.inr (Or.inl ⟨Or.inr (Or.inr (Or.inr (Or.inr rfl))), h2⟩)))
theorem apply5l {s : e_S} {g : ps_G} {a to w h : Nat} {kind n : Int32} {F : Nat → Int32} (tt : e_tb[to]? = some (2, 576, [])) (t8 : 8 ≤ to) (t19 : ¬ to = 19) (t18 : ¬ to = 18) (hk : FOk kind n) (hw1 : 1 ≤ w) (hh1 : 1 ≤ h) (hw : w ≤ 24) (hh : h ≤ 24) (e7 : s.2.2.1 14 7 = some a) (e8 : s.1 14 8 = Int32.ofNat w) (e9 : s.1 14 9 = Int32.ofNat h) (hd : 0 < (s.1 14 4).toInt) (hF : ∀ f t i, q_aI (e_g (sA (sA s to f) 19 t) g) a i = if i < 0 ∨ 576 ≤ i.toNatClampNeg then none else some (F i.toNatClampNeg)) : ∃ t', q_lp (fun t => bX5_apply_50 14 kind n to t.1 t.2) ((0 : Int32), e_g s g) = some (e_g (sA (sA s to (cpT (s.2.1 to) (fun k => flV kind n (nr F w h) (s.2.1 18) (s.1 14 4) (s.1 14 5) (Int32.ofNat (k % w)) (Int32.ofNat (k / w))) 0 (h * w))) 19 t') g) := by
  have hwh := wh_le hw hh
  have key := fill2 (τ := Nat → Int32) (fun t f => e_g (sA (sA s to f) 19 t) g) 0 w h (fun k => flV kind n (nr F w h) (s.2.1 18) (s.1 14 4) (s.1 14 5) (Int32.ofNat (k % w)) (Int32.ofNat (k / w))) (s.2.1 to) (bI := fun y t => bX5_apply_62 14 kind n to y t.1 t.2) (bO := fun t => bX5_apply_50 14 kind n to t.1 t.2) (fun t f y x hy hx _ => ?_) (fun t f y hy => ?_) (fun t f y hy => ?_) (fun t f => ?_) (s.2.1 19)
  · obtain ⟨t', ht⟩ := key
    have e1 : sA (sA s to (s.2.1 to)) 19 (s.2.1 19) = s := by rw [sA_id, sA_id]
    rw [e1] at ht
    exact ⟨t', ht⟩
  · have hlt := at_lt hx hy
    rw [(md (y := y) hx).1, (md (y := y) hx).2]
    generalize hR : nr F w h = R
    have q1 := nle hx (show w < 2147483648 by omega)
    have f8 : ∀ f t, (sA (sA s to f) 19 t).1 = s.1 := fun f t => by rw [F_sA, F_sA]
    have f7 : ∀ f t, (sA (sA s to f) 19 t).2.2.1 = s.2.2.1 := fun f t => by rw [R_sA, R_sA]
    have a18' : ∀ f t, (sA (sA s to f) 19 t).2.1 18 = s.2.1 18 := fun f t => by rw [A_sA, if_neg (by decide), A_sA, if_neg (fun e => t18 e.symm)]
    have ato : ∀ f t, (sA (sA s to f) 19 t).2.1 to = f := fun f t => by rw [A_sA, if_neg t19, A_sA, if_pos rfl]
    have nr5 : ∀ f t x y, fX5_near (e_g (sA (sA s to f) 19 t) g) 14 x y = some (R x y) := by
      intro f t x y
      rw [← hR]
      exact near5 hw1 hh1 hw hh (by rw [f7]; exact e7) (by rw [f8]; exact e8) (by rw [f8]; exact e9) (fun i => hF f t i)
    have wr : ∀ f t v, q_wI (e_g (sA (sA s to f) 19 t) g) to (Int32.ofNat y * Int32.ofNat w + Int32.ofNat x) v = some (e_g (sA (sA s to (upd f (y * w + x) v)) 19 t) g) := by
      intro f t v
      rw [n_mul, n_add, e_wI tt t8, if_neg (n_in (show y * w + x < 576 by omega) (by decide)), n_idx (by omega), ato, sA_cm (fun e => t19 e.symm), sA_sA]
    have rd : ∀ f t, q_aI (e_g (sA (sA s to f) 19 t) g) a (Int32.ofNat y * Int32.ofNat w + Int32.ofNat x) = some (R (Int32.ofNat x) (Int32.ofNat y)) := by
      intro f t
      rw [n_mul, n_add, hF, if_neg (n_in (show y * w + x < 576 by omega) (by decide)), n_idx (by omega), ← hR, nr_in hw hh hx hy]
    have g7 : ∀ f t, q_fR 5 7 (e_g (sA (sA s to f) 19 t) g) 14 = some (some a) := fun f t => by rw [f14_7, f7, e7]
    have g8 : ∀ f t, q_fI 5 8 (e_g (sA (sA s to f) 19 t) g) 14 = some (Int32.ofNat w) := fun f t => by rw [f14_8, f8, e8]
    rcases hk with ⟨rfl, m, hm, rfl⟩ | ⟨rfl, hn⟩ | ⟨rfl, hn, hn2⟩ | ⟨hk, hn⟩ | hk
    · refine ⟨t, ?_⟩
      have sf := soft5 (X := x) (Y := y) (m := m) (by omega) (by omega) hm (nr5 f t)
      simp (decide := true) only [bX5_apply_62, jX5_apply_361_62, g8, q1, ob14, sf, wr, n_suc, flV, Nat.zero_add, ob_n, b2_n, tc_rn, tc_ln, F_sF, A_sF, R_sF, L_sF, F_sA, A_sA, R_sA, L_sA, F_sR, A_sR, R_sR, L_sR, F_sL, A_sL, R_sL, L_sL, and_true, true_and, and_false, false_and, and_self, reduceIte, sF_sF, sA_sA, false_or, or_false, true_or, or_true, not_false_eq_true, not_true_eq_false, decide_true, decide_false, Bool.true_or, Bool.or_true, Bool.false_and, Bool.true_and, Bool.false_or, Bool.or_false, Bool.and_true, Bool.and_false]
    · refine ⟨t, ?_⟩
      have e0 : (0 : Int32).toInt = 0 := rfl
      have n1 : ¬ n ≤ 0 := by rw [i_le, e0]; omega
      have n2 : ¬ n = 0 := by rw [i_eq, e0]; omega
      simp (decide := true) only [bX5_apply_62, jX5_apply_361_62, jX5_apply_279_62, g8, q1, n1, n2, q_div, ob14, nr5, wr, n_suc, flV, Nat.zero_add, ob_n, b2_n, tc_rn, tc_ln, F_sF, A_sF, R_sF, L_sF, F_sA, A_sA, R_sA, L_sA, F_sR, A_sR, R_sR, L_sR, F_sL, A_sL, R_sL, L_sL, and_true, true_and, and_false, false_and, and_self, reduceIte, sF_sF, sA_sA, false_or, or_false, true_or, or_true, not_false_eq_true, not_true_eq_false, decide_true, decide_false, Bool.true_or, Bool.or_true, Bool.false_and, Bool.true_and, Bool.false_or, Bool.or_false, Bool.and_true, Bool.and_false]
    · refine ⟨t, ?_⟩
      have e1 : (1 : Int32).toInt = 1 := rfl
      have e0 : (0 : Int32).toInt = 0 := rfl
      have al := alone5 (g := e_g (sA (sA s to f) 19 t) g) (R := R) (K := s.2.1 18) (kind := 7) (n := n) (dv := s.1 14 4) (os := s.1 14 5) (x := Int32.ofNat x) (y := Int32.ofNat y) (Or.inr (Or.inl rfl)) (fun _ => ⟨by rw [i_le, e1]; omega, by rw [i_eq, i_sub (by rw [e1]; omega) (by rw [e1]; omega), e1, e0]; omega⟩)
      simp (decide := true) only [bX5_apply_62, jX5_apply_361_62, g8, g7, rd, q1, al, wr, n_suc, flV, Nat.zero_add, ob_n, b2_n, tc_rn, tc_ln, F_sF, A_sF, R_sF, L_sF, F_sA, A_sA, R_sA, L_sA, F_sR, A_sR, R_sR, L_sR, F_sL, A_sL, R_sL, L_sL, and_true, true_and, and_false, false_and, and_self, reduceIte, sF_sF, sA_sA, false_or, or_false, true_or, or_true, not_false_eq_true, not_true_eq_false, decide_true, decide_false, Bool.true_or, Bool.or_true, Bool.false_and, Bool.true_and, Bool.false_or, Bool.or_false, Bool.and_true, Bool.and_false]
    · rcases hk with rfl | rfl | rfl | rfl | rfl
      · refine ⟨t, ?_⟩
        have sf := soft5 (X := x) (Y := y) (m := 1) (by omega) (by omega) (by omega) (nr5 f t)
        have sf' : fX5_soft (e_g (sA (sA s to f) 19 t) g) 14 (Int32.ofNat x) (Int32.ofNat y) 1 = some (sfV R 1 (Int32.ofNat x) (Int32.ofNat y)) := sf
        have sp := sharp5 (g := e_g (sA (sA s to f) 19 t) g) (R := R) (K := s.2.1 18) (n := n) (dv := s.1 14 4) (os := s.1 14 5) (x := Int32.ofNat x) (y := Int32.ofNat y)
        simp (decide := true) only [bX5_apply_62, jX5_apply_361_62, g8, g7, rd, q1, ob14, sf', sp, wr, n_suc, flV, Nat.zero_add, ob_n, b2_n, tc_rn, tc_ln, F_sF, A_sF, R_sF, L_sF, F_sA, A_sA, R_sA, L_sA, F_sR, A_sR, R_sR, L_sR, F_sL, A_sL, R_sL, L_sL, and_true, true_and, and_false, false_and, and_self, reduceIte, sF_sF, sA_sA, false_or, or_false, true_or, or_true, not_false_eq_true, not_true_eq_false, decide_true, decide_false, Bool.true_or, Bool.or_true, Bool.false_and, Bool.true_and, Bool.false_or, Bool.or_false, Bool.and_true, Bool.and_false]
      · refine ⟨t, ?_⟩
        have al := alone5 (g := e_g (sA (sA s to f) 19 t) g) (R := R) (K := s.2.1 18) (kind := 6) (n := n) (dv := s.1 14 4) (os := s.1 14 5) (x := Int32.ofNat x) (y := Int32.ofNat y) (Or.inl rfl) (fun e => absurd e (by decide))
        simp (decide := true) only [bX5_apply_62, jX5_apply_361_62, g8, g7, rd, q1, al, wr, n_suc, flV, Nat.zero_add, ob_n, b2_n, tc_rn, tc_ln, F_sF, A_sF, R_sF, L_sF, F_sA, A_sA, R_sA, L_sA, F_sR, A_sR, R_sR, L_sR, F_sL, A_sL, R_sL, L_sL, and_true, true_and, and_false, false_and, and_self, reduceIte, sF_sF, sA_sA, false_or, or_false, true_or, or_true, not_false_eq_true, not_true_eq_false, decide_true, decide_false, Bool.true_or, Bool.or_true, Bool.false_and, Bool.true_and, Bool.false_or, Bool.or_false, Bool.and_true, Bool.and_false]
      · refine ⟨t, ?_⟩
        obtain ⟨l1, l2⟩ := lifted5 (g := e_g (sA (sA s to f) 19 t) g) (R := R) (K := s.2.1 18) (dv := s.1 14 4) (os := s.1 14 5) (x := Int32.ofNat x) (y := Int32.ofNat y) hn
        simp (decide := true) only [bX5_apply_62, jX5_apply_361_62, g8, g7, rd, q1, l1, l2, wr, n_suc, flV, Nat.zero_add, ob_n, b2_n, tc_rn, tc_ln, F_sF, A_sF, R_sF, L_sF, F_sA, A_sA, R_sA, L_sA, F_sR, A_sR, R_sR, L_sR, F_sL, A_sL, R_sL, L_sL, and_true, true_and, and_false, false_and, and_self, reduceIte, sF_sF, sA_sA, false_or, or_false, true_or, or_true, not_false_eq_true, not_true_eq_false, decide_true, decide_false, Bool.true_or, Bool.or_true, Bool.false_and, Bool.true_and, Bool.false_or, Bool.or_false, Bool.and_true, Bool.and_false]
      · refine ⟨t, ?_⟩
        simp (decide := true) only [bX5_apply_62, jX5_apply_361_62, g8, g7, rd, q1, hue5, wr, n_suc, flV, Nat.zero_add, ob_n, b2_n, tc_rn, tc_ln, F_sF, A_sF, R_sF, L_sF, F_sA, A_sA, R_sA, L_sA, F_sR, A_sR, R_sR, L_sR, F_sL, A_sL, R_sL, L_sL, and_true, true_and, and_false, false_and, and_self, reduceIte, sF_sF, sA_sA, false_or, or_false, true_or, or_true, not_false_eq_true, not_true_eq_false, decide_true, decide_false, Bool.true_or, Bool.or_true, Bool.false_and, Bool.true_and, Bool.false_or, Bool.or_false, Bool.and_true, Bool.and_false]
      · refine ⟨t, ?_⟩
        have al := alone5 (g := e_g (sA (sA s to f) 19 t) g) (R := R) (K := s.2.1 18) (kind := 13) (n := n) (dv := s.1 14 4) (os := s.1 14 5) (x := Int32.ofNat x) (y := Int32.ofNat y) (Or.inr (Or.inr (Or.inr (Or.inr rfl)))) (fun e => absurd e (by decide))
        simp (decide := true) only [bX5_apply_62, jX5_apply_361_62, g8, g7, rd, q1, al, wr, n_suc, flV, Nat.zero_add, ob_n, b2_n, tc_rn, tc_ln, F_sF, A_sF, R_sF, L_sF, F_sA, A_sA, R_sA, L_sA, F_sR, A_sR, R_sR, L_sR, F_sL, A_sL, R_sL, L_sL, and_true, true_and, and_false, false_and, and_self, reduceIte, sF_sF, sA_sA, false_or, or_false, true_or, or_true, not_false_eq_true, not_true_eq_false, decide_true, decide_false, Bool.true_or, Bool.or_true, Bool.false_and, Bool.true_and, Bool.false_or, Bool.or_false, Bool.and_true, Bool.and_false]
    · rcases hk with rfl | rfl | rfl | rfl | rfl | rfl
      · obtain ⟨t', h1⟩ := middle5 (s := sA s to f) (g := g) (R := R) (x := Int32.ofNat x) (y := Int32.ofNat y) (f := t) (fun t x y => nr5 f t x y)
        refine ⟨t', ?_⟩
        simp (decide := true) only [bX5_apply_62, jX5_apply_361_62, g8, q1, ob14, h1, wr, n_suc, flV, Nat.zero_add, ob_n, b2_n, tc_rn, tc_ln, F_sF, A_sF, R_sF, L_sF, F_sA, A_sA, R_sA, L_sA, F_sR, A_sR, R_sR, L_sR, F_sL, A_sL, R_sL, L_sL, and_true, true_and, and_false, false_and, and_self, reduceIte, sF_sF, sA_sA, false_or, or_false, true_or, or_true, not_false_eq_true, not_true_eq_false, decide_true, decide_false, Bool.true_or, Bool.or_true, Bool.false_and, Bool.true_and, Bool.false_or, Bool.or_false, Bool.and_true, Bool.and_false]
      · obtain ⟨t', h1⟩ := edges5 (s := sA s to f) (g := g) (R := R) (x := Int32.ofNat x) (y := Int32.ofNat y) (f := t) (fun t x y => nr5 f t x y)
        refine ⟨t', ?_⟩
        simp (decide := true) only [bX5_apply_62, jX5_apply_361_62, g8, q1, ob14, h1, wr, n_suc, flV, Nat.zero_add, ob_n, b2_n, tc_rn, tc_ln, F_sF, A_sF, R_sF, L_sF, F_sA, A_sA, R_sA, L_sA, F_sR, A_sR, R_sR, L_sR, F_sL, A_sL, R_sL, L_sL, and_true, true_and, and_false, false_and, and_self, reduceIte, sF_sF, sA_sA, false_or, or_false, true_or, or_true, not_false_eq_true, not_true_eq_false, decide_true, decide_false, Bool.true_or, Bool.or_true, Bool.false_and, Bool.true_and, Bool.false_or, Bool.or_false, Bool.and_true, Bool.and_false]
      · refine ⟨t, ?_⟩
        have ra := raised5 (K := s.2.1 18) (n := n) (dv := s.1 14 4) (os := s.1 14 5) (x := Int32.ofNat x) (y := Int32.ofNat y) (nr5 f t)
        simp (decide := true) only [bX5_apply_62, jX5_apply_361_62, g8, q1, ob14, ra, wr, n_suc, flV, Nat.zero_add, ob_n, b2_n, tc_rn, tc_ln, F_sF, A_sF, R_sF, L_sF, F_sA, A_sA, R_sA, L_sA, F_sR, A_sR, R_sR, L_sR, F_sL, A_sL, R_sL, L_sL, and_true, true_and, and_false, false_and, and_self, reduceIte, sF_sF, sA_sA, false_or, or_false, true_or, or_true, not_false_eq_true, not_true_eq_false, decide_true, decide_false, Bool.true_or, Bool.or_true, Bool.false_and, Bool.true_and, Bool.false_or, Bool.or_false, Bool.and_true, Bool.and_false]
      · refine ⟨t, ?_⟩
        have al := alone5 (g := e_g (sA (sA s to f) 19 t) g) (R := R) (K := s.2.1 18) (kind := 8) (n := n) (dv := s.1 14 4) (os := s.1 14 5) (x := Int32.ofNat x) (y := Int32.ofNat y) (Or.inr (Or.inr (Or.inl rfl))) (fun e => absurd e (by decide))
        simp (decide := true) only [bX5_apply_62, jX5_apply_361_62, g8, g7, rd, q1, al, wr, n_suc, flV, Nat.zero_add, ob_n, b2_n, tc_rn, tc_ln, F_sF, A_sF, R_sF, L_sF, F_sA, A_sA, R_sA, L_sA, F_sR, A_sR, R_sR, L_sR, F_sL, A_sL, R_sL, L_sL, and_true, true_and, and_false, false_and, and_self, reduceIte, sF_sF, sA_sA, false_or, or_false, true_or, or_true, not_false_eq_true, not_true_eq_false, decide_true, decide_false, Bool.true_or, Bool.or_true, Bool.false_and, Bool.true_and, Bool.false_or, Bool.or_false, Bool.and_true, Bool.and_false]
      · refine ⟨t, ?_⟩
        have ke := kern5 (n := n) (x := Int32.ofNat x) (y := Int32.ofNat y) (nr5 f t) (by rw [f8]; exact hd)
        rw [f8, a18'] at ke
        simp (decide := true) only [bX5_apply_62, jX5_apply_361_62, g8, q1, ob14, ke, wr, n_suc, flV, Nat.zero_add, ob_n, b2_n, tc_rn, tc_ln, F_sF, A_sF, R_sF, L_sF, F_sA, A_sA, R_sA, L_sA, F_sR, A_sR, R_sR, L_sR, F_sL, A_sL, R_sL, L_sL, and_true, true_and, and_false, false_and, and_self, reduceIte, sF_sF, sA_sA, false_or, or_false, true_or, or_true, not_false_eq_true, not_true_eq_false, decide_true, decide_false, Bool.true_or, Bool.or_true, Bool.false_and, Bool.true_and, Bool.false_or, Bool.or_false, Bool.and_true, Bool.and_false]
      · refine ⟨t, ?_⟩
        have al := alone5 (g := e_g (sA (sA s to f) 19 t) g) (R := R) (K := s.2.1 18) (kind := 11) (n := n) (dv := s.1 14 4) (os := s.1 14 5) (x := Int32.ofNat x) (y := Int32.ofNat y) (Or.inr (Or.inr (Or.inr (Or.inl rfl)))) (fun e => absurd e (by decide))
        simp (decide := true) only [bX5_apply_62, jX5_apply_361_62, g8, g7, rd, q1, al, wr, n_suc, flV, Nat.zero_add, ob_n, b2_n, tc_rn, tc_ln, F_sF, A_sF, R_sF, L_sF, F_sA, A_sA, R_sA, L_sA, F_sR, A_sR, R_sR, L_sR, F_sL, A_sL, R_sL, L_sL, and_true, true_and, and_false, false_and, and_self, reduceIte, sF_sF, sA_sA, false_or, or_false, true_or, or_true, not_false_eq_true, not_true_eq_false, decide_true, decide_false, Bool.true_or, Bool.or_true, Bool.false_and, Bool.true_and, Bool.false_or, Bool.or_false, Bool.and_true, Bool.and_false]
  · have g8 : q_fI 5 8 (e_g (sA (sA s to f) 19 t) g) 14 = some (Int32.ofNat w) := by rw [f14_8, F_sA, F_sA, e8]
    simp (decide := true) only [bX5_apply_62, g8, nlr (show w < 2147483648 by omega), ob_n, b2_n, tc_rn, tc_ln, F_sF, A_sF, R_sF, L_sF, F_sA, A_sA, R_sA, L_sA, F_sR, A_sR, R_sR, L_sR, F_sL, A_sL, R_sL, L_sL, and_true, true_and, and_false, false_and, and_self, reduceIte, sF_sF, sA_sA, false_or, or_false, true_or, or_true, not_false_eq_true, not_true_eq_false, decide_true, decide_false, Bool.true_or, Bool.or_true, Bool.false_and, Bool.true_and, Bool.false_or, Bool.or_false, Bool.and_true, Bool.and_false]
  · have g9 : q_fI 5 9 (e_g (sA (sA s to f) 19 t) g) 14 = some (Int32.ofNat h) := by rw [f14_9, F_sA, F_sA, e9]
    simp (decide := true) only [bX5_apply_50, g9, nle hy (by omega), ob_n, b2_n, tc_rn, tc_ln, F_sF, A_sF, R_sF, L_sF, F_sA, A_sA, R_sA, L_sA, F_sR, A_sR, R_sR, L_sR, F_sL, A_sL, R_sL, L_sL, and_true, true_and, and_false, false_and, and_self, reduceIte, sF_sF, sA_sA, false_or, or_false, true_or, or_true, not_false_eq_true, not_true_eq_false, decide_true, decide_false, Bool.true_or, Bool.or_true, Bool.false_and, Bool.true_and, Bool.false_or, Bool.or_false, Bool.and_true, Bool.and_false]
  · have g9 : q_fI 5 9 (e_g (sA (sA s to f) 19 t) g) 14 = some (Int32.ofNat h) := by rw [f14_9, F_sA, F_sA, e9]
    simp (decide := true) only [bX5_apply_50, g9, nlr (show h < 2147483648 by omega), ob_n, b2_n, tc_rn, tc_ln, F_sF, A_sF, R_sF, L_sF, F_sA, A_sA, R_sA, L_sA, F_sR, A_sR, R_sR, L_sR, F_sL, A_sL, R_sL, L_sL, and_true, true_and, and_false, false_and, and_self, reduceIte, sF_sF, sA_sA, false_or, or_false, true_or, or_true, not_false_eq_true, not_true_eq_false, decide_true, decide_false, Bool.true_or, Bool.or_true, Bool.false_and, Bool.true_and, Bool.false_or, Bool.or_false, Bool.and_true, Bool.and_false]
theorem within_n {v a b : Nat} (h1 : a ≤ v) (h2 : v ≤ b) (hb : b < 2147483648) : fX11_within (Int32.ofNat v) (Int32.ofNat a) (Int32.ofNat b) = Int32.ofNat v := by
  unfold fX11_within
  rw [if_pos (by rw [n_le (by omega) (by omega)]; exact h1), if_pos (by rw [n_le (by omega) (by omega)]; exact h2)]
/-- what apply leaves of the looks -/
def apS (s : e_S) (a w h : Nat) : e_S := sF (sF (sR s 14 7 (some a)) 14 8 (Int32.ofNat w)) 14 9 (Int32.ofNat h)
theorem apply5 {s : e_S} {g : ps_G} {a to w h : Nat} {kind n : Int32} {F : Nat → Int32} (tt : e_tb[to]? = some (2, 576, [])) (t8 : 8 ≤ to) (t19 : ¬ to = 19) (t18 : ¬ to = 18) (hk : FOk kind n) (hw1 : 1 ≤ w) (hh1 : 1 ≤ h) (hw : w ≤ 24) (hh : h ≤ 24) (hd : 0 < (s.1 14 4).toInt) (hl : q_len (e_g s g) a = some 576) (hF : ∀ f t i, q_aI (e_g (sA (sA (apS s a w h) to f) 19 t) g) a i = if i < 0 ∨ 576 ≤ i.toNatClampNeg then none else some (F i.toNatClampNeg)) : ∃ t', fX5_apply (e_g s g) 14 kind n a to (Int32.ofNat w) (Int32.ofNat h) = some (e_g (sA (sA (apS s a w h) to (cpT (s.2.1 to) (fun k => flV kind n (nr F w h) (s.2.1 18) (s.1 14 4) (s.1 14 5) (Int32.ofNat (k % w)) (Int32.ofNat (k / w))) 0 (h * w))) 19 t') g) := by
  have w1 : fX11_within (Int32.ofNat w) 1 24 = Int32.ofNat w := within_n (a := 1) (b := 24) hw1 hw (by decide)
  have w2 : fX11_within (Int32.ofNat h) 1 24 = Int32.ofNat h := within_n (a := 1) (b := 24) hh1 hh (by decide)
  have e4 : (apS s a w h).1 14 4 = s.1 14 4 := by unfold apS; simp (decide := true) only [ob_n, b2_n, tc_rn, tc_ln, F_sF, A_sF, R_sF, L_sF, F_sA, A_sA, R_sA, L_sA, F_sR, A_sR, R_sR, L_sR, F_sL, A_sL, R_sL, L_sL, and_true, true_and, and_false, false_and, and_self, reduceIte, sF_sF, sA_sA, false_or, or_false, true_or, or_true, not_false_eq_true, not_true_eq_false, decide_true, decide_false, Bool.true_or, Bool.or_true, Bool.false_and, Bool.true_and, Bool.false_or, Bool.or_false, Bool.and_true, Bool.and_false]
  have e5 : (apS s a w h).1 14 5 = s.1 14 5 := by unfold apS; simp (decide := true) only [ob_n, b2_n, tc_rn, tc_ln, F_sF, A_sF, R_sF, L_sF, F_sA, A_sA, R_sA, L_sA, F_sR, A_sR, R_sR, L_sR, F_sL, A_sL, R_sL, L_sL, and_true, true_and, and_false, false_and, and_self, reduceIte, sF_sF, sA_sA, false_or, or_false, true_or, or_true, not_false_eq_true, not_true_eq_false, decide_true, decide_false, Bool.true_or, Bool.or_true, Bool.false_and, Bool.true_and, Bool.false_or, Bool.or_false, Bool.and_true, Bool.and_false]
  have eA : (apS s a w h).2.1 = s.2.1 := by unfold apS; simp (decide := true) only [ob_n, b2_n, tc_rn, tc_ln, F_sF, A_sF, R_sF, L_sF, F_sA, A_sA, R_sA, L_sA, F_sR, A_sR, R_sR, L_sR, F_sL, A_sL, R_sL, L_sL, and_true, true_and, and_false, false_and, and_self, reduceIte, sF_sF, sA_sA, false_or, or_false, true_or, or_true, not_false_eq_true, not_true_eq_false, decide_true, decide_false, Bool.true_or, Bool.or_true, Bool.false_and, Bool.true_and, Bool.false_or, Bool.or_false, Bool.and_true, Bool.and_false]
  obtain ⟨t', ht⟩ := apply5l (s := apS s a w h) (g := g) (kind := kind) (n := n) tt t8 t19 t18 hk hw1 hh1 hw hh (by unfold apS; simp (decide := true) only [ob_n, b2_n, tc_rn, tc_ln, F_sF, A_sF, R_sF, L_sF, F_sA, A_sA, R_sA, L_sA, F_sR, A_sR, R_sR, L_sR, F_sL, A_sL, R_sL, L_sL, and_true, true_and, and_false, false_and, and_self, reduceIte, sF_sF, sA_sA, false_or, or_false, true_or, or_true, not_false_eq_true, not_true_eq_false, decide_true, decide_false, Bool.true_or, Bool.or_true, Bool.false_and, Bool.true_and, Bool.false_or, Bool.or_false, Bool.and_true, Bool.and_false]) (by unfold apS; simp (decide := true) only [ob_n, b2_n, tc_rn, tc_ln, F_sF, A_sF, R_sF, L_sF, F_sA, A_sA, R_sA, L_sA, F_sR, A_sR, R_sR, L_sR, F_sL, A_sL, R_sL, L_sL, and_true, true_and, and_false, false_and, and_self, reduceIte, sF_sF, sA_sA, false_or, or_false, true_or, or_true, not_false_eq_true, not_true_eq_false, decide_true, decide_false, Bool.true_or, Bool.or_true, Bool.false_and, Bool.true_and, Bool.false_or, Bool.or_false, Bool.and_true, Bool.and_false]) (by unfold apS; simp (decide := true) only [ob_n, b2_n, tc_rn, tc_ln, F_sF, A_sF, R_sF, L_sF, F_sA, A_sA, R_sA, L_sA, F_sR, A_sR, R_sR, L_sR, F_sL, A_sL, R_sL, L_sL, and_true, true_and, and_false, false_and, and_self, reduceIte, sF_sF, sA_sA, false_or, or_false, true_or, or_true, not_false_eq_true, not_true_eq_false, decide_true, decide_false, Bool.true_or, Bool.or_true, Bool.false_and, Bool.true_and, Bool.false_or, Bool.or_false, Bool.and_true, Bool.and_false]) (by rw [e4]; exact hd) hF
  rw [e4, e5, eA] at ht
  refine ⟨t', ?_⟩
  have lt : q_len (e_g s g) to = some 576 := e_len tt
  have ae : sF (sF (sR s 14 7 (some a)) 14 8 (Int32.ofNat w)) 14 9 (Int32.ofNat h) = apS s a w h := rfl
  simp (decide := true) only [fX5_apply, hl, lt, w14_7, w14_8, w14_9, w1, w2, ae, ht, ob_n, b2_n, tc_rn, tc_ln, F_sF, A_sF, R_sF, L_sF, F_sA, A_sA, R_sA, L_sA, F_sR, A_sR, R_sR, L_sR, F_sL, A_sL, R_sL, L_sL, and_true, true_and, and_false, false_and, and_self, reduceIte, sF_sF, sA_sA, false_or, or_false, true_or, or_true, not_false_eq_true, not_true_eq_false, decide_true, decide_false, Bool.true_or, Bool.or_true, Bool.false_and, Bool.true_and, Bool.false_or, Bool.or_false, Bool.and_true, Bool.and_false]
theorem filtered12 {s : e_S} {g : ps_G} {w h X Y : Nat} {kind n : Int32} (hk : FOk kind n) (hw1 : 1 ≤ w) (hh1 : 1 ≤ h) (hw : w ≤ 24) (hh : h ≤ 24) (e8 : s.1 139 13 = Int32.ofNat w) (e9 : s.1 139 14 = Int32.ofNat h) (hX : X < w) (hY : Y < h) (hd : 0 < (s.1 139 25).toInt) : ∃ t', fX12_filtered (e_g s g) 139 kind n (Int32.ofNat X) (Int32.ofNat Y) = some (flV kind n (nr (s.2.1 147) w h) (s.2.1 150) (s.1 139 25) (s.1 139 26) (Int32.ofNat X) (Int32.ofNat Y), e_g (sA s 151 t') g) := by
  generalize hR : nr (s.2.1 147) w h = R
  have nrr : ∀ f x y, fX12_near (e_g (sA s 151 f) g) 139 x y = some (R x y) := by
    intro f x y
    have := near12 (s := sA s 151 f) (g := g) (x := x) (y := y) hw1 hh1 hw hh (by rw [F_sA]; exact e8) (by rw [F_sA]; exact e9)
    rw [A_sA, if_neg (by decide), hR] at this
    exact this
  have nr0 : ∀ x y, fX12_near (e_g s g) 139 x y = some (R x y) := by
    intro x y
    rw [← hR]
    exact near12 hw1 hh1 hw hh e8 e9
  have id0 : sA s 151 (s.2.1 151) = s := sA_id
  have al : ∀ c, q_shl (fX12_alpha c) 24 = c &&& -16777216 := fun c => hi_a
  have p0 : ∀ c, q_shr c 0 &&& 255 = c &&& 255 := fun c => by rw [shr_0]
  have grp : ∀ q d, (∀ k sh, (k = 0 ∧ sh = 16) ∨ (k = 1 ∧ sh = 8) ∨ (k = 2 ∧ sh = 0) → fX12_sampled (e_g s g) 139 kind n (q_shr (R (Int32.ofNat X) (Int32.ofNat Y)) sh &&& 255) (q_shr q sh &&& 255) d (Int32.ofNat X) (Int32.ofNat Y) k = some (fsV kind n R (s.2.1 150) (s.1 139 25) (s.1 139 26) (Int32.ofNat X) (Int32.ofNat Y) sh)) → jX12_filtered_274 (e_g s g) 139 kind n (Int32.ofNat X) (Int32.ofNat Y) (R (Int32.ofNat X) (Int32.ofNat Y)) (R (Int32.ofNat X) (Int32.ofNat Y) &&& -16777216) q d = some (fcV kind n R (s.2.1 150) (s.1 139 25) (s.1 139 26) (Int32.ofNat X) (Int32.ofNat Y), e_g s g) := by
    intro q d hs
    exact smp3 (hs 0 16 (Or.inl ⟨rfl, rfl⟩)) (hs 1 8 (Or.inr (Or.inl ⟨rfl, rfl⟩))) (hs 2 0 (Or.inr (Or.inr ⟨rfl, rfl⟩)))
  have pk : ∀ c k sh, (k = 0 ∧ sh = 16) ∨ (k = 1 ∧ sh = 8) ∨ (k = 2 ∧ sh = 0) → fX12_part c k = q_shr c sh &&& 255 := by
    intro c k sh hs
    rcases hs with ⟨rfl, rfl⟩ | ⟨rfl, rfl⟩ | ⟨rfl, rfl⟩ <;> simp (decide := true) only [fX12_part, reduceIte, z_160, z_161, z_162, z_163, z_168, z_88, z_08, z_01, z_11, z_21, z_31]
  rcases hk with ⟨rfl, m, hm, rfl⟩ | ⟨rfl, hn⟩ | ⟨rfl, hn, hn2⟩ | ⟨hk, hn⟩ | hk
  · refine ⟨s.2.1 151, ?_⟩
    have sf := soft12 (X := X) (Y := Y) (m := m) (by omega) (by omega) hm nr0
    simp (decide := true) only [fX12_filtered, ob139, nr0, sf, id0, flV, ob_n, b2_n, tc_rn, tc_ln, F_sF, A_sF, R_sF, L_sF, F_sA, A_sA, R_sA, L_sA, F_sR, A_sR, R_sR, L_sR, F_sL, A_sL, R_sL, L_sL, and_true, true_and, and_false, false_and, and_self, reduceIte, sF_sF, sA_sA, false_or, or_false, true_or, or_true, not_false_eq_true, not_true_eq_false, decide_true, decide_false, Bool.true_or, Bool.or_true, Bool.false_and, Bool.true_and, Bool.false_or, Bool.or_false, Bool.and_true, Bool.and_false]
  · refine ⟨s.2.1 151, ?_⟩
    have e0 : (0 : Int32).toInt = 0 := rfl
    have n2 : ¬ n = 0 := by rw [i_eq, e0]; omega
    simp (decide := true) only [fX12_filtered, ob139, nr0, n2, q_div, id0, flV, ob_n, b2_n, tc_rn, tc_ln, F_sF, A_sF, R_sF, L_sF, F_sA, A_sA, R_sA, L_sA, F_sR, A_sR, R_sR, L_sR, F_sL, A_sL, R_sL, L_sL, and_true, true_and, and_false, false_and, and_self, reduceIte, sF_sF, sA_sA, false_or, or_false, true_or, or_true, not_false_eq_true, not_true_eq_false, decide_true, decide_false, Bool.true_or, Bool.or_true, Bool.false_and, Bool.true_and, Bool.false_or, Bool.or_false, Bool.and_true, Bool.and_false]
  · refine ⟨s.2.1 151, ?_⟩
    have e1 : (1 : Int32).toInt = 1 := rfl
    have e0 : (0 : Int32).toInt = 0 := rfl
    have n2 : ¬ n - 1 = 0 := by rw [i_eq, i_sub (by rw [e1]; omega) (by rw [e1]; omega), e1, e0]; omega
    have gg := grp 0 0 (fun k sh hs => by simp (decide := true) only [fX12_sampled, n2, q_div, fsV, ob_n, b2_n, tc_rn, tc_ln, F_sF, A_sF, R_sF, L_sF, F_sA, A_sA, R_sA, L_sA, F_sR, A_sR, R_sR, L_sR, F_sL, A_sL, R_sL, L_sL, and_true, true_and, and_false, false_and, and_self, reduceIte, sF_sF, sA_sA, false_or, or_false, true_or, or_true, not_false_eq_true, not_true_eq_false, decide_true, decide_false, Bool.true_or, Bool.or_true, Bool.false_and, Bool.true_and, Bool.false_or, Bool.or_false, Bool.and_true, Bool.and_false])
    simp (decide := true) only [fX12_filtered, jX12_filtered_254, ob139, nr0, al, gg, id0, flV, ob_n, b2_n, tc_rn, tc_ln, F_sF, A_sF, R_sF, L_sF, F_sA, A_sA, R_sA, L_sA, F_sR, A_sR, R_sR, L_sR, F_sL, A_sL, R_sL, L_sL, and_true, true_and, and_false, false_and, and_self, reduceIte, sF_sF, sA_sA, false_or, or_false, true_or, or_true, not_false_eq_true, not_true_eq_false, decide_true, decide_false, Bool.true_or, Bool.or_true, Bool.false_and, Bool.true_and, Bool.false_or, Bool.or_false, Bool.and_true, Bool.and_false]
  · rcases hk with rfl | rfl | rfl | rfl | rfl
    · refine ⟨s.2.1 151, ?_⟩
      have sf := soft12 (X := X) (Y := Y) (m := 1) (by omega) (by omega) (by omega) nr0
      have sf' : fX12_soft (e_g s g) 139 1 (Int32.ofNat X) (Int32.ofNat Y) = some (sfV R 1 (Int32.ofNat X) (Int32.ofNat Y)) := sf
      have gg := grp (sfV R 1 (Int32.ofNat X) (Int32.ofNat Y)) 0 (fun k sh hs => by simp (decide := true) only [fX12_sampled, clip12, fsV, ob_n, b2_n, tc_rn, tc_ln, F_sF, A_sF, R_sF, L_sF, F_sA, A_sA, R_sA, L_sA, F_sR, A_sR, R_sR, L_sR, F_sL, A_sL, R_sL, L_sL, and_true, true_and, and_false, false_and, and_self, reduceIte, sF_sF, sA_sA, false_or, or_false, true_or, or_true, not_false_eq_true, not_true_eq_false, decide_true, decide_false, Bool.true_or, Bool.or_true, Bool.false_and, Bool.true_and, Bool.false_or, Bool.or_false, Bool.and_true, Bool.and_false])
      simp (decide := true) only [fX12_filtered, jX12_filtered_254, ob139, nr0, sf', al, gg, id0, flV, ob_n, b2_n, tc_rn, tc_ln, F_sF, A_sF, R_sF, L_sF, F_sA, A_sA, R_sA, L_sA, F_sR, A_sR, R_sR, L_sR, F_sL, A_sL, R_sL, L_sL, and_true, true_and, and_false, false_and, and_self, reduceIte, sF_sF, sA_sA, false_or, or_false, true_or, or_true, not_false_eq_true, not_true_eq_false, decide_true, decide_false, Bool.true_or, Bool.or_true, Bool.false_and, Bool.true_and, Bool.false_or, Bool.or_false, Bool.and_true, Bool.and_false]
    · refine ⟨s.2.1 151, ?_⟩
      by_cases z : fX11_luma (R (Int32.ofNat X) (Int32.ofNat Y)) < n
      · simp (decide := true) only [fX12_filtered, ob139, nr0, bright_k, z, id0, flV, fcV, fsV, colour_p, pack_c3, al, hi_a, fX12_alpha, ob_n, b2_n, tc_rn, tc_ln, F_sF, A_sF, R_sF, L_sF, F_sA, A_sA, R_sA, L_sA, F_sR, A_sR, R_sR, L_sR, F_sL, A_sL, R_sL, L_sL, and_true, true_and, and_false, false_and, and_self, reduceIte, sF_sF, sA_sA, false_or, or_false, true_or, or_true, not_false_eq_true, not_true_eq_false, decide_true, decide_false, Bool.true_or, Bool.or_true, Bool.false_and, Bool.true_and, Bool.false_or, Bool.or_false, Bool.and_true, Bool.and_false]
      · simp (decide := true) only [fX12_filtered, ob139, nr0, bright_k, z, id0, flV, fcV, fsV, colour_p, pack_c3, al, hi_a, fX12_alpha, ob_n, b2_n, tc_rn, tc_ln, F_sF, A_sF, R_sF, L_sF, F_sA, A_sA, R_sA, L_sA, F_sR, A_sR, R_sR, L_sR, F_sL, A_sL, R_sL, L_sL, and_true, true_and, and_false, false_and, and_self, reduceIte, sF_sF, sA_sA, false_or, or_false, true_or, or_true, not_false_eq_true, not_true_eq_false, decide_true, decide_false, Bool.true_or, Bool.or_true, Bool.false_and, Bool.true_and, Bool.false_or, Bool.or_false, Bool.and_true, Bool.and_false]
    · refine ⟨s.2.1 151, ?_⟩
      have gr := grain12 (s := s) (g := g) (x := Int32.ofNat X) (y := Int32.ofNat Y) hn
      have gg := grp 0 (gnV (Int32.ofNat X) (Int32.ofNat Y) n) (fun k sh hs => by simp (decide := true) only [fX12_sampled, clip12, fsV, ob_n, b2_n, tc_rn, tc_ln, F_sF, A_sF, R_sF, L_sF, F_sA, A_sA, R_sA, L_sA, F_sR, A_sR, R_sR, L_sR, F_sL, A_sL, R_sL, L_sL, and_true, true_and, and_false, false_and, and_self, reduceIte, sF_sF, sA_sA, false_or, or_false, true_or, or_true, not_false_eq_true, not_true_eq_false, decide_true, decide_false, Bool.true_or, Bool.or_true, Bool.false_and, Bool.true_and, Bool.false_or, Bool.or_false, Bool.and_true, Bool.and_false])
      simp (decide := true) only [fX12_filtered, jX12_filtered_254, ob139, nr0, al, gr, gg, id0, flV, ob_n, b2_n, tc_rn, tc_ln, F_sF, A_sF, R_sF, L_sF, F_sA, A_sA, R_sA, L_sA, F_sR, A_sR, R_sR, L_sR, F_sL, A_sL, R_sL, L_sL, and_true, true_and, and_false, false_and, and_self, reduceIte, sF_sF, sA_sA, false_or, or_false, true_or, or_true, not_false_eq_true, not_true_eq_false, decide_true, decide_false, Bool.true_or, Bool.or_true, Bool.false_and, Bool.true_and, Bool.false_or, Bool.or_false, Bool.and_true, Bool.and_false]
    · refine ⟨s.2.1 151, ?_⟩
      simp (decide := true) only [fX12_filtered, ob139, nr0, hue12, id0, flV, ob_n, b2_n, tc_rn, tc_ln, F_sF, A_sF, R_sF, L_sF, F_sA, A_sA, R_sA, L_sA, F_sR, A_sR, R_sR, L_sR, F_sL, A_sL, R_sL, L_sL, and_true, true_and, and_false, false_and, and_self, reduceIte, sF_sF, sA_sA, false_or, or_false, true_or, or_true, not_false_eq_true, not_true_eq_false, decide_true, decide_false, Bool.true_or, Bool.or_true, Bool.false_and, Bool.true_and, Bool.false_or, Bool.or_false, Bool.and_true, Bool.and_false]
    · refine ⟨s.2.1 151, ?_⟩
      have gg := grp 0 0 (fun k sh hs => by simp (decide := true) only [fX12_sampled, ob139, nr0, bright_k, clip12, fsV, ob_n, b2_n, tc_rn, tc_ln, F_sF, A_sF, R_sF, L_sF, F_sA, A_sA, R_sA, L_sA, F_sR, A_sR, R_sR, L_sR, F_sL, A_sL, R_sL, L_sL, and_true, true_and, and_false, false_and, and_self, reduceIte, sF_sF, sA_sA, false_or, or_false, true_or, or_true, not_false_eq_true, not_true_eq_false, decide_true, decide_false, Bool.true_or, Bool.or_true, Bool.false_and, Bool.true_and, Bool.false_or, Bool.or_false, Bool.and_true, Bool.and_false])
      simp (decide := true) only [fX12_filtered, jX12_filtered_254, ob139, nr0, al, gg, id0, flV, ob_n, b2_n, tc_rn, tc_ln, F_sF, A_sF, R_sF, L_sF, F_sA, A_sA, R_sA, L_sA, F_sR, A_sR, R_sR, L_sR, F_sL, A_sL, R_sL, L_sL, and_true, true_and, and_false, false_and, and_self, reduceIte, sF_sF, sA_sA, false_or, or_false, true_or, or_true, not_false_eq_true, not_true_eq_false, decide_true, decide_false, Bool.true_or, Bool.or_true, Bool.false_and, Bool.true_and, Bool.false_or, Bool.or_false, Bool.and_true, Bool.and_false]
  · rcases hk with rfl | rfl | rfl | rfl | rfl | rfl
    · obtain ⟨t0, h0⟩ := middle12 (s := s) (g := g) (R := R) (k := 0) (f := s.2.1 151) (show X < 24 by omega) (show Y < 24 by omega) nrr
      rw [id0] at h0
      obtain ⟨t1, h1⟩ := middle12 (s := s) (g := g) (R := R) (k := 1) (f := t0) (show X < 24 by omega) (show Y < 24 by omega) nrr
      obtain ⟨t2, h2⟩ := middle12 (s := s) (g := g) (R := R) (k := 2) (f := t1) (show X < 24 by omega) (show Y < 24 by omega) nrr
      obtain ⟨t3, h3⟩ := middle12 (s := s) (g := g) (R := R) (k := 3) (f := t2) (show X < 24 by omega) (show Y < 24 by omega) nrr
      refine ⟨t3, ?_⟩
      have m0 : med (fun j => fX12_part (ar9 R (Int32.ofNat X) (Int32.ofNat Y) j) 0) = mdV R (Int32.ofNat X) (Int32.ofNat Y) 16 := by
        exact congrArg med (funext fun j => pk _ 0 16 (Or.inl ⟨rfl, rfl⟩))
      have m1 : med (fun j => fX12_part (ar9 R (Int32.ofNat X) (Int32.ofNat Y) j) 1) = mdV R (Int32.ofNat X) (Int32.ofNat Y) 8 := by
        exact congrArg med (funext fun j => pk _ 1 8 (Or.inr (Or.inl ⟨rfl, rfl⟩)))
      have m2 : med (fun j => fX12_part (ar9 R (Int32.ofNat X) (Int32.ofNat Y) j) 2) = mdV R (Int32.ofNat X) (Int32.ofNat Y) 0 := by
        exact congrArg med (funext fun j => pk _ 2 0 (Or.inr (Or.inr ⟨rfl, rfl⟩)))
      have m3 : med (fun j => fX12_part (ar9 R (Int32.ofNat X) (Int32.ofNat Y) j) 3) = mdV R (Int32.ofNat X) (Int32.ofNat Y) 24 := by
        unfold mdV; congr 1; funext j
        have e3 : ∀ c, fX12_part c 3 = q_ush c 24 := fun c => by simp (decide := true) only [fX12_part, reduceIte]
        rw [e3, ← (@n_sh (ar9 R (Int32.ofNat X) (Int32.ofNat Y) j)).1]
        have hu := @ush_24 (ar9 R (Int32.ofNat X) (Int32.ofNat Y) j)
        generalize q_ush (ar9 R (Int32.ofNat X) (Int32.ofNat Y) j) 24 = u at hu
        obtain ⟨n, rfl, hn⟩ : ∃ n : Nat, u = Int32.ofNat n ∧ n < 256 := ⟨u.toInt.toNat, n_of (by omega), by omega⟩
        have : ∀ n : Fin 256, Int32.ofNat n.1 = Int32.ofNat n.1 &&& 255 := by decide +kernel
        exact this ⟨n, hn⟩
      simp (decide := true) only [fX12_filtered, ob139, nr0, h0, h1, h2, h3, m0, m1, m2, m3, flV, fX12_colour, shl_0, Int32.zero_or, ob_n, b2_n, tc_rn, tc_ln, F_sF, A_sF, R_sF, L_sF, F_sA, A_sA, R_sA, L_sA, F_sR, A_sR, R_sR, L_sR, F_sL, A_sL, R_sL, L_sL, and_true, true_and, and_false, false_and, and_self, reduceIte, sF_sF, sA_sA, false_or, or_false, true_or, or_true, not_false_eq_true, not_true_eq_false, decide_true, decide_false, Bool.true_or, Bool.or_true, Bool.false_and, Bool.true_and, Bool.false_or, Bool.or_false, Bool.and_true, Bool.and_false]
    · refine ⟨s.2.1 151, ?_⟩
      simp (decide := true) only [fX12_filtered, ob139, nr0, edges12 nr0, colour_p, fX12_alpha, id0, flV, ob_n, b2_n, tc_rn, tc_ln, F_sF, A_sF, R_sF, L_sF, F_sA, A_sA, R_sA, L_sA, F_sR, A_sR, R_sR, L_sR, F_sL, A_sL, R_sL, L_sL, and_true, true_and, and_false, false_and, and_self, reduceIte, sF_sF, sA_sA, false_or, or_false, true_or, or_true, not_false_eq_true, not_true_eq_false, decide_true, decide_false, Bool.true_or, Bool.or_true, Bool.false_and, Bool.true_and, Bool.false_or, Bool.or_false, Bool.and_true, Bool.and_false]
    · refine ⟨s.2.1 151, ?_⟩
      have gg := grp 0 0 (fun k sh hs => by simp (decide := true) only [fX12_sampled, ob139, nr0, pk _ k sh hs, clip12, fsV, ob_n, b2_n, tc_rn, tc_ln, F_sF, A_sF, R_sF, L_sF, F_sA, A_sA, R_sA, L_sA, F_sR, A_sR, R_sR, L_sR, F_sL, A_sL, R_sL, L_sL, and_true, true_and, and_false, false_and, and_self, reduceIte, sF_sF, sA_sA, false_or, or_false, true_or, or_true, not_false_eq_true, not_true_eq_false, decide_true, decide_false, Bool.true_or, Bool.or_true, Bool.false_and, Bool.true_and, Bool.false_or, Bool.or_false, Bool.and_true, Bool.and_false])
      simp (decide := true) only [fX12_filtered, jX12_filtered_254, ob139, nr0, al, gg, id0, flV, ob_n, b2_n, tc_rn, tc_ln, F_sF, A_sF, R_sF, L_sF, F_sA, A_sA, R_sA, L_sA, F_sR, A_sR, R_sR, L_sR, F_sL, A_sL, R_sL, L_sL, and_true, true_and, and_false, false_and, and_self, reduceIte, sF_sF, sA_sA, false_or, or_false, true_or, or_true, not_false_eq_true, not_true_eq_false, decide_true, decide_false, Bool.true_or, Bool.or_true, Bool.false_and, Bool.true_and, Bool.false_or, Bool.or_false, Bool.and_true, Bool.and_false]
    · refine ⟨s.2.1 151, ?_⟩
      have gg := grp 0 0 (fun k sh hs => by simp (decide := true) only [fX12_sampled, fsV, ob_n, b2_n, tc_rn, tc_ln, F_sF, A_sF, R_sF, L_sF, F_sA, A_sA, R_sA, L_sA, F_sR, A_sR, R_sR, L_sR, F_sL, A_sL, R_sL, L_sL, and_true, true_and, and_false, false_and, and_self, reduceIte, sF_sF, sA_sA, false_or, or_false, true_or, or_true, not_false_eq_true, not_true_eq_false, decide_true, decide_false, Bool.true_or, Bool.or_true, Bool.false_and, Bool.true_and, Bool.false_or, Bool.or_false, Bool.and_true, Bool.and_false])
      simp (decide := true) only [fX12_filtered, jX12_filtered_254, ob139, nr0, al, gg, id0, flV, ob_n, b2_n, tc_rn, tc_ln, F_sF, A_sF, R_sF, L_sF, F_sA, A_sA, R_sA, L_sA, F_sR, A_sR, R_sR, L_sR, F_sL, A_sL, R_sL, L_sL, and_true, true_and, and_false, false_and, and_self, reduceIte, sF_sF, sA_sA, false_or, or_false, true_or, or_true, not_false_eq_true, not_true_eq_false, decide_true, decide_false, Bool.true_or, Bool.or_true, Bool.false_and, Bool.true_and, Bool.false_or, Bool.or_false, Bool.and_true, Bool.and_false]
    · refine ⟨s.2.1 151, ?_⟩
      have e0 : (0 : Int32).toInt = 0 := rfl
      have d2 : ¬ s.1 139 25 = 0 := by rw [i_eq, e0]; omega
      have gg := grp 0 0 (fun k sh hs => by
        have lp : q_lp (fun t => bX12_products_6 (e_g s g) 139 (Int32.ofNat X) (Int32.ofNat Y) k t.1 t.2) ((0 : Int32), (0 : Int32)) = some (ksN (s.2.1 150) R (Int32.ofNat X) (Int32.ofNat Y) sh 9) := by
          refine lp_0 (fun i => (ksN (s.2.1 150) R (Int32.ofNat X) (Int32.ofNat Y) sh i, Int32.ofNat i)) 9 rfl (fun i hi => ?_) ?_
          · have q1 : ¬ (9 : Int32) ≤ Int32.ofNat i := nle (b := 9) hi (by decide)
            have r1 : q_rem (Int32.ofNat i) 3 = Int32.ofNat (i % 3) := n_rem (b := 3) (by omega) (by omega)
            have r2 : Int32.ofNat i / 3 = Int32.ofNat (i / 3) := n_div (b := 3) (by omega) (by omega)
            have ear : R (Int32.ofNat X + Int32.ofNat (i % 3) - 1) (Int32.ofNat Y + Int32.ofNat (i / 3) - 1) = ar9 R (Int32.ofNat X) (Int32.ofNat Y) i := rfl
            have ek : ksN (s.2.1 150) R (Int32.ofNat X) (Int32.ofNat Y) sh (i + 1) = ksN (s.2.1 150) R (Int32.ofNat X) (Int32.ofNat Y) sh i + s.2.1 150 i * (q_shr (ar9 R (Int32.ofNat X) (Int32.ofNat Y) i) sh &&& 255) := rfl
            have s1 : Int32.ofNat i + 1 = Int32.ofNat (i + 1) := n_suc
            simp (decide := true) only [bX12_products_6, q1, f139_24, a150, n_in2 hi (by decide), n_idx (show i < 2147483648 by omega), ob139, r1, r2, nr0, ear, pk _ k sh hs, ek, s1, ob_n, b2_n, tc_rn, tc_ln, F_sF, A_sF, R_sF, L_sF, F_sA, A_sA, R_sA, L_sA, F_sR, A_sR, R_sR, L_sR, F_sL, A_sL, R_sL, L_sL, and_true, true_and, and_false, false_and, and_self, reduceIte, sF_sF, sA_sA, false_or, or_false, true_or, or_true, not_false_eq_true, not_true_eq_false, decide_true, decide_false, Bool.true_or, Bool.or_true, Bool.false_and, Bool.true_and, Bool.false_or, Bool.or_false, Bool.and_true, Bool.and_false]
          · simp (decide := true) only [bX12_products_6, ob_n, b2_n, tc_rn, tc_ln, F_sF, A_sF, R_sF, L_sF, F_sA, A_sA, R_sA, L_sA, F_sR, A_sR, R_sR, L_sR, F_sL, A_sL, R_sL, L_sL, and_true, true_and, and_false, false_and, and_self, reduceIte, sF_sF, sA_sA, false_or, or_false, true_or, or_true, not_false_eq_true, not_true_eq_false, decide_true, decide_false, Bool.true_or, Bool.or_true, Bool.false_and, Bool.true_and, Bool.false_or, Bool.or_false, Bool.and_true, Bool.and_false]
        simp (decide := true) only [fX12_sampled, fX12_products, ob139, lp, f139_25, f139_26, d2, q_div, clip12, fsV, ob_n, b2_n, tc_rn, tc_ln, F_sF, A_sF, R_sF, L_sF, F_sA, A_sA, R_sA, L_sA, F_sR, A_sR, R_sR, L_sR, F_sL, A_sL, R_sL, L_sL, and_true, true_and, and_false, false_and, and_self, reduceIte, sF_sF, sA_sA, false_or, or_false, true_or, or_true, not_false_eq_true, not_true_eq_false, decide_true, decide_false, Bool.true_or, Bool.or_true, Bool.false_and, Bool.true_and, Bool.false_or, Bool.or_false, Bool.and_true, Bool.and_false])
      simp (decide := true) only [fX12_filtered, jX12_filtered_254, ob139, nr0, al, gg, id0, flV, ob_n, b2_n, tc_rn, tc_ln, F_sF, A_sF, R_sF, L_sF, F_sA, A_sA, R_sA, L_sA, F_sR, A_sR, R_sR, L_sR, F_sL, A_sL, R_sL, L_sL, and_true, true_and, and_false, false_and, and_self, reduceIte, sF_sF, sA_sA, false_or, or_false, true_or, or_true, not_false_eq_true, not_true_eq_false, decide_true, decide_false, Bool.true_or, Bool.or_true, Bool.false_and, Bool.true_and, Bool.false_or, Bool.or_false, Bool.and_true, Bool.and_false]
    · refine ⟨s.2.1 151, ?_⟩
      simp (decide := true) only [fX12_filtered, ob139, nr0, bright_k, id0, flV, fcV, fsV, colour_p, pack_c3, al, hi_a, fX12_alpha, ob_n, b2_n, tc_rn, tc_ln, F_sF, A_sF, R_sF, L_sF, F_sA, A_sA, R_sA, L_sA, F_sR, A_sR, R_sR, L_sR, F_sL, A_sL, R_sL, L_sL, and_true, true_and, and_false, false_and, and_self, reduceIte, sF_sF, sA_sA, false_or, or_false, true_or, or_true, not_false_eq_true, not_true_eq_false, decide_true, decide_false, Bool.true_or, Bool.or_true, Bool.false_and, Bool.true_and, Bool.false_or, Bool.or_false, Bool.and_true, Bool.and_false]
