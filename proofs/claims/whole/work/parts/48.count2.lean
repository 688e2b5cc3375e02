-- needs: 07 10 13 14 20 21 22 23 24 25 26 27 32 33 34 38 39 40 41 42 43 44 46 47
/-! ===== masked, count ===== -/
theorem masked12 {s : e_S} {g : ps_G} {w h : Nat} {x i j : Int32} (hw : w ≤ 24) (hh : h ≤ 24) (e1 : s.1 139 13 = Int32.ofNat w) (e2 : s.1 139 14 = Int32.ofNat h) : fX12_masked (e_g s g) 139 x i j = if isL (s.2.1 142) x ∧ plc w h i j then some (if s.2.1 142 (1169 * x.toInt.toNat + 10) = 0 then -1 else s.2.1 142 (1169 * x.toInt.toNat + (593 + (j.toInt.toNat * w + i.toInt.toNat))), e_g (sF s 139 0 0) g) else some (0, e_g (sF s 139 0 1) g) := by
  by_cases q1 : isL (s.2.1 142) x
  · by_cases q2 : plc w h i j
    · obtain ⟨l, rfl, hl, hl1⟩ := isL_n q1
      obtain ⟨a, b, rfl, rfl, ha, hb⟩ := plc_n q2
      have hlt := at_lt ha hb
      have hl2 := wh_le hw hh
      have ge : ∀ s' : e_S, fX12_get (e_g s' g) 139 (Int32.ofNat l) (593 + (Int32.ofNat w * Int32.ofNat b + Int32.ofNat a)) = some (s'.2.1 142 (1169 * l + (593 + (b * w + a)))) := fun s' => by
        have := get12 (s := s') (g := g) (l := l) (n := 593 + (b * w + a)) hl (by omega)
        rw [n_mul, n_add, Nat.mul_comm w b]
        show fX12_get (e_g s' g) 139 (Int32.ofNat l) (Int32.ofNat 593 + Int32.ofNat (b * w + a)) = _
        rw [n_add]; exact this
      have g10 := fun s' : e_S => get12 (s := s') (g := g) (l := l) (n := 10) hl (by omega)
      rw [if_pos ⟨q1, q2⟩, n_int (by omega), n_int (by omega), n_int (by omega), Int.toNat_natCast, Int.toNat_natCast, Int.toNat_natCast]
      by_cases z : s.2.1 142 (1169 * l + 10) = 0 <;> simp (decide := true) only [fX12_masked, jX12_masked_23, jX12_masked_66, ob139, isLayer12, q1, place12 hw hh e1 e2, q2, w139_0, f139_0, fX12_at, f139_13, e1, g10, z, ge, ob_s, b2_s, tc_r, tc_l, F_sF, A_sF, R_sF, L_sF, F_sA, A_sA, R_sA, L_sA, F_sR, A_sR, R_sR, L_sR, F_sL, A_sL, R_sL, L_sL, and_true, true_and, and_false, false_and, and_self, reduceIte, sF_sF, sA_sA, false_or, or_false, true_or, or_true, not_false_eq_true, not_true_eq_false, decide_true, decide_false, Bool.true_or, Bool.or_true, Bool.false_and, Bool.true_and, Bool.false_or, Bool.or_false, Bool.and_true, Bool.and_false]
    · simp (decide := true) only [fX12_masked, jX12_masked_22, jX12_masked_23, jX12_masked_66, ob139, isLayer12, q1, place12 hw hh e1 e2, q2, w139_0, f139_0, ob_s, b2_s, tc_r, tc_l, F_sF, A_sF, R_sF, L_sF, F_sA, A_sA, R_sA, L_sA, F_sR, A_sR, R_sR, L_sR, F_sL, A_sL, R_sL, L_sL, and_true, true_and, and_false, false_and, and_self, reduceIte, sF_sF, sA_sA, false_or, or_false, true_or, or_true, not_false_eq_true, not_true_eq_false, decide_true, decide_false, Bool.true_or, Bool.or_true, Bool.false_and, Bool.true_and, Bool.false_or, Bool.or_false, Bool.and_true, Bool.and_false]
  · simp (decide := true) only [fX12_masked, jX12_masked_22, jX12_masked_23, jX12_masked_66, ob139, isLayer12, q1, w139_0, f139_0, ob_s, b2_s, tc_r, tc_l, F_sF, A_sF, R_sF, L_sF, F_sA, A_sA, R_sA, L_sA, F_sR, A_sR, R_sR, L_sR, F_sL, A_sL, R_sL, L_sL, and_true, true_and, and_false, false_and, and_self, reduceIte, sF_sF, sA_sA, false_or, or_false, true_or, or_true, not_false_eq_true, not_true_eq_false, decide_true, decide_false, Bool.true_or, Bool.or_true, Bool.false_and, Bool.true_and, Bool.false_or, Bool.or_false, Bool.and_true, Bool.and_false]
theorem none_len {s : e_S} {g : ps_G} (h11 : G11 s g) : q_len (e_g s g) 0 = some 0 := by
  have h := h11.2.2.2.1 0 (by omega)
  exact d_len (n := 0) (Or.inr (Or.inl (by omega))) h
theorem K_masked {s : e_S} {g : ps_G} {x i j : Int32} (hR : Rel s g) : KI (fL_masked (e_g s g) 8 x i j 194) (fun G => fX12_masked G 139 x i j) g := by
  have hg := rel_g hR
  obtain ⟨h1, h2, h3, h4, h5, h6, ⟨w, h, h7, h8, h9⟩, h10, h11⟩ := id hR
  obtain ⟨a, st, pc, uc, f1, f2, f3, f4, f5, f6, f7, f8, f9, f10, f11, f12⟩ := h9
  obtain ⟨d1, d2, d3, d4, d5, d6, d7, d8, d9⟩ := id h7
  obtain ⟨s0, s1, -, -⟩ := stW (s := s) f9
  have hm0 := fun s' g e1 e2 => masked12 (s := s') (g := g) (x := x) (i := i) (j := j) d2 d4 e1 e2
  rcases known11 (x := x) hg f3 f9 with ⟨k1, k2⟩ | ⟨l, b, rfl, hl, k1, k3, k2, hLy⟩
  · refine KI_no (E := "java/util/NoSuchElementException") (y := 1) hR ?_ (by decide +kernel) (by decide) ((hm0 _ _ d5 d6).trans (if_neg (by rw [k1]; exact fun z => absurd z.1 (by decide))))
    simp (decide := true) only [fX11_masked, ob8, k2, ob_s, b2_s, tc_r, tc_l, F_sF, A_sF, R_sF, L_sF, F_sA, A_sA, R_sA, L_sA, F_sR, A_sR, R_sR, L_sR, F_sL, A_sL, R_sL, L_sL, and_true, true_and, and_false, false_and, and_self, reduceIte, sF_sF, sA_sA, false_or, or_false, true_or, or_true, not_false_eq_true, not_true_eq_false, decide_true, decide_false, Bool.true_or, Bool.or_true, Bool.false_and, Bool.true_and, Bool.false_or, Bool.or_false, Bool.and_true, Bool.and_false]
  · obtain ⟨y1, y2, p, q', x0, y0, x1, yy1, pa, ma, y3, -, -, -, -, -, -, -, -, -, -, -, -, -, z14⟩ := id hLy
    have fm : q_fR 4 16 (e_g s g) b = some (some ma) := d_fR y1 y3 rfl
    have e : ∀ j, lR (s.2.1 142) l j = s.2.1 142 (1169 * l + j) := fun j => rfl
    by_cases q : plc w h i j
    · have hcl : fX11_masked (e_g s g) 8 (Int32.ofNat l) i j = some (.inr (if s.2.1 142 (1169 * l + 10) = 0 then -1 else s.2.1 142 (1169 * l + (593 + (j.toInt.toNat * w + i.toInt.toNat)))), e_g s g) := by
        rcases z14 with ⟨c1, c2⟩ | ⟨c1, c2, c0, c3, f, c4, c5⟩
        · subst c2
          rw [e] at c1
          simp (decide := true) only [fX11_masked, jX11_masked_46, ob8, k2, place11 hg d2 d4 f3 f9, q, fm, none_len h11, c1, ob_s, b2_s, tc_r, tc_l, F_sF, A_sF, R_sF, L_sF, F_sA, A_sA, R_sA, L_sA, F_sR, A_sR, R_sR, L_sR, F_sL, A_sL, R_sL, L_sL, and_true, true_and, and_false, false_and, and_self, reduceIte, sF_sF, sA_sA, false_or, or_false, true_or, or_true, not_false_eq_true, not_true_eq_false, decide_true, decide_false, Bool.true_or, Bool.or_true, Bool.false_and, Bool.true_and, Bool.false_or, Bool.or_false, Bool.and_true, Bool.and_false]
        · obtain ⟨xa, ya, rfl, rfl, ha, hb⟩ := plc_n q
          have hlt := at_lt ha hb
          have hl2 := wh_le d2 d4
          have ln : q_len (e_g s g) ma = some (Int32.ofNat 576) := d_len c2 c4
          have l5 : Int32.ofNat 576 = 576 := rfl
          have n10 : ¬ s.2.1 142 (1169 * l + 10) = 0 := by rw [← e, c1]; decide
          rw [if_neg n10, n_int (by omega), n_int (by omega), Int.toNat_natCast, Int.toNat_natCast, ← e, ← (c5 _ (show ya * w + xa < 576 by omega)).1]
          simp (decide := true) only [fX11_masked, jX11_masked_46, ob8, k2, place11 hg d2 d4 f3 f9, q, fm, ln, l5, f8_0, f3, s0, n_mul, n_add, d_aI c2 c4, n_in2 (show ya * w + xa < 576 by omega) (by decide), n_idx (show ya * w + xa < 2147483648 by omega), ob_s, b2_s, tc_r, tc_l, F_sF, A_sF, R_sF, L_sF, F_sA, A_sA, R_sA, L_sA, F_sR, A_sR, R_sR, L_sR, F_sL, A_sL, R_sL, L_sL, and_true, true_and, and_false, false_and, and_self, reduceIte, sF_sF, sA_sA, false_or, or_false, true_or, or_true, not_false_eq_true, not_true_eq_false, decide_true, decide_false, Bool.true_or, Bool.or_true, Bool.false_and, Bool.true_and, Bool.false_or, Bool.or_false, Bool.and_true, Bool.and_false]
      refine KI_r (s2 := sF (pO s _) 139 0 0) hcl ((hm0 (pO s _) _ d5 d6).trans ((if_pos ⟨k1, q⟩).trans ?_)) (by simp (decide := true) only [ob_s, b2_s, tc_r, tc_l, F_sF, A_sF, R_sF, L_sF, F_sA, A_sA, R_sA, L_sA, F_sR, A_sR, R_sR, L_sR, F_sL, A_sL, R_sL, L_sL, and_true, true_and, and_false, false_and, and_self, reduceIte, sF_sF, sA_sA, false_or, or_false, true_or, or_true, not_false_eq_true, not_true_eq_false, decide_true, decide_false, Bool.true_or, Bool.or_true, Bool.false_and, Bool.true_and, Bool.false_or, Bool.or_false, Bool.and_true, Bool.and_false]) rfl (rel_thrown (rel_out hR)) ext_rf
      rw [n_int (by omega), Int.toNat_natCast]
      rfl
    · refine KI_no (E := "java/util/NoSuchElementException") (y := 1) hR ?_ (by decide +kernel) (by decide) ((hm0 _ _ d5 d6).trans (if_neg (fun z => q z.2)))
      simp (decide := true) only [fX11_masked, ob8, k2, place11 hg d2 d4 f3 f9, q, ob_s, b2_s, tc_r, tc_l, F_sF, A_sF, R_sF, L_sF, F_sA, A_sA, R_sA, L_sA, F_sR, A_sR, R_sR, L_sR, F_sL, A_sL, R_sL, L_sL, and_true, true_and, and_false, false_and, and_self, reduceIte, sF_sF, sA_sA, false_or, or_false, true_or, or_true, not_false_eq_true, not_true_eq_false, decide_true, decide_false, Bool.true_or, Bool.or_true, Bool.false_and, Bool.true_and, Bool.false_or, Bool.or_false, Bool.and_true, Bool.and_false]
theorem reachOf_eq {p q : Int32} : fX5_reachOf p q = fX12_reachOf p q := by
  unfold fX5_reachOf fX12_reachOf jX12_reachOf_23 jX12_reachOf_39
  by_cases h0 : p = 0
  · simp (decide := true) only [ob_s, b2_s, tc_r, tc_l, F_sF, A_sF, R_sF, L_sF, F_sA, A_sA, R_sA, L_sA, F_sR, A_sR, R_sR, L_sR, F_sL, A_sL, R_sL, L_sL, and_true, true_and, and_false, false_and, and_self, reduceIte, sF_sF, sA_sA, false_or, or_false, true_or, or_true, not_false_eq_true, not_true_eq_false, decide_true, decide_false, Bool.true_or, Bool.or_true, Bool.false_and, Bool.true_and, Bool.false_or, Bool.or_false, Bool.and_true, Bool.and_false, h0]
  · by_cases h1 : ¬ (p ≤ 0) ∧ p < 5
    · have : p = 1 ∨ p = 2 ∨ p = 3 ∨ p = 4 ∨ p = 10 := by
        have z1 : ¬ p.toInt ≤ 0 := fun z => h1.1 (i_le.mpr z)
        have z2 : p.toInt < 5 := i_lt.mp h1.2
        have z3 : p.toInt = 1 ∨ p.toInt = 2 ∨ p.toInt = 3 ∨ p.toInt = 4 := by omega
        rcases z3 with e | e | e | e
        · exact Or.inl (i_eq.mpr e)
        · exact Or.inr (Or.inl (i_eq.mpr e))
        · exact Or.inr (Or.inr (Or.inl (i_eq.mpr e)))
        · exact Or.inr (Or.inr (Or.inr (Or.inl (i_eq.mpr e))))
      simp (decide := true) only [ob_s, b2_s, tc_r, tc_l, F_sF, A_sF, R_sF, L_sF, F_sA, A_sA, R_sA, L_sA, F_sR, A_sR, R_sR, L_sR, F_sL, A_sL, R_sL, L_sL, and_true, true_and, and_false, false_and, and_self, reduceIte, sF_sF, sA_sA, false_or, or_false, true_or, or_true, not_false_eq_true, not_true_eq_false, decide_true, decide_false, Bool.true_or, Bool.or_true, Bool.false_and, Bool.true_and, Bool.false_or, Bool.or_false, Bool.and_true, Bool.and_false, h0, h1, this]
    · have n1 : ¬ p = 1 := fun e => h1 (by rw [e]; decide)
      have n2 : ¬ p = 2 := fun e => h1 (by rw [e]; decide)
      have n3 : ¬ p = 3 := fun e => h1 (by rw [e]; decide)
      have n4 : ¬ p = 4 := fun e => h1 (by rw [e]; decide)
      by_cases h10 : p = 10
      · simp (decide := true) only [ob_s, b2_s, tc_r, tc_l, F_sF, A_sF, R_sF, L_sF, F_sA, A_sA, R_sA, L_sA, F_sR, A_sR, R_sR, L_sR, F_sL, A_sL, R_sL, L_sL, and_true, true_and, and_false, false_and, and_self, reduceIte, sF_sF, sA_sA, false_or, or_false, true_or, or_true, not_false_eq_true, not_true_eq_false, decide_true, decide_false, Bool.true_or, Bool.or_true, Bool.false_and, Bool.true_and, Bool.false_or, Bool.or_false, Bool.and_true, Bool.and_false, h10]
      · by_cases h5 : p = 5
        · simp (decide := true) only [ob_s, b2_s, tc_r, tc_l, F_sF, A_sF, R_sF, L_sF, F_sA, A_sA, R_sA, L_sA, F_sR, A_sR, R_sR, L_sR, F_sL, A_sL, R_sL, L_sL, and_true, true_and, and_false, false_and, and_self, reduceIte, sF_sF, sA_sA, false_or, or_false, true_or, or_true, not_false_eq_true, not_true_eq_false, decide_true, decide_false, Bool.true_or, Bool.or_true, Bool.false_and, Bool.true_and, Bool.false_or, Bool.or_false, Bool.and_true, Bool.and_false, h5]
        · simp (decide := true) only [ob_s, b2_s, tc_r, tc_l, F_sF, A_sF, R_sF, L_sF, F_sA, A_sA, R_sA, L_sA, F_sR, A_sR, R_sR, L_sR, F_sL, A_sL, R_sL, L_sL, and_true, true_and, and_false, false_and, and_self, reduceIte, sF_sF, sA_sA, false_or, or_false, true_or, or_true, not_false_eq_true, not_true_eq_false, decide_true, decide_false, Bool.true_or, Bool.or_true, Bool.false_and, Bool.true_and, Bool.false_or, Bool.or_false, Bool.and_true, Bool.and_false, h0, h1, n1, n2, n3, n4, h10, h5]
def rS (N : Nat → Int32) : Nat → Int32
  | 0 => 0
  | l + 1 => if N (1169 * l) = 1 ∧ N (1169 * l + 1) = 5 then rS N l + fX12_reachOf (N (1169 * l + 11)) (N (1169 * l + 12)) else rS N l
theorem rS_s {N : Nat → Int32} {l : Nat} : rS N (l + 1) = if N (1169 * l) = 1 ∧ N (1169 * l + 1) = 5 then rS N l + fX12_reachOf (N (1169 * l + 11)) (N (1169 * l + 12)) else rS N l := rfl
theorem reach12 {s : e_S} {g : ps_G} : fX12_reach (e_g s g) 139 = some (rS (s.2.1 142) 30) := by
  have hl : q_lp (fun t => bX12_reach_4 (e_g s g) 139 t.1 t.2) ((0 : Int32), (0 : Int32)) = some (rS (s.2.1 142) 30) := by
    refine lp_0 (fun i => (rS (s.2.1 142) i, Int32.ofNat i)) 30 rfl (fun i hi => ?_) ?_
    · have q1 : ¬ (30 : Int32) ≤ Int32.ofNat i := by
        show ¬ Int32.ofNat 30 ≤ Int32.ofNat i
        rw [n_le (by omega) (by omega)]; omega
      have i5 := is12 (s := s) (g := g) (x := Int32.ofNat i) (k := 5)
      rw [n_int (by omega), Int.toNat_natCast, isL_o hi] at i5
      have g11 := get12 (s := s) (g := g) (n := 11) hi (by omega)
      have g12 := get12 (s := s) (g := g) (n := 12) hi (by omega)
      have o5 : (OfNat.ofNat 5 : Int32) = 5 := rfl
      by_cases z : s.2.1 142 (1169 * i) = 1 ∧ s.2.1 142 (1169 * i + 1) = 5
      · have z' : decide (s.2.1 142 (1169 * i) = 1) = true ∧ s.2.1 142 (1169 * i + 1) = OfNat.ofNat 5 := ⟨decide_eq_true z.1, z.2⟩
        rw [if_pos z'] at i5
        simp (decide := true) only [bX12_reach_4, jX12_reach_39_4, ob139, q1, i5, g11, g12, n_suc, rS_s, z, ob_s, b2_s, tc_r, tc_l, F_sF, A_sF, R_sF, L_sF, F_sA, A_sA, R_sA, L_sA, F_sR, A_sR, R_sR, L_sR, F_sL, A_sL, R_sL, L_sL, and_true, true_and, and_false, false_and, and_self, reduceIte, sF_sF, sA_sA, false_or, or_false, true_or, or_true, not_false_eq_true, not_true_eq_false, decide_true, decide_false, Bool.true_or, Bool.or_true, Bool.false_and, Bool.true_and, Bool.false_or, Bool.or_false, Bool.and_true, Bool.and_false]
      · have z' : ¬ (decide (s.2.1 142 (1169 * i) = 1) = true ∧ s.2.1 142 (1169 * i + 1) = OfNat.ofNat 5) := fun y => z ⟨of_decide_eq_true y.1, y.2⟩
        rw [if_neg z'] at i5
        simp (decide := true) only [bX12_reach_4, jX12_reach_39_4, ob139, q1, i5, n_suc, rS_s, z, ob_s, b2_s, tc_r, tc_l, F_sF, A_sF, R_sF, L_sF, F_sA, A_sA, R_sA, L_sA, F_sR, A_sR, R_sR, L_sR, F_sL, A_sL, R_sL, L_sL, and_true, true_and, and_false, false_and, and_self, reduceIte, sF_sF, sA_sA, false_or, or_false, true_or, or_true, not_false_eq_true, not_true_eq_false, decide_true, decide_false, Bool.true_or, Bool.or_true, Bool.false_and, Bool.true_and, Bool.false_or, Bool.or_false, Bool.and_true, Bool.and_false]
    · simp (decide := true) only [bX12_reach_4, ob_s, b2_s, tc_r, tc_l, F_sF, A_sF, R_sF, L_sF, F_sA, A_sA, R_sA, L_sA, F_sR, A_sR, R_sR, L_sR, F_sL, A_sL, R_sL, L_sL, and_true, true_and, and_false, false_and, and_self, reduceIte, sF_sF, sA_sA, false_or, or_false, true_or, or_true, not_false_eq_true, not_true_eq_false, decide_true, decide_false, Bool.true_or, Bool.or_true, Bool.false_and, Bool.true_and, Bool.false_or, Bool.or_false, Bool.and_true, Bool.and_false]
  simp (decide := true) only [fX12_reach, hl, ob_s, b2_s, tc_r, tc_l, F_sF, A_sF, R_sF, L_sF, F_sA, A_sA, R_sA, L_sA, F_sR, A_sR, R_sR, L_sR, F_sL, A_sL, R_sL, L_sL, and_true, true_and, and_false, false_and, and_self, reduceIte, sF_sF, sA_sA, false_or, or_false, true_or, or_true, not_false_eq_true, not_true_eq_false, decide_true, decide_false, Bool.true_or, Bool.or_true, Bool.false_and, Bool.true_and, Bool.false_or, Bool.or_false, Bool.and_true, Bool.and_false]
theorem reach9 {s : e_S} {g : ps_G} {a w h : Nat} {N : Nat → Int32} (hs : StN g a w h N) : fX9_reach (e_g s g) a = some (rS N 30) := by
  obtain ⟨t, h1, h2, la, oa, sz, ly, od, c1, c0, c2, c3, c9, c4, c5, c6, c7, c8, c10⟩ := hs
  have r2 : q_fR 9 2 (e_g s g) a = some (some la) := d_fR h1 c5 rfl
  have hl : q_lp (fun t => bX9_reach_4 (e_g s g) a t.1 t.2) ((0 : Int32), (0 : Int32)) = some (rS N 30) := by
    refine lp_0 (fun i => (rS N i, Int32.ofNat i)) 30 rfl (fun i hi => ?_) ?_
    · have q1 : ¬ (30 : Int32) ≤ Int32.ofNat i := by
        show ¬ Int32.ofNat 30 ≤ Int32.ofNat i
        rw [n_le (by omega) (by omega)]; omega
      have hc := c10 i hi
      have ra : q_aR (e_g s g) la (Int32.ofNat i) = some (ly i) := by
        rw [d_aR c1 c6 (by decide), if_neg (n_in hi (by decide)), n_idx (by omega)]
      by_cases z1 : N (1169 * i) = 1
      · rw [if_pos z1] at hc
        obtain ⟨b, b1, b2⟩ := hc
        have n0 : ¬ (some b = none) := nofun
        obtain ⟨y1, y2, p, q, x0, y0, x1, yy1, pa, ma, y3, v1, v2, v3, v4, v5, v6, v7, v8, -⟩ := b2
        have F := fun k x (hx : _) => d_fI (s := s) (k := k) (x := x) y1 y3 hx
        have e1 : lR N i 1 = N (1169 * i + 1) := rfl
        have e11 : lR N i 11 = N (1169 * i + 11) := rfl
        have e12 : lR N i 12 = N (1169 * i + 12) := rfl
        by_cases z2 : N (1169 * i + 1) = 5
        · have n2 : ¬ lR N i 1 < 2 := by rw [e1, z2]; decide
          rw [if_neg n2, e11, e12] at v8
          simp (decide := true) only [bX9_reach_4, jX9_reach_56_4, q1, r2, ra, b1, n0, F 1 _ rfl, F 9 _ rfl, F 10 _ rfl, e1, z1, z2, n_suc, rS_s, v8.1, v8.2.1, reachOf_eq, ob_s, b2_s, tc_r, tc_l, F_sF, A_sF, R_sF, L_sF, F_sA, A_sA, R_sA, L_sA, F_sR, A_sR, R_sR, L_sR, F_sL, A_sL, R_sL, L_sL, and_true, true_and, and_false, false_and, and_self, reduceIte, sF_sF, sA_sA, false_or, or_false, true_or, or_true, not_false_eq_true, not_true_eq_false, decide_true, decide_false, Bool.true_or, Bool.or_true, Bool.false_and, Bool.true_and, Bool.false_or, Bool.or_false, Bool.and_true, Bool.and_false]
        · simp (decide := true) only [bX9_reach_4, jX9_reach_56_4, q1, r2, ra, b1, n0, F 1 _ rfl, e1, z1, z2, n_suc, rS_s, ob_s, b2_s, tc_r, tc_l, F_sF, A_sF, R_sF, L_sF, F_sA, A_sA, R_sA, L_sA, F_sR, A_sR, R_sR, L_sR, F_sL, A_sL, R_sL, L_sL, and_true, true_and, and_false, false_and, and_self, reduceIte, sF_sF, sA_sA, false_or, or_false, true_or, or_true, not_false_eq_true, not_true_eq_false, decide_true, decide_false, Bool.true_or, Bool.or_true, Bool.false_and, Bool.true_and, Bool.false_or, Bool.or_false, Bool.and_true, Bool.and_false]
      · rw [if_neg z1] at hc
        simp (decide := true) only [bX9_reach_4, jX9_reach_56_4, q1, r2, ra, hc, z1, n_suc, rS_s, ob_s, b2_s, tc_r, tc_l, F_sF, A_sF, R_sF, L_sF, F_sA, A_sA, R_sA, L_sA, F_sR, A_sR, R_sR, L_sR, F_sL, A_sL, R_sL, L_sL, and_true, true_and, and_false, false_and, and_self, reduceIte, sF_sF, sA_sA, false_or, or_false, true_or, or_true, not_false_eq_true, not_true_eq_false, decide_true, decide_false, Bool.true_or, Bool.or_true, Bool.false_and, Bool.true_and, Bool.false_or, Bool.or_false, Bool.and_true, Bool.and_false]
    · simp (decide := true) only [bX9_reach_4, ob_s, b2_s, tc_r, tc_l, F_sF, A_sF, R_sF, L_sF, F_sA, A_sA, R_sA, L_sA, F_sR, A_sR, R_sR, L_sR, F_sL, A_sL, R_sL, L_sL, and_true, true_and, and_false, false_and, and_self, reduceIte, sF_sF, sA_sA, false_or, or_false, true_or, or_true, not_false_eq_true, not_true_eq_false, decide_true, decide_false, Bool.true_or, Bool.or_true, Bool.false_and, Bool.true_and, Bool.false_or, Bool.or_false, Bool.and_true, Bool.and_false]
  simp (decide := true) only [fX9_reach, hl, ob_s, b2_s, tc_r, tc_l, F_sF, A_sF, R_sF, L_sF, F_sA, A_sA, R_sA, L_sA, F_sR, A_sR, R_sR, L_sR, F_sL, A_sL, R_sL, L_sL, and_true, true_and, and_false, false_and, and_self, reduceIte, sF_sF, sA_sA, false_or, or_false, true_or, or_true, not_false_eq_true, not_true_eq_false, decide_true, decide_false, Bool.true_or, Bool.or_true, Bool.false_and, Bool.true_and, Bool.false_or, Bool.or_false, Bool.and_true, Bool.and_false]
def tlC (f : Nat → Int32) (i : Nat) : Bool := !decide (f i = 0)
theorem kept11 {s : e_S} {g : ps_G} : fX10_keptTiles (e_g s g) 20 = some (Int32.ofNat (cnt (tlC (s.2.1 88)) 9)) := by
  have hl : q_lp (fun t => bX10_keptTiles_4 (e_g s g) 20 t.1 t.2) ((0 : Int32), (0 : Int32)) = some (Int32.ofNat (cnt (tlC (s.2.1 88)) 9)) := by
    refine lp_0 (fun i => (Int32.ofNat (cnt (tlC (s.2.1 88)) i), Int32.ofNat i)) 9 rfl (fun i hi => ?_) ?_
    · have q1 : ¬ (9 : Int32) ≤ Int32.ofNat i := by
        show ¬ Int32.ofNat 9 ≤ Int32.ofNat i
        rw [n_le (by omega) (by omega)]; omega
      have z0 : ∀ n, Int32.ofNat n + 0 = Int32.ofNat n := fun n => n_add (m := 0)
      by_cases z : s.2.1 88 i = 0 <;> simp (decide := true) only [bX10_keptTiles_4, f20_7, a88, l88, ob_s, b2_s, tc_r, tc_l, F_sF, A_sF, R_sF, L_sF, F_sA, A_sA, R_sA, L_sA, F_sR, A_sR, R_sR, L_sR, F_sL, A_sL, R_sL, L_sL, and_true, true_and, and_false, false_and, and_self, reduceIte, sF_sF, sA_sA, false_or, or_false, true_or, or_true, not_false_eq_true, not_true_eq_false, decide_true, decide_false, Bool.true_or, Bool.or_true, Bool.false_and, Bool.true_and, Bool.false_or, Bool.or_false, Bool.and_true, Bool.and_false, q1, n_in2 hi (by decide), n_idx (show i < 2147483648 by omega), z, z0, n_suc, cnt_s, tlC, Nat.add_zero, Bool.not_true, Bool.not_false]
    · simp (decide := true) only [bX10_keptTiles_4, f20_7, a88, l88, ob_s, b2_s, tc_r, tc_l, F_sF, A_sF, R_sF, L_sF, F_sA, A_sA, R_sA, L_sA, F_sR, A_sR, R_sR, L_sR, F_sL, A_sL, R_sL, L_sL, and_true, true_and, and_false, false_and, and_self, reduceIte, sF_sF, sA_sA, false_or, or_false, true_or, or_true, not_false_eq_true, not_true_eq_false, decide_true, decide_false, Bool.true_or, Bool.or_true, Bool.false_and, Bool.true_and, Bool.false_or, Bool.or_false, Bool.and_true, Bool.and_false]
  simp (decide := true) only [fX10_keptTiles, hl, ob_s, b2_s, tc_r, tc_l, F_sF, A_sF, R_sF, L_sF, F_sA, A_sA, R_sA, L_sA, F_sR, A_sR, R_sR, L_sR, F_sL, A_sL, R_sL, L_sL, and_true, true_and, and_false, false_and, and_self, reduceIte, sF_sF, sA_sA, false_or, or_false, true_or, or_true, not_false_eq_true, not_true_eq_false, decide_true, decide_false, Bool.true_or, Bool.or_true, Bool.false_and, Bool.true_and, Bool.false_or, Bool.or_false, Bool.and_true, Bool.and_false]
theorem kept12 {s : e_S} {g : ps_G} : q_lp (fun t => bX12_count_130 (e_g s g) 139 t.1 t.2) ((0 : Int32), (0 : Int32)) = some (Int32.ofNat (cnt (tlC (s.2.1 148)) 9)) := by
  refine lp_0 (fun i => (Int32.ofNat (cnt (tlC (s.2.1 148)) i), Int32.ofNat i)) 9 rfl (fun i hi => ?_) ?_
  · have q1 : ¬ (9 : Int32) ≤ Int32.ofNat i := by
      show ¬ Int32.ofNat 9 ≤ Int32.ofNat i
      rw [n_le (by omega) (by omega)]; omega
    by_cases z : s.2.1 148 i = 0 <;> simp (decide := true) only [bX12_count_130, f139_21, a148, ob_s, b2_s, tc_r, tc_l, F_sF, A_sF, R_sF, L_sF, F_sA, A_sA, R_sA, L_sA, F_sR, A_sR, R_sR, L_sR, F_sL, A_sL, R_sL, L_sL, and_true, true_and, and_false, false_and, and_self, reduceIte, sF_sF, sA_sA, false_or, or_false, true_or, or_true, not_false_eq_true, not_true_eq_false, decide_true, decide_false, Bool.true_or, Bool.or_true, Bool.false_and, Bool.true_and, Bool.false_or, Bool.or_false, Bool.and_true, Bool.and_false, q1, n_in2 hi (by decide), n_idx (show i < 2147483648 by omega), z, n_suc, cnt_s, tlC, Nat.add_zero, Bool.not_true, Bool.not_false]
  · simp (decide := true) only [bX12_count_130, f139_21, a148, ob_s, b2_s, tc_r, tc_l, F_sF, A_sF, R_sF, L_sF, F_sA, A_sA, R_sA, L_sA, F_sR, A_sR, R_sR, L_sR, F_sL, A_sL, R_sL, L_sL, and_true, true_and, and_false, false_and, and_self, reduceIte, sF_sF, sA_sA, false_or, or_false, true_or, or_true, not_false_eq_true, not_true_eq_false, decide_true, decide_false, Bool.true_or, Bool.or_true, Bool.false_and, Bool.true_and, Bool.false_or, Bool.or_false, Bool.and_true, Bool.and_false]
theorem tiles_eq {s : e_S} {w h : Nat} (hw : 1 ≤ w ∧ w ≤ 24) (hh : 1 ≤ h ∧ h ≤ 24) (h8 : G8 s w h) : cnt (tlC (s.2.1 88)) 9 = cnt (tlC (s.2.1 148)) 9 := by
  obtain ⟨-, -, a3, a4, -⟩ := h8
  have hA : (w + 7) / 8 = 1 ∨ (w + 7) / 8 = 2 ∨ (w + 7) / 8 = 3 := by omega
  have hD : (h + 7) / 8 ≤ 3 := by omega
  have un : ∀ (f : Nat → Int32) i, tlC f i = true → ¬ f i = 0 := by
    intro f i hi
    unfold tlC at hi
    intro e
    rw [decide_eq_true e] at hi
    cases hi
  apply Nat.le_antisymm
  · refine cnt_inj (fun i => (w + 7) / 8 * (i / 3) + i % 3) (fun i hi hp => ?_) (fun i j hi hj hp hq e => ?_)
    · have e := a3 (i % 3) (i / 3) (by omega) (by omega)
      rw [show 3 * (i / 3) + i % 3 = i by omega] at e
      have n := un _ _ hp
      by_cases c : i % 3 < (w + 7) / 8 ∧ i / 3 < (h + 7) / 8
      · rw [if_pos c] at e
        refine ⟨?_, ?_⟩
        · rcases hA with z | z | z <;> rw [z] at c ⊢ <;> omega
        · unfold tlC
          rw [← e, decide_eq_false n]; rfl
      · rw [if_neg c] at e
        exact absurd e n
    · have c : ∀ i, i < 9 → tlC (s.2.1 88) i = true → i % 3 < (w + 7) / 8 := by
        intro i hi hp
        have e := a3 (i % 3) (i / 3) (by omega) (by omega)
        rw [show 3 * (i / 3) + i % 3 = i by omega] at e
        have n := un _ _ hp
        by_cases c : i % 3 < (w + 7) / 8 ∧ i / 3 < (h + 7) / 8
        · exact c.1
        · rw [if_neg c] at e
          exact absurd e n
      have c1 := c i hi hp
      have c2 := c j hj hq
      rcases hA with z | z | z <;> rw [z] at c1 c2 e <;> omega
  · refine cnt_inj (fun t => 3 * (t / ((w + 7) / 8)) + t % ((w + 7) / 8)) (fun t ht hp => ?_) (fun t u ht hu hp hq e => ?_)
    · have n := un _ _ hp
      have lt : ¬ (w + 7) / 8 * ((h + 7) / 8) ≤ t := fun z => n (a4 t ht z)
      have e := a3 (t % ((w + 7) / 8)) (t / ((w + 7) / 8)) (by rcases hA with z | z | z <;> rw [z] <;> omega) (by rcases hA with z | z | z <;> rw [z] at lt ⊢ <;> omega)
      have c : t % ((w + 7) / 8) < (w + 7) / 8 ∧ t / ((w + 7) / 8) < (h + 7) / 8 := by rcases hA with z | z | z <;> rw [z] at lt ⊢ <;> omega
      rw [if_pos c, show (w + 7) / 8 * (t / ((w + 7) / 8)) + t % ((w + 7) / 8) = t from Nat.div_add_mod _ _] at e
      refine ⟨by rcases hA with z | z | z <;> rw [z] at lt ⊢ <;> omega, ?_⟩
      unfold tlC
      rw [e, decide_eq_false n]; rfl
    · skip
      rcases hA with z | z | z <;> rw [z] at e <;> omega
theorem live12 {s : e_S} {g : ps_G} : q_lp (fun t => bX12_count_76 (e_g s g) 139 t.1 t.2) ((0 : Int32), (0 : Int32)) = some (Int32.ofNat (cnt (fun l => decide (s.2.1 142 (1169 * l) = 1)) 30)) := by
  refine lp_0 (fun i => (Int32.ofNat (cnt (fun l => decide (s.2.1 142 (1169 * l) = 1)) i), Int32.ofNat i)) 30 rfl (fun i hi => ?_) ?_
  · have q1 : ¬ (30 : Int32) ≤ Int32.ofNat i := by
      show ¬ Int32.ofNat 30 ≤ Int32.ofNat i
      rw [n_le (by omega) (by omega)]; omega
    by_cases z : s.2.1 142 (1169 * i) = 1 <;> simp (decide := true) only [bX12_count_76, ob139, isLayer12, isL_o hi, q1, z, n_suc, cnt_s, Nat.add_zero, ob_s, b2_s, tc_r, tc_l, F_sF, A_sF, R_sF, L_sF, F_sA, A_sA, R_sA, L_sA, F_sR, A_sR, R_sR, L_sR, F_sL, A_sL, R_sL, L_sL, and_true, true_and, and_false, false_and, and_self, reduceIte, sF_sF, sA_sA, false_or, or_false, true_or, or_true, not_false_eq_true, not_true_eq_false, decide_true, decide_false, Bool.true_or, Bool.or_true, Bool.false_and, Bool.true_and, Bool.false_or, Bool.or_false, Bool.and_true, Bool.and_false]
  · simp (decide := true) only [bX12_count_76, ob_s, b2_s, tc_r, tc_l, F_sF, A_sF, R_sF, L_sF, F_sA, A_sA, R_sA, L_sA, F_sR, A_sR, R_sR, L_sR, F_sL, A_sL, R_sL, L_sL, and_true, true_and, and_false, false_and, and_self, reduceIte, sF_sF, sA_sA, false_or, or_false, true_or, or_true, not_false_eq_true, not_true_eq_false, decide_true, decide_false, Bool.true_or, Bool.or_true, Bool.false_and, Bool.true_and, Bool.false_or, Bool.or_false, Bool.and_true, Bool.and_false]
theorem cnt_all {n : Nat} : cnt (fun _ => true) n = n := by
  induction n with
  | zero => rfl
  | succ n ih => rw [cnt_s, ih]; rfl
theorem live_sz {N : Nat → Int32} {sz : Nat} {od : Nat → Int32} {o : Nat → Nat} (h : OrD N sz od o) : cnt (fun l => decide (N (1169 * l) = 1)) 30 = sz := by
  obtain ⟨a1, a2, a3, a4, a5⟩ := h
  have inj : ∀ i j, i < sz → j < sz → o i = o j → i = j := by
    intro i j hi hj e
    by_cases q : i < j
    · exact absurd e (a3 i j q hj)
    · by_cases q2 : j < i
      · exact absurd e.symm (a3 j i q2 hi)
      · omega
  rw [← @cnt_all sz]
  apply Nat.le_antisymm
  · have hx : ∀ l, ∃ i, l < 30 → N (1169 * l) = 1 → i < sz ∧ o i = l := by
      intro l
      by_cases q : l < 30 ∧ N (1169 * l) = 1
      · obtain ⟨i, i1, i2⟩ := a4 l q.1 q.2
        exact ⟨i, fun _ _ => ⟨i1, i2⟩⟩
      · exact ⟨0, fun z1 z2 => absurd ⟨z1, z2⟩ q⟩
    obtain ⟨f, hf⟩ := Classical.axiomOfChoice hx
    refine cnt_inj f (fun l hl hp => ⟨(hf l hl (of_decide_eq_true hp)).1, rfl⟩) (fun l m hl hm hp hq e => ?_)
    rw [← (hf l hl (of_decide_eq_true hp)).2, ← (hf m hm (of_decide_eq_true hq)).2, e]
  · exact cnt_inj o (fun i hi _ => ⟨(a2 i hi).2.1, decide_eq_true (a2 i hi).2.2⟩) (fun i j hi hj _ _ e => inj i j hi hj e)
theorem K_count {s : e_S} {g : ps_G} {x : Int32} (hR : Rel s g) : ∃ r, fX11_count (e_g s g) 8 x = some r ∧ fX12_count (e_g s g) 139 x = some (r, e_g (sF s 139 0 0) g) ∧ Rel (sF s 139 0 0) g := by
  have hg := rel_g hR
  obtain ⟨h1, h2, h3, h4, h5, h6, ⟨w, h, h7, h8, h9⟩, h10, h11⟩ := id hR
  obtain ⟨a, st, pc, uc, f1, f2, f3, f4, f5, f6, f7, f8, f9, f10, f11, f12⟩ := h9
  obtain ⟨d1, d2, d3, d4, d5, d6, d7, d8, d9⟩ := id h7
  obtain ⟨s0, s1, -, sob⟩ := stW (s := s) f9
  obtain ⟨la, oa, sz, ly, od, o, hS⟩ := stN_d f9
  have ho : OrD (s.2.1 142) sz od o := hS.2.2.2.2.2.2.2.2.2.2.2.2.1
  by_cases x0 : x = 0
  · exact ⟨Int32.ofNat w, by simp (decide := true) only [fX11_count, f8_0, f8_2, f8_4, f8_6, f20_8, f8_8, f93_8, f8_14, ob20, ob_s, b2_s, tc_r, tc_l, F_sF, A_sF, R_sF, L_sF, F_sA, A_sA, R_sA, L_sA, F_sR, A_sR, R_sR, L_sR, F_sL, A_sL, R_sL, L_sL, and_true, true_and, and_false, false_and, and_self, reduceIte, sF_sF, sA_sA, false_or, or_false, true_or, or_true, not_false_eq_true, not_true_eq_false, decide_true, decide_false, Bool.true_or, Bool.or_true, Bool.false_and, Bool.true_and, Bool.false_or, Bool.or_false, Bool.and_true, Bool.and_false, x0, f3, s0], by simp (decide := true) only [fX12_count, f139_13, f139_14, f139_11, f139_12, f139_23, f139_43, f139_2, w139_0, ob139, ob_s, b2_s, tc_r, tc_l, F_sF, A_sF, R_sF, L_sF, F_sA, A_sA, R_sA, L_sA, F_sR, A_sR, R_sR, L_sR, F_sL, A_sL, R_sL, L_sL, and_true, true_and, and_false, false_and, and_self, reduceIte, sF_sF, sA_sA, false_or, or_false, true_or, or_true, not_false_eq_true, not_true_eq_false, decide_true, decide_false, Bool.true_or, Bool.or_true, Bool.false_and, Bool.true_and, Bool.false_or, Bool.or_false, Bool.and_true, Bool.and_false, x0, d5], rel_thrown hR⟩
  by_cases x1 : x = 1
  · exact ⟨Int32.ofNat h, by simp (decide := true) only [fX11_count, f8_0, f8_2, f8_4, f8_6, f20_8, f8_8, f93_8, f8_14, ob20, ob_s, b2_s, tc_r, tc_l, F_sF, A_sF, R_sF, L_sF, F_sA, A_sA, R_sA, L_sA, F_sR, A_sR, R_sR, L_sR, F_sL, A_sL, R_sL, L_sL, and_true, true_and, and_false, false_and, and_self, reduceIte, sF_sF, sA_sA, false_or, or_false, true_or, or_true, not_false_eq_true, not_true_eq_false, decide_true, decide_false, Bool.true_or, Bool.or_true, Bool.false_and, Bool.true_and, Bool.false_or, Bool.or_false, Bool.and_true, Bool.and_false, x1, f3, s1], by simp (decide := true) only [fX12_count, f139_13, f139_14, f139_11, f139_12, f139_23, f139_43, f139_2, w139_0, ob139, ob_s, b2_s, tc_r, tc_l, F_sF, A_sF, R_sF, L_sF, F_sA, A_sA, R_sA, L_sA, F_sR, A_sR, R_sR, L_sR, F_sL, A_sL, R_sL, L_sL, and_true, true_and, and_false, false_and, and_self, reduceIte, sF_sF, sA_sA, false_or, or_false, true_or, or_true, not_false_eq_true, not_true_eq_false, decide_true, decide_false, Bool.true_or, Bool.or_true, Bool.false_and, Bool.true_and, Bool.false_or, Bool.or_false, Bool.and_true, Bool.and_false, x1, d6], rel_thrown hR⟩
  by_cases x2 : x = 2
  · have l2 := live12 (s := sF s 139 0 0) (g := g)
    have e142 : (sF s 139 0 0).2.1 142 = s.2.1 142 := by simp (decide := true) only [ob_s, b2_s, tc_r, tc_l, F_sF, A_sF, R_sF, L_sF, F_sA, A_sA, R_sA, L_sA, F_sR, A_sR, R_sR, L_sR, F_sL, A_sL, R_sL, L_sL, and_true, true_and, and_false, false_and, and_self, reduceIte, sF_sF, sA_sA, false_or, or_false, true_or, or_true, not_false_eq_true, not_true_eq_false, decide_true, decide_false, Bool.true_or, Bool.or_true, Bool.false_and, Bool.true_and, Bool.false_or, Bool.or_false, Bool.and_true, Bool.and_false]
    rw [e142, live_sz ho] at l2
    exact ⟨Int32.ofNat sz, by simp (decide := true) only [fX11_count, f8_0, f8_2, f8_4, f8_6, f20_8, f8_8, f93_8, f8_14, ob20, ob_s, b2_s, tc_r, tc_l, F_sF, A_sF, R_sF, L_sF, F_sA, A_sA, R_sA, L_sA, F_sR, A_sR, R_sR, L_sR, F_sL, A_sL, R_sL, L_sL, and_true, true_and, and_false, false_and, and_self, reduceIte, sF_sF, sA_sA, false_or, or_false, true_or, or_true, not_false_eq_true, not_true_eq_false, decide_true, decide_false, Bool.true_or, Bool.or_true, Bool.false_and, Bool.true_and, Bool.false_or, Bool.or_false, Bool.and_true, Bool.and_false, x2, f3, hS.f4], by simp (decide := true) only [fX12_count, f139_13, f139_14, f139_11, f139_12, f139_23, f139_43, f139_2, w139_0, ob139, ob_s, b2_s, tc_r, tc_l, F_sF, A_sF, R_sF, L_sF, F_sA, A_sA, R_sA, L_sA, F_sR, A_sR, R_sR, L_sR, F_sL, A_sL, R_sL, L_sL, and_true, true_and, and_false, false_and, and_self, reduceIte, sF_sF, sA_sA, false_or, or_false, true_or, or_true, not_false_eq_true, not_true_eq_false, decide_true, decide_false, Bool.true_or, Bool.or_true, Bool.false_and, Bool.true_and, Bool.false_or, Bool.or_false, Bool.and_true, Bool.and_false, x2, l2], rel_thrown hR⟩
  by_cases x3 : x = 3
  · exact ⟨Int32.ofNat pc, by simp (decide := true) only [fX11_count, f8_0, f8_2, f8_4, f8_6, f20_8, f8_8, f93_8, f8_14, ob20, ob_s, b2_s, tc_r, tc_l, F_sF, A_sF, R_sF, L_sF, F_sA, A_sA, R_sA, L_sA, F_sR, A_sR, R_sR, L_sR, F_sL, A_sL, R_sL, L_sL, and_true, true_and, and_false, false_and, and_self, reduceIte, sF_sF, sA_sA, false_or, or_false, true_or, or_true, not_false_eq_true, not_true_eq_false, decide_true, decide_false, Bool.true_or, Bool.or_true, Bool.false_and, Bool.true_and, Bool.false_or, Bool.or_false, Bool.and_true, Bool.and_false, x3, f4], by simp (decide := true) only [fX12_count, f139_13, f139_14, f139_11, f139_12, f139_23, f139_43, f139_2, w139_0, ob139, ob_s, b2_s, tc_r, tc_l, F_sF, A_sF, R_sF, L_sF, F_sA, A_sA, R_sA, L_sA, F_sR, A_sR, R_sR, L_sR, F_sL, A_sL, R_sL, L_sL, and_true, true_and, and_false, false_and, and_self, reduceIte, sF_sF, sA_sA, false_or, or_false, true_or, or_true, not_false_eq_true, not_true_eq_false, decide_true, decide_false, Bool.true_or, Bool.or_true, Bool.false_and, Bool.true_and, Bool.false_or, Bool.or_false, Bool.and_true, Bool.and_false, x3, f7], rel_thrown hR⟩
  by_cases x4 : x = 4
  · have e4 : Int32.ofNat (pc + uc + 1) - 1 - Int32.ofNat pc = Int32.ofNat uc := by
      show Int32.ofNat (pc + uc + 1) - Int32.ofNat 1 - Int32.ofNat pc = _
      rw [n_sub (by omega) (by omega), n_sub (by omega) (by omega)]
      congr 1; omega
    exact ⟨Int32.ofNat uc, by simp (decide := true) only [fX11_count, f8_0, f8_2, f8_4, f8_6, f20_8, f8_8, f93_8, f8_14, ob20, ob_s, b2_s, tc_r, tc_l, F_sF, A_sF, R_sF, L_sF, F_sA, A_sA, R_sA, L_sA, F_sR, A_sR, R_sR, L_sR, F_sL, A_sL, R_sL, L_sL, and_true, true_and, and_false, false_and, and_self, reduceIte, sF_sF, sA_sA, false_or, or_false, true_or, or_true, not_false_eq_true, not_true_eq_false, decide_true, decide_false, Bool.true_or, Bool.or_true, Bool.false_and, Bool.true_and, Bool.false_or, Bool.or_false, Bool.and_true, Bool.and_false, x4, f5], by simp (decide := true) only [fX12_count, f139_13, f139_14, f139_11, f139_12, f139_23, f139_43, f139_2, w139_0, ob139, ob_s, b2_s, tc_r, tc_l, F_sF, A_sF, R_sF, L_sF, F_sA, A_sA, R_sA, L_sA, F_sR, A_sR, R_sR, L_sR, F_sL, A_sL, R_sL, L_sL, and_true, true_and, and_false, false_and, and_self, reduceIte, sF_sF, sA_sA, false_or, or_false, true_or, or_true, not_false_eq_true, not_true_eq_false, decide_true, decide_false, Bool.true_or, Bool.or_true, Bool.false_and, Bool.true_and, Bool.false_or, Bool.or_false, Bool.and_true, Bool.and_false, x4, f7, f8, e4], rel_thrown hR⟩
  by_cases x5 : x = 5
  · exact ⟨s.1 139 23, by simp (decide := true) only [fX11_count, f8_0, f8_2, f8_4, f8_6, f20_8, f8_8, f93_8, f8_14, ob20, ob_s, b2_s, tc_r, tc_l, F_sF, A_sF, R_sF, L_sF, F_sA, A_sA, R_sA, L_sA, F_sR, A_sR, R_sR, L_sR, F_sL, A_sL, R_sL, L_sL, and_true, true_and, and_false, false_and, and_self, reduceIte, sF_sF, sA_sA, false_or, or_false, true_or, or_true, not_false_eq_true, not_true_eq_false, decide_true, decide_false, Bool.true_or, Bool.or_true, Bool.false_and, Bool.true_and, Bool.false_or, Bool.or_false, Bool.and_true, Bool.and_false, x5, f20_8, h8.1], by simp (decide := true) only [fX12_count, f139_13, f139_14, f139_11, f139_12, f139_23, f139_43, f139_2, w139_0, ob139, ob_s, b2_s, tc_r, tc_l, F_sF, A_sF, R_sF, L_sF, F_sA, A_sA, R_sA, L_sA, F_sR, A_sR, R_sR, L_sR, F_sL, A_sL, R_sL, L_sL, and_true, true_and, and_false, false_and, and_self, reduceIte, sF_sF, sA_sA, false_or, or_false, true_or, or_true, not_false_eq_true, not_true_eq_false, decide_true, decide_false, Bool.true_or, Bool.or_true, Bool.false_and, Bool.true_and, Bool.false_or, Bool.or_false, Bool.and_true, Bool.and_false, x5], rel_thrown hR⟩
  by_cases x6 : x = 6
  · have l6 := kept12 (s := sF s 139 0 0) (g := g)
    have e148 : (sF s 139 0 0).2.1 148 = s.2.1 148 := by simp (decide := true) only [ob_s, b2_s, tc_r, tc_l, F_sF, A_sF, R_sF, L_sF, F_sA, A_sA, R_sA, L_sA, F_sR, A_sR, R_sR, L_sR, F_sL, A_sL, R_sL, L_sL, and_true, true_and, and_false, false_and, and_self, reduceIte, sF_sF, sA_sA, false_or, or_false, true_or, or_true, not_false_eq_true, not_true_eq_false, decide_true, decide_false, Bool.true_or, Bool.or_true, Bool.false_and, Bool.true_and, Bool.false_or, Bool.or_false, Bool.and_true, Bool.and_false]
    rw [e148] at l6
    exact ⟨Int32.ofNat (cnt (tlC (s.2.1 148)) 9), by simp (decide := true) only [fX11_count, f8_0, f8_2, f8_4, f8_6, f20_8, f8_8, f93_8, f8_14, ob20, ob_s, b2_s, tc_r, tc_l, F_sF, A_sF, R_sF, L_sF, F_sA, A_sA, R_sA, L_sA, F_sR, A_sR, R_sR, L_sR, F_sL, A_sL, R_sL, L_sL, and_true, true_and, and_false, false_and, and_self, reduceIte, sF_sF, sA_sA, false_or, or_false, true_or, or_true, not_false_eq_true, not_true_eq_false, decide_true, decide_false, Bool.true_or, Bool.or_true, Bool.false_and, Bool.true_and, Bool.false_or, Bool.or_false, Bool.and_true, Bool.and_false, x6, ob20, kept11, tiles_eq ⟨d1, d2⟩ ⟨d3, d4⟩ h8], by simp (decide := true) only [fX12_count, f139_13, f139_14, f139_11, f139_12, f139_23, f139_43, f139_2, w139_0, ob139, ob_s, b2_s, tc_r, tc_l, F_sF, A_sF, R_sF, L_sF, F_sA, A_sA, R_sA, L_sA, F_sR, A_sR, R_sR, L_sR, F_sL, A_sL, R_sL, L_sL, and_true, true_and, and_false, false_and, and_self, reduceIte, sF_sF, sA_sA, false_or, or_false, true_or, or_true, not_false_eq_true, not_true_eq_false, decide_true, decide_false, Bool.true_or, Bool.or_true, Bool.false_and, Bool.true_and, Bool.false_or, Bool.or_false, Bool.and_true, Bool.and_false, x6, l6], rel_thrown hR⟩
  obtain ⟨-, -, -, -, -, -, -, -, -, -, -, -, -, -, -, n, n1, n2, n3, n4⟩ := h2
  by_cases x7 : x = 7
  · exact ⟨Int32.ofNat n, by simp (decide := true) only [fX11_count, f8_0, f8_2, f8_4, f8_6, f20_8, f8_8, f93_8, f8_14, ob20, ob_s, b2_s, tc_r, tc_l, F_sF, A_sF, R_sF, L_sF, F_sA, A_sA, R_sA, L_sA, F_sR, A_sR, R_sR, L_sR, F_sL, A_sL, R_sL, L_sL, and_true, true_and, and_false, false_and, and_self, reduceIte, sF_sF, sA_sA, false_or, or_false, true_or, or_true, not_false_eq_true, not_true_eq_false, decide_true, decide_false, Bool.true_or, Bool.or_true, Bool.false_and, Bool.true_and, Bool.false_or, Bool.or_false, Bool.and_true, Bool.and_false, x7, f93_8, n2], by simp (decide := true) only [fX12_count, f139_13, f139_14, f139_11, f139_12, f139_23, f139_43, f139_2, w139_0, ob139, ob_s, b2_s, tc_r, tc_l, F_sF, A_sF, R_sF, L_sF, F_sA, A_sA, R_sA, L_sA, F_sR, A_sR, R_sR, L_sR, F_sL, A_sL, R_sL, L_sL, and_true, true_and, and_false, false_and, and_self, reduceIte, sF_sF, sA_sA, false_or, or_false, true_or, or_true, not_false_eq_true, not_true_eq_false, decide_true, decide_false, Bool.true_or, Bool.or_true, Bool.false_and, Bool.true_and, Bool.false_or, Bool.or_false, Bool.and_true, Bool.and_false, x7, n3], rel_thrown hR⟩
  obtain ⟨m, m1, m2, m3, m4, m5, m6⟩ := h1
  by_cases x8 : x = 8
  · exact ⟨Int32.ofNat m, by simp (decide := true) only [fX11_count, f8_0, f8_2, f8_4, f8_6, f20_8, f8_8, f93_8, f8_14, ob20, ob_s, b2_s, tc_r, tc_l, F_sF, A_sF, R_sF, L_sF, F_sA, A_sA, R_sA, L_sA, F_sR, A_sR, R_sR, L_sR, F_sL, A_sL, R_sL, L_sL, and_true, true_and, and_false, false_and, and_self, reduceIte, sF_sF, sA_sA, false_or, or_false, true_or, or_true, not_false_eq_true, not_true_eq_false, decide_true, decide_false, Bool.true_or, Bool.or_true, Bool.false_and, Bool.true_and, Bool.false_or, Bool.or_false, Bool.and_true, Bool.and_false, x8, m2], by simp (decide := true) only [fX12_count, f139_13, f139_14, f139_11, f139_12, f139_23, f139_43, f139_2, w139_0, ob139, ob_s, b2_s, tc_r, tc_l, F_sF, A_sF, R_sF, L_sF, F_sA, A_sA, R_sA, L_sA, F_sR, A_sR, R_sR, L_sR, F_sL, A_sL, R_sL, L_sL, and_true, true_and, and_false, false_and, and_self, reduceIte, sF_sF, sA_sA, false_or, or_false, true_or, or_true, not_false_eq_true, not_true_eq_false, decide_true, decide_false, Bool.true_or, Bool.or_true, Bool.false_and, Bool.true_and, Bool.false_or, Bool.or_false, Bool.and_true, Bool.and_false, x8, m3], rel_thrown hR⟩
  by_cases x9 : x = 9
  · exact ⟨rS (s.2.1 142) 30, by simp (decide := true) only [fX11_count, f8_0, f8_2, f8_4, f8_6, f20_8, f8_8, f93_8, f8_14, ob20, ob_s, b2_s, tc_r, tc_l, F_sF, A_sF, R_sF, L_sF, F_sA, A_sA, R_sA, L_sA, F_sR, A_sR, R_sR, L_sR, F_sL, A_sL, R_sL, L_sL, and_true, true_and, and_false, false_and, and_self, reduceIte, sF_sF, sA_sA, false_or, or_false, true_or, or_true, not_false_eq_true, not_true_eq_false, decide_true, decide_false, Bool.true_or, Bool.or_true, Bool.false_and, Bool.true_and, Bool.false_or, Bool.or_false, Bool.and_true, Bool.and_false, x9, f3, sob, reach9 f9], by simp (decide := true) only [fX12_count, f139_13, f139_14, f139_11, f139_12, f139_23, f139_43, f139_2, w139_0, ob139, ob_s, b2_s, tc_r, tc_l, F_sF, A_sF, R_sF, L_sF, F_sA, A_sA, R_sA, L_sA, F_sR, A_sR, R_sR, L_sR, F_sL, A_sL, R_sL, L_sL, and_true, true_and, and_false, false_and, and_self, reduceIte, sF_sF, sA_sA, false_or, or_false, true_or, or_true, not_false_eq_true, not_true_eq_false, decide_true, decide_false, Bool.true_or, Bool.or_true, Bool.false_and, Bool.true_and, Bool.false_or, Bool.or_false, Bool.and_true, Bool.and_false, x9, reach12], rel_thrown hR⟩
  · exact ⟨-1, by simp (decide := true) only [fX11_count, f8_0, f8_2, f8_4, f8_6, f20_8, f8_8, f93_8, f8_14, ob20, ob_s, b2_s, tc_r, tc_l, F_sF, A_sF, R_sF, L_sF, F_sA, A_sA, R_sA, L_sA, F_sR, A_sR, R_sR, L_sR, F_sL, A_sL, R_sL, L_sL, and_true, true_and, and_false, false_and, and_self, reduceIte, sF_sF, sA_sA, false_or, or_false, true_or, or_true, not_false_eq_true, not_true_eq_false, decide_true, decide_false, Bool.true_or, Bool.or_true, Bool.false_and, Bool.true_and, Bool.false_or, Bool.or_false, Bool.and_true, Bool.and_false, x0, x1, x2, x3, x4, x5, x6, x7, x8, x9], by simp (decide := true) only [fX12_count, f139_13, f139_14, f139_11, f139_12, f139_23, f139_43, f139_2, w139_0, ob139, ob_s, b2_s, tc_r, tc_l, F_sF, A_sF, R_sF, L_sF, F_sA, A_sA, R_sA, L_sA, F_sR, A_sR, R_sR, L_sR, F_sL, A_sL, R_sL, L_sL, and_true, true_and, and_false, false_and, and_self, reduceIte, sF_sF, sA_sA, false_or, or_false, true_or, or_true, not_false_eq_true, not_true_eq_false, decide_true, decide_false, Bool.true_or, Bool.or_true, Bool.false_and, Bool.true_and, Bool.false_or, Bool.or_false, Bool.and_true, Bool.and_false, x0, x1, x2, x3, x4, x5, x6, x7, x8, x9], rel_thrown hR⟩
