-- needs: 07 10 13 14 20 21 22 23 32 33
/-! ===== octets ===== -/
def oV (A : Nat → Int32) (n i : Nat) : Nat → Int64
  | 0 => 0
  | j + 1 => q_lshl (oV A n i j) 8 ||| Int32.toInt64 (if i + j < n then A (i + j) else 0)
theorem oV_eq {A B : Nat → Int32} {n i : Nat} (h : ∀ k, k < n → A k = B k) : ∀ j, oV A n i j = oV B n i j
  | 0 => rfl
  | j + 1 => by
    unfold oV
    rw [oV_eq h j]
    by_cases q : i + j < n
    · rw [if_pos q, if_pos q, h _ q]
    · rw [if_neg q, if_neg q]
theorem eight11 {s : e_S} {g : ps_G} {n i : Nat} (hn : n ≤ 3000) (hi : i ≤ 8000) (e : s.1 122 1 = Int32.ofNat n) : fX7_eight (e_g s g) 122 (Int32.ofNat i) = some (oV (s.2.1 123) n i 8) := by
  have e9 : q_lp (fun t => bX7_eight_5 (e_g s g) 122 (Int32.ofNat i) t.1 t.2) ((0 : Int64), Int32.ofNat i) = some (oV (s.2.1 123) n i 8) := by
   refine lp_0 (fun j => (oV (s.2.1 123) n i j, Int32.ofNat (i + j))) 8 rfl (fun j hj => ?_) ?_
   rotate_left
   · have c : Int32.ofNat i + 8 ≤ Int32.ofNat (i + 8) := by
      show Int32.ofNat i + Int32.ofNat 8 ≤ _
      rw [n_add, i_le]; omega
     simp (decide := true) only [bX7_eight_5, f122_1, f122_0, a123, jX7_eight_50_5, jX7_eight_51_5, ob_s, b2_s, tc_r, tc_l, F_sF, A_sF, R_sF, L_sF, F_sA, A_sA, R_sA, L_sA, F_sR, A_sR, R_sR, L_sR, F_sL, A_sL, R_sL, L_sL, and_true, true_and, and_false, false_and, and_self, reduceIte, sF_sF, sA_sA, false_or, or_false, true_or, or_true, not_false_eq_true, not_true_eq_false, decide_true, decide_false, Bool.true_or, Bool.or_true, Bool.false_and, Bool.true_and, Bool.false_or, Bool.or_false, Bool.and_true, Bool.and_false, c]
   · have c : ¬ Int32.ofNat i + 8 ≤ Int32.ofNat (i + j) := by
       show ¬ Int32.ofNat i + Int32.ofNat 8 ≤ _
       rw [n_add, n_le (by omega) (by omega)]; omega
     have c2 := n_neg (n := i + j) (by omega)
     by_cases q : i + j < n
     · have c3 : ¬ (Int32.ofNat n ≤ Int32.ofNat (i + j) ∨ 3000 ≤ Int32.ofNat (i + j)) := by
         show ¬ (Int32.ofNat n ≤ Int32.ofNat (i + j) ∨ Int32.ofNat 3000 ≤ Int32.ofNat (i + j))
         rw [n_le (by omega) (by omega), n_le (by omega) (by omega)]; omega
       simp (decide := true) only [bX7_eight_5, f122_1, f122_0, a123, jX7_eight_50_5, jX7_eight_51_5, ob_s, b2_s, tc_r, tc_l, F_sF, A_sF, R_sF, L_sF, F_sA, A_sA, R_sA, L_sA, F_sR, A_sR, R_sR, L_sR, F_sL, A_sL, R_sL, L_sL, and_true, true_and, and_false, false_and, and_self, reduceIte, sF_sF, sA_sA, false_or, or_false, true_or, or_true, not_false_eq_true, not_true_eq_false, decide_true, decide_false, Bool.true_or, Bool.or_true, Bool.false_and, Bool.true_and, Bool.false_or, Bool.or_false, Bool.and_true, Bool.and_false, c, c2, e, c3, show ¬ 3000 ≤ i + j by omega, false_or, n_idx (show i + j < 2147483648 by omega), n_suc, oV, q, Nat.add_assoc]
     · have c3 : Int32.ofNat n ≤ Int32.ofNat (i + j) ∨ 3000 ≤ Int32.ofNat (i + j) := by
         left
         rw [n_le (by omega) (by omega)]; omega
       simp (decide := true) only [bX7_eight_5, f122_1, f122_0, a123, jX7_eight_50_5, jX7_eight_51_5, ob_s, b2_s, tc_r, tc_l, F_sF, A_sF, R_sF, L_sF, F_sA, A_sA, R_sA, L_sA, F_sR, A_sR, R_sR, L_sR, F_sL, A_sL, R_sL, L_sL, and_true, true_and, and_false, false_and, and_self, reduceIte, sF_sF, sA_sA, false_or, or_false, true_or, or_true, not_false_eq_true, not_true_eq_false, decide_true, decide_false, Bool.true_or, Bool.or_true, Bool.false_and, Bool.true_and, Bool.false_or, Bool.or_false, Bool.and_true, Bool.and_false, c, c2, e, c3, n_suc, oV, q, Nat.add_assoc]
  unfold fX7_eight
  rw [e9, ob_s]
theorem eight12 {s : e_S} {g : ps_G} {n i : Nat} (hn : n ≤ 3000) (hi : i ≤ 8000) (e : s.1 139 7 = Int32.ofNat n) : q_lp (fun t => bX12_octets_45 (e_g s g) 139 (Int32.ofNat i) t.1 t.2) ((0 : Int64), Int32.ofNat i) = some (oV (s.2.1 141) n i 8) := by
  refine lp_0 (fun j => (oV (s.2.1 141) n i j, Int32.ofNat (i + j))) 8 rfl (fun j hj => ?_) ?_
  · have c : ¬ Int32.ofNat i + 8 ≤ Int32.ofNat (i + j) := by
      show ¬ Int32.ofNat i + Int32.ofNat 8 ≤ _
      rw [n_add, n_le (by omega) (by omega)]; omega
    by_cases q : i + j < n
    · have c3 : ¬ Int32.ofNat n ≤ Int32.ofNat (i + j) := by
        rw [n_le (by omega) (by omega)]; omega
      simp (decide := true) only [bX12_octets_45, f139_7, f139_6, a141, jX12_octets_78_45, ob_s, b2_s, tc_r, tc_l, F_sF, A_sF, R_sF, L_sF, F_sA, A_sA, R_sA, L_sA, F_sR, A_sR, R_sR, L_sR, F_sL, A_sL, R_sL, L_sL, and_true, true_and, and_false, false_and, and_self, reduceIte, sF_sF, sA_sA, false_or, or_false, true_or, or_true, not_false_eq_true, not_true_eq_false, decide_true, decide_false, Bool.true_or, Bool.or_true, Bool.false_and, Bool.true_and, Bool.false_or, Bool.or_false, Bool.and_true, Bool.and_false, c, e, c3, n_in2 (show i + j < 16000 by omega) (by decide), n_idx (show i + j < 2147483648 by omega), n_suc, oV, q, Nat.add_assoc]
    · have c3 : Int32.ofNat n ≤ Int32.ofNat (i + j) := by
        rw [n_le (by omega) (by omega)]; omega
      simp (decide := true) only [bX12_octets_45, f139_7, f139_6, a141, jX12_octets_78_45, ob_s, b2_s, tc_r, tc_l, F_sF, A_sF, R_sF, L_sF, F_sA, A_sA, R_sA, L_sA, F_sR, A_sR, R_sR, L_sR, F_sL, A_sL, R_sL, L_sL, and_true, true_and, and_false, false_and, and_self, reduceIte, sF_sF, sA_sA, false_or, or_false, true_or, or_true, not_false_eq_true, not_true_eq_false, decide_true, decide_false, Bool.true_or, Bool.or_true, Bool.false_and, Bool.true_and, Bool.false_or, Bool.or_false, Bool.and_true, Bool.and_false, c, e, c3, n_suc, oV, q, Nat.add_assoc]
  · have c : Int32.ofNat i + 8 ≤ Int32.ofNat (i + 8) := by
      show Int32.ofNat i + Int32.ofNat 8 ≤ _
      rw [n_add, i_le]; omega
    simp (decide := true) only [bX12_octets_45, f139_7, f139_6, a141, jX12_octets_78_45, ob_s, b2_s, tc_r, tc_l, F_sF, A_sF, R_sF, L_sF, F_sA, A_sA, R_sA, L_sA, F_sR, A_sR, R_sR, L_sR, F_sL, A_sL, R_sL, L_sL, and_true, true_and, and_false, false_and, and_self, reduceIte, sF_sF, sA_sA, false_or, or_false, true_or, or_true, not_false_eq_true, not_true_eq_false, decide_true, decide_false, Bool.true_or, Bool.or_true, Bool.false_and, Bool.true_and, Bool.false_or, Bool.or_false, Bool.and_true, Bool.and_false, c]
/-- a call of a wrapper that puts a long, and the reference's -/
def KJ (w : Option (Int32 × ps_G)) (m : ps_G → Option (Int64 × ps_G)) (g : ps_G) : Prop := ∃ s2 g1, (∃ k s1 b, w = some (k, e_g s1 g1) ∧ m (e_g s1 g1) = some (b, e_g s2 g1) ∧ s2.1 139 0 = k ∧ (k = 0 → s2.2.2.2 194 0 = b)) ∧ Rel s2 g1 ∧ Ext g g1
theorem pO_0 {s : e_S} {v : Int64} {x : Int32} : (sF (pO s v) 139 0 x).2.2.2 194 0 = v := by
  simp (decide := true) only [ob_s, b2_s, tc_r, tc_l, F_sF, A_sF, R_sF, L_sF, F_sA, A_sA, R_sA, L_sA, F_sR, A_sR, R_sR, L_sR, F_sL, A_sL, R_sL, L_sL, and_true, true_and, and_false, false_and, and_self, reduceIte, sF_sF, sA_sA, false_or, or_false, true_or, or_true, not_false_eq_true, not_true_eq_false, decide_true, decide_false, Bool.true_or, Bool.or_true, Bool.false_and, Bool.true_and, Bool.false_or, Bool.or_false, Bool.and_true, Bool.and_false, pO]
  simp [vp_updL]
theorem K_octets {s : e_S} {g : ps_G} {i : Int32} (h : Rel s g) : KJ (fL_octets (e_g s g) 8 i 194) (fun G => fX12_octets G 139 i) g := by
  have hg := rel_g h
  obtain ⟨h1, h2, h3, h4, h5, h6, ⟨w, h0, h7, h8, h9⟩, h10, h11⟩ := id h
  obtain ⟨n, c1, c2, c3, c4⟩ := h10
  by_cases q : rg i (-1) 8000
  · have hR : ∀ v, Rel (sF (pO s v) 139 0 0) g := fun v => rel_thrown (rel_out h)
    by_cases q1 : i = -1
    · subst q1
      refine ⟨sF (pO s (Int32.ofNat n).toInt64) 139 0 0, g, ⟨0, pO s (Int32.ofNat n).toInt64, (Int32.ofNat n).toInt64, ?_, ?_, by simp (decide := true) only [ob_s, b2_s, tc_r, tc_l, F_sF, A_sF, R_sF, L_sF, F_sA, A_sA, R_sA, L_sA, F_sR, A_sR, R_sR, L_sR, F_sL, A_sL, R_sL, L_sL, and_true, true_and, and_false, false_and, and_self, reduceIte, sF_sF, sA_sA, false_or, or_false, true_or, or_true, not_false_eq_true, not_true_eq_false, decide_true, decide_false, Bool.true_or, Bool.or_true, Bool.false_and, Bool.true_and, Bool.false_or, Bool.or_false, Bool.and_true, Bool.and_false], fun _ => ?_⟩, hR _, ext_rf⟩
      · have z : ¬ (0 : Int32) ≤ -1 := by decide
        have hc : fX11_octets (e_g s g) 8 (-1) = some (.inr (Int32.ofNat n).toInt64, e_g s g) := by
          simp (decide := true) only [fX11_octets, f8_11, f122_1, ob122, jX11_octets_31, ob_s, b2_s, tc_r, tc_l, F_sF, A_sF, R_sF, L_sF, F_sA, A_sA, R_sA, L_sA, F_sR, A_sR, R_sR, L_sR, F_sL, A_sL, R_sL, L_sL, and_true, true_and, and_false, false_and, and_self, reduceIte, sF_sF, sA_sA, false_or, or_false, true_or, or_true, not_false_eq_true, not_true_eq_false, decide_true, decide_false, Bool.true_or, Bool.or_true, Bool.false_and, Bool.true_and, Bool.false_or, Bool.or_false, Bool.and_true, Bool.and_false, rng hg, q, z, f122_1, c2]
        unfold fL_octets
        rw [hc, ob8, ob_s, wr_r, u194, if_neg (by decide)]
        rfl
      · simp (decide := true) only [fX12_octets, f139_0, f139_7, w139_0, ob_s, b2_s, tc_r, tc_l, F_sF, A_sF, R_sF, L_sF, F_sA, A_sA, R_sA, L_sA, F_sR, A_sR, R_sR, L_sR, F_sL, A_sL, R_sL, L_sL, and_true, true_and, and_false, false_and, and_self, reduceIte, sF_sF, sA_sA, false_or, or_false, true_or, or_true, not_false_eq_true, not_true_eq_false, decide_true, decide_false, Bool.true_or, Bool.or_true, Bool.false_and, Bool.true_and, Bool.false_or, Bool.or_false, Bool.and_true, Bool.and_false, rin, q, pO, c3, not_true_eq_false]
      · exact pO_0
    · obtain ⟨i, rfl, hi⟩ : ∃ m : Nat, i = Int32.ofNat m ∧ m ≤ 8000 := by
        have z := rg_i.mp q
        have z1 : -1 ≤ i.toInt := z.1
        have z2 : i.toInt ≤ 8000 := z.2
        have z3 : ¬ i.toInt = -1 := fun e => q1 (i_eq.mpr e)
        exact ⟨i.toInt.toNat, n_of (by omega), by omega⟩
      refine ⟨sF (pO s (oV (s.2.1 141) n i 8)) 139 0 0, g, ⟨0, pO s (oV (s.2.1 141) n i 8), oV (s.2.1 141) n i 8, ?_, ?_, by simp (decide := true) only [ob_s, b2_s, tc_r, tc_l, F_sF, A_sF, R_sF, L_sF, F_sA, A_sA, R_sA, L_sA, F_sR, A_sR, R_sR, L_sR, F_sL, A_sL, R_sL, L_sL, and_true, true_and, and_false, false_and, and_self, reduceIte, sF_sF, sA_sA, false_or, or_false, true_or, or_true, not_false_eq_true, not_true_eq_false, decide_true, decide_false, Bool.true_or, Bool.or_true, Bool.false_and, Bool.true_and, Bool.false_or, Bool.or_false, Bool.and_true, Bool.and_false], fun _ => ?_⟩, hR _, ext_rf⟩
      · have z : (0 : Int32) ≤ Int32.ofNat i := by
          show Int32.ofNat 0 ≤ Int32.ofNat i
          rw [n_le (by omega) (by omega)]; omega
        have hc : fX11_octets (e_g s g) 8 (Int32.ofNat i) = some (.inr (oV (s.2.1 141) n i 8), e_g s g) := by
          simp (decide := true) only [fX11_octets, f8_11, f122_1, ob122, jX11_octets_31, ob_s, b2_s, tc_r, tc_l, F_sF, A_sF, R_sF, L_sF, F_sA, A_sA, R_sA, L_sA, F_sR, A_sR, R_sR, L_sR, F_sL, A_sL, R_sL, L_sL, and_true, true_and, and_false, false_and, and_self, reduceIte, sF_sF, sA_sA, false_or, or_false, true_or, or_true, not_false_eq_true, not_true_eq_false, decide_true, decide_false, Bool.true_or, Bool.or_true, Bool.false_and, Bool.true_and, Bool.false_or, Bool.or_false, Bool.and_true, Bool.and_false, rng hg, q, z, ob122, eight11 c1 hi c2, oV_eq (fun k hk => (c4 k hk).1)]
        unfold fL_octets
        rw [hc, ob8, ob_s, wr_r, u194, if_neg (by decide)]
        rfl
      · have e9 := eight12 (s := sF (pO s (oV (s.2.1 141) n i 8)) 139 0 0) (g := g) c1 hi (by simp (decide := true) only [ob_s, b2_s, tc_r, tc_l, F_sF, A_sF, R_sF, L_sF, F_sA, A_sA, R_sA, L_sA, F_sR, A_sR, R_sR, L_sR, F_sL, A_sL, R_sL, L_sL, and_true, true_and, and_false, false_and, and_self, reduceIte, sF_sF, sA_sA, false_or, or_false, true_or, or_true, not_false_eq_true, not_true_eq_false, decide_true, decide_false, Bool.true_or, Bool.or_true, Bool.false_and, Bool.true_and, Bool.false_or, Bool.or_false, Bool.and_true, Bool.and_false, pO, c3])
        simp (decide := true) only [fX12_octets, f139_0, f139_7, w139_0, ob_s, b2_s, tc_r, tc_l, F_sF, A_sF, R_sF, L_sF, F_sA, A_sA, R_sA, L_sA, F_sR, A_sR, R_sR, L_sR, F_sL, A_sL, R_sL, L_sL, and_true, true_and, and_false, false_and, and_self, reduceIte, sF_sF, sA_sA, false_or, or_false, true_or, or_true, not_false_eq_true, not_true_eq_false, decide_true, decide_false, Bool.true_or, Bool.or_true, Bool.false_and, Bool.true_and, Bool.false_or, Bool.or_false, Bool.and_true, Bool.and_false, rin, q, q1, pO, c3, not_false_eq_true] at e9 ⊢
        rw [e9]
        simp (decide := true) only [ob_s, b2_s, tc_r, tc_l, F_sF, A_sF, R_sF, L_sF, F_sA, A_sA, R_sA, L_sA, F_sR, A_sR, R_sR, L_sR, F_sL, A_sL, R_sL, L_sL, and_true, true_and, and_false, false_and, and_self, reduceIte, sF_sF, sA_sA, false_or, or_false, true_or, or_true, not_false_eq_true, not_true_eq_false, decide_true, decide_false, Bool.true_or, Bool.or_true, Bool.false_and, Bool.true_and, Bool.false_or, Bool.or_false, Bool.and_true, Bool.and_false]
      · exact pO_0
  · refine ⟨sF s 139 0 1, nx g, ⟨1, s, 0, ?_, ?_, by simp (decide := true) only [ob_s, b2_s, tc_r, tc_l, F_sF, A_sF, R_sF, L_sF, F_sA, A_sA, R_sA, L_sA, F_sR, A_sR, R_sR, L_sR, F_sL, A_sL, R_sL, L_sL, and_true, true_and, and_false, false_and, and_self, reduceIte, sF_sF, sA_sA, false_or, or_false, true_or, or_true, not_false_eq_true, not_true_eq_false, decide_true, decide_false, Bool.true_or, Bool.or_true, Bool.false_and, Bool.true_and, Bool.false_or, Bool.or_false, Bool.and_true, Bool.and_false], fun z => absurd z (by decide)⟩, rel_thrown (rel_ext ext_nx h), ext_nx⟩
    · have hc : fX11_octets (e_g s g) 8 i = some (.inl "java/lang/IllegalArgumentException", e_g s (nx g)) := by
        simp (decide := true) only [fX11_octets, f8_11, f122_1, ob122, jX11_octets_31, ob_s, b2_s, tc_r, tc_l, F_sF, A_sF, R_sF, L_sF, F_sA, A_sA, R_sA, L_sA, F_sR, A_sR, R_sR, L_sR, F_sL, A_sL, R_sL, L_sL, and_true, true_and, and_false, false_and, and_self, reduceIte, sF_sF, sA_sA, false_or, or_false, true_or, or_true, not_false_eq_true, not_true_eq_false, decide_true, decide_false, Bool.true_or, Bool.or_true, Bool.false_and, Bool.true_and, Bool.false_or, Bool.or_false, Bool.and_true, Bool.and_false, rng hg, q]
      unfold fL_octets
      rw [hc, ob8, ob_s, wr_l (y := 1) (by decide +kernel)]
    · simp (decide := true) only [fX12_octets, f139_0, f139_7, w139_0, ob_s, b2_s, tc_r, tc_l, F_sF, A_sF, R_sF, L_sF, F_sA, A_sA, R_sA, L_sA, F_sR, A_sR, R_sR, L_sR, F_sL, A_sL, R_sL, L_sL, and_true, true_and, and_false, false_and, and_self, reduceIte, sF_sF, sA_sA, false_or, or_false, true_or, or_true, not_false_eq_true, not_true_eq_false, decide_true, decide_false, Bool.true_or, Bool.or_true, Bool.false_and, Bool.true_and, Bool.false_or, Bool.or_false, Bool.and_true, Bool.and_false, rin, q]
