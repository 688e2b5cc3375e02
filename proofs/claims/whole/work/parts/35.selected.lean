-- needs: 07 10 13 14 20 21 22 23 32 33
/-! ===== selected, step, octets ===== -/
theorem selected12 {s : e_S} {g : ps_G} {w h : Nat} {x y : Int32} (hw : w ≤ 24) (hh : h ≤ 24) (e1 : s.1 139 13 = Int32.ofNat w) (e2 : s.1 139 14 = Int32.ofNat h) : fX12_selected (e_g s g) 139 x y = if plc w h x y then some (s.2.1 155 (y.toInt.toNat * w + x.toInt.toNat), e_g (sF s 139 0 0) g) else some (0, e_g (sF s 139 0 1) g) := by
  by_cases q : plc w h x y
  · obtain ⟨a, b, rfl, rfl, ha, hb⟩ := plc_n q
    have hl := at_lt ha hb
    have hl2 := wh_le hw hh
    have e : w * b + a = b * w + a := by rw [Nat.mul_comm]
    simp (decide := true) only [fX12_selected, f139_0, f139_31, a155, w139_0, ob139, jX12_selected_40, fX12_at, f139_13, ob_s, b2_s, tc_r, tc_l, F_sF, A_sF, R_sF, L_sF, F_sA, A_sA, R_sA, L_sA, F_sR, A_sR, R_sR, L_sR, F_sL, A_sL, R_sL, L_sL, and_true, true_and, and_false, false_and, and_self, reduceIte, sF_sF, sA_sA, false_or, or_false, true_or, or_true, not_false_eq_true, not_true_eq_false, decide_true, decide_false, Bool.true_or, Bool.or_true, Bool.false_and, Bool.true_and, Bool.false_or, Bool.or_false, Bool.and_true, Bool.and_false, place12 hw hh e1 e2, q, e1, n_mul, n_add, e, n_in2 (show b * w + a < 576 by omega) (by decide), n_idx (show b * w + a < 2147483648 by omega), n_int (show a < 2147483648 by omega), n_int (show b < 2147483648 by omega), Int.toNat_natCast]
  · simp (decide := true) only [fX12_selected, f139_0, f139_31, a155, w139_0, ob139, jX12_selected_40, ob_s, b2_s, tc_r, tc_l, F_sF, A_sF, R_sF, L_sF, F_sA, A_sA, R_sA, L_sA, F_sR, A_sR, R_sR, L_sR, F_sL, A_sL, R_sL, L_sL, and_true, true_and, and_false, false_and, and_self, reduceIte, sF_sF, sA_sA, false_or, or_false, true_or, or_true, not_false_eq_true, not_true_eq_false, decide_true, decide_false, Bool.true_or, Bool.or_true, Bool.false_and, Bool.true_and, Bool.false_or, Bool.or_false, Bool.and_true, Bool.and_false, place12 hw hh e1 e2, q]
theorem K_selected {s : e_S} {g : ps_G} {x y : Int32} (h : Rel s g) : KI (fL_selected (e_g s g) 8 x y 194) (fun G => fX12_selected G 139 x y) g := by
  have hg := rel_g h
  obtain ⟨h1, h2, h3, h4, h5, h6, ⟨w, h0, h7, h8, h9⟩, h10, h11⟩ := id h
  obtain ⟨d1, d2, d3, d4, d5, d6, d7, d8, d9⟩ := h7
  obtain ⟨a, st, pc, uc, f1, f2, f3, f4, f5, f6, f7, f8, f9, -⟩ := h9
  have hc : fX11_selected (e_g s g) 8 x y = if plc w h0 x y then some (.inr (s.2.1 90 (y.toInt.toNat * w + x.toInt.toNat)), e_g s g) else some (.inl "java/util/NoSuchElementException", e_g s (nx g)) := by
    by_cases q : plc w h0 x y <;> simp (decide := true) only [fX11_selected, f8_7, ob8, ob89, ob_s, b2_s, tc_r, tc_l, F_sF, A_sF, R_sF, L_sF, F_sA, A_sA, R_sA, L_sA, F_sR, A_sR, R_sR, L_sR, F_sL, A_sL, R_sL, L_sL, and_true, true_and, and_false, false_and, and_self, reduceIte, sF_sF, sA_sA, false_or, or_false, true_or, or_true, not_false_eq_true, not_true_eq_false, decide_true, decide_false, Bool.true_or, Bool.or_true, Bool.false_and, Bool.true_and, Bool.false_or, Bool.or_false, Bool.and_true, Bool.and_false, place11 hg d2 d4 f3 f9, q, ob89, area_at d2 d4 d7 d8]
  by_cases q : plc w h0 x y
  · obtain ⟨xa, ya, rfl, rfl, ha, hb⟩ := plc_n q
    have hl := at_lt ha hb
    have hl2 := wh_le d2 d4
    have e9 := (d9 (ya * w + xa) (by omega)).1
    rw [if_pos q, n_int (by omega), n_int (by omega), Int.toNat_natCast, Int.toNat_natCast, e9] at hc
    refine KI_r (s2 := sF (pO s (s.2.1 155 (ya * w + xa)).toInt64) 139 0 0) hc ((selected12 (s := pO _ _) d2 d4 d5 d6).trans ((if_pos q).trans ?_)) (by simp (decide := true) only [ob_s, b2_s, tc_r, tc_l, F_sF, A_sF, R_sF, L_sF, F_sA, A_sA, R_sA, L_sA, F_sR, A_sR, R_sR, L_sR, F_sL, A_sL, R_sL, L_sL, and_true, true_and, and_false, false_and, and_self, reduceIte, sF_sF, sA_sA, false_or, or_false, true_or, or_true, not_false_eq_true, not_true_eq_false, decide_true, decide_false, Bool.true_or, Bool.or_true, Bool.false_and, Bool.true_and, Bool.false_or, Bool.or_false, Bool.and_true, Bool.and_false]) rfl (rel_thrown (rel_out h)) ext_rf
    rw [n_int (by omega), n_int (by omega), Int.toNat_natCast, Int.toNat_natCast]
    rfl
  · exact KI_no h (hc.trans (if_neg q)) (by decide +kernel) (by decide) ((selected12 d2 d4 d5 d6).trans (if_neg q))
