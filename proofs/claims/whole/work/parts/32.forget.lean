-- needs: 07 10 13 14 20 21 22
/-! ===== rows filled; TILES forgotten ===== -/
def fl (f : Nat → Int32) (n : Nat) (v : Int32) : Nat → Int32 := fun k => if k < n then v else f k
theorem fl_0 {f : Nat → Int32} {v : Int32} : fl f 0 v = f := by
  funext k
  exact if_neg (by omega)
theorem fl_up {f : Nat → Int32} {n : Nat} {v : Int32} : upd (fl f n v) n v = fl f (n + 1) v := upd_fill (φ := fun _ => v)
theorem fl_lt {f : Nat → Int32} {n k : Nat} {v : Int32} (h : k < n) : fl f n v k = v := if_pos h
theorem fillI {s : e_S} {g : ps_G} {j n : Nat} {ks : List Nat} {v : Int32} (ht : e_tb[j]? = some (2, n, ks)) (h8 : 8 ≤ j) (hn : n < 2147483648) : fJ7_fill_53178 (e_g s g) j v = some (e_g (sA s j (fl (s.2.1 j) n v)) g) := by
  unfold fJ7_fill_53178
  rw [e_len ht, ob_s]
  rw [lp_0 (fun i => (Int32.ofNat i, e_g (sA s j (fl (s.2.1 j) i v)) g)) n (r := e_g (sA s j (fl (s.2.1 j) n v)) g) (by rw [fl_0, sA_id]; rfl) (fun i hi => ?_) ?_, ob_s]
  · dsimp only
    unfold bJ7_fill_53178_5
    rw [if_pos (by rw [i_le]; omega)]
  · dsimp only
    unfold bJ7_fill_53178_5
    rw [if_neg (by rw [n_le hn (by omega)]; omega), e_wI ht h8, if_neg (n_in hi (by omega)), ob_s, n_idx (by omega), n_suc, sA_sA, A_sA, if_pos rfl, fl_up]
theorem forget12 {s : e_S} {g : ps_G} : fX12_forget (e_g s g) 139 = some (e_g (sA s 148 (fl (s.2.1 148) 9 0)) g) := by
  unfold fX12_forget
  rw [lp_0 (fun i => (Int32.ofNat i, e_g (sA s 148 (fl (s.2.1 148) i 0)) g)) 9 (r := e_g (sA s 148 (fl (s.2.1 148) 9 0)) g) (by rw [fl_0, sA_id]; rfl) (fun i hi => ?_) ?_, ob_s]
  · simp (decide := true) only [bX12_forget_2, f139_21, u148, ob_s, b2_s, tc_r, tc_l, F_sF, A_sF, R_sF, L_sF, F_sA, A_sA, R_sA, L_sA, F_sR, A_sR, R_sR, L_sR, F_sL, A_sL, R_sL, L_sL, and_true, true_and, and_false, false_and, and_self, reduceIte, sF_sF, sA_sA, false_or, or_false, true_or, or_true, not_false_eq_true, not_true_eq_false, decide_true, decide_false, Bool.true_or, Bool.or_true, Bool.false_and, Bool.true_and, Bool.false_or, Bool.or_false, Bool.and_true, Bool.and_false]
  · have h1 : ¬ (9 : Int32) ≤ Int32.ofNat i := by
      show ¬ Int32.ofNat 9 ≤ Int32.ofNat i
      rw [n_le (by omega) (by omega)]; omega
    have h2 : vp_nar .boolean 0 = 0 := by decide
    simp (decide := true) only [bX12_forget_2, f139_21, u148, ob_s, b2_s, tc_r, tc_l, F_sF, A_sF, R_sF, L_sF, F_sA, A_sA, R_sA, L_sA, F_sR, A_sR, R_sR, L_sR, F_sL, A_sL, R_sL, L_sL, and_true, true_and, and_false, false_and, and_self, reduceIte, sF_sF, sA_sA, false_or, or_false, true_or, or_true, not_false_eq_true, not_true_eq_false, decide_true, decide_false, Bool.true_or, Bool.or_true, Bool.false_and, Bool.true_and, Bool.false_or, Bool.or_false, Bool.and_true, Bool.and_false, h1, n_in2 hi (by decide), n_idx (show i < 2147483648 by omega), n_suc, sA_sA, h2, fl_up]
theorem forget11 {s : e_S} {g : ps_G} : fX10_forgetAll (e_g s g) 20 = some (e_g (sA (sA (sF s 20 5 0) 87 (fl (s.2.1 87) 576 0)) 88 (fl (s.2.1 88) 9 0)) g) := by
  have h2 : vp_nar .boolean 0 = 0 := by decide
  simp (decide := true) only [fX10_forgetAll, f20_6, w20_5, ob_s, b2_s, tc_r, tc_l, F_sF, A_sF, R_sF, L_sF, F_sA, A_sA, R_sA, L_sA, F_sR, A_sR, R_sR, L_sR, F_sL, A_sL, R_sL, L_sL, and_true, true_and, and_false, false_and, and_self, reduceIte, sF_sF, sA_sA, false_or, or_false, true_or, or_true, not_false_eq_true, not_true_eq_false, decide_true, decide_false, Bool.true_or, Bool.or_true, Bool.false_and, Bool.true_and, Bool.false_or, Bool.or_false, Bool.and_true, Bool.and_false, fillI t87]
  rw [lp_0 (fun i => (Int32.ofNat i, e_g (sA (sA (sF s 20 5 0) 87 (fl (s.2.1 87) 576 0)) 88 (fl (s.2.1 88) i 0)) g)) 9 (r := e_g (sA (sA (sF s 20 5 0) 87 (fl (s.2.1 87) 576 0)) 88 (fl (s.2.1 88) 9 0)) g) ?_ (fun i hi => ?_) ?_, ob_s]
  · have e : sA (sA (sF s 20 5 0) 87 (fl (s.2.1 87) 576 0)) 88 (fl (s.2.1 88) 0 0) = sA (sF s 20 5 0) 87 (fl (s.2.1 87) 576 0) := by
      have := @sA_id (sA (sF s 20 5 0) 87 (fl (s.2.1 87) 576 0)) 88
      simp (decide := true) only [ob_s, b2_s, tc_r, tc_l, F_sF, A_sF, R_sF, L_sF, F_sA, A_sA, R_sA, L_sA, F_sR, A_sR, R_sR, L_sR, F_sL, A_sL, R_sL, L_sL, and_true, true_and, and_false, false_and, and_self, reduceIte, sF_sF, sA_sA, false_or, or_false, true_or, or_true, not_false_eq_true, not_true_eq_false, decide_true, decide_false, Bool.true_or, Bool.or_true, Bool.false_and, Bool.true_and, Bool.false_or, Bool.or_false, Bool.and_true, Bool.and_false] at this
      rw [fl_0, this]
    rw [e]; rfl
  · simp (decide := true) only [bX10_forgetAll_15, f20_7, u88, l88, ob_s, b2_s, tc_r, tc_l, F_sF, A_sF, R_sF, L_sF, F_sA, A_sA, R_sA, L_sA, F_sR, A_sR, R_sR, L_sR, F_sL, A_sL, R_sL, L_sL, and_true, true_and, and_false, false_and, and_self, reduceIte, sF_sF, sA_sA, false_or, or_false, true_or, or_true, not_false_eq_true, not_true_eq_false, decide_true, decide_false, Bool.true_or, Bool.or_true, Bool.false_and, Bool.true_and, Bool.false_or, Bool.or_false, Bool.and_true, Bool.and_false]
  · have h1 : ¬ (9 : Int32) ≤ Int32.ofNat i := by
      show ¬ Int32.ofNat 9 ≤ Int32.ofNat i
      rw [n_le (by omega) (by omega)]; omega
    simp (decide := true) only [bX10_forgetAll_15, f20_7, u88, l88, ob_s, b2_s, tc_r, tc_l, F_sF, A_sF, R_sF, L_sF, F_sA, A_sA, R_sA, L_sA, F_sR, A_sR, R_sR, L_sR, F_sL, A_sL, R_sL, L_sL, and_true, true_and, and_false, false_and, and_self, reduceIte, sF_sF, sA_sA, false_or, or_false, true_or, or_true, not_false_eq_true, not_true_eq_false, decide_true, decide_false, Bool.true_or, Bool.or_true, Bool.false_and, Bool.true_and, Bool.false_or, Bool.or_false, Bool.and_true, Bool.and_false, h1, n_in2 hi (by decide), n_idx (show i < 2147483648 by omega), n_suc, sA_sA, h2, fl_up]
theorem G8_forget {s : e_S} {w h : Nat} (hw : w ≤ 24) (hh : h ≤ 24) (e1 : s.1 20 8 = s.1 139 23) (e2 : ∀ t, t < 9 → s.2.1 148 t = 0) (e3 : ∀ t, t < 9 → s.2.1 88 t = 0) (e4 : s.1 20 5 = 0) : G8 s w h := by
  refine ⟨e1, fun t ht => ⟨Or.inl (e2 t ht), Or.inl (e3 t ht)⟩, fun x y hx hy => ?_, fun t ht _ => e2 t ht, fun x y hx hy q => ?_, Or.inl e4, fun q => ?_⟩
  · rw [e3 _ (by omega)]
    by_cases hc : x < (w + 7) / 8 ∧ y < (h + 7) / 8
    · rw [if_pos hc, e2]
      have : (w + 7) / 8 = 0 ∨ (w + 7) / 8 = 1 ∨ (w + 7) / 8 = 2 ∨ (w + 7) / 8 = 3 := by omega
      rcases this with e | e | e | e <;> rw [e] at hc ⊢ <;> omega
    · rw [if_neg hc]
  · rw [e3 _ (by omega)] at q
    exact absurd q (by decide)
  · rw [e4] at q
    exact absurd q (by decide)
