-- needs: 07 10 13 14 20 21 22 23 24 25 26 27 32 38 41 43 46 47 48 50 52 53 54 55 57 60 61 70 71 72 73 74 80 81 82 83 84 85 86 87 88 89 90 91 92 93 94
def abC (f : Nat → Int32) (k : Nat) : Bool := !decide (f k ≤ 0)
theorem abC_c {f f' : Nat → Int32} {n : Nat} (h : ∀ k, k < n → f k = f' k) : cnt (abC f) n = cnt (abC f') n := cnt_cong (fun i hi => by unfold abC; rw [h i hi])
theorem above11 {s : e_S} {g : ps_G} {w h : Nat} (hw : w ≤ 24) (hh : h ≤ 24) (e0 : s.1 89 0 = Int32.ofNat w) (e1 : s.1 89 1 = Int32.ofNat h) : fX0_above (e_g s g) 89 = some (Int32.ofNat (cnt (abC (s.2.1 90)) (w * h))) := by
  have hn := wh_le hw hh
  have loop : q_lp (fun u => bX0_above_4 (e_g s g) 89 u.1 u.2) ((0 : Int32), (0 : Int32)) = some (Int32.ofNat (cnt (abC (s.2.1 90)) (w * h))) := by
    refine lp_0 (fun i => (Int32.ofNat (cnt (abC (s.2.1 90)) i), Int32.ofNat i)) (w * h) rfl (fun i hi => ?_) ?_
    · show bX0_above_4 _ _ _ _ = _
      unfold bX0_above_4
      dsimp only
      rw [f89_0, e0, ob_n, f89_1, e1, ob_n, n_mul, if_neg (nle hi (by omega)), f89_2, ob_n, ob_n, rdI t90 (by omega), ob_n, n_suc, cnt_s]
      by_cases q : s.2.1 90 i ≤ 0
      · have : ¬ abC (s.2.1 90) i = true := by unfold abC; rw [decide_eq_true q]; decide
        rw [if_pos q, if_neg this]
        simp only [Int32.add_zero, Nat.add_zero, n_suc]
      · have : abC (s.2.1 90) i = true := by unfold abC; rw [decide_eq_false q]; rfl
        rw [if_neg q, if_pos this]
        simp only [n_suc]
    · show bX0_above_4 _ _ _ _ = _
      unfold bX0_above_4
      rw [f89_0, e0, ob_n, f89_1, e1, ob_n, n_mul, if_pos (nlr (by omega))]
  unfold fX0_above
  rw [loop, ob_n]
theorem above12 {s : e_S} {g : ps_G} {w h : Nat} (hw : w ≤ 24) (hh : h ≤ 24) (e0 : s.1 139 13 = Int32.ofNat w) (e1 : s.1 139 14 = Int32.ofNat h) : fX12_above (e_g s g) 139 = some (Int32.ofNat (cnt (abC (s.2.1 155)) (w * h))) := by
  have hn := wh_le hw hh
  have loop : q_lp (fun u => bX12_above_4 (e_g s g) 139 u.1 u.2) ((0 : Int32), (0 : Int32)) = some (Int32.ofNat (cnt (abC (s.2.1 155)) (w * h))) := by
    refine lp_0 (fun i => (Int32.ofNat (cnt (abC (s.2.1 155)) i), Int32.ofNat i)) (w * h) rfl (fun i hi => ?_) ?_
    · show bX12_above_4 _ _ _ _ = _
      unfold bX12_above_4
      dsimp only
      rw [f139_13, e0, ob_n, f139_14, e1, ob_n, n_mul, if_neg (nle hi (by omega)), f139_31, ob_n, ob_n, rdI t155 (by omega), ob_n, n_suc, cnt_s]
      by_cases q : s.2.1 155 i ≤ 0
      · have : ¬ abC (s.2.1 155) i = true := by unfold abC; rw [decide_eq_true q]; decide
        rw [if_pos q, if_neg this]
        simp only [Nat.add_zero, n_suc]
      · have : abC (s.2.1 155) i = true := by unfold abC; rw [decide_eq_false q]; rfl
        rw [if_neg q, if_pos this]
        simp only [n_suc]
    · show bX12_above_4 _ _ _ _ = _
      unfold bX12_above_4
      rw [f139_13, e0, ob_n, f139_14, e1, ob_n, n_mul, if_pos (nlr (by omega))]
  unfold fX12_above
  rw [loop, ob_n]
noncomputable def rsV (how : Int32) (n w h : Nat) (B : Nat → Int32) (k : Nat) : Int32 := if how = 0 then 255 - B k else arV how n w h B (k % w) (k / w)
noncomputable def nwR (how : Int32) (n w h : Nat) (f : Nat → Int32) : Nat → Int32 := cpT f (rsV how n w h f) 0 (h * w)
theorem arV_c {how : Int32} {n w h X Y : Nat} {B B' : Nat → Int32} (hw : 1 ≤ w) (hh : 1 ≤ h) (e : ∀ k, k < w * h → B k = B' k) : arV how n w h B X Y = arV how n w h B' X Y := by
  have eb : bAt w h B = bAt w h B' := by
    funext x y; exact bAt_c e
  unfold arV
  rw [eb, nr_c hw hh e]
theorem rsV_c {how : Int32} {n w h k : Nat} {B B' : Nat → Int32} (hw : 1 ≤ w) (hh : 1 ≤ h) (hk : k < w * h) (e : ∀ k, k < w * h → B k = B' k) : rsV how n w h B k = rsV how n w h B' k := by
  unfold rsV
  rw [e k hk, arV_c hw hh e]
theorem nwR_c {how : Int32} {n w h : Nat} {f f' : Nat → Int32} (hw : 1 ≤ w) (hh : 1 ≤ h) (hn : w * h ≤ 576) (e : ∀ k, k < 576 → f k = f' k) : ∀ k, k < 576 → nwR how n w h f k = nwR how n w h f' k := by
  intro k hk
  unfold nwR cpT
  by_cases q : 0 ≤ k ∧ k < 0 + h * w
  · rw [if_pos q, if_pos q]
    exact rsV_c hw hh (by rw [Nat.mul_comm]; omega) (fun k hk => e k (by omega))
  · rw [if_neg q, if_neg q]; exact e k hk
theorem wI_add {v : Int32 → Int32 → Int32} {j x0 z : Int32} {c : Nat} (hv : ∀ x y, 0 ≤ (v x y).toInt ∧ (v x y).toInt ≤ 255) (hz : 0 ≤ z.toInt ∧ z.toInt ≤ 255 * c) : ∀ p, c + p ≤ 1000 → 0 ≤ (wI (fun a b => a + b) v j x0 z p).toInt ∧ (wI (fun a b => a + b) v j x0 z p).toInt ≤ 255 * ((c + p : Nat) : Int)
  | 0, _ => hz
  | p + 1, hp => by
    have ih := wI_add (j := j) (x0 := x0) hv hz p (by omega)
    have a := hv (x0 + Int32.ofNat p) j
    show 0 ≤ (wI (fun a b => a + b) v j x0 z p + v (x0 + Int32.ofNat p) j).toInt ∧ (wI (fun a b => a + b) v j x0 z p + v (x0 + Int32.ofNat p) j).toInt ≤ _
    rw [i_add (by omega) (by omega)]
    omega
theorem wO_add {v : Int32 → Int32 → Int32} {y0 x0 : Int32} {m : Nat} (hm : m ≤ 17) (hv : ∀ x y, 0 ≤ (v x y).toInt ∧ (v x y).toInt ≤ 255) : ∀ q, q ≤ 17 → 0 ≤ (wO (fun a b => a + b) v y0 x0 m 0 q).toInt ∧ (wO (fun a b => a + b) v y0 x0 m 0 q).toInt ≤ 255 * ((q * m : Nat) : Int)
  | 0, _ => by rw [Nat.zero_mul]; exact ⟨show 0 ≤ (0 : Int32).toInt by decide, show (0 : Int32).toInt ≤ 255 * ((0 : Nat) : Int) by decide⟩
  | q + 1, hq => by
    have ih := wO_add (y0 := y0) (x0 := x0) hm hv q (by omega)
    have : q * m ≤ 17 * 17 := Nat.mul_le_mul (by omega) hm
    rw [Nat.succ_mul]
    exact wI_add hv ih m (by omega)
theorem arV_r {how : Int32} {n w h X Y : Nat} {B : Nat → Int32} (hw1 : 1 ≤ w) (hh1 : 1 ≤ h) (hn : n ≤ 8) (hB : ∀ k, k < w * h → rg (B k) 0 255) : rg (arV how n w h B X Y) 0 255 := by
  have bR : ∀ x y, 0 ≤ (bAt w h B x y).toInt ∧ (bAt w h B x y).toInt ≤ 255 := by
    intro x y
    unfold bAt
    by_cases q : plc w h x y
    · have q' := of_decide_eq_true q
      rw [if_pos q]
      exact rg_i.mp (hB _ (at_lt (by omega) (by omega)))
    · rw [if_neg q]; decide
  have nR : ∀ x y, 0 ≤ (nr B w h x y).toInt ∧ (nr B w h x y).toInt ≤ 255 := fun x y => rg_i.mp (hB _ (at_lt (clN_lt hw1) (clN_lt hh1)))
  unfold arV
  by_cases q1 : how = 1
  · rw [if_pos q1]
    rcases (wO_p (op := fJ9_max_7cf53) (v := bAt w h B) (le := fun a b => a.toInt ≤ b.toInt) (y0 := Int32.ofNat Y - Int32.ofNat n) (x0 := Int32.ofNat X - Int32.ofNat n) (z := 0) (m := 2 * n + 1) (fun _ => Int.le_refl _) (fun _ _ _ => Int.le_trans) (fun _ _ => mx_o) (fun _ _ => mx_e) (2 * n + 1)).2.2 with e | ⟨p, q, _, _, e⟩
    · rw [e]; decide
    · rw [e]; exact rg_i.mpr (bR _ _)
  rw [if_neg q1]
  by_cases q2 : how = 2
  · rw [if_pos q2]
    rcases (wO_p (op := fJ9_min_7cf53) (v := bAt w h B) (le := fun a b => b.toInt ≤ a.toInt) (y0 := Int32.ofNat Y - Int32.ofNat n) (x0 := Int32.ofNat X - Int32.ofNat n) (z := 255) (m := 2 * n + 1) (fun _ => Int.le_refl _) (fun _ _ _ h1 h2 => Int.le_trans h2 h1) (fun _ _ => mn_o) (fun _ _ => mn_e) (2 * n + 1)).2.2 with e | ⟨p, q, _, _, e⟩
    · rw [e]; decide
    · rw [e]; exact rg_i.mpr (bR _ _)
  rw [if_neg q2]
  have sb := wO_add (v := nr B w h) (y0 := Int32.ofNat Y - Int32.ofNat n) (x0 := Int32.ofNat X - Int32.ofNat n) (m := 2 * n + 1) (by omega) nR (2 * n + 1) (by omega)
  have mm : (2 * n + 1) * (2 * n + 1) ≤ 17 * 17 := Nat.mul_le_mul (by omega) (by omega)
  have mp : 0 < (2 * n + 1) * (2 * n + 1) := Nat.mul_pos (by omega) (by omega)
  generalize wO (fun a b => a + b) (nr B w h) (Int32.ofNat Y - Int32.ofNat n) (Int32.ofNat X - Int32.ofNat n) (2 * n + 1) 0 (2 * n + 1) = sm at sb
  generalize (2 * n + 1) * (2 * n + 1) = M at mm mp sb
  have e2 : Int32.ofNat M / 2 = Int32.ofNat (M / 2) := n_div (b := 2) (by omega) (by omega)
  have ea : (sm + Int32.ofNat (M / 2)).toInt = sm.toInt + ((M / 2 : Nat) : Int) := by
    rw [i_add (by rw [n_int (by omega)]; omega) (by rw [n_int (by omega)]; omega), n_int (by omega)]
  rw [e2, rg_i, i_divp (by rw [ea]; omega) (by rw [n_int (by omega)]; omega), ea, n_int (by omega), show (0 : Int32).toInt = 0 from rfl, show (255 : Int32).toInt = 255 from rfl]
  refine ⟨Int.ediv_nonneg (by omega) (by omega), ?_⟩
  have : (sm.toInt + ((M / 2 : Nat) : Int)) / (M : Int) < 256 := Int.ediv_lt_of_lt_mul (by omega) (by omega)
  omega
theorem nwR_r {how : Int32} {n w h : Nat} {f : Nat → Int32} (hw1 : 1 ≤ w) (hh1 : 1 ≤ h) (hwh : w * h ≤ 576) (hn : n ≤ 8) (hB : ∀ k, k < 576 → rg (f k) 0 255) : ∀ k, k < 576 → rg (nwR how n w h f k) 0 255 := by
  intro k hk
  unfold nwR cpT
  by_cases q : 0 ≤ k ∧ k < 0 + h * w
  · rw [if_pos q]
    unfold rsV
    by_cases q0 : how = 0
    · rw [if_pos q0]
      have a := rg_i.mp (hB (k - 0) (by omega))
      rw [show (0 : Int32).toInt = 0 from rfl, show (255 : Int32).toInt = 255 from rfl] at a
      rw [rg_i, i_sub (by rw [show (255 : Int32).toInt = 255 from rfl]; omega) (by rw [show (255 : Int32).toInt = 255 from rfl]; omega), show (0 : Int32).toInt = 0 from rfl, show (255 : Int32).toInt = 255 from rfl]
      omega
    · rw [if_neg q0]
      exact arV_r hw1 hh1 hn (fun k hk => hB k (by omega))
  · rw [if_neg q]; exact hB k hk
theorem rel_ch {s : e_S} {g : ps_G} {f f' : Nat → Int32} (hR : Rel s g) (h : ∀ k, k < 576 → f k = f' k ∧ rg (f' k) 0 255) : Rel (sA (sA s 90 f) 155 f') g := by
  obtain ⟨h1, h2, h3, h4, h5, h6, ⟨w, h0, h7, h8, h9⟩, h10, h11⟩ := hR
  refine ⟨?_, ?_, ?_, ?_, ?_, ?_, ⟨w, h0, ?_, ?_, ?_⟩, ?_, ?_⟩
  · unfold G1 at h1 ⊢; simp (decide := true) only [ob_n, b2_n, tc_rn, tc_ln, F_sF, A_sF, R_sF, L_sF, F_sA, A_sA, R_sA, L_sA, F_sR, A_sR, R_sR, L_sR, F_sL, A_sL, R_sL, L_sL, and_true, true_and, and_false, false_and, and_self, reduceIte, sF_sF, sA_sA, false_or, or_false, true_or, or_true, not_false_eq_true, not_true_eq_false, decide_true, decide_false, Bool.true_or, Bool.or_true, Bool.false_and, Bool.true_and, Bool.false_or, Bool.or_false, Bool.and_true, Bool.and_false]; exact h1
  · unfold G2 at h2 ⊢; simp (decide := true) only [ob_n, b2_n, tc_rn, tc_ln, F_sF, A_sF, R_sF, L_sF, F_sA, A_sA, R_sA, L_sA, F_sR, A_sR, R_sR, L_sR, F_sL, A_sL, R_sL, L_sL, and_true, true_and, and_false, false_and, and_self, reduceIte, sF_sF, sA_sA, false_or, or_false, true_or, or_true, not_false_eq_true, not_true_eq_false, decide_true, decide_false, Bool.true_or, Bool.or_true, Bool.false_and, Bool.true_and, Bool.false_or, Bool.or_false, Bool.and_true, Bool.and_false]; exact h2
  · unfold G3 at h3 ⊢; simp (decide := true) only [ob_n, b2_n, tc_rn, tc_ln, F_sF, A_sF, R_sF, L_sF, F_sA, A_sA, R_sA, L_sA, F_sR, A_sR, R_sR, L_sR, F_sL, A_sL, R_sL, L_sL, and_true, true_and, and_false, false_and, and_self, reduceIte, sF_sF, sA_sA, false_or, or_false, true_or, or_true, not_false_eq_true, not_true_eq_false, decide_true, decide_false, Bool.true_or, Bool.or_true, Bool.false_and, Bool.true_and, Bool.false_or, Bool.or_false, Bool.and_true, Bool.and_false]; exact h3
  · unfold G4 at h4 ⊢; simp (decide := true) only [ob_n, b2_n, tc_rn, tc_ln, F_sF, A_sF, R_sF, L_sF, F_sA, A_sA, R_sA, L_sA, F_sR, A_sR, R_sR, L_sR, F_sL, A_sL, R_sL, L_sL, and_true, true_and, and_false, false_and, and_self, reduceIte, sF_sF, sA_sA, false_or, or_false, true_or, or_true, not_false_eq_true, not_true_eq_false, decide_true, decide_false, Bool.true_or, Bool.or_true, Bool.false_and, Bool.true_and, Bool.false_or, Bool.or_false, Bool.and_true, Bool.and_false]; exact h4
  · unfold G5 at h5 ⊢; simp (decide := true) only [ob_n, b2_n, tc_rn, tc_ln, F_sF, A_sF, R_sF, L_sF, F_sA, A_sA, R_sA, L_sA, F_sR, A_sR, R_sR, L_sR, F_sL, A_sL, R_sL, L_sL, and_true, true_and, and_false, false_and, and_self, reduceIte, sF_sF, sA_sA, false_or, or_false, true_or, or_true, not_false_eq_true, not_true_eq_false, decide_true, decide_false, Bool.true_or, Bool.or_true, Bool.false_and, Bool.true_and, Bool.false_or, Bool.or_false, Bool.and_true, Bool.and_false]; exact h5
  · unfold G6 at h6 ⊢; simp (decide := true) only [ob_n, b2_n, tc_rn, tc_ln, F_sF, A_sF, R_sF, L_sF, F_sA, A_sA, R_sA, L_sA, F_sR, A_sR, R_sR, L_sR, F_sL, A_sL, R_sL, L_sL, and_true, true_and, and_false, false_and, and_self, reduceIte, sF_sF, sA_sA, false_or, or_false, true_or, or_true, not_false_eq_true, not_true_eq_false, decide_true, decide_false, Bool.true_or, Bool.or_true, Bool.false_and, Bool.true_and, Bool.false_or, Bool.or_false, Bool.and_true, Bool.and_false]; exact h6
  · unfold G7 at h7 ⊢; simp (decide := true) only [ob_n, b2_n, tc_rn, tc_ln, F_sF, A_sF, R_sF, L_sF, F_sA, A_sA, R_sA, L_sA, F_sR, A_sR, R_sR, L_sR, F_sL, A_sL, R_sL, L_sL, and_true, true_and, and_false, false_and, and_self, reduceIte, sF_sF, sA_sA, false_or, or_false, true_or, or_true, not_false_eq_true, not_true_eq_false, decide_true, decide_false, Bool.true_or, Bool.or_true, Bool.false_and, Bool.true_and, Bool.false_or, Bool.or_false, Bool.and_true, Bool.and_false]
    exact ⟨h7.1, h7.2.1, h7.2.2.1, h7.2.2.2.1, h7.2.2.2.2.1, h7.2.2.2.2.2.1, h7.2.2.2.2.2.2.1, h7.2.2.2.2.2.2.2.1, h⟩
  · unfold G8 at h8 ⊢; simp (decide := true) only [ob_n, b2_n, tc_rn, tc_ln, F_sF, A_sF, R_sF, L_sF, F_sA, A_sA, R_sA, L_sA, F_sR, A_sR, R_sR, L_sR, F_sL, A_sL, R_sL, L_sL, and_true, true_and, and_false, false_and, and_self, reduceIte, sF_sF, sA_sA, false_or, or_false, true_or, or_true, not_false_eq_true, not_true_eq_false, decide_true, decide_false, Bool.true_or, Bool.or_true, Bool.false_and, Bool.true_and, Bool.false_or, Bool.or_false, Bool.and_true, Bool.and_false]; exact h8
  · unfold G10 at h9 ⊢; simp (decide := true) only [ob_n, b2_n, tc_rn, tc_ln, F_sF, A_sF, R_sF, L_sF, F_sA, A_sA, R_sA, L_sA, F_sR, A_sR, R_sR, L_sR, F_sL, A_sL, R_sL, L_sL, and_true, true_and, and_false, false_and, and_self, reduceIte, sF_sF, sA_sA, false_or, or_false, true_or, or_true, not_false_eq_true, not_true_eq_false, decide_true, decide_false, Bool.true_or, Bool.or_true, Bool.false_and, Bool.true_and, Bool.false_or, Bool.or_false, Bool.and_true, Bool.and_false]; exact h9
  · unfold G9 at h10 ⊢; simp (decide := true) only [ob_n, b2_n, tc_rn, tc_ln, F_sF, A_sF, R_sF, L_sF, F_sA, A_sA, R_sA, L_sA, F_sR, A_sR, R_sR, L_sR, F_sL, A_sL, R_sL, L_sL, and_true, true_and, and_false, false_and, and_self, reduceIte, sF_sF, sA_sA, false_or, or_false, true_or, or_true, not_false_eq_true, not_true_eq_false, decide_true, decide_false, Bool.true_or, Bool.or_true, Bool.false_and, Bool.true_and, Bool.false_or, Bool.or_false, Bool.and_true, Bool.and_false]; exact h10
  · unfold G11 at h11 ⊢; simp (decide := true) only [ob_n, b2_n, tc_rn, tc_ln, F_sF, A_sF, R_sF, L_sF, F_sA, A_sA, R_sA, L_sA, F_sR, A_sR, R_sR, L_sR, F_sL, A_sL, R_sL, L_sL, and_true, true_and, and_false, false_and, and_self, reduceIte, sF_sF, sA_sA, false_or, or_false, true_or, or_true, not_false_eq_true, not_true_eq_false, decide_true, decide_false, Bool.true_or, Bool.or_true, Bool.false_and, Bool.true_and, Bool.false_or, Bool.or_false, Bool.and_true, Bool.and_false]; exact h11
