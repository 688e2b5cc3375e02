-- needs: 07 10 13 14 20 21 22
/-! ===== the free cells read; places ===== -/
theorem d_fI {s : e_S} {g : ps_G} {a ci k : Nat} {fs : List Value} {x : Int32} (ha : e_fr a) (hc : g.2.2 a = .inr (ci, fs)) (hk : fs[k]? = some (.int x)) : q_fI ci k (e_g s g) a = some x := by
  unfold q_fI
  rw [e_at ha, hc]
  show ((if ci = ci then some fs else none).bind _) = _
  rw [if_pos rfl]
  show (match fs[k]? with | some (.int x) => some x | _ => none) = _
  rw [hk]
theorem d_fR {s : e_S} {g : ps_G} {a ci k x : Nat} {fs : List Value} (ha : e_fr a) (hc : g.2.2 a = .inr (ci, fs)) (hk : fs[k]? = some (.ref x)) : q_fR ci k (e_g s g) a = some (some x) := by
  unfold q_fR
  rw [e_at ha, hc]
  show ((if ci = ci then some fs else none).bind _) = _
  rw [if_pos rfl]
  show (match fs[k]? with | some (.ref x) => some (some x) | some .null => some none | _ => none) = _
  rw [hk]
theorem d_ob {s : e_S} {g : ps_G} {a ci : Nat} {fs : List Value} (ha : e_fr a) (hc : g.2.2 a = .inr (ci, fs)) : q_ob ci (e_g s g) a = some () := by
  unfold q_ob
  rw [e_at ha, hc]
  show ((if ci = ci then some fs else none).bind _) = _
  rw [if_pos rfl]
  rfl
theorem d_aI {s : e_S} {g : ps_G} {a n : Nat} {f : Nat → Int32} {i : Int32} (ha : e_fr a) (hc : g.2.2 a = .inl (0, (n, .inl f))) : q_aI (e_g s g) a i = if i < 0 ∨ n ≤ i.toNatClampNeg then none else some (f i.toNatClampNeg) := by
  unfold q_aI
  rw [e_at ha, hc]
  rfl
theorem d_aR {s : e_S} {g : ps_G} {a n k : Nat} {f : Nat → Option Nat} {i : Int32} (ha : e_fr a) (hc : g.2.2 a = .inl (k, (n, .inr (.inr (.inr (.inr f)))))) (hk : 3 ≤ k ∧ k < 6) : q_aR (e_g s g) a i = if i < 0 ∨ n ≤ i.toNatClampNeg then none else some (f i.toNatClampNeg) := by
  unfold q_aR
  rw [e_at ha, hc]
  show ((if 3 ≤ k ∧ k < 6 then some (k, n, f) else none).bind _) = _
  rw [if_pos hk]
  rfl
theorem d_len {s : e_S} {g : ps_G} {a n : Nat} {f : Nat → Int32} (ha : e_fr a) (hc : g.2.2 a = .inl (0, (n, .inl f))) : q_len (e_g s g) a = some (Int32.ofNat n) := by
  unfold q_len
  rw [e_at ha, hc]
  rfl
/-- the STAND a is w wide and h high -/
theorem stW {s : e_S} {g : ps_G} {a w h : Nat} {N : Nat → Int32} (hs : StN g a w h N) : q_fI 9 0 (e_g s g) a = some (Int32.ofNat w) ∧ q_fI 9 1 (e_g s g) a = some (Int32.ofNat h) ∧ q_fI 9 5 (e_g s g) a = some (N 35070) ∧ q_ob 9 (e_g s g) a = some () := by
  obtain ⟨-, h1, h2, la, oa, sz, ly, od, c1, c0, c2, c3, c9, c4, c5, c6, c7, c8, c10⟩ := hs
  exact ⟨d_fI h1 c5 rfl, d_fI h1 c5 rfl, d_fI h1 c5 rfl, d_ob h1 c5⟩
/-- (x, y) is a place -/
def plc (w h : Nat) (x y : Int32) : Bool := decide (0 ≤ x.toInt ∧ 0 ≤ y.toInt ∧ x.toInt < w ∧ y.toInt < h)
theorem plc_n {w h : Nat} {x y : Int32} (q : plc w h x y = true) : ∃ a b : Nat, x = Int32.ofNat a ∧ y = Int32.ofNat b ∧ a < w ∧ b < h := by
  have q := of_decide_eq_true q
  exact ⟨x.toInt.toNat, y.toInt.toNat, n_of (by omega), n_of (by omega), by omega, by omega⟩
theorem plc_o {w h a b : Nat} (hw : w < 2147483648) (hh : h < 2147483648) (ha : a < w) (hb : b < h) : plc w h (Int32.ofNat a) (Int32.ofNat b) = true := by
  unfold plc
  rw [decide_eq_true_iff, n_int (by omega), n_int (by omega)]
  omega
theorem i_0 : (0 : Int32).toInt = 0 := rfl
theorem place11 {s : e_S} {g : ps_G} {a w h : Nat} {N : Nat → Int32} {x y : Int32} (hg : 195 ≤ g.1) (hw : w ≤ 24) (hh : h ≤ 24) (hn : s.2.2.1 8 0 = some a) (hs : StN g a w h N) : fX11_needPlace (e_g s g) 8 x y = if plc w h x y then some (.inr (), e_g s g) else some (.inl "java/util/NoSuchElementException", e_g s (nx g)) := by
  obtain ⟨e1, e2, -, -⟩ := stW (s := s) hs
  have e3 : ps_nw (e_g s g) 6 ps_e0 = e_g s (nx g) := e_nw hg
  by_cases h1 : x < 0 ∨ y < 0
  · have q : plc w h x y = false := by
      unfold plc
      rw [decide_eq_false_iff_not]
      rw [i_lt, i_lt, i_0] at h1
      omega
    simp (decide := true) only [fX11_needPlace, f8_0, ob_s, b2_s, tc_r, tc_l, F_sF, A_sF, R_sF, L_sF, F_sA, A_sA, R_sA, L_sA, F_sR, A_sR, R_sR, L_sR, F_sL, A_sL, R_sL, L_sL, and_true, true_and, and_false, false_and, and_self, reduceIte, sF_sF, sA_sA, false_or, or_false, true_or, or_true, not_false_eq_true, not_true_eq_false, decide_true, decide_false, Bool.true_or, Bool.or_true, Bool.false_and, Bool.true_and, Bool.false_or, Bool.or_false, Bool.and_true, Bool.and_false, h1, q, e3]
  · by_cases h2 : Int32.ofNat w ≤ x
    · have q : plc w h x y = false := by
        unfold plc
        rw [decide_eq_false_iff_not]
        rw [i_le, n_int (by omega)] at h2
        omega
      simp (decide := true) only [fX11_needPlace, f8_0, ob_s, b2_s, tc_r, tc_l, F_sF, A_sF, R_sF, L_sF, F_sA, A_sA, R_sA, L_sA, F_sR, A_sR, R_sR, L_sR, F_sL, A_sL, R_sL, L_sL, and_true, true_and, and_false, false_and, and_self, reduceIte, sF_sF, sA_sA, false_or, or_false, true_or, or_true, not_false_eq_true, not_true_eq_false, decide_true, decide_false, Bool.true_or, Bool.or_true, Bool.false_and, Bool.true_and, Bool.false_or, Bool.or_false, Bool.and_true, Bool.and_false, h1, hn, e1, h2, q, e3]
    · by_cases h3 : y < Int32.ofNat h
      · have q : plc w h x y = true := by
          unfold plc
          rw [decide_eq_true_iff]
          rw [i_lt, i_lt, i_0] at h1
          rw [i_le, n_int (by omega)] at h2
          rw [i_lt, n_int (by omega)] at h3
          omega
        simp (decide := true) only [fX11_needPlace, f8_0, ob_s, b2_s, tc_r, tc_l, F_sF, A_sF, R_sF, L_sF, F_sA, A_sA, R_sA, L_sA, F_sR, A_sR, R_sR, L_sR, F_sL, A_sL, R_sL, L_sL, and_true, true_and, and_false, false_and, and_self, reduceIte, sF_sF, sA_sA, false_or, or_false, true_or, or_true, not_false_eq_true, not_true_eq_false, decide_true, decide_false, Bool.true_or, Bool.or_true, Bool.false_and, Bool.true_and, Bool.false_or, Bool.or_false, Bool.and_true, Bool.and_false, h1, hn, e1, h2, e2, h3, q, e3]
      · have q : plc w h x y = false := by
          unfold plc
          rw [decide_eq_false_iff_not]
          rw [i_lt, n_int (by omega)] at h3
          omega
        simp (decide := true) only [fX11_needPlace, f8_0, ob_s, b2_s, tc_r, tc_l, F_sF, A_sF, R_sF, L_sF, F_sA, A_sA, R_sA, L_sA, F_sR, A_sR, R_sR, L_sR, F_sL, A_sL, R_sL, L_sL, and_true, true_and, and_false, false_and, and_self, reduceIte, sF_sF, sA_sA, false_or, or_false, true_or, or_true, not_false_eq_true, not_true_eq_false, decide_true, decide_false, Bool.true_or, Bool.or_true, Bool.false_and, Bool.true_and, Bool.false_or, Bool.or_false, Bool.and_true, Bool.and_false, h1, hn, e1, h2, e2, h3, q, e3]
theorem place12 {s : e_S} {g : ps_G} {w h : Nat} {x y : Int32} (hw : w ≤ 24) (hh : h ≤ 24) (e1 : s.1 139 13 = Int32.ofNat w) (e2 : s.1 139 14 = Int32.ofNat h) : fX12_isPlace (e_g s g) 139 x y = some (if plc w h x y then 1 else 0) := by
  have b0 : q_bl 0 = some 0 := by decide
  have b1 : q_bl 1 = some 1 := by decide
  by_cases h1 : x < 0 ∨ y < 0
  · have q : plc w h x y = false := by
      unfold plc
      rw [decide_eq_false_iff_not]
      rw [i_lt, i_lt, i_0] at h1
      omega
    simp (decide := true) only [fX12_isPlace, f139_13, f139_14, jX12_isPlace_28, jX12_isPlace_29, ob_s, b2_s, tc_r, tc_l, F_sF, A_sF, R_sF, L_sF, F_sA, A_sA, R_sA, L_sA, F_sR, A_sR, R_sR, L_sR, F_sL, A_sL, R_sL, L_sL, and_true, true_and, and_false, false_and, and_self, reduceIte, sF_sF, sA_sA, false_or, or_false, true_or, or_true, not_false_eq_true, not_true_eq_false, decide_true, decide_false, Bool.true_or, Bool.or_true, Bool.false_and, Bool.true_and, Bool.false_or, Bool.or_false, Bool.and_true, Bool.and_false, h1, q, b0]
  · by_cases h2 : Int32.ofNat w ≤ x
    · have q : plc w h x y = false := by
        unfold plc
        rw [decide_eq_false_iff_not]
        rw [i_le, n_int (by omega)] at h2
        omega
      simp (decide := true) only [fX12_isPlace, f139_13, f139_14, jX12_isPlace_28, jX12_isPlace_29, ob_s, b2_s, tc_r, tc_l, F_sF, A_sF, R_sF, L_sF, F_sA, A_sA, R_sA, L_sA, F_sR, A_sR, R_sR, L_sR, F_sL, A_sL, R_sL, L_sL, and_true, true_and, and_false, false_and, and_self, reduceIte, sF_sF, sA_sA, false_or, or_false, true_or, or_true, not_false_eq_true, not_true_eq_false, decide_true, decide_false, Bool.true_or, Bool.or_true, Bool.false_and, Bool.true_and, Bool.false_or, Bool.or_false, Bool.and_true, Bool.and_false, h1, e1, h2, q, b0]
    · by_cases h3 : Int32.ofNat h ≤ y
      · have q : plc w h x y = false := by
          unfold plc
          rw [decide_eq_false_iff_not]
          rw [i_le, n_int (by omega)] at h3
          omega
        simp (decide := true) only [fX12_isPlace, f139_13, f139_14, jX12_isPlace_28, jX12_isPlace_29, ob_s, b2_s, tc_r, tc_l, F_sF, A_sF, R_sF, L_sF, F_sA, A_sA, R_sA, L_sA, F_sR, A_sR, R_sR, L_sR, F_sL, A_sL, R_sL, L_sL, and_true, true_and, and_false, false_and, and_self, reduceIte, sF_sF, sA_sA, false_or, or_false, true_or, or_true, not_false_eq_true, not_true_eq_false, decide_true, decide_false, Bool.true_or, Bool.or_true, Bool.false_and, Bool.true_and, Bool.false_or, Bool.or_false, Bool.and_true, Bool.and_false, h1, e1, h2, e2, h3, q, b0]
      · have q : plc w h x y = true := by
          unfold plc
          rw [decide_eq_true_iff]
          rw [i_lt, i_lt, i_0] at h1
          rw [i_le, n_int (by omega)] at h2 h3
          omega
        simp (decide := true) only [fX12_isPlace, f139_13, f139_14, jX12_isPlace_28, jX12_isPlace_29, ob_s, b2_s, tc_r, tc_l, F_sF, A_sF, R_sF, L_sF, F_sA, A_sA, R_sA, L_sA, F_sR, A_sR, R_sR, L_sR, F_sL, A_sL, R_sL, L_sL, and_true, true_and, and_false, false_and, and_self, reduceIte, sF_sF, sA_sA, false_or, or_false, true_or, or_true, not_false_eq_true, not_true_eq_false, decide_true, decide_false, Bool.true_or, Bool.or_true, Bool.false_and, Bool.true_and, Bool.false_or, Bool.or_false, Bool.and_true, Bool.and_false, h1, e1, h2, e2, h3, q, b1]
/-- the place's number in a row -/
theorem at_lt {w h a b : Nat} (ha : a < w) (hb : b < h) : b * w + a < w * h := by
  have : b * w + w ≤ h * w := by
    rw [← Nat.succ_mul]; exact Nat.mul_le_mul_right w hb
  rw [Nat.mul_comm w h]; omega
theorem wh_le {w h : Nat} (hw : w ≤ 24) (hh : h ≤ 24) : w * h ≤ 576 := Nat.mul_le_mul hw hh
theorem area_at {s : e_S} {g : ps_G} {w h : Nat} {x y : Int32} (hw : w ≤ 24) (hh : h ≤ 24) (e1 : s.1 89 0 = Int32.ofNat w) (e2 : s.1 89 1 = Int32.ofNat h) : fX0_at (e_g s g) 89 x y = some (if plc w h x y then s.2.1 90 (y.toInt.toNat * w + x.toInt.toNat) else 0) := by
  by_cases h1 : x < 0 ∨ y < 0
  · have q : plc w h x y = false := by
      unfold plc
      rw [decide_eq_false_iff_not]
      rw [i_lt, i_lt, i_0] at h1
      omega
    simp (decide := true) only [fX0_at, f89_0, f89_1, f89_2, a90, jX0_at_24, jX0_at_41, ob_s, b2_s, tc_r, tc_l, F_sF, A_sF, R_sF, L_sF, F_sA, A_sA, R_sA, L_sA, F_sR, A_sR, R_sR, L_sR, F_sL, A_sL, R_sL, L_sL, and_true, true_and, and_false, false_and, and_self, reduceIte, sF_sF, sA_sA, false_or, or_false, true_or, or_true, not_false_eq_true, not_true_eq_false, decide_true, decide_false, Bool.true_or, Bool.or_true, Bool.false_and, Bool.true_and, Bool.false_or, Bool.or_false, Bool.and_true, Bool.and_false, h1, q]
  · by_cases h2 : Int32.ofNat w ≤ x
    · have q : plc w h x y = false := by
        unfold plc
        rw [decide_eq_false_iff_not]
        rw [i_le, n_int (by omega)] at h2
        omega
      simp (decide := true) only [fX0_at, f89_0, f89_1, f89_2, a90, jX0_at_24, jX0_at_41, ob_s, b2_s, tc_r, tc_l, F_sF, A_sF, R_sF, L_sF, F_sA, A_sA, R_sA, L_sA, F_sR, A_sR, R_sR, L_sR, F_sL, A_sL, R_sL, L_sL, and_true, true_and, and_false, false_and, and_self, reduceIte, sF_sF, sA_sA, false_or, or_false, true_or, or_true, not_false_eq_true, not_true_eq_false, decide_true, decide_false, Bool.true_or, Bool.or_true, Bool.false_and, Bool.true_and, Bool.false_or, Bool.or_false, Bool.and_true, Bool.and_false, h1, e1, h2, q]
    · by_cases h3 : y < Int32.ofNat h
      · have q : plc w h x y = true := by
          unfold plc
          rw [decide_eq_true_iff]
          rw [i_lt, i_lt, i_0] at h1
          rw [i_le, n_int (by omega)] at h2
          rw [i_lt, n_int (by omega)] at h3
          omega
        obtain ⟨a, b, rfl, rfl, ha, hb⟩ := plc_n q
        have hl := at_lt ha hb
        have hl2 := wh_le hw hh
        simp (decide := true) only [fX0_at, f89_0, f89_1, f89_2, a90, jX0_at_24, jX0_at_41, ob_s, b2_s, tc_r, tc_l, F_sF, A_sF, R_sF, L_sF, F_sA, A_sA, R_sA, L_sA, F_sR, A_sR, R_sR, L_sR, F_sL, A_sL, R_sL, L_sL, and_true, true_and, and_false, false_and, and_self, reduceIte, sF_sF, sA_sA, false_or, or_false, true_or, or_true, not_false_eq_true, not_true_eq_false, decide_true, decide_false, Bool.true_or, Bool.or_true, Bool.false_and, Bool.true_and, Bool.false_or, Bool.or_false, Bool.and_true, Bool.and_false, h1, e1, h2, e2, h3, q, n_mul, n_add, n_in2 (show b * w + a < 576 by omega) (by decide), n_idx (show b * w + a < 2147483648 by omega), n_int (show a < 2147483648 by omega), n_int (show b < 2147483648 by omega), Int.toNat_natCast]
      · have q : plc w h x y = false := by
          unfold plc
          rw [decide_eq_false_iff_not]
          rw [i_lt, n_int (by omega)] at h3
          omega
        simp (decide := true) only [fX0_at, f89_0, f89_1, f89_2, a90, jX0_at_24, jX0_at_41, ob_s, b2_s, tc_r, tc_l, F_sF, A_sF, R_sF, L_sF, F_sA, A_sA, R_sA, L_sA, F_sR, A_sR, R_sR, L_sR, F_sL, A_sL, R_sL, L_sL, and_true, true_and, and_false, false_and, and_self, reduceIte, sF_sF, sA_sA, false_or, or_false, true_or, or_true, not_false_eq_true, not_true_eq_false, decide_true, decide_false, Bool.true_or, Bool.or_true, Bool.false_and, Bool.true_and, Bool.false_or, Bool.or_false, Bool.and_true, Bool.and_false, h1, e1, h2, e2, h3, q]
