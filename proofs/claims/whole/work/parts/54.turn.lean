-- needs: 07 10 13 14 20 21 22 23 24 25 26 27 32 33 34 36 38 39 40 41 42 43 44 46 47 48 52 53
/-! ===== turn, scale ===== -/
/-- the pixel of a row at a place, or 0 -/
def bAt (w h : Nat) (B : Nat → Int32) (x y : Int32) : Int32 := if plc w h x y then B (y.toInt.toNat * w + x.toInt.toNat) else 0
theorem bAt_c {w h : Nat} {B B' : Nat → Int32} {x y : Int32} (e : ∀ k, k < w * h → B k = B' k) : bAt w h B x y = bAt w h B' x y := by
  unfold bAt
  by_cases q : plc w h x y
  · rw [if_pos q, if_pos q]
    have q2 := of_decide_eq_true q
    exact e _ (at_lt (by omega) (by omega))
  · rw [if_neg q, if_neg q]
theorem bAt_n {w h a b : Nat} {B : Nat → Int32} (hw : w ≤ 24) (hh : h ≤ 24) (ha : a < w) (hb : b < h) : bAt w h B (Int32.ofNat a) (Int32.ofNat b) = B (b * w + a) := by
  unfold bAt
  rw [if_pos (plc_o (by omega) (by omega) ha hb), n_int (by omega), n_int (by omega), Int.toNat_natCast, Int.toNat_natCast]
theorem own11 {s : e_S} {g : ps_G} {b w h l : Nat} {N : Nat → Int32} {i j : Int32} (hw : w ≤ 24) (hh : h ≤ 24) (hL : LyN g b w h l (lR N l)) (hk : N (1169 * l + 1) = 0) : fX4_own (e_g s g) b i j (Int32.ofNat w) (Int32.ofNat h) = some (bAt w h (pxN N l) i j) := own4 hw hh hL hk
theorem at12 {s : e_S} {g : ps_G} {w : Nat} {x y : Int32} (e1 : s.1 139 13 = Int32.ofNat w) : fX12_at (e_g s g) 139 x y = some (Int32.ofNat w * y + x) := by
  simp (decide := true) only [fX12_at, f139_13, ob_n, b2_n, tc_rn, tc_ln, F_sF, A_sF, R_sF, L_sF, F_sA, A_sA, R_sA, L_sA, F_sR, A_sR, R_sR, L_sR, F_sL, A_sL, R_sL, L_sL, and_true, true_and, and_false, false_and, and_self, reduceIte, sF_sF, sA_sA, false_or, or_false, true_or, or_true, not_false_eq_true, not_true_eq_false, decide_true, decide_false, Bool.true_or, Bool.or_true, Bool.false_and, Bool.true_and, Bool.false_or, Bool.or_false, Bool.and_true, Bool.and_false, e1]
theorem at12n {s : e_S} {g : ps_G} {w x y : Nat} (e1 : s.1 139 13 = Int32.ofNat w) : fX12_at (e_g s g) 139 (Int32.ofNat x) (Int32.ofNat y) = some (Int32.ofNat (y * w + x)) := by
  rw [at12 e1, n_mul, n_add, Nat.mul_comm]
theorem before12 {s : e_S} {g : ps_G} {w h : Nat} {x y : Int32} (hw : w ≤ 24) (hh : h ≤ 24) (e1 : s.1 139 13 = Int32.ofNat w) (e2 : s.1 139 14 = Int32.ofNat h) : fX12_beforeAt (e_g s g) 139 x y = some (bAt w h (s.2.1 158) x y) := by
  unfold bAt
  by_cases q : plc w h x y
  · obtain ⟨a, b, rfl, rfl, ha, hb⟩ := plc_n q
    have hl := at_lt ha hb
    have hl2 := wh_le hw hh
    rw [if_pos q, n_int (by omega), n_int (by omega), Int.toNat_natCast, Int.toNat_natCast]
    simp (decide := true) only [fX12_beforeAt, f139_35, a158, ob139, jX12_beforeAt_24, ob_n, b2_n, tc_rn, tc_ln, F_sF, A_sF, R_sF, L_sF, F_sA, A_sA, R_sA, L_sA, F_sR, A_sR, R_sR, L_sR, F_sL, A_sL, R_sL, L_sL, and_true, true_and, and_false, false_and, and_self, reduceIte, sF_sF, sA_sA, false_or, or_false, true_or, or_true, not_false_eq_true, not_true_eq_false, decide_true, decide_false, Bool.true_or, Bool.or_true, Bool.false_and, Bool.true_and, Bool.false_or, Bool.or_false, Bool.and_true, Bool.and_false, place12 hw hh e1 e2, q, at12n e1, n_in2 (show b * w + a < 576 by omega) (by decide), n_idx (show b * w + a < 2147483648 by omega)]
  · rw [if_neg q]
    simp (decide := true) only [fX12_beforeAt, f139_35, a158, ob139, jX12_beforeAt_24, ob_n, b2_n, tc_rn, tc_ln, F_sF, A_sF, R_sF, L_sF, F_sA, A_sA, R_sA, L_sA, F_sR, A_sR, R_sR, L_sR, F_sL, A_sL, R_sL, L_sL, and_true, true_and, and_false, false_and, and_self, reduceIte, sF_sF, sA_sA, false_or, or_false, true_or, or_true, not_false_eq_true, not_true_eq_false, decide_true, decide_false, Bool.true_or, Bool.or_true, Bool.false_and, Bool.true_and, Bool.false_or, Bool.or_false, Bool.and_true, Bool.and_false, place12 hw hh e1 e2, q]
theorem put12n {s : e_S} {g : ps_G} {l k : Nat} {v : Int32} (hl : l < 30) (hn : k < 576) : fX12_put (e_g s g) 139 (Int32.ofNat l) (17 + Int32.ofNat k) v = some (e_g (sA s 142 (upd (s.2.1 142) (1169 * l + 17 + k) v)) g) := by
  have := put12 (s := s) (g := g) (l := l) (n := 17 + k) (v := v) hl (by omega)
  rw [← Nat.add_assoc] at this
  rw [show (17 : Int32) + Int32.ofNat k = Int32.ofNat (17 + k) from n_add (n := 17)]
  exact this
/-- where turn takes a pixel from -/
def tnI (how : Int32) (w h k : Nat) : Nat := if how = 0 then k / w * w + (w - 1 - k % w) else if how = 1 then (h - 1 - k / w) * w + k % w else k % w * w + k / w
theorem rg02 {v : Int32} (h : rg v 0 2 = true) : v = 0 ∨ v = 1 ∨ v = 2 := by
  rw [rg_i] at h
  have h0 : 0 ≤ v.toInt := h.1
  have h1 : v.toInt ≤ 2 := h.2
  obtain ⟨n, rfl, hn⟩ : ∃ n : Nat, v = Int32.ofNat n ∧ n < 3 := ⟨v.toInt.toNat, n_of (by omega), by omega⟩
  have : n = 0 ∨ n = 1 ∨ n = 2 := by omega
  rcases this with rfl | rfl | rfl <;> decide
theorem nle {a b : Nat} (h : a < b) (hb : b < 2147483648) : ¬ Int32.ofNat b ≤ Int32.ofNat a := by
  rw [n_le (by omega) (by omega)]; omega
theorem nlr {a : Nat} (hb : a < 2147483648) : Int32.ofNat a ≤ Int32.ofNat a := by
  rw [n_le (by omega) (by omega)]; omega
theorem turn11l {s : e_S} {g : ps_G} {b w h l : Nat} {N : Nat → Int32} {how : Int32} (hg : 195 ≤ g.1) (hw : w ≤ 24) (hh : h ≤ 24) (hL : LyN g b w h l (lR N l)) (hk : N (1169 * l + 1) = 0) (hr : rg how 0 2) (h2 : how = 2 → w = h) (f0 : Nat → Int32) : q_lp (fun t => bX11_turn_60 8 how (some b) (Int32.ofNat w) (Int32.ofNat h) g.1 t.1 t.2) ((0 : Int32), e_g s (mkA g f0)) = some (e_g s (mkA g (cpT f0 (fun k => pxN N l (tnI how w h k)) 0 (h * w)))) := by
  have hwh := wh_le hw hh
  refine fill1 (fun f => e_g s (mkA g f)) 0 w h (fun k => pxN N l (tnI how w h k)) f0 (bI := fun y t => bX11_turn_70 8 how (some b) (Int32.ofNat w) (Int32.ofNat h) g.1 y t.1 t.2) (fun f y x hy hx _ => ?_) (fun f y hy => ?_) (fun f y hy => ?_) (fun f => ?_)
  · have hlt := at_lt hx hy
    have ow := fun i j => own11 (s := s) (i := i) (j := j) hw hh (lyN_ext (ext_mkA (f := f)) hL) hk
    obtain ⟨y1, y2, p, q, x0, y0, x1, yy1, pa, ma, y3, -⟩ := id (lyN_ext (ext_mkA (f := f)) hL)
    have ob4 : q_ob 4 (e_g s (mkA g f)) b = some () := d_ob y1 y3
    have m1 := (md (y := y) hx).1
    have m2 := (md (y := y) hx).2
    have c1 : Int32.ofNat w - 1 = Int32.ofNat (w - 1) := n_sub (b := 1) (by omega) (by omega)
    have c2 : Int32.ofNat (w - 1) - Int32.ofNat x = Int32.ofNat (w - 1 - x) := n_sub (by omega) (by omega)
    have c3 : Int32.ofNat h - 1 = Int32.ofNat (h - 1) := n_sub (b := 1) (by omega) (by omega)
    have c4 : Int32.ofNat (h - 1) - Int32.ofNat y = Int32.ofNat (h - 1 - y) := n_sub (by omega) (by omega)
    rcases rg02 hr with rfl | rfl | rfl
    · have v : tnI 0 w h (y * w + x) = y * w + (w - 1 - x) := by unfold tnI; rw [if_pos rfl, m1, m2]
      simp (decide := true) only [bX11_turn_70, jX11_turn_148_70, nle hx (by omega), ob4, ow, c1, c2, bAt_n hw hh (show w - 1 - x < w by omega) hy, wI_mk hg, n_mul, n_add, n_in2 (show y * w + x < 576 by omega) (by decide), n_idx (show y * w + x < 2147483648 by omega), n_suc, v, Nat.zero_add, ob_n, b2_n, tc_rn, tc_ln, F_sF, A_sF, R_sF, L_sF, F_sA, A_sA, R_sA, L_sA, F_sR, A_sR, R_sR, L_sR, F_sL, A_sL, R_sL, L_sL, and_true, true_and, and_false, false_and, and_self, reduceIte, sF_sF, sA_sA, false_or, or_false, true_or, or_true, not_false_eq_true, not_true_eq_false, decide_true, decide_false, Bool.true_or, Bool.or_true, Bool.false_and, Bool.true_and, Bool.false_or, Bool.or_false, Bool.and_true, Bool.and_false]
    · have v : tnI 1 w h (y * w + x) = (h - 1 - y) * w + x := by unfold tnI; rw [if_neg (by decide), if_pos rfl, m1, m2]
      simp (decide := true) only [bX11_turn_70, jX11_turn_148_70, nle hx (by omega), ob4, ow, c3, c4, bAt_n hw hh hx (show h - 1 - y < h by omega), wI_mk hg, n_mul, n_add, n_in2 (show y * w + x < 576 by omega) (by decide), n_idx (show y * w + x < 2147483648 by omega), n_suc, v, Nat.zero_add, ob_n, b2_n, tc_rn, tc_ln, F_sF, A_sF, R_sF, L_sF, F_sA, A_sA, R_sA, L_sA, F_sR, A_sR, R_sR, L_sR, F_sL, A_sL, R_sL, L_sL, and_true, true_and, and_false, false_and, and_self, reduceIte, sF_sF, sA_sA, false_or, or_false, true_or, or_true, not_false_eq_true, not_true_eq_false, decide_true, decide_false, Bool.true_or, Bool.or_true, Bool.false_and, Bool.true_and, Bool.false_or, Bool.or_false, Bool.and_true, Bool.and_false]
    · have v : tnI 2 w h (y * w + x) = x * w + y := by unfold tnI; rw [if_neg (by decide), if_neg (by decide), m1, m2]
      have e := h2 rfl
      simp (decide := true) only [bX11_turn_70, jX11_turn_148_70, nle hx (by omega), ob4, ow, bAt_n hw hh (show y < w by omega) (show x < h by omega), wI_mk hg, n_mul, n_add, n_in2 (show y * w + x < 576 by omega) (by decide), n_idx (show y * w + x < 2147483648 by omega), n_suc, v, Nat.zero_add, ob_n, b2_n, tc_rn, tc_ln, F_sF, A_sF, R_sF, L_sF, F_sA, A_sA, R_sA, L_sA, F_sR, A_sR, R_sR, L_sR, F_sL, A_sL, R_sL, L_sL, and_true, true_and, and_false, false_and, and_self, reduceIte, sF_sF, sA_sA, false_or, or_false, true_or, or_true, not_false_eq_true, not_true_eq_false, decide_true, decide_false, Bool.true_or, Bool.or_true, Bool.false_and, Bool.true_and, Bool.false_or, Bool.or_false, Bool.and_true, Bool.and_false]
  · simp (decide := true) only [bX11_turn_70, nlr (show w < 2147483648 by omega), ob_n, b2_n, tc_rn, tc_ln, F_sF, A_sF, R_sF, L_sF, F_sA, A_sA, R_sA, L_sA, F_sR, A_sR, R_sR, L_sR, F_sL, A_sL, R_sL, L_sL, and_true, true_and, and_false, false_and, and_self, reduceIte, sF_sF, sA_sA, false_or, or_false, true_or, or_true, not_false_eq_true, not_true_eq_false, decide_true, decide_false, Bool.true_or, Bool.or_true, Bool.false_and, Bool.true_and, Bool.false_or, Bool.or_false, Bool.and_true, Bool.and_false]
  · simp (decide := true) only [bX11_turn_60, nle hy (by omega), ob_n, b2_n, tc_rn, tc_ln, F_sF, A_sF, R_sF, L_sF, F_sA, A_sA, R_sA, L_sA, F_sR, A_sR, R_sR, L_sR, F_sL, A_sL, R_sL, L_sL, and_true, true_and, and_false, false_and, and_self, reduceIte, sF_sF, sA_sA, false_or, or_false, true_or, or_true, not_false_eq_true, not_true_eq_false, decide_true, decide_false, Bool.true_or, Bool.or_true, Bool.false_and, Bool.true_and, Bool.false_or, Bool.or_false, Bool.and_true, Bool.and_false]
  · simp (decide := true) only [bX11_turn_60, nlr (show h < 2147483648 by omega), ob_n, b2_n, tc_rn, tc_ln, F_sF, A_sF, R_sF, L_sF, F_sA, A_sA, R_sA, L_sA, F_sR, A_sR, R_sR, L_sR, F_sL, A_sL, R_sL, L_sL, and_true, true_and, and_false, false_and, and_self, reduceIte, sF_sF, sA_sA, false_or, or_false, true_or, or_true, not_false_eq_true, not_true_eq_false, decide_true, decide_false, Bool.true_or, Bool.or_true, Bool.false_and, Bool.true_and, Bool.false_or, Bool.or_false, Bool.and_true, Bool.and_false]
theorem turn12l {s : e_S} {g : ps_G} {w h l : Nat} {how : Int32} (hw : w ≤ 24) (hh : h ≤ 24) (e1 : s.1 139 13 = Int32.ofNat w) (e2 : s.1 139 14 = Int32.ofNat h) (hl : l < 30) (hr : rg how 0 2) (h2 : how = 2 → w = h) : q_lp (fun t => bX12_turn_58 139 (Int32.ofNat l) how t.1 t.2) ((0 : Int32), e_g s g) = some (e_g (sA s 142 (cpT (s.2.1 142) (fun k => s.2.1 158 (tnI how w h k)) (1169 * l + 17) (h * w))) g) := by
  have hwh := wh_le hw hh
  have key := fill1 (fun f => e_g (sA s 142 f) g) (1169 * l + 17) w h (fun k => s.2.1 158 (tnI how w h k)) (s.2.1 142) (bI := fun y t => bX12_turn_69 139 (Int32.ofNat l) how y t.1 t.2) (bO := fun t => bX12_turn_58 139 (Int32.ofNat l) how t.1 t.2) (fun f y x hy hx _ => ?_) (fun f y hy => ?_) (fun f y hy => ?_) (fun f => ?_)
  · rw [sA_id] at key
    exact key
  · have hlt := at_lt hx hy
    have q1 : (sA s 142 f).1 139 13 = Int32.ofNat w := by simp (decide := true) only [ob_n, b2_n, tc_rn, tc_ln, F_sF, A_sF, R_sF, L_sF, F_sA, A_sA, R_sA, L_sA, F_sR, A_sR, R_sR, L_sR, F_sL, A_sL, R_sL, L_sL, and_true, true_and, and_false, false_and, and_self, reduceIte, sF_sF, sA_sA, false_or, or_false, true_or, or_true, not_false_eq_true, not_true_eq_false, decide_true, decide_false, Bool.true_or, Bool.or_true, Bool.false_and, Bool.true_and, Bool.false_or, Bool.or_false, Bool.and_true, Bool.and_false, e1]
    have q2 : (sA s 142 f).1 139 14 = Int32.ofNat h := by simp (decide := true) only [ob_n, b2_n, tc_rn, tc_ln, F_sF, A_sF, R_sF, L_sF, F_sA, A_sA, R_sA, L_sA, F_sR, A_sR, R_sR, L_sR, F_sL, A_sL, R_sL, L_sL, and_true, true_and, and_false, false_and, and_self, reduceIte, sF_sF, sA_sA, false_or, or_false, true_or, or_true, not_false_eq_true, not_true_eq_false, decide_true, decide_false, Bool.true_or, Bool.or_true, Bool.false_and, Bool.true_and, Bool.false_or, Bool.or_false, Bool.and_true, Bool.and_false, e2]
    have m1 := (md (y := y) hx).1
    have m2 := (md (y := y) hx).2
    have c1 : Int32.ofNat w - 1 = Int32.ofNat (w - 1) := n_sub (b := 1) (by omega) (by omega)
    have c2 : Int32.ofNat (w - 1) - Int32.ofNat x = Int32.ofNat (w - 1 - x) := n_sub (by omega) (by omega)
    have c3 : Int32.ofNat h - 1 = Int32.ofNat (h - 1) := n_sub (b := 1) (by omega) (by omega)
    have c4 : Int32.ofNat (h - 1) - Int32.ofNat y = Int32.ofNat (h - 1 - y) := n_sub (by omega) (by omega)
    have pp := fun v => put12n (s := sA s 142 f) (g := g) (v := v) hl (show y * w + x < 576 by omega)
    rcases rg02 hr with rfl | rfl | rfl
    · have v : tnI 0 w h (y * w + x) = y * w + (w - 1 - x) := by unfold tnI; rw [if_pos rfl, m1, m2]
      have l2 := at_lt (show w - 1 - x < w by omega) hy
      simp (decide := true) only [bX12_turn_69, jX12_turn_144_69, f139_13, f139_35, a158, ob139, e1, nle hx (by omega), at12n q1, c1, c2, n_in2 (show y * w + (w - 1 - x) < 576 by omega) (by decide), n_idx (show y * w + (w - 1 - x) < 2147483648 by omega), pp, n_suc, v, ob_n, b2_n, tc_rn, tc_ln, F_sF, A_sF, R_sF, L_sF, F_sA, A_sA, R_sA, L_sA, F_sR, A_sR, R_sR, L_sR, F_sL, A_sL, R_sL, L_sL, and_true, true_and, and_false, false_and, and_self, reduceIte, sF_sF, sA_sA, false_or, or_false, true_or, or_true, not_false_eq_true, not_true_eq_false, decide_true, decide_false, Bool.true_or, Bool.or_true, Bool.false_and, Bool.true_and, Bool.false_or, Bool.or_false, Bool.and_true, Bool.and_false]
    · have v : tnI 1 w h (y * w + x) = (h - 1 - y) * w + x := by unfold tnI; rw [if_neg (by decide), if_pos rfl, m1, m2]
      have l2 := at_lt hx (show h - 1 - y < h by omega)
      simp (decide := true) only [bX12_turn_69, jX12_turn_144_69, f139_13, f139_14, f139_35, a158, ob139, e1, e2, nle hx (by omega), at12n q1, c3, c4, n_in2 (show (h - 1 - y) * w + x < 576 by omega) (by decide), n_idx (show (h - 1 - y) * w + x < 2147483648 by omega), pp, n_suc, v, ob_n, b2_n, tc_rn, tc_ln, F_sF, A_sF, R_sF, L_sF, F_sA, A_sA, R_sA, L_sA, F_sR, A_sR, R_sR, L_sR, F_sL, A_sL, R_sL, L_sL, and_true, true_and, and_false, false_and, and_self, reduceIte, sF_sF, sA_sA, false_or, or_false, true_or, or_true, not_false_eq_true, not_true_eq_false, decide_true, decide_false, Bool.true_or, Bool.or_true, Bool.false_and, Bool.true_and, Bool.false_or, Bool.or_false, Bool.and_true, Bool.and_false]
    · have v : tnI 2 w h (y * w + x) = x * w + y := by unfold tnI; rw [if_neg (by decide), if_neg (by decide), m1, m2]
      have e := h2 rfl
      have l2 := at_lt (show y < w by omega) (show x < h by omega)
      simp (decide := true) only [bX12_turn_69, jX12_turn_144_69, f139_13, f139_35, a158, ob139, e1, nle hx (by omega), at12n q1, n_in2 (show x * w + y < 576 by omega) (by decide), n_idx (show x * w + y < 2147483648 by omega), pp, n_suc, v, ob_n, b2_n, tc_rn, tc_ln, F_sF, A_sF, R_sF, L_sF, F_sA, A_sA, R_sA, L_sA, F_sR, A_sR, R_sR, L_sR, F_sL, A_sL, R_sL, L_sL, and_true, true_and, and_false, false_and, and_self, reduceIte, sF_sF, sA_sA, false_or, or_false, true_or, or_true, not_false_eq_true, not_true_eq_false, decide_true, decide_false, Bool.true_or, Bool.or_true, Bool.false_and, Bool.true_and, Bool.false_or, Bool.or_false, Bool.and_true, Bool.and_false]
  · simp (decide := true) only [bX12_turn_69, f139_13, e1, nlr (show w < 2147483648 by omega), ob_n, b2_n, tc_rn, tc_ln, F_sF, A_sF, R_sF, L_sF, F_sA, A_sA, R_sA, L_sA, F_sR, A_sR, R_sR, L_sR, F_sL, A_sL, R_sL, L_sL, and_true, true_and, and_false, false_and, and_self, reduceIte, sF_sF, sA_sA, false_or, or_false, true_or, or_true, not_false_eq_true, not_true_eq_false, decide_true, decide_false, Bool.true_or, Bool.or_true, Bool.false_and, Bool.true_and, Bool.false_or, Bool.or_false, Bool.and_true, Bool.and_false]
  · simp (decide := true) only [bX12_turn_58, f139_14, e2, nle hy (by omega), ob_n, b2_n, tc_rn, tc_ln, F_sF, A_sF, R_sF, L_sF, F_sA, A_sA, R_sA, L_sA, F_sR, A_sR, R_sR, L_sR, F_sL, A_sL, R_sL, L_sL, and_true, true_and, and_false, false_and, and_self, reduceIte, sF_sF, sA_sA, false_or, or_false, true_or, or_true, not_false_eq_true, not_true_eq_false, decide_true, decide_false, Bool.true_or, Bool.or_true, Bool.false_and, Bool.true_and, Bool.false_or, Bool.or_false, Bool.and_true, Bool.and_false]
  · simp (decide := true) only [bX12_turn_58, f139_14, e2, nlr (show h < 2147483648 by omega), ob_n, b2_n, tc_rn, tc_ln, F_sF, A_sF, R_sF, L_sF, F_sA, A_sA, R_sA, L_sA, F_sR, A_sR, R_sR, L_sR, F_sL, A_sL, R_sL, L_sL, and_true, true_and, and_false, false_and, and_self, reduceIte, sF_sF, sA_sA, false_or, or_false, true_or, or_true, not_false_eq_true, not_true_eq_false, decide_true, decide_false, Bool.true_or, Bool.or_true, Bool.false_and, Bool.true_and, Bool.false_or, Bool.or_false, Bool.and_true, Bool.and_false]
/-- the reference's state behind an EDIT of the pixels of l by the row φ -/
def pxM (s : e_S) (l st pc n : Nat) (φ : Nat → Int32) : e_S := fg12 (edM (sA (sA (sF s 139 0 0) 158 (cpT (s.2.1 158) (pxN (s.2.1 142) l) 0 576)) 142 (cpT (s.2.1 142) φ (1169 * l + 17) n)) st pc)
theorem turn12 {s : e_S} {g : ps_G} {x how : Int32} {st pc w h : Nat} (h1 : st < 25) (h2 : pc ≤ 24) (e1 : s.1 139 10 = Int32.ofNat st) (e2 : s.1 139 11 = Int32.ofNat pc) (hw : w ≤ 24) (hh : h ≤ 24) (e3 : s.1 139 13 = Int32.ofNat w) (e4 : s.1 139 14 = Int32.ofNat h) : fX12_turn (e_g s g) 139 x how = if rg how 0 2 = false ∨ (isL (s.2.1 142) x = true ∧ ¬ s.2.1 142 (1169 * x.toInt.toNat + 1) = 0) then some (e_g (sF s 139 0 1) g) else if isL (s.2.1 142) x then (if how = 2 ∧ ¬ w = h then some (e_g (sF s 139 0 3) g) else some (e_g (pxM s x.toInt.toNat st pc (h * w) (fun k => pxN (s.2.1 142) x.toInt.toNat (tnI how w h k))) g)) else some (e_g (sF s 139 0 2) g) := by
  have hwh := wh_le hw hh
  have wy := why12 (s := s) (g := g) (x := x) (b := rg how 0 2)
  have ed := fun s' q1 q2 => edited12 (s := s') (g := g) h1 h2 q1 q2
  by_cases q1 : rg how 0 2 = false ∨ (isL (s.2.1 142) x = true ∧ ¬ s.2.1 142 (1169 * x.toInt.toNat + 1) = 0)
  · rw [if_pos q1] at wy ⊢
    simp (decide := true) only [fX12_turn, jX12_turn_43, ob139, rin, wy, w139_0, f139_0, ob_n, b2_n, tc_rn, tc_ln, F_sF, A_sF, R_sF, L_sF, F_sA, A_sA, R_sA, L_sA, F_sR, A_sR, R_sR, L_sR, F_sL, A_sL, R_sL, L_sL, and_true, true_and, and_false, false_and, and_self, reduceIte, sF_sF, sA_sA, false_or, or_false, true_or, or_true, not_false_eq_true, not_true_eq_false, decide_true, decide_false, Bool.true_or, Bool.or_true, Bool.false_and, Bool.true_and, Bool.false_or, Bool.or_false, Bool.and_true, Bool.and_false]
  · rw [if_neg q1] at wy ⊢
    have q2 : rg how 0 2 = true := by cases e : rg how 0 2 with
      | true => rfl
      | false => exact absurd (Or.inl e) q1
    by_cases hx : isL (s.2.1 142) x
    · rw [if_pos hx] at wy ⊢
      obtain ⟨l, rfl, hl, hl1⟩ := isL_n hx
      rw [n_int (by omega), Int.toNat_natCast] at q1 ⊢
      have wy2 := wy
      rw [q2, if_pos rfl] at wy2
      have go : (how = 2 → w = h) → jX12_turn_43 (e_g (sF s 139 0 0) g) 139 (Int32.ofNat l) how = some (e_g (pxM s l st pc (h * w) (fun k => pxN (s.2.1 142) l (tnI how w h k))) g) := by
        intro h9
        have lp := fun s' => turn12l (s := s') (g := g) (l := l) (how := how) hw hh
        simp (decide := true) only [jX12_turn_43, f139_0, ob139, begin12 hl, ob_n, b2_n, tc_rn, tc_ln, F_sF, A_sF, R_sF, L_sF, F_sA, A_sA, R_sA, L_sA, F_sR, A_sR, R_sR, L_sR, F_sL, A_sL, R_sL, L_sL, and_true, true_and, and_false, false_and, and_self, reduceIte, sF_sF, sA_sA, false_or, or_false, true_or, or_true, not_false_eq_true, not_true_eq_false, decide_true, decide_false, Bool.true_or, Bool.or_true, Bool.false_and, Bool.true_and, Bool.false_or, Bool.or_false, Bool.and_true, Bool.and_false]
        rw [lp _ (by simp (decide := true) only [ob_n, b2_n, tc_rn, tc_ln, F_sF, A_sF, R_sF, L_sF, F_sA, A_sA, R_sA, L_sA, F_sR, A_sR, R_sR, L_sR, F_sL, A_sL, R_sL, L_sL, and_true, true_and, and_false, false_and, and_self, reduceIte, sF_sF, sA_sA, false_or, or_false, true_or, or_true, not_false_eq_true, not_true_eq_false, decide_true, decide_false, Bool.true_or, Bool.or_true, Bool.false_and, Bool.true_and, Bool.false_or, Bool.or_false, Bool.and_true, Bool.and_false, e3]) (by simp (decide := true) only [ob_n, b2_n, tc_rn, tc_ln, F_sF, A_sF, R_sF, L_sF, F_sA, A_sA, R_sA, L_sA, F_sR, A_sR, R_sR, L_sR, F_sL, A_sL, R_sL, L_sL, and_true, true_and, and_false, false_and, and_self, reduceIte, sF_sF, sA_sA, false_or, or_false, true_or, or_true, not_false_eq_true, not_true_eq_false, decide_true, decide_false, Bool.true_or, Bool.or_true, Bool.false_and, Bool.true_and, Bool.false_or, Bool.or_false, Bool.and_true, Bool.and_false, e4]) hl q2 h9]
        simp (decide := true) only [ob_n, b2_n, tc_rn, tc_ln, F_sF, A_sF, R_sF, L_sF, F_sA, A_sA, R_sA, L_sA, F_sR, A_sR, R_sR, L_sR, F_sL, A_sL, R_sL, L_sL, and_true, true_and, and_false, false_and, and_self, reduceIte, sF_sF, sA_sA, false_or, or_false, true_or, or_true, not_false_eq_true, not_true_eq_false, decide_true, decide_false, Bool.true_or, Bool.or_true, Bool.false_and, Bool.true_and, Bool.false_or, Bool.or_false, Bool.and_true, Bool.and_false, ob139]
        rw [ed _ (by simp (decide := true) only [ob_n, b2_n, tc_rn, tc_ln, F_sF, A_sF, R_sF, L_sF, F_sA, A_sA, R_sA, L_sA, F_sR, A_sR, R_sR, L_sR, F_sL, A_sL, R_sL, L_sL, and_true, true_and, and_false, false_and, and_self, reduceIte, sF_sF, sA_sA, false_or, or_false, true_or, or_true, not_false_eq_true, not_true_eq_false, decide_true, decide_false, Bool.true_or, Bool.or_true, Bool.false_and, Bool.true_and, Bool.false_or, Bool.or_false, Bool.and_true, Bool.and_false, e1]) (by simp (decide := true) only [ob_n, b2_n, tc_rn, tc_ln, F_sF, A_sF, R_sF, L_sF, F_sA, A_sA, R_sA, L_sA, F_sR, A_sR, R_sR, L_sR, F_sL, A_sL, R_sL, L_sL, and_true, true_and, and_false, false_and, and_self, reduceIte, sF_sF, sA_sA, false_or, or_false, true_or, or_true, not_false_eq_true, not_true_eq_false, decide_true, decide_false, Bool.true_or, Bool.or_true, Bool.false_and, Bool.true_and, Bool.false_or, Bool.or_false, Bool.and_true, Bool.and_false, e2])]
        simp (decide := true) only [ob_n, b2_n, tc_rn, tc_ln, F_sF, A_sF, R_sF, L_sF, F_sA, A_sA, R_sA, L_sA, F_sR, A_sR, R_sR, L_sR, F_sL, A_sL, R_sL, L_sL, and_true, true_and, and_false, false_and, and_self, reduceIte, sF_sF, sA_sA, false_or, or_false, true_or, or_true, not_false_eq_true, not_true_eq_false, decide_true, decide_false, Bool.true_or, Bool.or_true, Bool.false_and, Bool.true_and, Bool.false_or, Bool.or_false, Bool.and_true, Bool.and_false, ob139, forget12, fg12, pxM]
        congr 5
        refine cpT_cong (fun k hk => ?_)
        have hi : tnI how w h k < 576 := by
          have hw0 : 0 < w := by
            rcases Nat.eq_zero_or_pos w with z | z
            · rw [z, Nat.mul_zero] at hk; omega
            · exact z
          have d1 : k % w < w := Nat.mod_lt _ hw0
          have d2 : k / w < h := Nat.div_lt_of_lt_mul (by rw [Nat.mul_comm]; exact hk)
          unfold tnI
          generalize k / w = q at d2 ⊢
          generalize k % w = r at d1 ⊢
          rcases rg02 q2 with rfl | rfl | rfl
          · rw [if_pos rfl]
            have := at_lt (show w - 1 - r < w by omega) d2
            omega
          · rw [if_neg (by decide), if_pos rfl]
            have := at_lt d1 (show h - 1 - q < h by omega)
            omega
          · rw [if_neg (by decide), if_neg (by decide)]
            have e := h9 rfl
            have := at_lt (show q < w by omega) (show r < h by omega)
            omega
        have := cpT_in (A := s.2.1 158) (N := pxN (s.2.1 142) l) (b := 0) hi
        rw [Nat.zero_add] at this
        exact this
      by_cases h2 : how = 2
      · subst h2
        by_cases h3 : w = h
        · rw [if_neg (fun z => z.2 h3)]
          have e5 : Int32.ofNat w = Int32.ofNat h := by rw [h3]
          simp (decide := true) only [fX12_turn, ob139, rin, wy2, w139_0, f139_0, f139_13, f139_14, e3, e4, e5, go (fun _ => h3), ob_n, b2_n, tc_rn, tc_ln, F_sF, A_sF, R_sF, L_sF, F_sA, A_sA, R_sA, L_sA, F_sR, A_sR, R_sR, L_sR, F_sL, A_sL, R_sL, L_sL, and_true, true_and, and_false, false_and, and_self, reduceIte, sF_sF, sA_sA, false_or, or_false, true_or, or_true, not_false_eq_true, not_true_eq_false, decide_true, decide_false, Bool.true_or, Bool.or_true, Bool.false_and, Bool.true_and, Bool.false_or, Bool.or_false, Bool.and_true, Bool.and_false]
        · rw [if_pos ⟨rfl, h3⟩]
          have e5 : ¬ Int32.ofNat w = Int32.ofNat h := by rw [n_eq (by omega) (by omega)]; exact h3
          simp (decide := true) only [fX12_turn, jX12_turn_43, ob139, rin, wy2, w139_0, f139_0, f139_13, f139_14, e3, e4, e5, ob_n, b2_n, tc_rn, tc_ln, F_sF, A_sF, R_sF, L_sF, F_sA, A_sA, R_sA, L_sA, F_sR, A_sR, R_sR, L_sR, F_sL, A_sL, R_sL, L_sL, and_true, true_and, and_false, false_and, and_self, reduceIte, sF_sF, sA_sA, false_or, or_false, true_or, or_true, not_false_eq_true, not_true_eq_false, decide_true, decide_false, Bool.true_or, Bool.or_true, Bool.false_and, Bool.true_and, Bool.false_or, Bool.or_false, Bool.and_true, Bool.and_false]
      · rw [if_neg (fun z => h2 z.1)]
        simp (decide := true) only [fX12_turn, ob139, rin, wy, w139_0, f139_0, h2, go (fun z => absurd z h2), ob_n, b2_n, tc_rn, tc_ln, F_sF, A_sF, R_sF, L_sF, F_sA, A_sA, R_sA, L_sA, F_sR, A_sR, R_sR, L_sR, F_sL, A_sL, R_sL, L_sL, and_true, true_and, and_false, false_and, and_self, reduceIte, sF_sF, sA_sA, false_or, or_false, true_or, or_true, not_false_eq_true, not_true_eq_false, decide_true, decide_false, Bool.true_or, Bool.or_true, Bool.false_and, Bool.true_and, Bool.false_or, Bool.or_false, Bool.and_true, Bool.and_false]
    · rw [if_neg hx] at wy ⊢
      simp (decide := true) only [fX12_turn, jX12_turn_43, ob139, rin, wy, w139_0, f139_0, ob_n, b2_n, tc_rn, tc_ln, F_sF, A_sF, R_sF, L_sF, F_sA, A_sA, R_sA, L_sA, F_sR, A_sR, R_sR, L_sR, F_sL, A_sL, R_sL, L_sL, and_true, true_and, and_false, false_and, and_self, reduceIte, sF_sF, sA_sA, false_or, or_false, true_or, or_true, not_false_eq_true, not_true_eq_false, decide_true, decide_false, Bool.true_or, Bool.or_true, Bool.false_and, Bool.true_and, Bool.false_or, Bool.or_false, Bool.and_true, Bool.and_false]
/-- an EDIT of pixels by which all TILES are forgotten is kept -/
theorem KV_px {hs : List ps_H} {c : Option ((String ⊕ Unit) × ps_G)} {m : ps_G → Option ps_G} {s : e_S} {g : ps_G} {w h a b st pc uc l : Nat} {φ : Nat → Int32} (hR : Rel s g) (h7 : G7 s w h) (f1 : st < 25) (f2 : pc + uc ≤ 24) (f3 : s.2.2.1 8 0 = some a) (f4 : s.1 8 2 = Int32.ofNat pc) (f9 : StN g a w h (s.2.1 142)) (f10 : ∀ k, k < 35071 → s.2.1 143 (35071 * ((st + pc) % 25) + k) = s.2.1 142 k) (f11 : ∀ i, i < pc → ∃ b, s.2.2.1 12 i = some b ∧ StN g b w h (kp (s.2.1 143) st i)) (hl : l < 30) (hl1 : s.2.1 142 (1169 * l) = 1) (hLy : LyN g b w h l (lR (s.2.1 142) l)) (hk : s.2.1 142 (1169 * l + 1) = 0) (f : Nat → Int32) (hf : ∀ k, k < w * h → f k = φ k) (hc : ∀ g2, fX11_replacePixels (e_g s (mkA g f)) 8 b g.1 = some (e_g (fgC (rmC s a (g.1 + 2) pc)) g2) → c = some (.inr (), e_g (fgC (rmC s a (g.1 + 2) pc)) g2)) (hm : ∀ g2, m (e_g (fgC (rmC s a (g.1 + 2) pc)) g2) = some (e_g (pxM (fgC (rmC s a (g.1 + 2) pc)) l st pc (h * w) φ) g2)) : KV (Option.bind (q_ob 11 (e_g s g) 8) fun _ => q_wr hs c (fun v g1 => some ((0 : Int32), g1))) m g := by
  have hg := rel_g hR
  have hwh := wh_le h7.2.1 h7.2.2.2.1
  have e142 : (fgC (rmC s a (g.1 + 2) pc)).2.1 142 = s.2.1 142 := by unfold fgC rmC; simp (decide := true) only [ob_n, b2_n, tc_rn, tc_ln, F_sF, A_sF, R_sF, L_sF, F_sA, A_sA, R_sA, L_sA, F_sR, A_sR, R_sR, L_sR, F_sL, A_sL, R_sL, L_sL, and_true, true_and, and_false, false_and, and_self, reduceIte, sF_sF, sA_sA, false_or, or_false, true_or, or_true, not_false_eq_true, not_true_eq_false, decide_true, decide_false, Bool.true_or, Bool.or_true, Bool.false_and, Bool.true_and, Bool.false_or, Bool.or_false, Bool.and_true, Bool.and_false, F_sRr, A_sRr]
  obtain ⟨g2, w1, w2, w3⟩ := pixEdit (s := s) (N' := cpT (s.2.1 142) φ (1169 * l + 17) (h * w)) (f := f) hwh hg f3 f4 (by omega) (fun i hi => (f11 i hi).imp fun b hb => ⟨_, hb.1, hb.2⟩) f9 hl hl1 hLy hk (fun j hj => by rw [cpT_out (by rw [Nat.mul_comm h w]; omega)]) (fun k hk => by
    rw [hf k hk, ← Nat.add_assoc, cpT_in (by rw [Nat.mul_comm]; exact hk)])
  refine KV_ed (N' := cpT (s.2.1 142) φ (1169 * l + 17) (h * w)) hR h7 f1 f2 f9 f10 f11 (hc g2 w1) (hm g2) ?_ ?_ w2 w3
  · unfold pxM fg12 edM fgC rmC; simp (decide := true) only [ob_n, b2_n, tc_rn, tc_ln, F_sF, A_sF, R_sF, L_sF, F_sA, A_sA, R_sA, L_sA, F_sR, A_sR, R_sR, L_sR, F_sL, A_sL, R_sL, L_sL, and_true, true_and, and_false, false_and, and_self, reduceIte, sF_sF, sA_sA, false_or, or_false, true_or, or_true, not_false_eq_true, not_true_eq_false, decide_true, decide_false, Bool.true_or, Bool.or_true, Bool.false_and, Bool.true_and, Bool.false_or, Bool.or_false, Bool.and_true, Bool.and_false, F_sRr, A_sRr]
  · unfold edS pxM
    rw [e142]
    exact sm_fg (sm_edM (sm_A2 (sm_A (sm_F sm_rf (by decide)) (by decide))))
theorem K_turn {s : e_S} {g : ps_G} {x how : Int32} (hR : Rel s g) : KV (fL_turn (e_g s g) 8 x how) (fun G => fX12_turn G 139 x how) g := by
  have hg := rel_g hR
  obtain ⟨h1, h2, h3, h4, h5, h6, ⟨w, h, h7, h8, h9⟩, h10, h11⟩ := id hR
  obtain ⟨a, st, pc, uc, f1, f2, f3, f4, f5, f6, f7, f8, f9, f10, f11, f12⟩ := h9
  obtain ⟨d1, d2, d3, d4, d5, d6, d7, d8, d9⟩ := id h7
  have hwh := wh_le d2 d4
  obtain ⟨s0, s1, -, -⟩ := stW (s := s) f9
  have hm0 := fun s' g e1 e2 e3 e4 => turn12 (s := s') (g := g) (x := x) (how := how) f1 (show pc ≤ 24 by omega) e1 e2 d2 d4 e3 e4
  by_cases q : rg how 0 2
  · rcases knownPix11 (x := x) hg f3 f9 with ⟨k1, k2⟩ | ⟨l, b, rfl, hl, k1, k3, hLy, ⟨k4, k2⟩ | ⟨k4, k2⟩⟩
    · refine KV_no (E := "java/util/NoSuchElementException") (y := 2) hR ?_ (by decide +kernel) ((hm0 _ _ f6 f7 d5 d6).trans ((if_neg (by rw [q, k1]; simp)).trans (if_neg (by rw [k1]; decide))))
      simp (decide := true) only [fX11_turn, rng hg, q, ob8, k2, ob_n, b2_n, tc_rn, tc_ln, F_sF, A_sF, R_sF, L_sF, F_sA, A_sA, R_sA, L_sA, F_sR, A_sR, R_sR, L_sR, F_sL, A_sL, R_sL, L_sL, and_true, true_and, and_false, false_and, and_self, reduceIte, sF_sF, sA_sA, false_or, or_false, true_or, or_true, not_false_eq_true, not_true_eq_false, decide_true, decide_false, Bool.true_or, Bool.or_true, Bool.false_and, Bool.true_and, Bool.false_or, Bool.or_false, Bool.and_true, Bool.and_false]
    · refine KV_no (E := "java/lang/IllegalArgumentException") (y := 1) hR ?_ (by decide +kernel) ((hm0 _ _ f6 f7 d5 d6).trans (if_pos (Or.inr ⟨k1, by rw [n_int (by omega), Int.toNat_natCast]; exact k4⟩)))
      simp (decide := true) only [fX11_turn, rng hg, q, ob8, k2, ob_n, b2_n, tc_rn, tc_ln, F_sF, A_sF, R_sF, L_sF, F_sA, A_sA, R_sA, L_sA, F_sR, A_sR, R_sR, L_sR, F_sL, A_sL, R_sL, L_sL, and_true, true_and, and_false, false_and, and_self, reduceIte, sF_sF, sA_sA, false_or, or_false, true_or, or_true, not_false_eq_true, not_true_eq_false, decide_true, decide_false, Bool.true_or, Bool.or_true, Bool.false_and, Bool.true_and, Bool.false_or, Bool.or_false, Bool.and_true, Bool.and_false]
    · have n1 : ¬ (rg how 0 2 = false ∨ (isL (s.2.1 142) (Int32.ofNat l) = true ∧ ¬ s.2.1 142 (1169 * (Int32.ofNat l).toInt.toNat + 1) = 0)) := by
        rw [n_int (by omega), Int.toNat_natCast, q]
        rintro (z | z)
        · cases z
        · exact z.2 k4
      by_cases hb : how = 2 ∧ ¬ w = h
      · refine KV_no (E := "java/lang/IllegalStateException") (y := 3) hR ?_ (by decide +kernel) ((hm0 _ _ f6 f7 d5 d6).trans ((if_neg n1).trans ((if_pos k1).trans (if_pos hb))))
        obtain ⟨rfl, hb2⟩ := hb
        have e5 : ¬ Int32.ofNat w = Int32.ofNat h := by rw [n_eq (by omega) (by omega)]; exact hb2
        simp (decide := true) only [fX11_turn, jX11_turn_21, rng hg, q, ob8, k2, f8_0, f3, s0, s1, e5, refuse11 hg, ob_n, b2_n, tc_rn, tc_ln, F_sF, A_sF, R_sF, L_sF, F_sA, A_sA, R_sA, L_sA, F_sR, A_sR, R_sR, L_sR, F_sL, A_sL, R_sL, L_sL, and_true, true_and, and_false, false_and, and_self, reduceIte, sF_sF, sA_sA, false_or, or_false, true_or, or_true, not_false_eq_true, not_true_eq_false, decide_true, decide_false, Bool.true_or, Bool.or_true, Bool.false_and, Bool.true_and, Bool.false_or, Bool.or_false, Bool.and_true, Bool.and_false]
      · have h2' : how = 2 → w = h := fun z => Decidable.byContradiction fun z2 => hb ⟨z, z2⟩
        have rf : ((if (¬ how = 2) ∨ Int32.ofNat w = Int32.ofNat h then (0 : Int32) else 1)) = 0 := by
          by_cases z : how = 2
          · rw [if_pos (Or.inr (by rw [h2' z]))]
          · rw [if_pos (Or.inl z)]
        refine KV_px (l := l) (b := b) (φ := fun k => pxN (s.2.1 142) l (tnI how w h k)) hR h7 f1 f2 f3 f4 f9 f10 f11 hl k3 hLy k4 (cpT (cI (fun _ => 0) 0) (fun k => pxN (s.2.1 142) l (tnI how w h k)) 0 (h * w)) (fun k hk => ?_) (fun g2 w1 => ?_) (fun g2 => ?_)
        · have := cpT_in (A := cI (fun _ => 0) 0) (N := fun k => pxN (s.2.1 142) l (tnI how w h k)) (b := 0) (n := h * w) (k := k) (by rw [Nat.mul_comm]; exact hk)
          rw [Nat.zero_add] at this
          exact this
        · have lp := turn11l (s := s) hg d2 d4 hLy k4 q h2' (cI (fun _ => 0) 0)
          have e1 : (e_g s g).1 = g.1 := rfl
          simp (decide := true) only [fX11_turn, jX11_turn_21, rng hg, q, ob8, k2, f8_0, f3, s0, s1, refuse11 hg, rf, nA_mk hg, e1, lp, w1, ob_n, b2_n, tc_rn, tc_ln, F_sF, A_sF, R_sF, L_sF, F_sA, A_sA, R_sA, L_sA, F_sR, A_sR, R_sR, L_sR, F_sL, A_sL, R_sL, L_sL, and_true, true_and, and_false, false_and, and_self, reduceIte, sF_sF, sA_sA, false_or, or_false, true_or, or_true, not_false_eq_true, not_true_eq_false, decide_true, decide_false, Bool.true_or, Bool.or_true, Bool.false_and, Bool.true_and, Bool.false_or, Bool.or_false, Bool.and_true, Bool.and_false]
        · have e142 : (fgC (rmC s a (g.1 + 2) pc)).2.1 142 = s.2.1 142 := by unfold fgC rmC; simp (decide := true) only [ob_n, b2_n, tc_rn, tc_ln, F_sF, A_sF, R_sF, L_sF, F_sA, A_sA, R_sA, L_sA, F_sR, A_sR, R_sR, L_sR, F_sL, A_sL, R_sL, L_sL, and_true, true_and, and_false, false_and, and_self, reduceIte, sF_sF, sA_sA, false_or, or_false, true_or, or_true, not_false_eq_true, not_true_eq_false, decide_true, decide_false, Bool.true_or, Bool.or_true, Bool.false_and, Bool.true_and, Bool.false_or, Bool.or_false, Bool.and_true, Bool.and_false, F_sRr, A_sRr]
          have := hm0 (fgC (rmC s a (g.1 + 2) pc)) g2 (by unfold fgC rmC; simp (decide := true) only [ob_n, b2_n, tc_rn, tc_ln, F_sF, A_sF, R_sF, L_sF, F_sA, A_sA, R_sA, L_sA, F_sR, A_sR, R_sR, L_sR, F_sL, A_sL, R_sL, L_sL, and_true, true_and, and_false, false_and, and_self, reduceIte, sF_sF, sA_sA, false_or, or_false, true_or, or_true, not_false_eq_true, not_true_eq_false, decide_true, decide_false, Bool.true_or, Bool.or_true, Bool.false_and, Bool.true_and, Bool.false_or, Bool.or_false, Bool.and_true, Bool.and_false, F_sRr, A_sRr]; exact f6) (by unfold fgC rmC; simp (decide := true) only [ob_n, b2_n, tc_rn, tc_ln, F_sF, A_sF, R_sF, L_sF, F_sA, A_sA, R_sA, L_sA, F_sR, A_sR, R_sR, L_sR, F_sL, A_sL, R_sL, L_sL, and_true, true_and, and_false, false_and, and_self, reduceIte, sF_sF, sA_sA, false_or, or_false, true_or, or_true, not_false_eq_true, not_true_eq_false, decide_true, decide_false, Bool.true_or, Bool.or_true, Bool.false_and, Bool.true_and, Bool.false_or, Bool.or_false, Bool.and_true, Bool.and_false, F_sRr, A_sRr]; exact f7) (by unfold fgC rmC; simp (decide := true) only [ob_n, b2_n, tc_rn, tc_ln, F_sF, A_sF, R_sF, L_sF, F_sA, A_sA, R_sA, L_sA, F_sR, A_sR, R_sR, L_sR, F_sL, A_sL, R_sL, L_sL, and_true, true_and, and_false, false_and, and_self, reduceIte, sF_sF, sA_sA, false_or, or_false, true_or, or_true, not_false_eq_true, not_true_eq_false, decide_true, decide_false, Bool.true_or, Bool.or_true, Bool.false_and, Bool.true_and, Bool.false_or, Bool.or_false, Bool.and_true, Bool.and_false, F_sRr, A_sRr]; exact d5) (by unfold fgC rmC; simp (decide := true) only [ob_n, b2_n, tc_rn, tc_ln, F_sF, A_sF, R_sF, L_sF, F_sA, A_sA, R_sA, L_sA, F_sR, A_sR, R_sR, L_sR, F_sL, A_sL, R_sL, L_sL, and_true, true_and, and_false, false_and, and_self, reduceIte, sF_sF, sA_sA, false_or, or_false, true_or, or_true, not_false_eq_true, not_true_eq_false, decide_true, decide_false, Bool.true_or, Bool.or_true, Bool.false_and, Bool.true_and, Bool.false_or, Bool.or_false, Bool.and_true, Bool.and_false, F_sRr, A_sRr]; exact d6)
          rw [e142, if_neg n1, if_pos k1, if_neg hb, n_int (by omega), Int.toNat_natCast] at this
          exact this
  · refine KV_no (E := "java/lang/IllegalArgumentException") (y := 1) hR ?_ (by decide +kernel) ((hm0 _ _ f6 f7 d5 d6).trans (if_pos (Or.inl (by simpa using q))))
    simp (decide := true) only [fX11_turn, rng hg, q, ob_n, b2_n, tc_rn, tc_ln, F_sF, A_sF, R_sF, L_sF, F_sA, A_sA, R_sA, L_sA, F_sR, A_sR, R_sR, L_sR, F_sL, A_sL, R_sL, L_sL, and_true, true_and, and_false, false_and, and_self, reduceIte, sF_sF, sA_sA, false_or, or_false, true_or, or_true, not_false_eq_true, not_true_eq_false, decide_true, decide_false, Bool.true_or, Bool.or_true, Bool.false_and, Bool.true_and, Bool.false_or, Bool.or_false, Bool.and_true, Bool.and_false]
