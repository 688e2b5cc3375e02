-- needs: 07 10 13 14 20 21 22 23 24 25 26 27 32 33 34 36 38 39 40 41 42 43 44 46 47 48 52 53 54 55 56
/-! ===== fill ===== -/
noncomputable def ptV (how b c t : Int32) : Int32 := if how = 0 then blV b c (fX11_mul (q_ush c 24) t) 0 else if how = 1 then q_shl (fX11_mul (q_ush b 24) (255 - fX11_mul (q_ush c 24) t)) 24 ||| (b &&& 16777215) else fX11_mixColours b c t
theorem put11 {g : ps_G} {how b c t : Int32} (ht : rg t 0 255) : fX11_put g how b c t = some (ptV how b c t) := by
  unfold fX11_put ptV
  by_cases h0 : how = 0
  · simp (decide := true) only [h0, reduceIte, blend11 (show rg 0 0 15 = true by decide) (mul_r al_r ht), ob_s]
  · by_cases h1 : how = 1 <;> simp (decide := true) only [h0, h1, reduceIte]
theorem bAt_r {w h : Nat} {A : Nat → Int32} {x y : Int32} (e : ∀ k, k < w * h → rg (A k) 0 255) : rg (bAt w h A x y) 0 255 := by
  unfold bAt
  by_cases q : plc w h x y
  · rw [if_pos q]
    have q2 := of_decide_eq_true q
    exact e _ (at_lt (by omega) (by omega))
  · rw [if_neg q]; decide
theorem area11 {s : e_S} {g : ps_G} {w h : Nat} {x y : Int32} (hw : w ≤ 24) (hh : h ≤ 24) (e1 : s.1 89 0 = Int32.ofNat w) (e2 : s.1 89 1 = Int32.ofNat h) : fX0_at (e_g s g) 89 x y = some (bAt w h (s.2.1 90) x y) := area_at hw hh e1 e2
theorem chosen12 {s : e_S} {g : ps_G} {w h : Nat} {x y : Int32} (hw : w ≤ 24) (hh : h ≤ 24) (e1 : s.1 139 13 = Int32.ofNat w) (e2 : s.1 139 14 = Int32.ofNat h) : fX12_chosenAt (e_g s g) 139 x y = some (bAt w h (s.2.1 155) x y) := by
  unfold bAt
  by_cases q : plc w h x y
  · obtain ⟨a, b, rfl, rfl, ha, hb⟩ := plc_n q
    have hl := at_lt ha hb
    have hl2 := wh_le hw hh
    rw [if_pos q, n_int (by omega), n_int (by omega), Int.toNat_natCast, Int.toNat_natCast]
    simp (decide := true) only [fX12_chosenAt, f139_31, a155, ob139, jX12_chosenAt_24, ob_n, b2_n, tc_rn, tc_ln, F_sF, A_sF, R_sF, L_sF, F_sA, A_sA, R_sA, L_sA, F_sR, A_sR, R_sR, L_sR, F_sL, A_sL, R_sL, L_sL, and_true, true_and, and_false, false_and, and_self, reduceIte, sF_sF, sA_sA, false_or, or_false, true_or, or_true, not_false_eq_true, not_true_eq_false, decide_true, decide_false, Bool.true_or, Bool.or_true, Bool.false_and, Bool.true_and, Bool.false_or, Bool.or_false, Bool.and_true, Bool.and_false, place12 hw hh e1 e2, q, at12n e1, n_in2 (show b * w + a < 576 by omega) (by decide), n_idx (show b * w + a < 2147483648 by omega)]
  · rw [if_neg q]
    simp (decide := true) only [fX12_chosenAt, f139_31, a155, ob139, jX12_chosenAt_24, ob_n, b2_n, tc_rn, tc_ln, F_sF, A_sF, R_sF, L_sF, F_sA, A_sA, R_sA, L_sA, F_sR, A_sR, R_sR, L_sR, F_sL, A_sL, R_sL, L_sL, and_true, true_and, and_false, false_and, and_self, reduceIte, sF_sF, sA_sA, false_or, or_false, true_or, or_true, not_false_eq_true, not_true_eq_false, decide_true, decide_false, Bool.true_or, Bool.or_true, Bool.false_and, Bool.true_and, Bool.false_or, Bool.or_false, Bool.and_true, Bool.and_false, place12 hw hh e1 e2, q]
theorem shifted12 {s : e_S} {g : ps_G} {w h l : Nat} {x y dx dy : Int32} (hw : w ≤ 24) (hh : h ≤ 24) (e1 : s.1 139 13 = Int32.ofNat w) (e2 : s.1 139 14 = Int32.ofNat h) (hl : l < 30) (e3 : s.2.1 142 (1169 * l + 8) = dx) (e4 : s.2.1 142 (1169 * l + 9) = dy) : fX12_shiftedChoice (e_g s g) 139 (Int32.ofNat l) x y = some (bAt w h (s.2.1 155) (x + dx) (y + dy)) := by
  have g8 := get12 (s := s) (g := g) (n := 8) hl (by omega)
  have g9 := get12 (s := s) (g := g) (n := 9) hl (by omega)
  rw [e3] at g8
  rw [e4] at g9
  simp (decide := true) only [fX12_shiftedChoice, ob139, g8, g9, chosen12 hw hh e1 e2, ob_n, b2_n, tc_rn, tc_ln, F_sF, A_sF, R_sF, L_sF, F_sA, A_sA, R_sA, L_sA, F_sR, A_sR, R_sR, L_sR, F_sL, A_sL, R_sL, L_sL, and_true, true_and, and_false, false_and, and_self, reduceIte, sF_sF, sA_sA, false_or, or_false, true_or, or_true, not_false_eq_true, not_true_eq_false, decide_true, decide_false, Bool.true_or, Bool.or_true, Bool.false_and, Bool.true_and, Bool.false_or, Bool.or_false, Bool.and_true, Bool.and_false]
/-- how much is selected of pixel k of a LAYER moved by dx, dy -/
def shV (w h : Nat) (A : Nat → Int32) (dx dy : Int32) (k : Nat) : Int32 := bAt w h A (Int32.ofNat (k % w) + dx) (Int32.ofNat (k / w) + dy)
theorem shV_n {w h x y : Nat} {A : Nat → Int32} {dx dy : Int32} (hx : x < w) : shV w h A dx dy (y * w + x) = bAt w h A (Int32.ofNat x + dx) (Int32.ofNat y + dy) := by
  unfold shV
  rw [(md (y := y) hx).1, (md (y := y) hx).2]
noncomputable def fiV (how front : Int32) (w h : Nat) (N A : Nat → Int32) (l : Nat) : Nat → Int32 := fun k => ptV how (pxN N l k) front (shV w h A (N (1169 * l + 8)) (N (1169 * l + 9)) k)
theorem fill11l {s : e_S} {g : ps_G} {a b w h l : Nat} {N : Nat → Int32} {how : Int32} (hg : 195 ≤ g.1) (hw : w ≤ 24) (hh : h ≤ 24) (e0 : s.2.2.1 8 0 = some a) (hs : StN g a w h N) (hL : LyN g b w h l (lR N l)) (hk : N (1169 * l + 1) = 0) (q1 : s.1 89 0 = Int32.ofNat w) (q2 : s.1 89 1 = Int32.ofNat h) (hA : ∀ k, k < 576 → rg (s.2.1 90 k) 0 255) (f0 : Nat → Int32) : q_lp (fun t => bX11_fill_22 8 how (some b) g.1 t.1 t.2) ((0 : Int32), e_g s (mkA g f0)) = some (e_g s (mkA g (cpT f0 (fiV how (s.1 93 0) w h N (s.2.1 90) l) 0 (h * w)))) := by
  have hwh := wh_le hw hh
  have st := fun f => stW (s := s) (stN_ext (ext_mkA (f := f)) hs)
  refine fill1 (fun f => e_g s (mkA g f)) 0 w h (fiV how (s.1 93 0) w h N (s.2.1 90) l) f0 (bI := fun y t => bX11_fill_37 8 how (some b) g.1 y t.1 t.2) (fun f y x hy hx _ => ?_) (fun f y hy => ?_) (fun f y hy => ?_) (fun f => ?_)
  · have hlt := at_lt hx hy
    obtain ⟨y1, y2, p, q, x0, y0, x1, yy1, pa, ma, y3, z1, z2, z3, z4, z5, z6, z7, z8, z9, z10, z11, z12, -⟩ := id (lyN_ext (ext_mkA (f := f)) hL)
    obtain ⟨d1, d0, d2, F, d3, d4⟩ := z12 hk
    have f15 : q_fR 4 15 (e_g s (mkA g f)) b = some (some pa) := d_fR y1 y3 rfl
    have f7 : q_fI 4 7 (e_g s (mkA g f)) b = some (N (1169 * l + 8)) := d_fI y1 y3 rfl
    have f8 : q_fI 4 8 (e_g s (mkA g f)) b = some (N (1169 * l + 9)) := d_fI y1 y3 rfl
    have v : fiV how (s.1 93 0) w h N (s.2.1 90) l (y * w + x) = ptV how (F (y * w + x)) (s.1 93 0) (bAt w h (s.2.1 90) (Int32.ofNat x + N (1169 * l + 8)) (Int32.ofNat y + N (1169 * l + 9))) := by
      unfold fiV
      rw [shV_n hx, d4 _ hlt]; rfl
    have hr : ∀ X Y, rg (bAt w h (s.2.1 90) X Y) 0 255 = true := fun X Y => bAt_r (fun k hk => hA k (by omega))
    simp (decide := true) only [bX11_fill_37, f8_0, e0, (st f).1, nle hx (by omega), f15, d_aI d1 d3, n_mul, n_add, n_in2 (show y * w + x < 576 by omega) (by decide), n_idx (show y * w + x < 2147483648 by omega), f8_8, f93_0, f8_7, f7, f8, ob89, area11 hw hh q1 q2, put11 (hr _ _), wI_mk hg, n_suc, v, Nat.zero_add, ob_n, b2_n, tc_rn, tc_ln, F_sF, A_sF, R_sF, L_sF, F_sA, A_sA, R_sA, L_sA, F_sR, A_sR, R_sR, L_sR, F_sL, A_sL, R_sL, L_sL, and_true, true_and, and_false, false_and, and_self, reduceIte, sF_sF, sA_sA, false_or, or_false, true_or, or_true, not_false_eq_true, not_true_eq_false, decide_true, decide_false, Bool.true_or, Bool.or_true, Bool.false_and, Bool.true_and, Bool.false_or, Bool.or_false, Bool.and_true, Bool.and_false]
  · simp (decide := true) only [bX11_fill_37, f8_0, e0, (st f).1, nlr (show w < 2147483648 by omega), ob_n, b2_n, tc_rn, tc_ln, F_sF, A_sF, R_sF, L_sF, F_sA, A_sA, R_sA, L_sA, F_sR, A_sR, R_sR, L_sR, F_sL, A_sL, R_sL, L_sL, and_true, true_and, and_false, false_and, and_self, reduceIte, sF_sF, sA_sA, false_or, or_false, true_or, or_true, not_false_eq_true, not_true_eq_false, decide_true, decide_false, Bool.true_or, Bool.or_true, Bool.false_and, Bool.true_and, Bool.false_or, Bool.or_false, Bool.and_true, Bool.and_false]
  · simp (decide := true) only [bX11_fill_22, f8_0, e0, (st f).2.1, nle hy (by omega), ob_n, b2_n, tc_rn, tc_ln, F_sF, A_sF, R_sF, L_sF, F_sA, A_sA, R_sA, L_sA, F_sR, A_sR, R_sR, L_sR, F_sL, A_sL, R_sL, L_sL, and_true, true_and, and_false, false_and, and_self, reduceIte, sF_sF, sA_sA, false_or, or_false, true_or, or_true, not_false_eq_true, not_true_eq_false, decide_true, decide_false, Bool.true_or, Bool.or_true, Bool.false_and, Bool.true_and, Bool.false_or, Bool.or_false, Bool.and_true, Bool.and_false]
  · simp (decide := true) only [bX11_fill_22, f8_0, e0, (st f).2.1, nlr (show h < 2147483648 by omega), ob_n, b2_n, tc_rn, tc_ln, F_sF, A_sF, R_sF, L_sF, F_sA, A_sA, R_sA, L_sA, F_sR, A_sR, R_sR, L_sR, F_sL, A_sL, R_sL, L_sL, and_true, true_and, and_false, false_and, and_self, reduceIte, sF_sF, sA_sA, false_or, or_false, true_or, or_true, not_false_eq_true, not_true_eq_false, decide_true, decide_false, Bool.true_or, Bool.or_true, Bool.false_and, Bool.true_and, Bool.false_or, Bool.or_false, Bool.and_true, Bool.and_false]
theorem get12n {s : e_S} {g : ps_G} {l k : Nat} (hl : l < 30) (hn : k < 576) : fX12_get (e_g s g) 139 (Int32.ofNat l) (17 + Int32.ofNat k) = some (s.2.1 142 (1169 * l + 17 + k)) := by
  have := get12 (s := s) (g := g) (l := l) (n := 17 + k) hl (by omega)
  rw [← Nat.add_assoc] at this
  rw [show (17 : Int32) + Int32.ofNat k = Int32.ofNat (17 + k) from n_add (n := 17)]
  exact this
theorem putOver12 {s : e_S} {g : ps_G} {l k : Nat} {c t : Int32} (hl : l < 30) (hn : k < 576) (ht : rg t 0 255) : fX12_putOver (e_g s g) 139 (Int32.ofNat l) (Int32.ofNat k) c t = some (e_g (sA s 142 (upd (s.2.1 142) (1169 * l + 17 + k) (ptV 0 (s.2.1 142 (1169 * l + 17 + k)) c t))) g) := by
  have o := over12 (g := e_g s g) (b := s.2.1 142 (1169 * l + 17 + k)) (s := c) (show rg 0 0 15 = true by decide) (mul_r (al_r (c := c)) ht)
  have ev : ptV 0 (s.2.1 142 (1169 * l + 17 + k)) c t = blV (s.2.1 142 (1169 * l + 17 + k)) c (fX11_mul (q_ush c 24) t) 0 := if_pos rfl
  simp (decide := true) only [fX12_putOver, ob139, get12n hl hn, fX12_alpha, mul12, o, put12n hl hn, ev, ob_n, b2_n, tc_rn, tc_ln, F_sF, A_sF, R_sF, L_sF, F_sA, A_sA, R_sA, L_sA, F_sR, A_sR, R_sR, L_sR, F_sL, A_sL, R_sL, L_sL, and_true, true_and, and_false, false_and, and_self, reduceIte, sF_sF, sA_sA, false_or, or_false, true_or, or_true, not_false_eq_true, not_true_eq_false, decide_true, decide_false, Bool.true_or, Bool.or_true, Bool.false_and, Bool.true_and, Bool.false_or, Bool.or_false, Bool.and_true, Bool.and_false]
theorem erase12 {s : e_S} {g : ps_G} {l k : Nat} {c t : Int32} (hl : l < 30) (hn : k < 576) : fX12_erase (e_g s g) 139 (Int32.ofNat l) (Int32.ofNat k) c t = some (e_g (sA s 142 (upd (s.2.1 142) (1169 * l + 17 + k) (ptV 1 (s.2.1 142 (1169 * l + 17 + k)) c t))) g) := by
  have ev : ptV 1 (s.2.1 142 (1169 * l + 17 + k)) c t = q_shl (fX11_mul (q_ush (s.2.1 142 (1169 * l + 17 + k)) 24) (255 - fX11_mul (q_ush c 24) t)) 24 ||| (s.2.1 142 (1169 * l + 17 + k) &&& 16777215) := (if_neg (by decide)).trans (if_pos rfl)
  simp (decide := true) only [fX12_erase, ob139, get12n hl hn, fX12_alpha, mul12, put12n hl hn, ev, Int32.or_comm (s.2.1 142 (1169 * l + 17 + k) &&& 16777215), ob_n, b2_n, tc_rn, tc_ln, F_sF, A_sF, R_sF, L_sF, F_sA, A_sA, R_sA, L_sA, F_sR, A_sR, R_sR, L_sR, F_sL, A_sL, R_sL, L_sL, and_true, true_and, and_false, false_and, and_self, reduceIte, sF_sF, sA_sA, false_or, or_false, true_or, or_true, not_false_eq_true, not_true_eq_false, decide_true, decide_false, Bool.true_or, Bool.or_true, Bool.false_and, Bool.true_and, Bool.false_or, Bool.or_false, Bool.and_true, Bool.and_false]
theorem fill12l {s : e_S} {g : ps_G} {w h l : Nat} {how : Int32} (hw : w ≤ 24) (hh : h ≤ 24) (e1 : s.1 139 13 = Int32.ofNat w) (e2 : s.1 139 14 = Int32.ofNat h) (hl : l < 30) (hr : rg how 0 2) (hA : ∀ k, k < 576 → rg (s.2.1 155 k) 0 255) (hB : ∀ k, k < w * h → s.2.1 158 k = pxN (s.2.1 142) l k) : q_lp (fun t => bX12_fill_31 139 (Int32.ofNat l) how t.1 t.2) ((0 : Int32), e_g s g) = some (e_g (sA s 142 (cpT (s.2.1 142) (fiV how (s.1 139 34) w h (s.2.1 142) (s.2.1 155) l) (1169 * l + 17) (h * w))) g) := by
  have hwh := wh_le hw hh
  have key := fill1 (fun f => e_g (sA s 142 f) g) (1169 * l + 17) w h (fiV how (s.1 139 34) w h (s.2.1 142) (s.2.1 155) l) (s.2.1 142) (bI := fun y t => bX12_fill_42 139 (Int32.ofNat l) how y t.1 t.2) (bO := fun t => bX12_fill_31 139 (Int32.ofNat l) how t.1 t.2) (fun f y x hy hx hf => ?_) (fun f y hy => ?_) (fun f y hy => ?_) (fun f => ?_)
  · rw [sA_id] at key
    exact key
  · have hlt := at_lt hx hy
    have q1 : (sA s 142 f).1 139 13 = Int32.ofNat w := by simp (decide := true) only [ob_n, b2_n, tc_rn, tc_ln, F_sF, A_sF, R_sF, L_sF, F_sA, A_sA, R_sA, L_sA, F_sR, A_sR, R_sR, L_sR, F_sL, A_sL, R_sL, L_sL, and_true, true_and, and_false, false_and, and_self, reduceIte, sF_sF, sA_sA, false_or, or_false, true_or, or_true, not_false_eq_true, not_true_eq_false, decide_true, decide_false, Bool.true_or, Bool.or_true, Bool.false_and, Bool.true_and, Bool.false_or, Bool.or_false, Bool.and_true, Bool.and_false, e1]
    have q2 : (sA s 142 f).1 139 14 = Int32.ofNat h := by simp (decide := true) only [ob_n, b2_n, tc_rn, tc_ln, F_sF, A_sF, R_sF, L_sF, F_sA, A_sA, R_sA, L_sA, F_sR, A_sR, R_sR, L_sR, F_sL, A_sL, R_sL, L_sL, and_true, true_and, and_false, false_and, and_self, reduceIte, sF_sF, sA_sA, false_or, or_false, true_or, or_true, not_false_eq_true, not_true_eq_false, decide_true, decide_false, Bool.true_or, Bool.or_true, Bool.false_and, Bool.true_and, Bool.false_or, Bool.or_false, Bool.and_true, Bool.and_false, e2]
    have q3 : (sA s 142 f).2.1 142 = f := by simp (decide := true) only [ob_n, b2_n, tc_rn, tc_ln, F_sF, A_sF, R_sF, L_sF, F_sA, A_sA, R_sA, L_sA, F_sR, A_sR, R_sR, L_sR, F_sL, A_sL, R_sL, L_sL, and_true, true_and, and_false, false_and, and_self, reduceIte, sF_sF, sA_sA, false_or, or_false, true_or, or_true, not_false_eq_true, not_true_eq_false, decide_true, decide_false, Bool.true_or, Bool.or_true, Bool.false_and, Bool.true_and, Bool.false_or, Bool.or_false, Bool.and_true, Bool.and_false]
    have q5 : (sA s 142 f).2.1 155 = s.2.1 155 := by simp (decide := true) only [ob_n, b2_n, tc_rn, tc_ln, F_sF, A_sF, R_sF, L_sF, F_sA, A_sA, R_sA, L_sA, F_sR, A_sR, R_sR, L_sR, F_sL, A_sL, R_sL, L_sL, and_true, true_and, and_false, false_and, and_self, reduceIte, sF_sF, sA_sA, false_or, or_false, true_or, or_true, not_false_eq_true, not_true_eq_false, decide_true, decide_false, Bool.true_or, Bool.or_true, Bool.false_and, Bool.true_and, Bool.false_or, Bool.or_false, Bool.and_true, Bool.and_false]
    have sh := shifted12 (s := sA s 142 f) (g := g) (l := l) (x := Int32.ofNat x) (y := Int32.ofNat y) (dx := s.2.1 142 (1169 * l + 8)) (dy := s.2.1 142 (1169 * l + 9)) hw hh q1 q2 hl (by rw [q3, hf]; exact cpT_out (by omega)) (by rw [q3, hf]; exact cpT_out (by omega))
    rw [q5] at sh
    have rt : rg (bAt w h (s.2.1 155) (Int32.ofNat x + s.2.1 142 (1169 * l + 8)) (Int32.ofNat y + s.2.1 142 (1169 * l + 9))) 0 255 = true := bAt_r (fun k hk => hA k (by omega))
    have fo : f (1169 * l + 17 + (y * w + x)) = pxN (s.2.1 142) l (y * w + x) := by
      rw [hf, cpT_out (by omega)]
      unfold pxN
      rw [Nat.add_assoc]
    have v : fiV how (s.1 139 34) w h (s.2.1 142) (s.2.1 155) l (y * w + x) = ptV how (pxN (s.2.1 142) l (y * w + x)) (s.1 139 34) (bAt w h (s.2.1 155) (Int32.ofNat x + s.2.1 142 (1169 * l + 8)) (Int32.ofNat y + s.2.1 142 (1169 * l + 9))) := by
      unfold fiV
      rw [shV_n hx]
    have po := putOver12 (s := sA s 142 f) (g := g) (c := s.1 139 34) hl (show y * w + x < 576 by omega) rt
    have er := erase12 (s := sA s 142 f) (g := g) (c := s.1 139 34) (t := bAt w h (s.2.1 155) (Int32.ofNat x + s.2.1 142 (1169 * l + 8)) (Int32.ofNat y + s.2.1 142 (1169 * l + 9))) hl (show y * w + x < 576 by omega)
    rw [q3, fo] at po er
    rcases rg02 hr with rfl | rfl | rfl
    · simp (decide := true) only [bX12_fill_42, jX12_fill_137_42, f139_13, f139_34, ob139, e1, nle hx (by omega), sh, at12n q1, po, n_suc, v, ob_n, b2_n, tc_rn, tc_ln, F_sF, A_sF, R_sF, L_sF, F_sA, A_sA, R_sA, L_sA, F_sR, A_sR, R_sR, L_sR, F_sL, A_sL, R_sL, L_sL, and_true, true_and, and_false, false_and, and_self, reduceIte, sF_sF, sA_sA, false_or, or_false, true_or, or_true, not_false_eq_true, not_true_eq_false, decide_true, decide_false, Bool.true_or, Bool.or_true, Bool.false_and, Bool.true_and, Bool.false_or, Bool.or_false, Bool.and_true, Bool.and_false]
    · simp (decide := true) only [bX12_fill_42, jX12_fill_137_42, f139_13, f139_34, ob139, e1, nle hx (by omega), sh, at12n q1, er, n_suc, v, ob_n, b2_n, tc_rn, tc_ln, F_sF, A_sF, R_sF, L_sF, F_sA, A_sA, R_sA, L_sA, F_sR, A_sR, R_sR, L_sR, F_sL, A_sL, R_sL, L_sL, and_true, true_and, and_false, false_and, and_self, reduceIte, sF_sF, sA_sA, false_or, or_false, true_or, or_true, not_false_eq_true, not_true_eq_false, decide_true, decide_false, Bool.true_or, Bool.or_true, Bool.false_and, Bool.true_and, Bool.false_or, Bool.or_false, Bool.and_true, Bool.and_false]
    · have ev : ∀ b c t, ptV 2 b c t = fX11_mixColours b c t := fun b c t => (if_neg (by decide)).trans (if_neg (by decide))
      simp (decide := true) only [bX12_fill_42, jX12_fill_137_42, f139_13, f139_34, f139_35, a158, ob139, e1, nle hx (by omega), sh, at12n q1, n_in2 (show y * w + x < 576 by omega) (by decide), n_idx (show y * w + x < 2147483648 by omega), hB _ hlt, mixed12, put12n hl (show y * w + x < 576 by omega), n_suc, v, ev, ob_n, b2_n, tc_rn, tc_ln, F_sF, A_sF, R_sF, L_sF, F_sA, A_sA, R_sA, L_sA, F_sR, A_sR, R_sR, L_sR, F_sL, A_sL, R_sL, L_sL, and_true, true_and, and_false, false_and, and_self, reduceIte, sF_sF, sA_sA, false_or, or_false, true_or, or_true, not_false_eq_true, not_true_eq_false, decide_true, decide_false, Bool.true_or, Bool.or_true, Bool.false_and, Bool.true_and, Bool.false_or, Bool.or_false, Bool.and_true, Bool.and_false]
  · simp (decide := true) only [bX12_fill_42, f139_13, e1, nlr (show w < 2147483648 by omega), ob_n, b2_n, tc_rn, tc_ln, F_sF, A_sF, R_sF, L_sF, F_sA, A_sA, R_sA, L_sA, F_sR, A_sR, R_sR, L_sR, F_sL, A_sL, R_sL, L_sL, and_true, true_and, and_false, false_and, and_self, reduceIte, sF_sF, sA_sA, false_or, or_false, true_or, or_true, not_false_eq_true, not_true_eq_false, decide_true, decide_false, Bool.true_or, Bool.or_true, Bool.false_and, Bool.true_and, Bool.false_or, Bool.or_false, Bool.and_true, Bool.and_false]
  · simp (decide := true) only [bX12_fill_31, f139_14, e2, nle hy (by omega), ob_n, b2_n, tc_rn, tc_ln, F_sF, A_sF, R_sF, L_sF, F_sA, A_sA, R_sA, L_sA, F_sR, A_sR, R_sR, L_sR, F_sL, A_sL, R_sL, L_sL, and_true, true_and, and_false, false_and, and_self, reduceIte, sF_sF, sA_sA, false_or, or_false, true_or, or_true, not_false_eq_true, not_true_eq_false, decide_true, decide_false, Bool.true_or, Bool.or_true, Bool.false_and, Bool.true_and, Bool.false_or, Bool.or_false, Bool.and_true, Bool.and_false]
  · simp (decide := true) only [bX12_fill_31, f139_14, e2, nlr (show h < 2147483648 by omega), ob_n, b2_n, tc_rn, tc_ln, F_sF, A_sF, R_sF, L_sF, F_sA, A_sA, R_sA, L_sA, F_sR, A_sR, R_sR, L_sR, F_sL, A_sL, R_sL, L_sL, and_true, true_and, and_false, false_and, and_self, reduceIte, sF_sF, sA_sA, false_or, or_false, true_or, or_true, not_false_eq_true, not_true_eq_false, decide_true, decide_false, Bool.true_or, Bool.or_true, Bool.false_and, Bool.true_and, Bool.false_or, Bool.or_false, Bool.and_true, Bool.and_false]
/-- the reference's state with the pixels of l put anew, ahead of what is said of them -/
def bgM (s : e_S) (l : Nat) : e_S := sA (sF s 139 0 0) 158 (cpT (s.2.1 158) (pxN (s.2.1 142) l) 0 576)
theorem bg_158 {s : e_S} {l k : Nat} (hk : k < 576) : (bgM s l).2.1 158 k = pxN (s.2.1 142) l k := by
  unfold bgM
  simp (decide := true) only [ob_n, b2_n, tc_rn, tc_ln, F_sF, A_sF, R_sF, L_sF, F_sA, A_sA, R_sA, L_sA, F_sR, A_sR, R_sR, L_sR, F_sL, A_sL, R_sL, L_sL, and_true, true_and, and_false, false_and, and_self, reduceIte, sF_sF, sA_sA, false_or, or_false, true_or, or_true, not_false_eq_true, not_true_eq_false, decide_true, decide_false, Bool.true_or, Bool.or_true, Bool.false_and, Bool.true_and, Bool.false_or, Bool.or_false, Bool.and_true, Bool.and_false]
  have := cpT_in (A := s.2.1 158) (N := pxN (s.2.1 142) l) (b := 0) hk
  rw [Nat.zero_add] at this
  exact this
theorem fill12 {s : e_S} {g : ps_G} {x how : Int32} {st pc w h : Nat} (h1 : st < 25) (h2 : pc ≤ 24) (e1 : s.1 139 10 = Int32.ofNat st) (e2 : s.1 139 11 = Int32.ofNat pc) (hw : w ≤ 24) (hh : h ≤ 24) (hw1 : 1 ≤ w) (e3 : s.1 139 13 = Int32.ofNat w) (e4 : s.1 139 14 = Int32.ofNat h) (hA : ∀ k, k < 576 → rg (s.2.1 155 k) 0 255) : fX12_fill (e_g s g) 139 x how = if rg how 0 2 = false ∨ (isL (s.2.1 142) x = true ∧ ¬ s.2.1 142 (1169 * x.toInt.toNat + 1) = 0) then some (0, e_g (sF s 139 0 1) g) else if isL (s.2.1 142) x then some (Int32.ofNat (cnt (dfN (fiV how (s.1 139 34) w h (s.2.1 142) (s.2.1 155) x.toInt.toNat) (pxN (s.2.1 142) x.toInt.toNat)) (h * w)), e_g (fcM (edM (sA (bgM s x.toInt.toNat) 142 (cpT (s.2.1 142) (fiV how (s.1 139 34) w h (s.2.1 142) (s.2.1 155) x.toInt.toNat) (1169 * x.toInt.toNat + 17) (h * w))) st pc) (s.2.1 142) x.toInt.toNat w (h * w) (fiV how (s.1 139 34) w h (s.2.1 142) (s.2.1 155) x.toInt.toNat)) g) else some (0, e_g (sF s 139 0 2) g) := by
  have hwh := wh_le hw hh
  have wy := why12 (s := s) (g := g) (x := x) (b := rg how 0 2)
  by_cases q1 : rg how 0 2 = false ∨ (isL (s.2.1 142) x = true ∧ ¬ s.2.1 142 (1169 * x.toInt.toNat + 1) = 0)
  · rw [if_pos q1] at wy ⊢
    simp (decide := true) only [fX12_fill, ob139, rin, wy, w139_0, f139_0, ob_n, b2_n, tc_rn, tc_ln, F_sF, A_sF, R_sF, L_sF, F_sA, A_sA, R_sA, L_sA, F_sR, A_sR, R_sR, L_sR, F_sL, A_sL, R_sL, L_sL, and_true, true_and, and_false, false_and, and_self, reduceIte, sF_sF, sA_sA, false_or, or_false, true_or, or_true, not_false_eq_true, not_true_eq_false, decide_true, decide_false, Bool.true_or, Bool.or_true, Bool.false_and, Bool.true_and, Bool.false_or, Bool.or_false, Bool.and_true, Bool.and_false]
  · rw [if_neg q1] at wy ⊢
    have q2 : rg how 0 2 = true := by cases e : rg how 0 2 with
      | true => rfl
      | false => exact absurd (Or.inl e) q1
    by_cases hx : isL (s.2.1 142) x
    · rw [if_pos hx] at wy ⊢
      obtain ⟨l, rfl, hl, hl1⟩ := isL_n hx
      rw [n_int (by omega), Int.toNat_natCast]
      have e142 : (bgM s l).2.1 142 = s.2.1 142 := by unfold bgM; simp (decide := true) only [ob_n, b2_n, tc_rn, tc_ln, F_sF, A_sF, R_sF, L_sF, F_sA, A_sA, R_sA, L_sA, F_sR, A_sR, R_sR, L_sR, F_sL, A_sL, R_sL, L_sL, and_true, true_and, and_false, false_and, and_self, reduceIte, sF_sF, sA_sA, false_or, or_false, true_or, or_true, not_false_eq_true, not_true_eq_false, decide_true, decide_false, Bool.true_or, Bool.or_true, Bool.false_and, Bool.true_and, Bool.false_or, Bool.or_false, Bool.and_true, Bool.and_false]
      have e155 : (bgM s l).2.1 155 = s.2.1 155 := by unfold bgM; simp (decide := true) only [ob_n, b2_n, tc_rn, tc_ln, F_sF, A_sF, R_sF, L_sF, F_sA, A_sA, R_sA, L_sA, F_sR, A_sR, R_sR, L_sR, F_sL, A_sL, R_sL, L_sL, and_true, true_and, and_false, false_and, and_self, reduceIte, sF_sF, sA_sA, false_or, or_false, true_or, or_true, not_false_eq_true, not_true_eq_false, decide_true, decide_false, Bool.true_or, Bool.or_true, Bool.false_and, Bool.true_and, Bool.false_or, Bool.or_false, Bool.and_true, Bool.and_false]
      have e34 : (bgM s l).1 139 34 = s.1 139 34 := by unfold bgM; simp (decide := true) only [ob_n, b2_n, tc_rn, tc_ln, F_sF, A_sF, R_sF, L_sF, F_sA, A_sA, R_sA, L_sA, F_sR, A_sR, R_sR, L_sR, F_sL, A_sL, R_sL, L_sL, and_true, true_and, and_false, false_and, and_self, reduceIte, sF_sF, sA_sA, false_or, or_false, true_or, or_true, not_false_eq_true, not_true_eq_false, decide_true, decide_false, Bool.true_or, Bool.or_true, Bool.false_and, Bool.true_and, Bool.false_or, Bool.or_false, Bool.and_true, Bool.and_false]
      have b13 : (bgM s l).1 139 13 = Int32.ofNat w := by unfold bgM; simp (decide := true) only [ob_n, b2_n, tc_rn, tc_ln, F_sF, A_sF, R_sF, L_sF, F_sA, A_sA, R_sA, L_sA, F_sR, A_sR, R_sR, L_sR, F_sL, A_sL, R_sL, L_sL, and_true, true_and, and_false, false_and, and_self, reduceIte, sF_sF, sA_sA, false_or, or_false, true_or, or_true, not_false_eq_true, not_true_eq_false, decide_true, decide_false, Bool.true_or, Bool.or_true, Bool.false_and, Bool.true_and, Bool.false_or, Bool.or_false, Bool.and_true, Bool.and_false, e3]
      have b14 : (bgM s l).1 139 14 = Int32.ofNat h := by unfold bgM; simp (decide := true) only [ob_n, b2_n, tc_rn, tc_ln, F_sF, A_sF, R_sF, L_sF, F_sA, A_sA, R_sA, L_sA, F_sR, A_sR, R_sR, L_sR, F_sL, A_sL, R_sL, L_sL, and_true, true_and, and_false, false_and, and_self, reduceIte, sF_sF, sA_sA, false_or, or_false, true_or, or_true, not_false_eq_true, not_true_eq_false, decide_true, decide_false, Bool.true_or, Bool.or_true, Bool.false_and, Bool.true_and, Bool.false_or, Bool.or_false, Bool.and_true, Bool.and_false, e4]
      have lp := fill12l (s := bgM s l) (g := g) (l := l) (how := how) hw hh b13 b14 hl q2 (by rw [e155]; exact hA) (fun k hk => by rw [e142]; exact bg_158 (by omega))
      rw [e142, e155, e34] at lp
      have ch := changed12 (s := sA (bgM s l) 142 (cpT (s.2.1 142) (fiV how (s.1 139 34) w h (s.2.1 142) (s.2.1 155) l) (1169 * l + 17) (h * w))) (g := g) (l := l) (N := s.2.1 142) (φ := fiV how (s.1 139 34) w h (s.2.1 142) (s.2.1 155) l) hw hh hw1 hl h1 h2 (by unfold bgM; simp (decide := true) only [ob_n, b2_n, tc_rn, tc_ln, F_sF, A_sF, R_sF, L_sF, F_sA, A_sA, R_sA, L_sA, F_sR, A_sR, R_sR, L_sR, F_sL, A_sL, R_sL, L_sL, and_true, true_and, and_false, false_and, and_self, reduceIte, sF_sF, sA_sA, false_or, or_false, true_or, or_true, not_false_eq_true, not_true_eq_false, decide_true, decide_false, Bool.true_or, Bool.or_true, Bool.false_and, Bool.true_and, Bool.false_or, Bool.or_false, Bool.and_true, Bool.and_false, e1]) (by unfold bgM; simp (decide := true) only [ob_n, b2_n, tc_rn, tc_ln, F_sF, A_sF, R_sF, L_sF, F_sA, A_sA, R_sA, L_sA, F_sR, A_sR, R_sR, L_sR, F_sL, A_sL, R_sL, L_sL, and_true, true_and, and_false, false_and, and_self, reduceIte, sF_sF, sA_sA, false_or, or_false, true_or, or_true, not_false_eq_true, not_true_eq_false, decide_true, decide_false, Bool.true_or, Bool.or_true, Bool.false_and, Bool.true_and, Bool.false_or, Bool.or_false, Bool.and_true, Bool.and_false, e2]) (by rw [F_sA]; exact b13) (by rw [F_sA]; exact b14) (by simp (decide := true) only [ob_n, b2_n, tc_rn, tc_ln, F_sF, A_sF, R_sF, L_sF, F_sA, A_sA, R_sA, L_sA, F_sR, A_sR, R_sR, L_sR, F_sL, A_sL, R_sL, L_sL, and_true, true_and, and_false, false_and, and_self, reduceIte, sF_sF, sA_sA, false_or, or_false, true_or, or_true, not_false_eq_true, not_true_eq_false, decide_true, decide_false, Bool.true_or, Bool.or_true, Bool.false_and, Bool.true_and, Bool.false_or, Bool.or_false, Bool.and_true, Bool.and_false]) (fun k hk => by
        rw [A_sA, if_neg (by decide)]
        exact bg_158 (by omega))
      have bg : fX12_begin (e_g (sF s 139 0 0) g) 139 (Int32.ofNat l) = some (e_g (bgM s l) g) := by
        rw [begin12 hl]
        unfold bgM
        rw [A_sF]
      simp (decide := true) only [fX12_fill, ob139, rin, wy, w139_0, f139_0, bg, lp, ch, ob_n, b2_n, tc_rn, tc_ln, F_sF, A_sF, R_sF, L_sF, F_sA, A_sA, R_sA, L_sA, F_sR, A_sR, R_sR, L_sR, F_sL, A_sL, R_sL, L_sL, and_true, true_and, and_false, false_and, and_self, reduceIte, sF_sF, sA_sA, false_or, or_false, true_or, or_true, not_false_eq_true, not_true_eq_false, decide_true, decide_false, Bool.true_or, Bool.or_true, Bool.false_and, Bool.true_and, Bool.false_or, Bool.or_false, Bool.and_true, Bool.and_false]
    · rw [if_neg hx] at wy ⊢
      simp (decide := true) only [fX12_fill, ob139, rin, wy, w139_0, f139_0, ob_n, b2_n, tc_rn, tc_ln, F_sF, A_sF, R_sF, L_sF, F_sA, A_sA, R_sA, L_sA, F_sR, A_sR, R_sR, L_sR, F_sL, A_sL, R_sL, L_sL, and_true, true_and, and_false, false_and, and_self, reduceIte, sF_sF, sA_sA, false_or, or_false, true_or, or_true, not_false_eq_true, not_true_eq_false, decide_true, decide_false, Bool.true_or, Bool.or_true, Bool.false_and, Bool.true_and, Bool.false_or, Bool.or_false, Bool.and_true, Bool.and_false]
/-- pixels painted anew are kept -/
theorem KI_pt {hs : List ps_H} {c : Option ((String ⊕ Int32) × ps_G)} {m : ps_G → Option (Int32 × ps_G)} {s s0 s1 : e_S} {g : ps_G} {w h a b st pc uc l : Nat} {φ : Nat → Int32} (hR : Rel s0 g) (h7 : G7 s0 w h) (h8 : G8 s0 w h) (f1 : st < 25) (f2 : pc + uc ≤ 24) (f3 : s1.2.2.1 8 0 = some a) (f4 : s1.1 8 2 = Int32.ofNat pc) (f9 : StN g a w h (s0.2.1 142)) (f10 : ∀ k, k < 35071 → s0.2.1 143 (35071 * ((st + pc) % 25) + k) = s0.2.1 142 k) (f11 : ∀ i, i < pc → ∃ b, s0.2.2.1 12 i = some b ∧ StN g b w h (kp (s0.2.1 143) st i)) (r12 : s1.2.2.1 12 = s0.2.2.1 12) (hl : l < 30) (hl1 : s0.2.1 142 (1169 * l) = 1) (hLy : LyN g b w h l (lR (s0.2.1 142) l)) (hk : s0.2.1 142 (1169 * l + 1) = 0) (f : Nat → Int32) (hf : ∀ k, k < w * h → f k = φ k) (hc : ∀ v g2, fX11_repaint (e_g s1 (mkA g f)) 8 b g.1 = some (v, e_g (rmC (fcC s1 (s0.2.1 142) l w (h * w) φ) a (g.1 + 2) pc) g2) → c = some (.inr v, e_g (rmC (fcC s1 (s0.2.1 142) l w (h * w) φ) a (g.1 + 2) pc) g2)) (M : e_S → e_S) (hm : ∀ S g2, S = pO (rmC (fcC s1 (s0.2.1 142) l w (h * w) φ) a (g.1 + 2) pc) (Int32.toInt64 (Int32.ofNat (cnt (dfN φ (pxN (s0.2.1 142) l)) (h * w)))) → m (e_g S g2) = some (Int32.ofNat (cnt (dfN φ (pxN (s0.2.1 142) l)) (h * w)), e_g (fcM (edM (sA (M S) 142 (cpT (s0.2.1 142) φ (1169 * l + 17) (h * w))) st pc) (s0.2.1 142) l w (h * w) φ) g2) ∧ (M S).1 139 0 = 0 ∧ (M S).2.2.2 = S.2.2.2 ∧ Sm (rmC (fcC s0 (s0.2.1 142) l w (h * w) φ) a (g.1 + 2) pc) (M S)) : KI (Option.bind (q_ob 11 (e_g s g) 8) fun _ => q_wr hs c (fun v g1 => Option.bind (q_wL g1 194 (0 : Int32) (Int32.toInt64 v)) fun g2 => some ((0 : Int32), g2))) m g := by
  have hg := rel_g hR
  obtain ⟨g2, w1, w2, w3⟩ := repaint11 (s := s1) (f := f) (φ := φ) h7.2.1 h7.2.2.2.1 hg f3 f4 (by omega) (fun i hi => by rw [r12]; exact (f11 i hi).imp fun b hb => ⟨_, hb.1, hb.2⟩) f9 hl hl1 hLy hk hf
  obtain ⟨m1, m2, m3, m4⟩ := hm _ g2 rfl
  refine KI_r (hc _ g2 w1) m1 ?_ ?_ (rel_sm (rel_paint hR h7 h8 f1 f2 f9 f10 f11 w2 w3) (sm_fcM (sm_edM (sm_A2 m4)))) w2
  · have : ∀ X : e_S, (fcM X (s0.2.1 142) l w (h * w) φ).1 = X.1 := by
      intro X; unfold fcM; split
      · rfl
      · unfold fbM; rw [F_sA]
    rw [this]; unfold edM; simp (decide := true) only [ob_n, b2_n, tc_rn, tc_ln, F_sF, A_sF, R_sF, L_sF, F_sA, A_sA, R_sA, L_sA, F_sR, A_sR, R_sR, L_sR, F_sL, A_sL, R_sL, L_sL, and_true, true_and, and_false, false_and, and_self, reduceIte, sF_sF, sA_sA, false_or, or_false, true_or, or_true, not_false_eq_true, not_true_eq_false, decide_true, decide_false, Bool.true_or, Bool.or_true, Bool.false_and, Bool.true_and, Bool.false_or, Bool.or_false, Bool.and_true, Bool.and_false]; exact m2
  · have : ∀ X : e_S, (fcM X (s0.2.1 142) l w (h * w) φ).2.2.2 = X.2.2.2 := by
      intro X; unfold fcM; split
      · rfl
      · unfold fbM; rw [L_sA]
    rw [this]; unfold edM; simp (decide := true) only [ob_n, b2_n, tc_rn, tc_ln, F_sF, A_sF, R_sF, L_sF, F_sA, A_sA, R_sA, L_sA, F_sR, A_sR, R_sR, L_sR, F_sL, A_sL, R_sL, L_sL, and_true, true_and, and_false, false_and, and_self, reduceIte, sF_sF, sA_sA, false_or, or_false, true_or, or_true, not_false_eq_true, not_true_eq_false, decide_true, decide_false, Bool.true_or, Bool.or_true, Bool.false_and, Bool.true_and, Bool.false_or, Bool.or_false, Bool.and_true, Bool.and_false]; exact m3
theorem K_fill {s : e_S} {g : ps_G} {x how : Int32} (hR : Rel s g) : KI (fL_fill (e_g s g) 8 x how 194) (fun G => fX12_fill G 139 x how) g := by
  have hg := rel_g hR
  obtain ⟨h1, h2, h3, h4, h5, h6, ⟨w, h, h7, h8, h9⟩, h10, h11⟩ := id hR
  obtain ⟨a, st, pc, uc, f1, f2, f3, f4, f5, f6, f7, f8, f9, f10, f11, f12⟩ := h9
  obtain ⟨d1, d2, d3, d4, d5, d6, d7, d8, d9⟩ := id h7
  have hwh := wh_le d2 d4
  have hA : ∀ k, k < 576 → rg (s.2.1 155 k) 0 255 := fun k hk => (d9 k hk).2
  have hA2 : ∀ k, k < 576 → rg (s.2.1 90 k) 0 255 := fun k hk => by rw [(d9 k hk).1]; exact (d9 k hk).2
  have hm0 := fun s' g e1 e2 e3 e4 e5 => fill12 (s := s') (g := g) (x := x) (how := how) f1 (show pc ≤ 24 by omega) e1 e2 d2 d4 d1 e3 e4 e5
  by_cases q : rg how 0 2
  · rcases knownPix11 (x := x) hg f3 f9 with ⟨k1, k2⟩ | ⟨l, b, rfl, hl, k1, k3, hLy, ⟨k4, k2⟩ | ⟨k4, k2⟩⟩
    · refine KI_no (E := "java/util/NoSuchElementException") (y := 2) hR ?_ (by decide +kernel) (by decide) ((hm0 _ _ f6 f7 d5 d6 hA).trans ((if_neg (by rw [q, k1]; simp)).trans (if_neg (by rw [k1]; decide))))
      simp (decide := true) only [fX11_fill, rng hg, q, ob8, k2, ob_n, b2_n, tc_rn, tc_ln, F_sF, A_sF, R_sF, L_sF, F_sA, A_sA, R_sA, L_sA, F_sR, A_sR, R_sR, L_sR, F_sL, A_sL, R_sL, L_sL, and_true, true_and, and_false, false_and, and_self, reduceIte, sF_sF, sA_sA, false_or, or_false, true_or, or_true, not_false_eq_true, not_true_eq_false, decide_true, decide_false, Bool.true_or, Bool.or_true, Bool.false_and, Bool.true_and, Bool.false_or, Bool.or_false, Bool.and_true, Bool.and_false]
    · refine KI_no (E := "java/lang/IllegalArgumentException") (y := 1) hR ?_ (by decide +kernel) (by decide) ((hm0 _ _ f6 f7 d5 d6 hA).trans (if_pos (Or.inr ⟨k1, by rw [n_int (by omega), Int.toNat_natCast]; exact k4⟩)))
      simp (decide := true) only [fX11_fill, rng hg, q, ob8, k2, ob_n, b2_n, tc_rn, tc_ln, F_sF, A_sF, R_sF, L_sF, F_sA, A_sA, R_sA, L_sA, F_sR, A_sR, R_sR, L_sR, F_sL, A_sL, R_sL, L_sL, and_true, true_and, and_false, false_and, and_self, reduceIte, sF_sF, sA_sA, false_or, or_false, true_or, or_true, not_false_eq_true, not_true_eq_false, decide_true, decide_false, Bool.true_or, Bool.or_true, Bool.false_and, Bool.true_and, Bool.false_or, Bool.or_false, Bool.and_true, Bool.and_false]
    · have n1 : ¬ (rg how 0 2 = false ∨ (isL (s.2.1 142) (Int32.ofNat l) = true ∧ ¬ s.2.1 142 (1169 * (Int32.ofNat l).toInt.toNat + 1) = 0)) := by
        rw [n_int (by omega), Int.toNat_natCast, q]
        rintro (z | z)
        · cases z
        · exact z.2 k4
      have eA : ∀ k, fiV how (s.1 93 0) w h (s.2.1 142) (s.2.1 90) l k = fiV how (s.1 139 34) w h (s.2.1 142) (s.2.1 155) l k := by
        intro k
        unfold fiV shV
        rw [h2.1, bAt_c (fun k hk => (d9 k (by omega)).1)]
      refine KI_pt (s1 := s) (l := l) (b := b) (φ := fiV how (s.1 139 34) w h (s.2.1 142) (s.2.1 155) l) hR h7 h8 f1 f2 f3 f4 f9 f10 f11 rfl hl k3 hLy k4 (cpT (cI (fun _ => 0) 0) (fiV how (s.1 93 0) w h (s.2.1 142) (s.2.1 90) l) 0 (h * w)) (fun k hk => ?_) (fun v g2 w1 => ?_) (fun S => bgM S l) (fun S g2 hS => ?_)
      · have := cpT_in (A := cI (fun _ => 0) 0) (N := fiV how (s.1 93 0) w h (s.2.1 142) (s.2.1 90) l) (b := 0) (n := h * w) (k := k) (by rw [Nat.mul_comm]; exact hk)
        rw [Nat.zero_add] at this
        rw [this, eA]
      · have lp := fill11l (s := s) (how := how) hg d2 d4 f3 f9 hLy k4 d7 d8 hA2 (cI (fun _ => 0) 0)
        have e1 : (e_g s g).1 = g.1 := rfl
        simp (decide := true) only [fX11_fill, jX11_fill_19, rng hg, q, ob8, k2, nA_mk hg, e1, lp, w1, ob_n, b2_n, tc_rn, tc_ln, F_sF, A_sF, R_sF, L_sF, F_sA, A_sA, R_sA, L_sA, F_sR, A_sR, R_sR, L_sR, F_sL, A_sL, R_sL, L_sL, and_true, true_and, and_false, false_and, and_self, reduceIte, sF_sF, sA_sA, false_or, or_false, true_or, or_true, not_false_eq_true, not_true_eq_false, decide_true, decide_false, Bool.true_or, Bool.or_true, Bool.false_and, Bool.true_and, Bool.false_or, Bool.or_false, Bool.and_true, Bool.and_false]
      · have fA : ∀ (X : e_S) j, ¬ j = 88 → (fcC X (s.2.1 142) l w (h * w) (fiV how (s.1 139 34) w h (s.2.1 142) (s.2.1 155) l)).2.1 j = X.2.1 j := by
          intro X j hj; unfold fcC; split
          · rfl
          · unfold fbC; rw [A_sA, if_neg hj, A_sF]
        have fF : ∀ (X : e_S) i j, ¬ i = 20 → (fcC X (s.2.1 142) l w (h * w) (fiV how (s.1 139 34) w h (s.2.1 142) (s.2.1 155) l)).1 i j = X.1 i j := by
          intro X i j hj; unfold fcC; split
          · rfl
          · unfold fbC; rw [F_sA, F_sF, if_neg (fun z => hj z.1)]
        have e142 : S.2.1 142 = s.2.1 142 := by rw [hS]; unfold pO rmC; simp (decide := true) only [ob_n, b2_n, tc_rn, tc_ln, F_sF, A_sF, R_sF, L_sF, F_sA, A_sA, R_sA, L_sA, F_sR, A_sR, R_sR, L_sR, F_sL, A_sL, R_sL, L_sL, and_true, true_and, and_false, false_and, and_self, reduceIte, sF_sF, sA_sA, false_or, or_false, true_or, or_true, not_false_eq_true, not_true_eq_false, decide_true, decide_false, Bool.true_or, Bool.or_true, Bool.false_and, Bool.true_and, Bool.false_or, Bool.or_false, Bool.and_true, Bool.and_false, A_sRr]; exact fA _ _ (by decide)
        have e155 : S.2.1 155 = s.2.1 155 := by rw [hS]; unfold pO rmC; simp (decide := true) only [ob_n, b2_n, tc_rn, tc_ln, F_sF, A_sF, R_sF, L_sF, F_sA, A_sA, R_sA, L_sA, F_sR, A_sR, R_sR, L_sR, F_sL, A_sL, R_sL, L_sL, and_true, true_and, and_false, false_and, and_self, reduceIte, sF_sF, sA_sA, false_or, or_false, true_or, or_true, not_false_eq_true, not_true_eq_false, decide_true, decide_false, Bool.true_or, Bool.or_true, Bool.false_and, Bool.true_and, Bool.false_or, Bool.or_false, Bool.and_true, Bool.and_false, A_sRr]; exact fA _ _ (by decide)
        have eF : ∀ j, S.1 139 j = s.1 139 j := by intro j; rw [hS]; unfold pO rmC; simp (decide := true) only [ob_n, b2_n, tc_rn, tc_ln, F_sF, A_sF, R_sF, L_sF, F_sA, A_sA, R_sA, L_sA, F_sR, A_sR, R_sR, L_sR, F_sL, A_sL, R_sL, L_sL, and_true, true_and, and_false, false_and, and_self, reduceIte, sF_sF, sA_sA, false_or, or_false, true_or, or_true, not_false_eq_true, not_true_eq_false, decide_true, decide_false, Bool.true_or, Bool.or_true, Bool.false_and, Bool.true_and, Bool.false_or, Bool.or_false, Bool.and_true, Bool.and_false, F_sRr]; exact fF _ _ _ (by decide)
        have hm := hm0 S g2 (by rw [eF]; exact f6) (by rw [eF]; exact f7) (by rw [eF]; exact d5) (by rw [eF]; exact d6) (by rw [e155]; exact hA)
        rw [e142, e155, eF, if_neg n1, if_pos k1, n_int (by omega), Int.toNat_natCast] at hm
        refine ⟨hm, by unfold bgM; simp (decide := true) only [ob_n, b2_n, tc_rn, tc_ln, F_sF, A_sF, R_sF, L_sF, F_sA, A_sA, R_sA, L_sA, F_sR, A_sR, R_sR, L_sR, F_sL, A_sL, R_sL, L_sL, and_true, true_and, and_false, false_and, and_self, reduceIte, sF_sF, sA_sA, false_or, or_false, true_or, or_true, not_false_eq_true, not_true_eq_false, decide_true, decide_false, Bool.true_or, Bool.or_true, Bool.false_and, Bool.true_and, Bool.false_or, Bool.or_false, Bool.and_true, Bool.and_false], by unfold bgM; simp (decide := true) only [ob_n, b2_n, tc_rn, tc_ln, F_sF, A_sF, R_sF, L_sF, F_sA, A_sA, R_sA, L_sA, F_sR, A_sR, R_sR, L_sR, F_sL, A_sL, R_sL, L_sL, and_true, true_and, and_false, false_and, and_self, reduceIte, sF_sF, sA_sA, false_or, or_false, true_or, or_true, not_false_eq_true, not_true_eq_false, decide_true, decide_false, Bool.true_or, Bool.or_true, Bool.false_and, Bool.true_and, Bool.false_or, Bool.or_false, Bool.and_true, Bool.and_false], ?_⟩
        unfold bgM
        refine sm_A (sm_F ?_ (by decide)) (by decide)
        rw [hS]
        exact sm_L sm_rf
  · refine KI_no (E := "java/lang/IllegalArgumentException") (y := 1) hR ?_ (by decide +kernel) (by decide) ((hm0 _ _ f6 f7 d5 d6 hA).trans (if_pos (Or.inl (by simpa using q))))
    simp (decide := true) only [fX11_fill, rng hg, q, ob_n, b2_n, tc_rn, tc_ln, F_sF, A_sF, R_sF, L_sF, F_sA, A_sA, R_sA, L_sA, F_sR, A_sR, R_sR, L_sR, F_sL, A_sL, R_sL, L_sL, and_true, true_and, and_false, false_and, and_self, reduceIte, sF_sF, sA_sA, false_or, or_false, true_or, or_true, not_false_eq_true, not_true_eq_false, decide_true, decide_false, Bool.true_or, Bool.or_true, Bool.false_and, Bool.true_and, Bool.false_or, Bool.or_false, Bool.and_true, Bool.and_false]
