-- needs: 07 10 13 14 20 21 22 23 24 25 26 27 32 33 34 36 38 39 40 41 42 43 44 46 47 48 52 53 54 55
theorem bx_c {D D' : Nat → Bool} {w n : Nat} {M : Int32} (h : ∀ k, k < n → D k = D' k) : bx D w M n = bx D' w M n := by
  induction n with
  | zero => rfl
  | succ n ih => rw [bx_s, bx_s, h n (by omega), ih (fun k hk => h k (by omega))]
/-- a STAND with the LAYER c at l becomes the one; the one before it is remembered -/
theorem remake11 {s : e_S} {g g1 : ps_G} {a w h pc l c : Nat} {N N' : Nat → Int32} {v : Int32} (hwh : w * h ≤ 576) (hg : 195 ≤ g.1) (hE : Ext g g1) (hE2 : g1.1 + 3 ≤ g.1 + 100 ∧ g1.2.1 + 66 ≤ g.2.1 + 10000) (e0 : s.2.2.1 8 0 = some a) (e1 : s.1 8 2 = Int32.ofNat pc) (h2 : pc ≤ 24) (hp : ∀ i, i < pc → ∃ b N'', s.2.2.1 12 i = some b ∧ StN g b w h N'') (hs : StN g a w h N) (hl : l < 30) (hl1 : N (1169 * l) = 1) (hc : LyN g1 c w h l (lR N' l)) (hN' : ∀ k, k < 35071 → (k < 1169 * l ∨ 1169 * l + 1169 ≤ k) → N k = N' k) (h03 : ∀ i, i < 4 → N (1169 * l + i) = N' (1169 * l + i)) : ∃ g2, jX11_repaint_198 (e_g s g1) 8 (some c) v = some (v, e_g (rmC s a g1.1 pc) g2) ∧ Ext g g2 ∧ StN g2 g1.1 w h N' := by
  have hs1 := stN_ext hE hs
  have hg1 : 195 ≤ g1.1 := Nat.le_trans hg hE.1
  have hob := (stW (s := s) hs1).2.2.2
  obtain ⟨t, h1, h2', la, oa, sz, ly, od, c1, c0, c2, c3, c9, c4, c5, c6, c7, c8, c10⟩ := hs1
  obtain ⟨y1, y2, p, q, x0, y0, x1, yy1, pa, ma, y3, -⟩ := id hc
  have ag := again9 (s := s) hg1 h1 h2' c1 c2 c3 c4 c5 c6 c7 (okL_st c10)
  have ex := exch9 (s := s) (w := Int32.ofNat w) (h := Int32.ofNat h) (ly := cR ly 30) (od := cI od 30) (sz := Int32.ofNat sz) (nx := N 35070) hg1 y1 y2 y3 rfl hl
  have ob1 : ∀ ly od sz nx, q_ob 9 (e_g s (mkS g1 (Int32.ofNat w) (Int32.ofNat h) ly od sz nx)) g1.1 = some () := fun ly od sz nx => S_ob hg1
  have bc := remember11 (s := s) (g := mkS g1 (Int32.ofNat w) (Int32.ofNat h) (rs (cR ly 30) l (some c)) (cI od 30) (Int32.ofNat sz) (N 35070)) (a := a) (b := g1.1) (pc := pc) h1 (by rw [mkS_lo h2']; exact c5) e0 e1 h2 (fun i hi => by
    obtain ⟨b, N'', z1, z2⟩ := hp i hi
    obtain ⟨fs, z3, z4⟩ := stN_cell (stN_ext hE z2)
    have z5 : b < g1.1 := (stN_ext hE z2).2.2.1
    exact ⟨b, fs, z1, z3, by rw [mkS_lo z5]; exact z4⟩)
  have hE3 : Ext g (mkS g1 (Int32.ofNat w) (Int32.ofNat h) (rs (cR ly 30) l (some c)) (cI od 30) (Int32.ofNat sz) (N 35070)) := ext_tr hE ⟨by show g1.1 ≤ g1.1 + 3; omega, hE2.1, by show g1.2.1 ≤ g1.2.1 + 66; omega, hE2.2, fun a ha => mkS_lo ha⟩
  have e70 : N 35070 = N' 35070 := hN' _ (by omega) (by omega)
  have e4 : ∀ m i, m < 30 → i < 4 → N (1169 * m + i) = N' (1169 * m + i) := by
    intro m i hm hi
    by_cases hml : m = l
    · rw [hml]; exact h03 i hi
    · exact hN' _ (by omega) (by omega)
  refine ⟨_, ?_, hE3, ?_⟩
  · simp (decide := true) only [jX11_repaint_198, f8_0, e0, hob, ag, ob1, ex, ob8, bc, ob_n, b2_n, tc_rn, tc_ln, F_sF, A_sF, R_sF, L_sF, F_sA, A_sA, R_sA, L_sA, F_sR, A_sR, R_sR, L_sR, F_sL, A_sL, R_sL, L_sL, and_true, true_and, and_false, false_and, and_self, reduceIte, sF_sF, sA_sA, false_or, or_false, true_or, or_true, not_false_eq_true, not_true_eq_false, decide_true, decide_false, Bool.true_or, Bool.or_true, Bool.false_and, Bool.true_and, Bool.false_or, Bool.or_false, Bool.and_true, Bool.and_false]
  · refine ⟨trN_e e4 e70 t, Or.inl hg1, by show g1.1 < g1.1 + 3; omega, g1.1 + 1, g1.1 + 2, sz, _, _, Or.inl (by omega), by omega, by show g1.1 + 1 < g1.1 + 3; omega, Or.inl (by omega), by omega, by show g1.1 + 2 < g1.1 + 3; omega, by rw [← e70]; exact mkS_0, mkS_1, mkS_2, orN_e e4 (fun i hi => (cI_lt hi).symm) c8, fun m hm => ?_⟩
    have hm0 := e4 m 0 hm (by omega)
    rw [Nat.add_zero] at hm0
    have hcm := c10 m hm
    by_cases hml : m = l
    · subst hml
      rw [← hm0, if_pos hl1]
      exact ⟨c, rs_s, lyN_ext ext_mkS hc⟩
    · rw [hm0] at hcm
      by_cases hNm : N' (1169 * m) = 1
      · rw [if_pos hNm] at hcm ⊢
        obtain ⟨b, b1, b2⟩ := hcm
        refine ⟨b, by rw [rs_n hml, cR_lt hm]; exact b1, lyN_ext ext_mkS ?_⟩
        have er : ∀ k, k < 1169 → lR N m k = lR N' m k := fun k hk => hN' _ (by omega) (by omega)
        exact lyN_c hwh er b2
      · rw [if_neg hNm] at hcm ⊢
        rw [rs_n hml, cR_lt hm]; exact hcm
/-- how many pixels differ -/
def dfN (f F : Nat → Int32) : Nat → Bool := fun k => decide (¬ f k = F k)
/-- the box of what differs, moved as the LAYER is, by x0, y0, x1, y1 -/
def bxL (N : Nat → Int32) (l w n : Nat) (φ : Nat → Int32) : Int32 := (bx (dfN φ (pxN N l)) w 99 n).2.1 + N (1169 * l + 8) - rS N 30
def bxT (N : Nat → Int32) (l w n : Nat) (φ : Nat → Int32) : Int32 := (bx (dfN φ (pxN N l)) w 99 n).2.2.1 + N (1169 * l + 9) - rS N 30
def bxR (N : Nat → Int32) (l w n : Nat) (φ : Nat → Int32) : Int32 := (bx (dfN φ (pxN N l)) w 99 n).2.2.2.1 + N (1169 * l + 8) + rS N 30
def bxB (N : Nat → Int32) (l w n : Nat) (φ : Nat → Int32) : Int32 := (bx (dfN φ (pxN N l)) w 99 n).2.2.2.2 + N (1169 * l + 9) + rS N 30
def fcC (s : e_S) (N : Nat → Int32) (l w n : Nat) (φ : Nat → Int32) : e_S := if cnt (dfN φ (pxN N l)) n = 0 then s else fbC s (bxL N l w n φ) (bxT N l w n φ) (bxR N l w n φ) (bxB N l w n φ)
def fcM (s : e_S) (N : Nat → Int32) (l w n : Nat) (φ : Nat → Int32) : e_S := if cnt (dfN φ (pxN N l)) n = 0 then s else fbM s w (bxL N l w n φ) (bxT N l w n φ) (bxR N l w n φ) (bxB N l w n φ)
theorem repaint11 {s : e_S} {g : ps_G} {a b w h pc l : Nat} {N f φ : Nat → Int32} (hw : w ≤ 24) (hh : h ≤ 24) (hg : 195 ≤ g.1) (e0 : s.2.2.1 8 0 = some a) (e1 : s.1 8 2 = Int32.ofNat pc) (h2 : pc ≤ 24) (hp : ∀ i, i < pc → ∃ b N'', s.2.2.1 12 i = some b ∧ StN g b w h N'') (hs : StN g a w h N) (hl : l < 30) (hl1 : N (1169 * l) = 1) (hLy : LyN g b w h l (lR N l)) (hk : N (1169 * l + 1) = 0) (hf : ∀ k, k < w * h → f k = φ k) : ∃ g2, fX11_repaint (e_g s (mkA g f)) 8 b g.1 = some (Int32.ofNat (cnt (dfN φ (pxN N l)) (h * w)), e_g (rmC (fcC s N l w (h * w) φ) a (g.1 + 2) pc) g2) ∧ Ext g g2 ∧ StN g2 (g.1 + 2) w h (cpT N φ (1169 * l + 17) (h * w)) := by
  have hwh := wh_le hw hh
  generalize hN' : cpT N φ (1169 * l + 17) (h * w) = N'
  have hNo : ∀ j, ¬ (1169 * l + 17 ≤ j ∧ j < 1169 * l + 593) → N j = N' j := fun j hj => by rw [← hN', cpT_out (by rw [Nat.mul_comm h w]; omega)]
  have hfN : ∀ k, k < w * h → f k = N' (1169 * l + (17 + k)) := fun k hk => by
    rw [hf k hk, ← hN', ← Nat.add_assoc, cpT_in (by rw [Nat.mul_comm]; exact hk)]
  have hLA := lyN_ext (ext_mkA (f := f)) hLy
  have hgA : 195 ≤ (mkA g f).1 := Nat.le_trans hg (Nat.le_succ _)
  obtain ⟨y1, y2, p, q, x0, y0, x1, yy1, pa, ma, y3, z1, z2, z3, z4, z5, z6, z7, z8, z9, z10, z11, z12, z13, z14⟩ := hLA
  have ag := again4 (s := s) hgA y1 y2 (rg01 z4) (rg01 z5) y3
  have ob4 : q_ob 4 (e_g s (mkA g f)) b = some () := d_ob y1 y3
  have u : ∀ j, j < 17 ∨ 593 ≤ j → lR N' l j = lR N l j := fun j hj => (hNo _ (by omega)).symm
  have k0 : lR N l 1 = 0 := hk
  obtain ⟨d1, d0, d2, F, d3, d4⟩ := z12 hk
  generalize hG : mkL (mkA g f) [.int (Int32.ofNat l), .int (lR N l 1), .int (lR N l 2), .int (lR N l 4), .int (lR N l 5), .int (lR N l 6), .int (lR N l 7), .int (lR N l 8), .int (lR N l 9), .int p, .int q, .int x0, .int y0, .int x1, .int yy1, .ref g.1, .ref ma] = G
  have G1' : G.1 = g.1 + 2 := by rw [← hG]; rfl
  have hE : Ext g G := by
    rw [← hG]
    exact ext_tr ext_mkA ⟨Nat.le_succ _, by show g.1 + 1 + 1 ≤ _; omega, Nat.le_add_right _ _, by show g.2.1 + 576 + 17 ≤ _; omega, fun a ha => nw_lo ha⟩
  have lo : ∀ a, a < (mkA g f).1 → G.2.2 a = (mkA g f).2.2 a := fun a ha => by rw [← hG]; exact nw_lo ha
  have hLN : LyN G (mkA g f).1 w h l (lR N' l) := by
    refine ⟨Or.inl hgA, by rw [G1']; exact Nat.lt_succ_self _, p, q, x0, y0, x1, yy1, g.1, ma, ?_, ?_, ?_, ?_, ?_, ?_, ?_, ?_, ?_, ?_, ?_, ?_, ?_, ?_, ?_⟩
    · rw [u 1 (by omega), u 2 (by omega), u 4 (by omega), u 5 (by omega), u 6 (by omega), u 7 (by omega), u 8 (by omega), u 9 (by omega), ← hG]
      exact nw_at
    · rw [u 1 (by omega)]; exact z1
    · rw [u 4 (by omega)]; exact z2
    · rw [u 5 (by omega)]; exact z3
    · rw [u 6 (by omega)]; exact z4
    · rw [u 7 (by omega)]; exact z5
    · rw [u 8 (by omega)]; exact z6
    · rw [u 9 (by omega)]; exact z7
    · rw [u 1 (by omega), u 11 (by omega), u 12 (by omega)]; exact z8
    · rw [u 1 (by omega), u 13 (by omega), u 14 (by omega), u 15 (by omega), u 16 (by omega)]; exact z9
    · rw [u 1 (by omega)]; exact z10
    · rw [u 1 (by omega)]; exact z11
    · intro _
      refine ⟨Or.inl hg, Nat.le_trans (by decide) hg, show g.1 < G.1 by rw [G1']; omega, f, ?_, hfN⟩
      exact (lo _ (Nat.lt_succ_self g.1)).trans nw_at
    · rw [u 1 (by omega)]; exact ⟨fun z => absurd k0 z, Nat.le_trans (by decide) hgA⟩
    · rw [u 10 (by omega)]
      rcases z14 with c | ⟨d1, d2, d0, d3, f', d4, d5⟩
      · exact Or.inl c
      · exact Or.inr ⟨d1, d2, d0, by rw [G1']; exact Nat.lt_succ_of_lt d3, f', by rw [lo _ d3]; exact d4, fun i hi => by rw [u _ (by omega)]; exact d5 i hi⟩
  have hsG := stN_ext hE hs
  obtain ⟨s0, s1, -, sob⟩ := stW (s := s) hsG
  have rch := reach9 (s := s) hsG
  have lp := repaint11l (s := s) (g := G) (a := a) (b := b) (pa := pa) (na := g.1) (w := w) (h := h) (x3 := some (mkA g f).1) (F := F) (f := f) hw hh e0 s0 s1 (fun i => d_aI (Or.inl hg) ((lo _ (Nat.lt_succ_self g.1)).trans nw_at)) (d_fR y1 (by rw [lo _ y2]; exact y3) rfl) (fun i => d_aI d1 (by rw [lo _ d2]; exact d3))
  have eD : bx (fun k => decide (¬ f k = F k)) w 24 (h * w) = bx (dfN φ (pxN N l)) w 24 (h * w) := bx_c (fun k hk => by
    have hk' : k < w * h := by rw [Nat.mul_comm]; exact hk
    unfold dfN
    rw [hf k hk', d4 k hk']; rfl)
  rw [eD] at lp
  obtain ⟨b1, b2, b3, b4⟩ := bx_eq (D := dfN φ (pxN N l)) hw hh (h * w) (Nat.le_refl _)
  have f7 : q_fI 4 7 (e_g s G) b = some (N (1169 * l + 8)) := d_fI y1 (by rw [lo _ y2]; exact y3) rfl
  have f8 : q_fI 4 8 (e_g s G) b = some (N (1169 * l + 9)) := d_fI y1 (by rw [lo _ y2]; exact y3) rfl
  have hcn : cnt (dfN φ (pxN N l)) (h * w) ≤ h * w := cnt_le
  have hcn2 : cnt (dfN φ (pxN N l)) (h * w) ≤ 576 := Nat.le_trans hcn (by rw [Nat.mul_comm]; exact hwh)
  have sR15 : q_sR 4 15 (e_g s (mkL (mkA g f) [.int (Int32.ofNat l), .int (lR N l 1), .int (lR N l 2), .int (lR N l 4), .int (lR N l 5), .int (lR N l 6), .int (lR N l 7), .int (lR N l 8), .int (lR N l 9), .int p, .int q, .int x0, .int y0, .int x1, .int yy1, .ref pa, .ref ma])) (mkA g f).1 (some g.1) = some (e_g s G) := by
    rw [← hG]
    exact (m_sR hgA (Nat.le_of_ble_eq_true rfl)).trans rfl
  by_cases hz : cnt (dfN φ (pxN N l)) (h * w) = 0
  · have c1 : Int32.ofNat (cnt (dfN φ (pxN N l)) (h * w)) ≤ 0 := by rw [hz]; decide
    obtain ⟨g2, w1, w2, w3⟩ := remake11 (s := s) (v := Int32.ofNat (cnt (dfN φ (pxN N l)) (h * w))) hwh hg hE ⟨by rw [G1']; omega, by rw [← hG]; show g.2.1 + 576 + 17 + 66 ≤ _; omega⟩ e0 e1 h2 hp hs hl hl1 hLN (fun j hj hj2 => hNo j (by omega)) (fun i hi => hNo _ (by omega))
    rw [G1'] at w1 w3
    refine ⟨g2, ?_, w2, w3⟩
    unfold fcC
    rw [if_pos hz]
    simp (decide := true) only [fX11_repaint, ob4, ag, sR15, lp, c1, b1, w1, ob_n, b2_n, tc_rn, tc_ln, F_sF, A_sF, R_sF, L_sF, F_sA, A_sA, R_sA, L_sA, F_sR, A_sR, R_sR, L_sR, F_sL, A_sL, R_sL, L_sL, and_true, true_and, and_false, false_and, and_self, reduceIte, sF_sF, sA_sA, false_or, or_false, true_or, or_true, not_false_eq_true, not_true_eq_false, decide_true, decide_false, Bool.true_or, Bool.or_true, Bool.false_and, Bool.true_and, Bool.false_or, Bool.or_false, Bool.and_true, Bool.and_false]
  · have c1 : ¬ Int32.ofNat (cnt (dfN φ (pxN N l)) (h * w)) ≤ 0 := by
      show ¬ Int32.ofNat _ ≤ Int32.ofNat 0
      rw [n_le (by omega) (by omega)]; omega
    have b5 := b4 (by omega)
    obtain ⟨g2, w1, w2, w3⟩ := remake11 (s := fbC s (bxL N l w (h * w) φ) (bxT N l w (h * w) φ) (bxR N l w (h * w) φ) (bxB N l w (h * w) φ)) (v := Int32.ofNat (cnt (dfN φ (pxN N l)) (h * w))) hwh hg hE ⟨by rw [G1']; omega, by rw [← hG]; show g.2.1 + 576 + 17 + 66 ≤ _; omega⟩ (by unfold fbC; simp (decide := true) only [ob_n, b2_n, tc_rn, tc_ln, F_sF, A_sF, R_sF, L_sF, F_sA, A_sA, R_sA, L_sA, F_sR, A_sR, R_sR, L_sR, F_sL, A_sL, R_sL, L_sL, and_true, true_and, and_false, false_and, and_self, reduceIte, sF_sF, sA_sA, false_or, or_false, true_or, or_true, not_false_eq_true, not_true_eq_false, decide_true, decide_false, Bool.true_or, Bool.or_true, Bool.false_and, Bool.true_and, Bool.false_or, Bool.or_false, Bool.and_true, Bool.and_false, e0]) (by unfold fbC; simp (decide := true) only [ob_n, b2_n, tc_rn, tc_ln, F_sF, A_sF, R_sF, L_sF, F_sA, A_sA, R_sA, L_sA, F_sR, A_sR, R_sR, L_sR, F_sL, A_sL, R_sL, L_sL, and_true, true_and, and_false, false_and, and_self, reduceIte, sF_sF, sA_sA, false_or, or_false, true_or, or_true, not_false_eq_true, not_true_eq_false, decide_true, decide_false, Bool.true_or, Bool.or_true, Bool.false_and, Bool.true_and, Bool.false_or, Bool.or_false, Bool.and_true, Bool.and_false, e1]) h2 (fun i hi => by unfold fbC; simp (decide := true) only [ob_n, b2_n, tc_rn, tc_ln, F_sF, A_sF, R_sF, L_sF, F_sA, A_sA, R_sA, L_sA, F_sR, A_sR, R_sR, L_sR, F_sL, A_sL, R_sL, L_sL, and_true, true_and, and_false, false_and, and_self, reduceIte, sF_sF, sA_sA, false_or, or_false, true_or, or_true, not_false_eq_true, not_true_eq_false, decide_true, decide_false, Bool.true_or, Bool.or_true, Bool.false_and, Bool.true_and, Bool.false_or, Bool.or_false, Bool.and_true, Bool.and_false]; exact hp i hi) hs hl hl1 hLN (fun j hj hj2 => hNo j (by omega)) (fun i hi => hNo _ (by omega))
    rw [G1'] at w1 w3
    refine ⟨g2, ?_, w2, w3⟩
    unfold fcC
    rw [if_neg hz]
    unfold bxL bxT bxR bxB at w1 ⊢
    rw [← b5] at w1 ⊢
    simp (decide := true) only [fX11_repaint, ob4, ag, sR15, lp, c1, b1, f8_0, e0, sob, rch, f8_6, ob20, f7, f8, forgetBox11, w1, ob_n, b2_n, tc_rn, tc_ln, F_sF, A_sF, R_sF, L_sF, F_sA, A_sA, R_sA, L_sA, F_sR, A_sR, R_sR, L_sR, F_sL, A_sL, R_sL, L_sL, and_true, true_and, and_false, false_and, and_self, reduceIte, sF_sF, sA_sA, false_or, or_false, true_or, or_true, not_false_eq_true, not_true_eq_false, decide_true, decide_false, Bool.true_or, Bool.or_true, Bool.false_and, Bool.true_and, Bool.false_or, Bool.or_false, Bool.and_true, Bool.and_false]
theorem changed12 {s : e_S} {g : ps_G} {l w h st pc : Nat} {N φ : Nat → Int32} (hw : w ≤ 24) (hh : h ≤ 24) (hw1 : 1 ≤ w) (hl : l < 30) (h1 : st < 25) (h2 : pc ≤ 24) (e1 : s.1 139 10 = Int32.ofNat st) (e2 : s.1 139 11 = Int32.ofNat pc) (e3 : s.1 139 13 = Int32.ofNat w) (e4 : s.1 139 14 = Int32.ofNat h) (hN : s.2.1 142 = cpT N φ (1169 * l + 17) (h * w)) (hB : ∀ k, k < w * h → s.2.1 158 k = pxN N l k) : fX12_changed (e_g s g) 139 (Int32.ofNat l) = some (Int32.ofNat (cnt (dfN φ (pxN N l)) (h * w)), e_g (fcM (edM s st pc) N l w (h * w) φ) g) := by
  have hwh := wh_le hw hh
  have lp := changed12l (s := s) (g := g) (l := l) (F := pxN N l) (f := φ) hw hh hl e3 e4 (fun k hk => by rw [hN, ← Nat.add_assoc, cpT_in (by rw [Nat.mul_comm]; exact hk)]) hB
  have eD : bx (fun k => decide (¬ φ k = pxN N l k)) w 99 (h * w) = bx (dfN φ (pxN N l)) w 99 (h * w) := rfl
  rw [eD] at lp
  obtain ⟨b1, b2, b3, b4⟩ := bx_eq (D := dfN φ (pxN N l)) hw hh (h * w) (Nat.le_refl _)
  have hcn : cnt (dfN φ (pxN N l)) (h * w) ≤ h * w := cnt_le
  have hcn2 : cnt (dfN φ (pxN N l)) (h * w) ≤ 576 := Nat.le_trans hcn (by rw [Nat.mul_comm]; exact hwh)
  have ed := edited12 (s := s) (g := g) h1 h2 e1 e2
  have e142 : (edM s st pc).2.1 142 = s.2.1 142 := by unfold edM; simp (decide := true) only [ob_n, b2_n, tc_rn, tc_ln, F_sF, A_sF, R_sF, L_sF, F_sA, A_sA, R_sA, L_sA, F_sR, A_sR, R_sR, L_sR, F_sL, A_sL, R_sL, L_sL, and_true, true_and, and_false, false_and, and_self, reduceIte, sF_sF, sA_sA, false_or, or_false, true_or, or_true, not_false_eq_true, not_true_eq_false, decide_true, decide_false, Bool.true_or, Bool.or_true, Bool.false_and, Bool.true_and, Bool.false_or, Bool.or_false, Bool.and_true, Bool.and_false]
  by_cases hz : cnt (dfN φ (pxN N l)) (h * w) = 0
  · have c1 : Int32.ofNat (cnt (dfN φ (pxN N l)) (h * w)) ≤ 0 := by rw [hz]; decide
    unfold fcM
    rw [if_pos hz]
    simp (decide := true) only [fX12_changed, jX12_changed_201, lp, ob139, ed, c1, b2, ob_n, b2_n, tc_rn, tc_ln, F_sF, A_sF, R_sF, L_sF, F_sA, A_sA, R_sA, L_sA, F_sR, A_sR, R_sR, L_sR, F_sL, A_sL, R_sL, L_sL, and_true, true_and, and_false, false_and, and_self, reduceIte, sF_sF, sA_sA, false_or, or_false, true_or, or_true, not_false_eq_true, not_true_eq_false, decide_true, decide_false, Bool.true_or, Bool.or_true, Bool.false_and, Bool.true_and, Bool.false_or, Bool.or_false, Bool.and_true, Bool.and_false]
  · have c1 : ¬ Int32.ofNat (cnt (dfN φ (pxN N l)) (h * w)) ≤ 0 := by
      show ¬ Int32.ofNat _ ≤ Int32.ofNat 0
      rw [n_le (by omega) (by omega)]; omega
    have g8 := get12 (s := edM s st pc) (g := g) (n := 8) hl (by omega)
    have g9 := get12 (s := edM s st pc) (g := g) (n := 9) hl (by omega)
    have n8 : ∀ i, i < 17 → cpT N φ (1169 * l + 17) (h * w) (1169 * l + i) = N (1169 * l + i) := fun i hi => cpT_out (by omega)
    rw [e142, hN, n8 8 (by omega)] at g8
    rw [e142, hN, n8 9 (by omega)] at g9
    have rr : rS (cpT N φ (1169 * l + 17) (h * w)) 30 = rS N 30 := by
      have : ∀ n, n ≤ 30 → rS (cpT N φ (1169 * l + 17) (h * w)) n = rS N n := by
        intro n
        induction n with
        | zero => intro _; rfl
        | succ n ih =>
          intro hn
          have hwh' : h * w ≤ 576 := by rw [Nat.mul_comm]; exact hwh
          rw [rS_s, rS_s, ih (by omega), cpT_out (by omega), cpT_out (by omega), cpT_out (by omega), cpT_out (by omega)]
      exact this 30 (Nat.le_refl _)
    have fb := fun x0 y0 x1 y1 => forgetBox12 (s := edM s st pc) (g := g) (x0 := x0) (y0 := y0) (x1 := x1) (y1 := y1) hw hw1 (by unfold edM; simp (decide := true) only [ob_n, b2_n, tc_rn, tc_ln, F_sF, A_sF, R_sF, L_sF, F_sA, A_sA, R_sA, L_sA, F_sR, A_sR, R_sR, L_sR, F_sL, A_sL, R_sL, L_sL, and_true, true_and, and_false, false_and, and_self, reduceIte, sF_sF, sA_sA, false_or, or_false, true_or, or_true, not_false_eq_true, not_true_eq_false, decide_true, decide_false, Bool.true_or, Bool.or_true, Bool.false_and, Bool.true_and, Bool.false_or, Bool.or_false, Bool.and_true, Bool.and_false, e3])
    rw [e142, hN, rr] at fb
    unfold fcM
    rw [if_neg hz]
    simp (decide := true) only [fX12_changed, jX12_changed_201, lp, ob139, ed, c1, b2, g8, g9, fb, bxL, bxT, bxR, bxB, ob_n, b2_n, tc_rn, tc_ln, F_sF, A_sF, R_sF, L_sF, F_sA, A_sA, R_sA, L_sA, F_sR, A_sR, R_sR, L_sR, F_sL, A_sL, R_sL, L_sL, and_true, true_and, and_false, false_and, and_self, reduceIte, sF_sF, sA_sA, false_or, or_false, true_or, or_true, not_false_eq_true, not_true_eq_false, decide_true, decide_false, Bool.true_or, Bool.or_true, Bool.false_and, Bool.true_and, Bool.false_or, Bool.or_false, Bool.and_true, Bool.and_false]
/-- the clean state behind pixels painted anew -/
def ptS (s : e_S) (a b st pc l w n : Nat) (φ : Nat → Int32) : e_S := fcM (edM (sA (rmC (fcC s (s.2.1 142) l w n φ) a b pc) 142 (cpT (s.2.1 142) φ (1169 * l + 17) n)) st pc) (s.2.1 142) l w n φ
theorem rel_paint {s : e_S} {g g2 : ps_G} {w h a b st pc uc l : Nat} {φ : Nat → Int32} (hR : Rel s g) (h7 : G7 s w h) (h8 : G8 s w h) (f1 : st < 25) (f2 : pc + uc ≤ 24) (f9 : StN g a w h (s.2.1 142)) (f10 : ∀ k, k < 35071 → s.2.1 143 (35071 * ((st + pc) % 25) + k) = s.2.1 142 k) (f11 : ∀ i, i < pc → ∃ b, s.2.2.1 12 i = some b ∧ StN g b w h (kp (s.2.1 143) st i)) (hE : Ext g g2) (hN : StN g2 b w h (cpT (s.2.1 142) φ (1169 * l + 17) (h * w))) : Rel (ptS s a b st pc l w (h * w) φ) g2 := by
  obtain ⟨h1, h2, h3, h4, h5, h6, -, h10, h11⟩ := id hR
  have hwh := wh_le h7.2.1 h7.2.2.2.1
  have h12 := G11_ext hE h11
  unfold ptS fcM fcC
  by_cases hz : cnt (dfN φ (pxN (s.2.1 142) l)) (h * w) = 0
  · have hNN : cpT (s.2.1 142) φ (1169 * l + 17) (h * w) = s.2.1 142 := by
      funext k
      by_cases q : 1169 * l + 17 ≤ k ∧ k < 1169 * l + 17 + h * w
      · rw [cpT_ge q.1 q.2]
        have := of_decide_eq_false (cnt_0 hz (k - (1169 * l + 17)) (by omega))
        have this := Decidable.byContradiction this
        rw [this]
        show s.2.1 142 (1169 * l + (17 + (k - (1169 * l + 17)))) = s.2.1 142 k
        rw [show 1169 * l + (17 + (k - (1169 * l + 17))) = k by omega]
      · rw [cpT_out q]
    rw [if_pos hz, if_pos hz, hNN]
    rw [hNN] at hN
    unfold edM rmC
    refine ⟨?_, ?_, ?_, ?_, ?_, ?_, ⟨w, h, ?_, ?_, G10_edit hwh hE f1 f2 f9 f10 f11 (b := b) ?_ ?_ ?_ ?_ ?_ ?_ ?_ ?_ ?_⟩, ?_, ?_⟩
    · unfold G1 at h1 ⊢; simp (decide := true) only [ob_n, b2_n, tc_rn, tc_ln, F_sF, A_sF, R_sF, L_sF, F_sA, A_sA, R_sA, L_sA, F_sR, A_sR, R_sR, L_sR, F_sL, A_sL, R_sL, L_sL, and_true, true_and, and_false, false_and, and_self, reduceIte, sF_sF, sA_sA, false_or, or_false, true_or, or_true, not_false_eq_true, not_true_eq_false, decide_true, decide_false, Bool.true_or, Bool.or_true, Bool.false_and, Bool.true_and, Bool.false_or, Bool.or_false, Bool.and_true, Bool.and_false, F_sRr, A_sRr]; exact h1
    · unfold G2 at h2 ⊢; simp (decide := true) only [ob_n, b2_n, tc_rn, tc_ln, F_sF, A_sF, R_sF, L_sF, F_sA, A_sA, R_sA, L_sA, F_sR, A_sR, R_sR, L_sR, F_sL, A_sL, R_sL, L_sL, and_true, true_and, and_false, false_and, and_self, reduceIte, sF_sF, sA_sA, false_or, or_false, true_or, or_true, not_false_eq_true, not_true_eq_false, decide_true, decide_false, Bool.true_or, Bool.or_true, Bool.false_and, Bool.true_and, Bool.false_or, Bool.or_false, Bool.and_true, Bool.and_false, F_sRr, A_sRr]; exact h2
    · unfold G3 at h3 ⊢; simp (decide := true) only [ob_n, b2_n, tc_rn, tc_ln, F_sF, A_sF, R_sF, L_sF, F_sA, A_sA, R_sA, L_sA, F_sR, A_sR, R_sR, L_sR, F_sL, A_sL, R_sL, L_sL, and_true, true_and, and_false, false_and, and_self, reduceIte, sF_sF, sA_sA, false_or, or_false, true_or, or_true, not_false_eq_true, not_true_eq_false, decide_true, decide_false, Bool.true_or, Bool.or_true, Bool.false_and, Bool.true_and, Bool.false_or, Bool.or_false, Bool.and_true, Bool.and_false, F_sRr, A_sRr]; exact h3
    · unfold G4 at h4 ⊢; simp (decide := true) only [ob_n, b2_n, tc_rn, tc_ln, F_sF, A_sF, R_sF, L_sF, F_sA, A_sA, R_sA, L_sA, F_sR, A_sR, R_sR, L_sR, F_sL, A_sL, R_sL, L_sL, and_true, true_and, and_false, false_and, and_self, reduceIte, sF_sF, sA_sA, false_or, or_false, true_or, or_true, not_false_eq_true, not_true_eq_false, decide_true, decide_false, Bool.true_or, Bool.or_true, Bool.false_and, Bool.true_and, Bool.false_or, Bool.or_false, Bool.and_true, Bool.and_false, F_sRr, A_sRr]; exact h4
    · unfold G5 at h5 ⊢; simp (decide := true) only [ob_n, b2_n, tc_rn, tc_ln, F_sF, A_sF, R_sF, L_sF, F_sA, A_sA, R_sA, L_sA, F_sR, A_sR, R_sR, L_sR, F_sL, A_sL, R_sL, L_sL, and_true, true_and, and_false, false_and, and_self, reduceIte, sF_sF, sA_sA, false_or, or_false, true_or, or_true, not_false_eq_true, not_true_eq_false, decide_true, decide_false, Bool.true_or, Bool.or_true, Bool.false_and, Bool.true_and, Bool.false_or, Bool.or_false, Bool.and_true, Bool.and_false, F_sRr, A_sRr]; exact h5
    · unfold G6 at h6 ⊢; simp (decide := true) only [ob_n, b2_n, tc_rn, tc_ln, F_sF, A_sF, R_sF, L_sF, F_sA, A_sA, R_sA, L_sA, F_sR, A_sR, R_sR, L_sR, F_sL, A_sL, R_sL, L_sL, and_true, true_and, and_false, false_and, and_self, reduceIte, sF_sF, sA_sA, false_or, or_false, true_or, or_true, not_false_eq_true, not_true_eq_false, decide_true, decide_false, Bool.true_or, Bool.or_true, Bool.false_and, Bool.true_and, Bool.false_or, Bool.or_false, Bool.and_true, Bool.and_false, F_sRr, A_sRr]; exact h6
    · unfold G7 at h7 ⊢; simp (decide := true) only [ob_n, b2_n, tc_rn, tc_ln, F_sF, A_sF, R_sF, L_sF, F_sA, A_sA, R_sA, L_sA, F_sR, A_sR, R_sR, L_sR, F_sL, A_sL, R_sL, L_sL, and_true, true_and, and_false, false_and, and_self, reduceIte, sF_sF, sA_sA, false_or, or_false, true_or, or_true, not_false_eq_true, not_true_eq_false, decide_true, decide_false, Bool.true_or, Bool.or_true, Bool.false_and, Bool.true_and, Bool.false_or, Bool.or_false, Bool.and_true, Bool.and_false, F_sRr, A_sRr]; exact h7
    · unfold G8 at h8 ⊢; simp (decide := true) only [ob_n, b2_n, tc_rn, tc_ln, F_sF, A_sF, R_sF, L_sF, F_sA, A_sA, R_sA, L_sA, F_sR, A_sR, R_sR, L_sR, F_sL, A_sL, R_sL, L_sL, and_true, true_and, and_false, false_and, and_self, reduceIte, sF_sF, sA_sA, false_or, or_false, true_or, or_true, not_false_eq_true, not_true_eq_false, decide_true, decide_false, Bool.true_or, Bool.or_true, Bool.false_and, Bool.true_and, Bool.false_or, Bool.or_false, Bool.and_true, Bool.and_false, F_sRr, A_sRr]; exact h8
    · simp (decide := true) only [ob_n, b2_n, tc_rn, tc_ln, F_sF, A_sF, R_sF, L_sF, F_sA, A_sA, R_sA, L_sA, F_sR, A_sR, R_sR, L_sR, F_sL, A_sL, R_sL, L_sL, and_true, true_and, and_false, false_and, and_self, reduceIte, sF_sF, sA_sA, false_or, or_false, true_or, or_true, not_false_eq_true, not_true_eq_false, decide_true, decide_false, Bool.true_or, Bool.or_true, Bool.false_and, Bool.true_and, Bool.false_or, Bool.or_false, Bool.and_true, Bool.and_false, F_sRr, A_sRr]; exact hN
    · simp (decide := true) only [ob_n, b2_n, tc_rn, tc_ln, F_sF, A_sF, R_sF, L_sF, F_sA, A_sA, R_sA, L_sA, F_sR, A_sR, R_sR, L_sR, F_sL, A_sL, R_sL, L_sL, and_true, true_and, and_false, false_and, and_self, reduceIte, sF_sF, sA_sA, false_or, or_false, true_or, or_true, not_false_eq_true, not_true_eq_false, decide_true, decide_false, Bool.true_or, Bool.or_true, Bool.false_and, Bool.true_and, Bool.false_or, Bool.or_false, Bool.and_true, Bool.and_false, R_sRr]
    · funext i; simp (decide := true) only [ob_n, b2_n, tc_rn, tc_ln, F_sF, A_sF, R_sF, L_sF, F_sA, A_sA, R_sA, L_sA, F_sR, A_sR, R_sR, L_sR, F_sL, A_sL, R_sL, L_sL, and_true, true_and, and_false, false_and, and_self, reduceIte, sF_sF, sA_sA, false_or, or_false, true_or, or_true, not_false_eq_true, not_true_eq_false, decide_true, decide_false, Bool.true_or, Bool.or_true, Bool.false_and, Bool.true_and, Bool.false_or, Bool.or_false, Bool.and_true, Bool.and_false, R_sRr]
    · simp (decide := true) only [ob_n, b2_n, tc_rn, tc_ln, F_sF, A_sF, R_sF, L_sF, F_sA, A_sA, R_sA, L_sA, F_sR, A_sR, R_sR, L_sR, F_sL, A_sL, R_sL, L_sL, and_true, true_and, and_false, false_and, and_self, reduceIte, sF_sF, sA_sA, false_or, or_false, true_or, or_true, not_false_eq_true, not_true_eq_false, decide_true, decide_false, Bool.true_or, Bool.or_true, Bool.false_and, Bool.true_and, Bool.false_or, Bool.or_false, Bool.and_true, Bool.and_false, F_sRr]
    · simp (decide := true) only [ob_n, b2_n, tc_rn, tc_ln, F_sF, A_sF, R_sF, L_sF, F_sA, A_sA, R_sA, L_sA, F_sR, A_sR, R_sR, L_sR, F_sL, A_sL, R_sL, L_sL, and_true, true_and, and_false, false_and, and_self, reduceIte, sF_sF, sA_sA, false_or, or_false, true_or, or_true, not_false_eq_true, not_true_eq_false, decide_true, decide_false, Bool.true_or, Bool.or_true, Bool.false_and, Bool.true_and, Bool.false_or, Bool.or_false, Bool.and_true, Bool.and_false, F_sRr]
    · simp (decide := true) only [ob_n, b2_n, tc_rn, tc_ln, F_sF, A_sF, R_sF, L_sF, F_sA, A_sA, R_sA, L_sA, F_sR, A_sR, R_sR, L_sR, F_sL, A_sL, R_sL, L_sL, and_true, true_and, and_false, false_and, and_self, reduceIte, sF_sF, sA_sA, false_or, or_false, true_or, or_true, not_false_eq_true, not_true_eq_false, decide_true, decide_false, Bool.true_or, Bool.or_true, Bool.false_and, Bool.true_and, Bool.false_or, Bool.or_false, Bool.and_true, Bool.and_false, F_sRr]
    · simp (decide := true) only [ob_n, b2_n, tc_rn, tc_ln, F_sF, A_sF, R_sF, L_sF, F_sA, A_sA, R_sA, L_sA, F_sR, A_sR, R_sR, L_sR, F_sL, A_sL, R_sL, L_sL, and_true, true_and, and_false, false_and, and_self, reduceIte, sF_sF, sA_sA, false_or, or_false, true_or, or_true, not_false_eq_true, not_true_eq_false, decide_true, decide_false, Bool.true_or, Bool.or_true, Bool.false_and, Bool.true_and, Bool.false_or, Bool.or_false, Bool.and_true, Bool.and_false, F_sRr]
    · simp (decide := true) only [ob_n, b2_n, tc_rn, tc_ln, F_sF, A_sF, R_sF, L_sF, F_sA, A_sA, R_sA, L_sA, F_sR, A_sR, R_sR, L_sR, F_sL, A_sL, R_sL, L_sL, and_true, true_and, and_false, false_and, and_self, reduceIte, sF_sF, sA_sA, false_or, or_false, true_or, or_true, not_false_eq_true, not_true_eq_false, decide_true, decide_false, Bool.true_or, Bool.or_true, Bool.false_and, Bool.true_and, Bool.false_or, Bool.or_false, Bool.and_true, Bool.and_false, F_sRr]
    · simp (decide := true) only [ob_n, b2_n, tc_rn, tc_ln, F_sF, A_sF, R_sF, L_sF, F_sA, A_sA, R_sA, L_sA, F_sR, A_sR, R_sR, L_sR, F_sL, A_sL, R_sL, L_sL, and_true, true_and, and_false, false_and, and_self, reduceIte, sF_sF, sA_sA, false_or, or_false, true_or, or_true, not_false_eq_true, not_true_eq_false, decide_true, decide_false, Bool.true_or, Bool.or_true, Bool.false_and, Bool.true_and, Bool.false_or, Bool.or_false, Bool.and_true, Bool.and_false, A_sRr]
    · unfold G9 at h10 ⊢; simp (decide := true) only [ob_n, b2_n, tc_rn, tc_ln, F_sF, A_sF, R_sF, L_sF, F_sA, A_sA, R_sA, L_sA, F_sR, A_sR, R_sR, L_sR, F_sL, A_sL, R_sL, L_sL, and_true, true_and, and_false, false_and, and_self, reduceIte, sF_sF, sA_sA, false_or, or_false, true_or, or_true, not_false_eq_true, not_true_eq_false, decide_true, decide_false, Bool.true_or, Bool.or_true, Bool.false_and, Bool.true_and, Bool.false_or, Bool.or_false, Bool.and_true, Bool.and_false, F_sRr, A_sRr]; exact h10
    · unfold G11 at h12 ⊢; simp (decide := true) only [ob_n, b2_n, tc_rn, tc_ln, F_sF, A_sF, R_sF, L_sF, F_sA, A_sA, R_sA, L_sA, F_sR, A_sR, R_sR, L_sR, F_sL, A_sL, R_sL, L_sL, and_true, true_and, and_false, false_and, and_self, reduceIte, sF_sF, sA_sA, false_or, or_false, true_or, or_true, not_false_eq_true, not_true_eq_false, decide_true, decide_false, Bool.true_or, Bool.or_true, Bool.false_and, Bool.true_and, Bool.false_or, Bool.or_false, Bool.and_true, Bool.and_false, F_sRr, A_sRr]; exact h12
  · rw [if_neg hz, if_neg hz]
    unfold fbM edM rmC fbC
    refine ⟨?_, ?_, ?_, ?_, ?_, ?_, ⟨w, h, ?_, G8_box (L := bxL (s.2.1 142) l w (h * w) φ) (T := bxT (s.2.1 142) l w (h * w) φ) (R := bxR (s.2.1 142) l w (h * w) φ) (B := bxB (s.2.1 142) l w (h * w) φ) h7.2.1 h7.2.2.2.1 h7.1 h8 ?_ ?_ ?_ ?_ ?_ ?_ ?_, G10_edit hwh hE f1 f2 f9 f10 f11 (b := b) ?_ ?_ ?_ ?_ ?_ ?_ ?_ ?_ ?_⟩, ?_, ?_⟩
    · unfold G1 at h1 ⊢; simp (decide := true) only [ob_n, b2_n, tc_rn, tc_ln, F_sF, A_sF, R_sF, L_sF, F_sA, A_sA, R_sA, L_sA, F_sR, A_sR, R_sR, L_sR, F_sL, A_sL, R_sL, L_sL, and_true, true_and, and_false, false_and, and_self, reduceIte, sF_sF, sA_sA, false_or, or_false, true_or, or_true, not_false_eq_true, not_true_eq_false, decide_true, decide_false, Bool.true_or, Bool.or_true, Bool.false_and, Bool.true_and, Bool.false_or, Bool.or_false, Bool.and_true, Bool.and_false, F_sRr, A_sRr]; exact h1
    · unfold G2 at h2 ⊢; simp (decide := true) only [ob_n, b2_n, tc_rn, tc_ln, F_sF, A_sF, R_sF, L_sF, F_sA, A_sA, R_sA, L_sA, F_sR, A_sR, R_sR, L_sR, F_sL, A_sL, R_sL, L_sL, and_true, true_and, and_false, false_and, and_self, reduceIte, sF_sF, sA_sA, false_or, or_false, true_or, or_true, not_false_eq_true, not_true_eq_false, decide_true, decide_false, Bool.true_or, Bool.or_true, Bool.false_and, Bool.true_and, Bool.false_or, Bool.or_false, Bool.and_true, Bool.and_false, F_sRr, A_sRr]; exact h2
    · unfold G3 at h3 ⊢; simp (decide := true) only [ob_n, b2_n, tc_rn, tc_ln, F_sF, A_sF, R_sF, L_sF, F_sA, A_sA, R_sA, L_sA, F_sR, A_sR, R_sR, L_sR, F_sL, A_sL, R_sL, L_sL, and_true, true_and, and_false, false_and, and_self, reduceIte, sF_sF, sA_sA, false_or, or_false, true_or, or_true, not_false_eq_true, not_true_eq_false, decide_true, decide_false, Bool.true_or, Bool.or_true, Bool.false_and, Bool.true_and, Bool.false_or, Bool.or_false, Bool.and_true, Bool.and_false, F_sRr, A_sRr]; exact h3
    · unfold G4 at h4 ⊢; simp (decide := true) only [ob_n, b2_n, tc_rn, tc_ln, F_sF, A_sF, R_sF, L_sF, F_sA, A_sA, R_sA, L_sA, F_sR, A_sR, R_sR, L_sR, F_sL, A_sL, R_sL, L_sL, and_true, true_and, and_false, false_and, and_self, reduceIte, sF_sF, sA_sA, false_or, or_false, true_or, or_true, not_false_eq_true, not_true_eq_false, decide_true, decide_false, Bool.true_or, Bool.or_true, Bool.false_and, Bool.true_and, Bool.false_or, Bool.or_false, Bool.and_true, Bool.and_false, F_sRr, A_sRr]; exact h4
    · unfold G5 at h5 ⊢; simp (decide := true) only [ob_n, b2_n, tc_rn, tc_ln, F_sF, A_sF, R_sF, L_sF, F_sA, A_sA, R_sA, L_sA, F_sR, A_sR, R_sR, L_sR, F_sL, A_sL, R_sL, L_sL, and_true, true_and, and_false, false_and, and_self, reduceIte, sF_sF, sA_sA, false_or, or_false, true_or, or_true, not_false_eq_true, not_true_eq_false, decide_true, decide_false, Bool.true_or, Bool.or_true, Bool.false_and, Bool.true_and, Bool.false_or, Bool.or_false, Bool.and_true, Bool.and_false, F_sRr, A_sRr]; exact h5
    · unfold G6 at h6 ⊢; simp (decide := true) only [ob_n, b2_n, tc_rn, tc_ln, F_sF, A_sF, R_sF, L_sF, F_sA, A_sA, R_sA, L_sA, F_sR, A_sR, R_sR, L_sR, F_sL, A_sL, R_sL, L_sL, and_true, true_and, and_false, false_and, and_self, reduceIte, sF_sF, sA_sA, false_or, or_false, true_or, or_true, not_false_eq_true, not_true_eq_false, decide_true, decide_false, Bool.true_or, Bool.or_true, Bool.false_and, Bool.true_and, Bool.false_or, Bool.or_false, Bool.and_true, Bool.and_false, F_sRr, A_sRr]; exact h6
    · unfold G7 at h7 ⊢; simp (decide := true) only [ob_n, b2_n, tc_rn, tc_ln, F_sF, A_sF, R_sF, L_sF, F_sA, A_sA, R_sA, L_sA, F_sR, A_sR, R_sR, L_sR, F_sL, A_sL, R_sL, L_sL, and_true, true_and, and_false, false_and, and_self, reduceIte, sF_sF, sA_sA, false_or, or_false, true_or, or_true, not_false_eq_true, not_true_eq_false, decide_true, decide_false, Bool.true_or, Bool.or_true, Bool.false_and, Bool.true_and, Bool.false_or, Bool.or_false, Bool.and_true, Bool.and_false, F_sRr, A_sRr]; exact h7
    · simp (decide := true) only [ob_n, b2_n, tc_rn, tc_ln, F_sF, A_sF, R_sF, L_sF, F_sA, A_sA, R_sA, L_sA, F_sR, A_sR, R_sR, L_sR, F_sL, A_sL, R_sL, L_sL, and_true, true_and, and_false, false_and, and_self, reduceIte, sF_sF, sA_sA, false_or, or_false, true_or, or_true, not_false_eq_true, not_true_eq_false, decide_true, decide_false, Bool.true_or, Bool.or_true, Bool.false_and, Bool.true_and, Bool.false_or, Bool.or_false, Bool.and_true, Bool.and_false, F_sRr, A_sRr]
    · simp (decide := true) only [ob_n, b2_n, tc_rn, tc_ln, F_sF, A_sF, R_sF, L_sF, F_sA, A_sA, R_sA, L_sA, F_sR, A_sR, R_sR, L_sR, F_sL, A_sL, R_sL, L_sL, and_true, true_and, and_false, false_and, and_self, reduceIte, sF_sF, sA_sA, false_or, or_false, true_or, or_true, not_false_eq_true, not_true_eq_false, decide_true, decide_false, Bool.true_or, Bool.or_true, Bool.false_and, Bool.true_and, Bool.false_or, Bool.or_false, Bool.and_true, Bool.and_false, F_sRr, A_sRr]
    · simp (decide := true) only [ob_n, b2_n, tc_rn, tc_ln, F_sF, A_sF, R_sF, L_sF, F_sA, A_sA, R_sA, L_sA, F_sR, A_sR, R_sR, L_sR, F_sL, A_sL, R_sL, L_sL, and_true, true_and, and_false, false_and, and_self, reduceIte, sF_sF, sA_sA, false_or, or_false, true_or, or_true, not_false_eq_true, not_true_eq_false, decide_true, decide_false, Bool.true_or, Bool.or_true, Bool.false_and, Bool.true_and, Bool.false_or, Bool.or_false, Bool.and_true, Bool.and_false, F_sRr, A_sRr]
    · simp (decide := true) only [ob_n, b2_n, tc_rn, tc_ln, F_sF, A_sF, R_sF, L_sF, F_sA, A_sA, R_sA, L_sA, F_sR, A_sR, R_sR, L_sR, F_sL, A_sL, R_sL, L_sL, and_true, true_and, and_false, false_and, and_self, reduceIte, sF_sF, sA_sA, false_or, or_false, true_or, or_true, not_false_eq_true, not_true_eq_false, decide_true, decide_false, Bool.true_or, Bool.or_true, Bool.false_and, Bool.true_and, Bool.false_or, Bool.or_false, Bool.and_true, Bool.and_false, F_sRr, A_sRr]
    · simp (decide := true) only [ob_n, b2_n, tc_rn, tc_ln, F_sF, A_sF, R_sF, L_sF, F_sA, A_sA, R_sA, L_sA, F_sR, A_sR, R_sR, L_sR, F_sL, A_sL, R_sL, L_sL, and_true, true_and, and_false, false_and, and_self, reduceIte, sF_sF, sA_sA, false_or, or_false, true_or, or_true, not_false_eq_true, not_true_eq_false, decide_true, decide_false, Bool.true_or, Bool.or_true, Bool.false_and, Bool.true_and, Bool.false_or, Bool.or_false, Bool.and_true, Bool.and_false, F_sRr, A_sRr]
    · simp (decide := true) only [ob_n, b2_n, tc_rn, tc_ln, F_sF, A_sF, R_sF, L_sF, F_sA, A_sA, R_sA, L_sA, F_sR, A_sR, R_sR, L_sR, F_sL, A_sL, R_sL, L_sL, and_true, true_and, and_false, false_and, and_self, reduceIte, sF_sF, sA_sA, false_or, or_false, true_or, or_true, not_false_eq_true, not_true_eq_false, decide_true, decide_false, Bool.true_or, Bool.or_true, Bool.false_and, Bool.true_and, Bool.false_or, Bool.or_false, Bool.and_true, Bool.and_false, F_sRr, A_sRr]
    · simp (decide := true) only [ob_n, b2_n, tc_rn, tc_ln, F_sF, A_sF, R_sF, L_sF, F_sA, A_sA, R_sA, L_sA, F_sR, A_sR, R_sR, L_sR, F_sL, A_sL, R_sL, L_sL, and_true, true_and, and_false, false_and, and_self, reduceIte, sF_sF, sA_sA, false_or, or_false, true_or, or_true, not_false_eq_true, not_true_eq_false, decide_true, decide_false, Bool.true_or, Bool.or_true, Bool.false_and, Bool.true_and, Bool.false_or, Bool.or_false, Bool.and_true, Bool.and_false, F_sRr, A_sRr]
    · simp (decide := true) only [ob_n, b2_n, tc_rn, tc_ln, F_sF, A_sF, R_sF, L_sF, F_sA, A_sA, R_sA, L_sA, F_sR, A_sR, R_sR, L_sR, F_sL, A_sL, R_sL, L_sL, and_true, true_and, and_false, false_and, and_self, reduceIte, sF_sF, sA_sA, false_or, or_false, true_or, or_true, not_false_eq_true, not_true_eq_false, decide_true, decide_false, Bool.true_or, Bool.or_true, Bool.false_and, Bool.true_and, Bool.false_or, Bool.or_false, Bool.and_true, Bool.and_false, F_sRr, A_sRr]; exact hN
    · simp (decide := true) only [ob_n, b2_n, tc_rn, tc_ln, F_sF, A_sF, R_sF, L_sF, F_sA, A_sA, R_sA, L_sA, F_sR, A_sR, R_sR, L_sR, F_sL, A_sL, R_sL, L_sL, and_true, true_and, and_false, false_and, and_self, reduceIte, sF_sF, sA_sA, false_or, or_false, true_or, or_true, not_false_eq_true, not_true_eq_false, decide_true, decide_false, Bool.true_or, Bool.or_true, Bool.false_and, Bool.true_and, Bool.false_or, Bool.or_false, Bool.and_true, Bool.and_false, R_sRr]
    · funext i; simp (decide := true) only [ob_n, b2_n, tc_rn, tc_ln, F_sF, A_sF, R_sF, L_sF, F_sA, A_sA, R_sA, L_sA, F_sR, A_sR, R_sR, L_sR, F_sL, A_sL, R_sL, L_sL, and_true, true_and, and_false, false_and, and_self, reduceIte, sF_sF, sA_sA, false_or, or_false, true_or, or_true, not_false_eq_true, not_true_eq_false, decide_true, decide_false, Bool.true_or, Bool.or_true, Bool.false_and, Bool.true_and, Bool.false_or, Bool.or_false, Bool.and_true, Bool.and_false, R_sRr]
    · simp (decide := true) only [ob_n, b2_n, tc_rn, tc_ln, F_sF, A_sF, R_sF, L_sF, F_sA, A_sA, R_sA, L_sA, F_sR, A_sR, R_sR, L_sR, F_sL, A_sL, R_sL, L_sL, and_true, true_and, and_false, false_and, and_self, reduceIte, sF_sF, sA_sA, false_or, or_false, true_or, or_true, not_false_eq_true, not_true_eq_false, decide_true, decide_false, Bool.true_or, Bool.or_true, Bool.false_and, Bool.true_and, Bool.false_or, Bool.or_false, Bool.and_true, Bool.and_false, F_sRr]
    · simp (decide := true) only [ob_n, b2_n, tc_rn, tc_ln, F_sF, A_sF, R_sF, L_sF, F_sA, A_sA, R_sA, L_sA, F_sR, A_sR, R_sR, L_sR, F_sL, A_sL, R_sL, L_sL, and_true, true_and, and_false, false_and, and_self, reduceIte, sF_sF, sA_sA, false_or, or_false, true_or, or_true, not_false_eq_true, not_true_eq_false, decide_true, decide_false, Bool.true_or, Bool.or_true, Bool.false_and, Bool.true_and, Bool.false_or, Bool.or_false, Bool.and_true, Bool.and_false, F_sRr]
    · simp (decide := true) only [ob_n, b2_n, tc_rn, tc_ln, F_sF, A_sF, R_sF, L_sF, F_sA, A_sA, R_sA, L_sA, F_sR, A_sR, R_sR, L_sR, F_sL, A_sL, R_sL, L_sL, and_true, true_and, and_false, false_and, and_self, reduceIte, sF_sF, sA_sA, false_or, or_false, true_or, or_true, not_false_eq_true, not_true_eq_false, decide_true, decide_false, Bool.true_or, Bool.or_true, Bool.false_and, Bool.true_and, Bool.false_or, Bool.or_false, Bool.and_true, Bool.and_false, F_sRr]
    · simp (decide := true) only [ob_n, b2_n, tc_rn, tc_ln, F_sF, A_sF, R_sF, L_sF, F_sA, A_sA, R_sA, L_sA, F_sR, A_sR, R_sR, L_sR, F_sL, A_sL, R_sL, L_sL, and_true, true_and, and_false, false_and, and_self, reduceIte, sF_sF, sA_sA, false_or, or_false, true_or, or_true, not_false_eq_true, not_true_eq_false, decide_true, decide_false, Bool.true_or, Bool.or_true, Bool.false_and, Bool.true_and, Bool.false_or, Bool.or_false, Bool.and_true, Bool.and_false, F_sRr]
    · simp (decide := true) only [ob_n, b2_n, tc_rn, tc_ln, F_sF, A_sF, R_sF, L_sF, F_sA, A_sA, R_sA, L_sA, F_sR, A_sR, R_sR, L_sR, F_sL, A_sL, R_sL, L_sL, and_true, true_and, and_false, false_and, and_self, reduceIte, sF_sF, sA_sA, false_or, or_false, true_or, or_true, not_false_eq_true, not_true_eq_false, decide_true, decide_false, Bool.true_or, Bool.or_true, Bool.false_and, Bool.true_and, Bool.false_or, Bool.or_false, Bool.and_true, Bool.and_false, F_sRr]
    · simp (decide := true) only [ob_n, b2_n, tc_rn, tc_ln, F_sF, A_sF, R_sF, L_sF, F_sA, A_sA, R_sA, L_sA, F_sR, A_sR, R_sR, L_sR, F_sL, A_sL, R_sL, L_sL, and_true, true_and, and_false, false_and, and_self, reduceIte, sF_sF, sA_sA, false_or, or_false, true_or, or_true, not_false_eq_true, not_true_eq_false, decide_true, decide_false, Bool.true_or, Bool.or_true, Bool.false_and, Bool.true_and, Bool.false_or, Bool.or_false, Bool.and_true, Bool.and_false, A_sRr]
    · unfold G9 at h10 ⊢; simp (decide := true) only [ob_n, b2_n, tc_rn, tc_ln, F_sF, A_sF, R_sF, L_sF, F_sA, A_sA, R_sA, L_sA, F_sR, A_sR, R_sR, L_sR, F_sL, A_sL, R_sL, L_sL, and_true, true_and, and_false, false_and, and_self, reduceIte, sF_sF, sA_sA, false_or, or_false, true_or, or_true, not_false_eq_true, not_true_eq_false, decide_true, decide_false, Bool.true_or, Bool.or_true, Bool.false_and, Bool.true_and, Bool.false_or, Bool.or_false, Bool.and_true, Bool.and_false, F_sRr, A_sRr]; exact h10
    · unfold G11 at h12 ⊢; simp (decide := true) only [ob_n, b2_n, tc_rn, tc_ln, F_sF, A_sF, R_sF, L_sF, F_sA, A_sA, R_sA, L_sA, F_sR, A_sR, R_sR, L_sR, F_sL, A_sL, R_sL, L_sL, and_true, true_and, and_false, false_and, and_self, reduceIte, sF_sF, sA_sA, false_or, or_false, true_or, or_true, not_false_eq_true, not_true_eq_false, decide_true, decide_false, Bool.true_or, Bool.or_true, Bool.false_and, Bool.true_and, Bool.false_or, Bool.or_false, Bool.and_true, Bool.and_false, F_sRr, A_sRr]; exact h12
theorem sm_R2 {s s' : e_S} {j k : Nat} {v : Option Nat} (h : Sm s s') : Sm (sR s j k v) (sR s' j k v) := by
  refine ⟨fun i hi => ?_, fun p hp => ?_, fun i hi => ?_⟩
  · rw [A_sR, A_sR]; exact h.1 i hi
  · rw [F_sR, F_sR]; exact h.2.1 p hp
  · funext b
    rw [R_sR, R_sR, h.2.2 i hi]
theorem sm_Rr2 {s s' : e_S} {j : Nat} {r : Nat → Option Nat} (h : Sm s s') : Sm (sRr s j r) (sRr s' j r) := by
  refine ⟨fun i hi => ?_, fun p hp => ?_, fun i hi => ?_⟩
  · rw [A_sRr, A_sRr]; exact h.1 i hi
  · rw [F_sRr, F_sRr]; exact h.2.1 p hp
  · rw [R_sRr, R_sRr, h.2.2 i hi]
theorem sm_rmC {s s' : e_S} {a b pc : Nat} (h : Sm s s') : Sm (rmC s a b pc) (rmC s' a b pc) := by
  unfold rmC
  rw [h.2.2 12 (Or.inr (Or.inl rfl))]
  exact sm_R2 (sm_F2 (sm_F2 (sm_Rr2 h)))
theorem sm_fcC {s s' : e_S} {l w n : Nat} {N φ : Nat → Int32} (h : Sm s s') : Sm (fcC s N l w n φ) (fcC s' N l w n φ) := by
  unfold fcC
  split
  · exact h
  · unfold fbC
    rw [h.1 88 (by decide)]
    exact sm_A2 (sm_F2 h)
theorem sm_fcM {s s' : e_S} {l w n : Nat} {N φ : Nat → Int32} (h : Sm s s') : Sm (fcM s N l w n φ) (fcM s' N l w n φ) := by
  unfold fcM
  split
  · exact h
  · unfold fbM
    rw [h.1 148 (by decide)]
    exact sm_A2 h
