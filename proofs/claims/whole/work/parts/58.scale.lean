-- needs: 07 10 13 14 20 21 22 23 24 25 26 27 32 33 34 36 38 39 40 41 42 43 44 46 47 48 52 53 54
/-! ===== scale ===== -/
def fvW (f g k c : Int32) : Int32 := ((if ¬ (k &&& (1 : Int32)) = (1 : Int32) then (16 : Int32) - f else f) * (if ¬ (q_shr k (1 : Int32)) = (1 : Int32) then (16 : Int32) - g else g)) * (q_ush c (24 : Int32))
def fvC (w h : Nat) (B : Nat → Int32) (X Y k : Int32) : Int32 := bAt w h B (q_shr X 4 + (k &&& 1)) (q_shr Y 4 + q_shr k 1)
def fvB (w h : Nat) (B : Nat → Int32) (X Y : Int32) (t : Int32 × Int32 × Int32 × Int32 × Int32) : Option ((Int32 × Int32 × Int32 × Int32 × Int32) ⊕ (Int32 × Int32 × Int32 × Int32)) := if (4 : Int32) ≤ t.2.2.2.2 then some (.inr (t.1, t.2.1, t.2.2.1, t.2.2.2.1)) else some (.inl (t.1 + fvW (X &&& 15) (Y &&& 15) t.2.2.2.2 (fvC w h B X Y t.2.2.2.2), t.2.1 + fvW (X &&& 15) (Y &&& 15) t.2.2.2.2 (fvC w h B X Y t.2.2.2.2) * fX11_red (fvC w h B X Y t.2.2.2.2), t.2.2.1 + fvW (X &&& 15) (Y &&& 15) t.2.2.2.2 (fvC w h B X Y t.2.2.2.2) * fX11_green (fvC w h B X Y t.2.2.2.2), t.2.2.2.1 + fvW (X &&& 15) (Y &&& 15) t.2.2.2.2 (fvC w h B X Y t.2.2.2.2) * fX11_blue (fvC w h B X Y t.2.2.2.2), t.2.2.2.2 + 1))
noncomputable def fvV (w h : Nat) (B : Nat → Int32) (X Y : Int32) : Int32 := ((q_lp (fvB w h B X Y) (0, 0, 0, 0, 0)).bind fun t => fX11_mean cmG 256 t.1 t.2.1 t.2.2.1 t.2.2.2).getD 0
theorem fvV_c {w h : Nat} {B B' : Nat → Int32} {X Y : Int32} (e : ∀ k, k < w * h → B k = B' k) : fvV w h B X Y = fvV w h B' X Y := by
  have : fvB w h B X Y = fvB w h B' X Y := by
    funext t
    have : fvC w h B X Y t.2.2.2.2 = fvC w h B' X Y t.2.2.2.2 := bAt_c e
    unfold fvB
    rw [this]
  unfold fvV
  rw [this]
theorem fvW_r {f g k c : Int32} (hf : 0 ≤ f.toInt ∧ f.toInt ≤ 15) (hg : 0 ≤ g.toInt ∧ g.toInt ≤ 15) : 0 ≤ (fvW f g k c).toInt ∧ (fvW f g k c).toInt ≤ 65280 := by
  have e16 : (16 : Int32).toInt = 16 := rfl
  have key : ∀ a b : Int32, (0 ≤ a.toInt ∧ a.toInt ≤ 16) → (0 ≤ b.toInt ∧ b.toInt ≤ 16) → 0 ≤ (a * b * q_ush c 24).toInt ∧ (a * b * q_ush c 24).toInt ≤ 65280 := by
    intro a b ha hb
    have hc := @ush_24 c
    have h1 : 0 ≤ a.toInt * b.toInt := Int.mul_nonneg ha.1 hb.1
    have h2 : a.toInt * b.toInt ≤ 16 * 16 := Int.mul_le_mul ha.2 hb.2 hb.1 (by decide)
    have m1 : (a * b).toInt = a.toInt * b.toInt := i_mul (by omega) (by omega)
    have h3 : 0 ≤ a.toInt * b.toInt * (q_ush c 24).toInt := Int.mul_nonneg h1 hc.1
    have h4 : a.toInt * b.toInt * (q_ush c 24).toInt ≤ 256 * 255 := Int.mul_le_mul h2 hc.2 hc.1 (by decide)
    rw [i_mul (by rw [m1]; omega) (by rw [m1]; omega), m1]
    omega
  have s1 : ∀ x : Int32, (0 ≤ x.toInt ∧ x.toInt ≤ 15) → 0 ≤ (16 - x).toInt ∧ (16 - x).toInt ≤ 16 := by
    intro x hx
    rw [i_sub (by rw [e16]; omega) (by rw [e16]; omega), e16]; omega
  unfold fvW
  refine key _ _ ?_ ?_
  · split
    · exact s1 f hf
    · omega
  · split
    · exact s1 g hg
    · omega
theorem fv_lp {w h : Nat} {B : Nat → Int32} {X Y : Int32} : ∃ t, q_lp (fvB w h B X Y) (0, 0, 0, 0, 0) = some t ∧ 0 ≤ t.1.toInt ∧ t.1.toInt ≤ 4 * 65280 := by
  refine lp_n (b := fvB w h B X Y) (fun i (t : Int32 × Int32 × Int32 × Int32 × Int32) => 0 ≤ t.1.toInt ∧ t.1.toInt ≤ i * 65280 ∧ t.2.2.2.2 = Int32.ofNat i) (fun (t : Int32 × Int32 × Int32 × Int32) => 0 ≤ t.1.toInt ∧ t.1.toInt ≤ 4 * 65280) 4 (fun i t hi hp => ?_) (fun t hp => ?_) ⟨Int.le_refl _, Int.le_refl _, rfl⟩
  · obtain ⟨a, r, gr, b, k⟩ := t
    dsimp only at hp
    obtain ⟨p1, p2, rfl⟩ := hp
    have q : ¬ (4 : Int32) ≤ Int32.ofNat i := nle (b := 4) hi (by decide)
    refine ⟨_, by unfold fvB; rw [if_neg q], ?_⟩
    dsimp only
    have hr := fvW_r (f := X &&& 15) (g := Y &&& 15) (k := Int32.ofNat i) (c := fvC w h B X Y (Int32.ofNat i)) and_15 and_15
    rw [i_add (by omega) (by omega), n_suc]
    exact ⟨by omega, by omega, rfl⟩
  · obtain ⟨a, r, gr, b, k⟩ := t
    dsimp only at hp
    obtain ⟨p1, p2, rfl⟩ := hp
    refine ⟨_, by unfold fvB; rw [if_pos (show (4 : Int32) ≤ Int32.ofNat 4 by decide)], p1, p2⟩
theorem between11 {s : e_S} {g : ps_G} {b w h l : Nat} {N : Nat → Int32} {X Y : Int32} (hw : w ≤ 24) (hh : h ≤ 24) (hL : LyN g b w h l (lR N l)) (hk : N (1169 * l + 1) = 0) : fX4_between (e_g s g) b X Y (Int32.ofNat w) (Int32.ofNat h) = some (fvV w h (pxN N l) X Y) := by
  obtain ⟨y1, y2, p, q, x0, y0, x1, yy1, pa, ma, y3, -⟩ := id hL
  have ob4 : q_ob 4 (e_g s g) b = some () := d_ob y1 y3
  have e : (fun t : Int32 × Int32 × Int32 × Int32 × Int32 => bX4_between_27 (e_g s g) b X Y (Int32.ofNat w) (Int32.ofNat h) (X &&& 15) (Y &&& 15) t.1 t.2.1 t.2.2.1 t.2.2.2.1 t.2.2.2.2) = fvB w h (pxN N l) X Y := by
    funext t
    simp (decide := true) only [bX4_between_27, fvB, ob4, own11 hw hh hL hk, fvW, fvC, ob_n, b2_n, tc_rn, tc_ln, F_sF, A_sF, R_sF, L_sF, F_sA, A_sA, R_sA, L_sA, F_sR, A_sR, R_sR, L_sR, F_sL, A_sL, R_sL, L_sL, and_true, true_and, and_false, false_and, and_self, reduceIte, sF_sF, sA_sA, false_or, or_false, true_or, or_true, not_false_eq_true, not_true_eq_false, decide_true, decide_false, Bool.true_or, Bool.or_true, Bool.false_and, Bool.true_and, Bool.false_or, Bool.or_false, Bool.and_true, Bool.and_false]
  obtain ⟨t, h1, h2, h3⟩ := fv_lp (w := w) (h := h) (B := pxN N l) (X := X) (Y := Y)
  have e0 : (0 : Int32).toInt = 0 := rfl
  unfold fX4_between fvV
  rw [e, h1, ob_s, ob_s]
  by_cases z : t.1 ≤ 0
  · simp (decide := true) only [fX11_mean, z, Option.getD_some, ob_n, b2_n, tc_rn, tc_ln, F_sF, A_sF, R_sF, L_sF, F_sA, A_sA, R_sA, L_sA, F_sR, A_sR, R_sR, L_sR, F_sL, A_sL, R_sL, L_sL, and_true, true_and, and_false, false_and, and_self, reduceIte, sF_sF, sA_sA, false_or, or_false, true_or, or_true, not_false_eq_true, not_true_eq_false, decide_true, decide_false, Bool.true_or, Bool.or_true, Bool.false_and, Bool.true_and, Bool.false_or, Bool.or_false, Bool.and_true, Bool.and_false]
  · have z1 : ¬ t.1 = 0 := by
      intro q; apply z; rw [q]; decide
    simp (decide := true) only [fX11_mean, z, z1, q_div, ob_n, b2_n, tc_rn, tc_ln, F_sF, A_sF, R_sF, L_sF, F_sA, A_sA, R_sA, L_sA, F_sR, A_sR, R_sR, L_sR, F_sL, A_sL, R_sL, L_sL, and_true, true_and, and_false, false_and, and_self, reduceIte, sF_sF, sA_sA, false_or, or_false, true_or, or_true, not_false_eq_true, not_true_eq_false, decide_true, decide_false, Bool.true_or, Bool.or_true, Bool.false_and, Bool.true_and, Bool.false_or, Bool.or_false, Bool.and_true, Bool.and_false]
    rfl
theorem four12 {s : e_S} {g : ps_G} {w h : Nat} {X Y : Int32} (hw : w ≤ 24) (hh : h ≤ 24) (e1 : s.1 139 13 = Int32.ofNat w) (e2 : s.1 139 14 = Int32.ofNat h) : fX12_four (e_g s g) 139 X Y = some (fvV w h (s.2.1 158) X Y) := by
  have e : q_lp (fun t : Int32 × Int32 × Int32 × Int32 × Int32 => bX12_four_26 (e_g s g) 139 X Y (X &&& 15) (Y &&& 15) t.1 t.2.1 t.2.2.1 t.2.2.2.1 t.2.2.2.2) (0, 0, 0, 0, 0) = q_lp (fvB w h (s.2.1 158) X Y) (0, 0, 0, 0, 0) := by
    refine lp_eqI (fun t => t.2.2.2.2 = 0 ∨ t.2.2.2.2 = 1 ∨ t.2.2.2.2 = 2 ∨ t.2.2.2.2 = 3 ∨ t.2.2.2.2 = 4) ?_ ?_ (Or.inl rfl)
    · rintro ⟨a, r, gr, b, k⟩ hk
      dsimp only at hk
      have d : ∀ c, fX12_part c 0 = fX11_red c ∧ fX12_part c 1 = fX11_green c ∧ fX12_part c 2 = fX11_blue c := fun c => by
        refine ⟨?_, ?_, ?_⟩ <;> simp (decide := true) only [fX12_part, fX11_red, fX11_green, fX11_blue, shr_0, reduceIte, z_160, z_161, z_162, z_163, z_168, z_88, z_08, z_01, z_11, z_21, z_31]
      have r0 : q_rem 0 2 = 0 := by decide
      have r1 : q_rem 1 2 = 1 := by decide
      have r2 : q_rem 2 2 = 0 := by decide
      have r3 : q_rem 3 2 = 1 := by decide
      have s0 : q_shr 0 1 = 0 := by decide
      have s1 : q_shr 1 1 = 0 := by decide
      have s2 : q_shr 2 1 = 1 := by decide
      have s3 : q_shr 3 1 = 1 := by decide
      have u0 : (0 : Int32) / 2 = 0 := by decide
      have u1 : (1 : Int32) / 2 = 0 := by decide
      have u2 : (2 : Int32) / 2 = 1 := by decide
      have u3 : (3 : Int32) / 2 = 1 := by decide
      have v0 : (0 : Int32) &&& 1 = 0 := by decide
      have v1 : (1 : Int32) &&& 1 = 1 := by decide
      have v2 : (2 : Int32) &&& 1 = 0 := by decide
      have v3 : (3 : Int32) &&& 1 = 1 := by decide
      rcases hk with rfl | rfl | rfl | rfl | rfl
      · simp (decide := true) only [bX12_four_26, fvB, ob139, before12 hw hh e1 e2, fvW, fvC, fX12_alpha, d, r0, s0, u0, v0, ob_n, b2_n, tc_rn, tc_ln, F_sF, A_sF, R_sF, L_sF, F_sA, A_sA, R_sA, L_sA, F_sR, A_sR, R_sR, L_sR, F_sL, A_sL, R_sL, L_sL, and_true, true_and, and_false, false_and, and_self, reduceIte, sF_sF, sA_sA, false_or, or_false, true_or, or_true, not_false_eq_true, not_true_eq_false, decide_true, decide_false, Bool.true_or, Bool.or_true, Bool.false_and, Bool.true_and, Bool.false_or, Bool.or_false, Bool.and_true, Bool.and_false]
      · simp (decide := true) only [bX12_four_26, fvB, ob139, before12 hw hh e1 e2, fvW, fvC, fX12_alpha, d, r1, s1, u1, v1, ob_n, b2_n, tc_rn, tc_ln, F_sF, A_sF, R_sF, L_sF, F_sA, A_sA, R_sA, L_sA, F_sR, A_sR, R_sR, L_sR, F_sL, A_sL, R_sL, L_sL, and_true, true_and, and_false, false_and, and_self, reduceIte, sF_sF, sA_sA, false_or, or_false, true_or, or_true, not_false_eq_true, not_true_eq_false, decide_true, decide_false, Bool.true_or, Bool.or_true, Bool.false_and, Bool.true_and, Bool.false_or, Bool.or_false, Bool.and_true, Bool.and_false]
      · simp (decide := true) only [bX12_four_26, fvB, ob139, before12 hw hh e1 e2, fvW, fvC, fX12_alpha, d, r2, s2, u2, v2, ob_n, b2_n, tc_rn, tc_ln, F_sF, A_sF, R_sF, L_sF, F_sA, A_sA, R_sA, L_sA, F_sR, A_sR, R_sR, L_sR, F_sL, A_sL, R_sL, L_sL, and_true, true_and, and_false, false_and, and_self, reduceIte, sF_sF, sA_sA, false_or, or_false, true_or, or_true, not_false_eq_true, not_true_eq_false, decide_true, decide_false, Bool.true_or, Bool.or_true, Bool.false_and, Bool.true_and, Bool.false_or, Bool.or_false, Bool.and_true, Bool.and_false]
      · simp (decide := true) only [bX12_four_26, fvB, ob139, before12 hw hh e1 e2, fvW, fvC, fX12_alpha, d, r3, s3, u3, v3, ob_n, b2_n, tc_rn, tc_ln, F_sF, A_sF, R_sF, L_sF, F_sA, A_sA, R_sA, L_sA, F_sR, A_sR, R_sR, L_sR, F_sL, A_sL, R_sL, L_sL, and_true, true_and, and_false, false_and, and_self, reduceIte, sF_sF, sA_sA, false_or, or_false, true_or, or_true, not_false_eq_true, not_true_eq_false, decide_true, decide_false, Bool.true_or, Bool.or_true, Bool.false_and, Bool.true_and, Bool.false_or, Bool.or_false, Bool.and_true, Bool.and_false]
      · simp (decide := true) only [bX12_four_26, fvB, ob_n, b2_n, tc_rn, tc_ln, F_sF, A_sF, R_sF, L_sF, F_sA, A_sA, R_sA, L_sA, F_sR, A_sR, R_sR, L_sR, F_sL, A_sL, R_sL, L_sL, and_true, true_and, and_false, false_and, and_self, reduceIte, sF_sF, sA_sA, false_or, or_false, true_or, or_true, not_false_eq_true, not_true_eq_false, decide_true, decide_false, Bool.true_or, Bool.or_true, Bool.false_and, Bool.true_and, Bool.false_or, Bool.or_false, Bool.and_true, Bool.and_false]
    · rintro ⟨a, r, gr, b, k⟩ t' hk hb
      dsimp only at hk hb
      unfold bX12_four_26 at hb
      by_cases h3 : (4 : Int32) ≤ k
      · rw [if_pos h3] at hb; cases hb
      · rw [if_neg h3] at hb
        obtain ⟨v, -, hb⟩ := q_be hb
        obtain ⟨u, -, hb⟩ := q_be hb
        cases hb
        rcases hk with rfl | rfl | rfl | rfl | rfl
        · exact Or.inr (Or.inl rfl)
        · exact Or.inr (Or.inr (Or.inl rfl))
        · exact Or.inr (Or.inr (Or.inr (Or.inl rfl)))
        · exact Or.inr (Or.inr (Or.inr (Or.inr rfl)))
        · exact absurd (by decide) h3
  obtain ⟨t, h1, h2, h3⟩ := fv_lp (w := w) (h := h) (B := s.2.1 158) (X := X) (Y := Y)
  have e0 : (0 : Int32).toInt = 0 := rfl
  unfold fX12_four fvV
  rw [e, h1, ob_s, ob_s]
  by_cases z : t.1 = 0
  · simp (decide := true) only [fX11_mean, z, jX12_four_201, Option.getD_some, ob_n, b2_n, tc_rn, tc_ln, F_sF, A_sF, R_sF, L_sF, F_sA, A_sA, R_sA, L_sA, F_sR, A_sR, R_sR, L_sR, F_sL, A_sL, R_sL, L_sL, and_true, true_and, and_false, false_and, and_self, reduceIte, sF_sF, sA_sA, false_or, or_false, true_or, or_true, not_false_eq_true, not_true_eq_false, decide_true, decide_false, Bool.true_or, Bool.or_true, Bool.false_and, Bool.true_and, Bool.false_or, Bool.or_false, Bool.and_true, Bool.and_false]
  · have z1 : ¬ t.1 ≤ 0 := by
      intro q; apply z
      rw [i_le, e0] at q; rw [i_eq, e0]; omega
    have e8 : (128 : Int32).toInt = 128 := rfl
    have e256 : (256 : Int32).toInt = 256 := rfl
    have ea : (t.1 + 128).toInt = t.1.toInt + 128 := by rw [i_add (by rw [e8]; omega) (by rw [e8]; omega), e8]
    have ed : q_shr (t.1 + 128) 8 = (t.1 + 128) / 256 := by
      rw [i_eq, shr_k (n := 8) (by decide), i_divp (by rw [ea]; omega) (by rw [e256]; omega), ea, e256]
      rfl
    have e2 : (256 : Int32) / 2 = 128 := by decide
    simp (decide := true) only [fX11_mean, z, z1, q_div, jX12_four_201, ed, e2, fX12_colour, ob_n, b2_n, tc_rn, tc_ln, F_sF, A_sF, R_sF, L_sF, F_sA, A_sA, R_sA, L_sA, F_sR, A_sR, R_sR, L_sR, F_sL, A_sL, R_sL, L_sL, and_true, true_and, and_false, false_and, and_self, reduceIte, sF_sF, sA_sA, false_or, or_false, true_or, or_true, not_false_eq_true, not_true_eq_false, decide_true, decide_false, Bool.true_or, Bool.or_true, Bool.false_and, Bool.true_and, Bool.false_or, Bool.or_false, Bool.and_true, Bool.and_false]
    rfl
/-- scale's pixel k -/
noncomputable def scV (n d sm : Int32) (w h : Nat) (B : Nat → Int32) (k : Nat) : Int32 := if sm = 0 then bAt w h B ((2 * Int32.ofNat (k % w) + 1) * d / (2 * n)) ((2 * Int32.ofNat (k / w) + 1) * d / (2 * n)) else fvV w h B ((2 * Int32.ofNat (k % w) + 1) * d * 8 / n - 8) ((2 * Int32.ofNat (k / w) + 1) * d * 8 / n - 8)
theorem scV_c {n d sm : Int32} {w h k : Nat} {B B' : Nat → Int32} (e : ∀ k, k < w * h → B k = B' k) : scV n d sm w h B k = scV n d sm w h B' k := by
  unfold scV
  rw [bAt_c e, fvV_c e]
theorem nz_16 {n : Int32} (hn : rg n 1 16) : ¬ n = 0 ∧ ¬ 2 * n = 0 := by
  have e1 : (1 : Int32).toInt = 1 := rfl
  have e16 : (16 : Int32).toInt = 16 := rfl
  have e2 : (2 : Int32).toInt = 2 := rfl
  have e0 : (0 : Int32).toInt = 0 := rfl
  rw [rg_i, e1, e16] at hn
  rw [i_eq, i_eq, i_mul (by rw [e2]; omega) (by rw [e2]; omega), e2, e0]
  omega
theorem scale11l {s : e_S} {g : ps_G} {b w h l : Nat} {N : Nat → Int32} {n d sm : Int32} (hg : 195 ≤ g.1) (hw : w ≤ 24) (hh : h ≤ 24) (hL : LyN g b w h l (lR N l)) (hk : N (1169 * l + 1) = 0) (hn : rg n 1 16) (f0 : Nat → Int32) : q_lp (fun t => bX11_scale_49 8 n d sm (some b) (Int32.ofNat w) (Int32.ofNat h) g.1 t.1 t.2) ((0 : Int32), e_g s (mkA g f0)) = some (e_g s (mkA g (cpT f0 (scV n d sm w h (pxN N l)) 0 (h * w)))) := by
  have hwh := wh_le hw hh
  obtain ⟨n0, n2⟩ := nz_16 hn
  refine fill1 (fun f => e_g s (mkA g f)) 0 w h (scV n d sm w h (pxN N l)) f0 (bI := fun y t => bX11_scale_59 8 n d sm (some b) (Int32.ofNat w) (Int32.ofNat h) g.1 y t.1 t.2) (fun f y x hy hx _ => ?_) (fun f y hy => ?_) (fun f y hy => ?_) (fun f => ?_)
  · have hlt := at_lt hx hy
    have hL2 := lyN_ext (ext_mkA (f := f)) hL
    obtain ⟨y1, y2, p, q, x0, y0, x1, yy1, pa, ma, y3, -⟩ := id hL2
    have ob4 : q_ob 4 (e_g s (mkA g f)) b = some () := d_ob y1 y3
    have m1 := (md (y := y) hx).1
    have m2 := (md (y := y) hx).2
    by_cases hs : sm = 0
    · have v : scV n d sm w h (pxN N l) (y * w + x) = bAt w h (pxN N l) ((2 * Int32.ofNat x + 1) * d / (2 * n)) ((2 * Int32.ofNat y + 1) * d / (2 * n)) := by unfold scV; rw [if_pos hs, m1, m2]
      simp (decide := true) only [bX11_scale_59, jX11_scale_158_59, nle hx (by omega), hs, q_div, n2, ob4, own11 hw hh hL2 hk, wI_mk hg, n_mul, n_add, n_in2 (show y * w + x < 576 by omega) (by decide), n_idx (show y * w + x < 2147483648 by omega), n_suc, Nat.zero_add, ob_n, b2_n, tc_rn, tc_ln, F_sF, A_sF, R_sF, L_sF, F_sA, A_sA, R_sA, L_sA, F_sR, A_sR, R_sR, L_sR, F_sL, A_sL, R_sL, L_sL, and_true, true_and, and_false, false_and, and_self, reduceIte, sF_sF, sA_sA, false_or, or_false, true_or, or_true, not_false_eq_true, not_true_eq_false, decide_true, decide_false, Bool.true_or, Bool.or_true, Bool.false_and, Bool.true_and, Bool.false_or, Bool.or_false, Bool.and_true, Bool.and_false]
      rw [← v, hs]
    · have v : scV n d sm w h (pxN N l) (y * w + x) = fvV w h (pxN N l) ((2 * Int32.ofNat x + 1) * d * 8 / n - 8) ((2 * Int32.ofNat y + 1) * d * 8 / n - 8) := by unfold scV; rw [if_neg hs, m1, m2]
      simp (decide := true) only [bX11_scale_59, jX11_scale_158_59, nle hx (by omega), hs, q_div, n0, ob4, between11 hw hh hL2 hk, wI_mk hg, n_mul, n_add, n_in2 (show y * w + x < 576 by omega) (by decide), n_idx (show y * w + x < 2147483648 by omega), n_suc, v, Nat.zero_add, ob_n, b2_n, tc_rn, tc_ln, F_sF, A_sF, R_sF, L_sF, F_sA, A_sA, R_sA, L_sA, F_sR, A_sR, R_sR, L_sR, F_sL, A_sL, R_sL, L_sL, and_true, true_and, and_false, false_and, and_self, reduceIte, sF_sF, sA_sA, false_or, or_false, true_or, or_true, not_false_eq_true, not_true_eq_false, decide_true, decide_false, Bool.true_or, Bool.or_true, Bool.false_and, Bool.true_and, Bool.false_or, Bool.or_false, Bool.and_true, Bool.and_false]
  · simp (decide := true) only [bX11_scale_59, nlr (show w < 2147483648 by omega), ob_n, b2_n, tc_rn, tc_ln, F_sF, A_sF, R_sF, L_sF, F_sA, A_sA, R_sA, L_sA, F_sR, A_sR, R_sR, L_sR, F_sL, A_sL, R_sL, L_sL, and_true, true_and, and_false, false_and, and_self, reduceIte, sF_sF, sA_sA, false_or, or_false, true_or, or_true, not_false_eq_true, not_true_eq_false, decide_true, decide_false, Bool.true_or, Bool.or_true, Bool.false_and, Bool.true_and, Bool.false_or, Bool.or_false, Bool.and_true, Bool.and_false]
  · simp (decide := true) only [bX11_scale_49, nle hy (by omega), ob_n, b2_n, tc_rn, tc_ln, F_sF, A_sF, R_sF, L_sF, F_sA, A_sA, R_sA, L_sA, F_sR, A_sR, R_sR, L_sR, F_sL, A_sL, R_sL, L_sL, and_true, true_and, and_false, false_and, and_self, reduceIte, sF_sF, sA_sA, false_or, or_false, true_or, or_true, not_false_eq_true, not_true_eq_false, decide_true, decide_false, Bool.true_or, Bool.or_true, Bool.false_and, Bool.true_and, Bool.false_or, Bool.or_false, Bool.and_true, Bool.and_false]
  · simp (decide := true) only [bX11_scale_49, nlr (show h < 2147483648 by omega), ob_n, b2_n, tc_rn, tc_ln, F_sF, A_sF, R_sF, L_sF, F_sA, A_sA, R_sA, L_sA, F_sR, A_sR, R_sR, L_sR, F_sL, A_sL, R_sL, L_sL, and_true, true_and, and_false, false_and, and_self, reduceIte, sF_sF, sA_sA, false_or, or_false, true_or, or_true, not_false_eq_true, not_true_eq_false, decide_true, decide_false, Bool.true_or, Bool.or_true, Bool.false_and, Bool.true_and, Bool.false_or, Bool.or_false, Bool.and_true, Bool.and_false]
theorem scale12l {s : e_S} {g : ps_G} {w h l : Nat} {n d sm : Int32} (hw : w ≤ 24) (hh : h ≤ 24) (e1 : s.1 139 13 = Int32.ofNat w) (e2 : s.1 139 14 = Int32.ofNat h) (hl : l < 30) (hn : rg n 1 16) : q_lp (fun t => bX12_scale_50 139 (Int32.ofNat l) n d sm t.1 t.2) ((0 : Int32), e_g s g) = some (e_g (sA s 142 (cpT (s.2.1 142) (scV n d sm w h (s.2.1 158)) (1169 * l + 17) (h * w))) g) := by
  have hwh := wh_le hw hh
  obtain ⟨n0, n2⟩ := nz_16 hn
  have key := fill1 (fun f => e_g (sA s 142 f) g) (1169 * l + 17) w h (scV n d sm w h (s.2.1 158)) (s.2.1 142) (bI := fun y t => bX12_scale_62 139 (Int32.ofNat l) n d sm y t.1 t.2) (bO := fun t => bX12_scale_50 139 (Int32.ofNat l) n d sm t.1 t.2) (fun f y x hy hx _ => ?_) (fun f y hy => ?_) (fun f y hy => ?_) (fun f => ?_)
  · rw [sA_id] at key
    exact key
  · have hlt := at_lt hx hy
    have q1 : (sA s 142 f).1 139 13 = Int32.ofNat w := by simp (decide := true) only [ob_n, b2_n, tc_rn, tc_ln, F_sF, A_sF, R_sF, L_sF, F_sA, A_sA, R_sA, L_sA, F_sR, A_sR, R_sR, L_sR, F_sL, A_sL, R_sL, L_sL, and_true, true_and, and_false, false_and, and_self, reduceIte, sF_sF, sA_sA, false_or, or_false, true_or, or_true, not_false_eq_true, not_true_eq_false, decide_true, decide_false, Bool.true_or, Bool.or_true, Bool.false_and, Bool.true_and, Bool.false_or, Bool.or_false, Bool.and_true, Bool.and_false, e1]
    have q2 : (sA s 142 f).1 139 14 = Int32.ofNat h := by simp (decide := true) only [ob_n, b2_n, tc_rn, tc_ln, F_sF, A_sF, R_sF, L_sF, F_sA, A_sA, R_sA, L_sA, F_sR, A_sR, R_sR, L_sR, F_sL, A_sL, R_sL, L_sL, and_true, true_and, and_false, false_and, and_self, reduceIte, sF_sF, sA_sA, false_or, or_false, true_or, or_true, not_false_eq_true, not_true_eq_false, decide_true, decide_false, Bool.true_or, Bool.or_true, Bool.false_and, Bool.true_and, Bool.false_or, Bool.or_false, Bool.and_true, Bool.and_false, e2]
    have q8 : (sA s 142 f).2.1 158 = s.2.1 158 := by simp (decide := true) only [ob_n, b2_n, tc_rn, tc_ln, F_sF, A_sF, R_sF, L_sF, F_sA, A_sA, R_sA, L_sA, F_sR, A_sR, R_sR, L_sR, F_sL, A_sL, R_sL, L_sL, and_true, true_and, and_false, false_and, and_self, reduceIte, sF_sF, sA_sA, false_or, or_false, true_or, or_true, not_false_eq_true, not_true_eq_false, decide_true, decide_false, Bool.true_or, Bool.or_true, Bool.false_and, Bool.true_and, Bool.false_or, Bool.or_false, Bool.and_true, Bool.and_false]
    have m1 := (md (y := y) hx).1
    have m2 := (md (y := y) hx).2
    have pp := fun v => put12n (s := sA s 142 f) (g := g) (v := v) hl (show y * w + x < 576 by omega)
    have bf := fun X Y => before12 (s := sA s 142 f) (g := g) (x := X) (y := Y) hw hh q1 q2
    have fo := fun X Y => four12 (s := sA s 142 f) (g := g) (X := X) (Y := Y) hw hh q1 q2
    rw [q8] at bf fo
    by_cases hs : sm = 0
    · have v : scV n d sm w h (s.2.1 158) (y * w + x) = bAt w h (s.2.1 158) ((2 * Int32.ofNat x + 1) * d / (2 * n)) ((2 * Int32.ofNat y + 1) * d / (2 * n)) := by unfold scV; rw [if_pos hs, m1, m2]
      simp (decide := true) only [bX12_scale_62, jX12_scale_143_62, f139_13, ob139, e1, nle hx (by omega), hs, q_div, n2, bf, at12n q1, pp, n_suc, ob_n, b2_n, tc_rn, tc_ln, F_sF, A_sF, R_sF, L_sF, F_sA, A_sA, R_sA, L_sA, F_sR, A_sR, R_sR, L_sR, F_sL, A_sL, R_sL, L_sL, and_true, true_and, and_false, false_and, and_self, reduceIte, sF_sF, sA_sA, false_or, or_false, true_or, or_true, not_false_eq_true, not_true_eq_false, decide_true, decide_false, Bool.true_or, Bool.or_true, Bool.false_and, Bool.true_and, Bool.false_or, Bool.or_false, Bool.and_true, Bool.and_false]
      rw [← v, hs]
    · have v : scV n d sm w h (s.2.1 158) (y * w + x) = fvV w h (s.2.1 158) ((2 * Int32.ofNat x + 1) * d * 8 / n - 8) ((2 * Int32.ofNat y + 1) * d * 8 / n - 8) := by unfold scV; rw [if_neg hs, m1, m2]
      simp (decide := true) only [bX12_scale_62, jX12_scale_143_62, f139_13, ob139, e1, nle hx (by omega), hs, q_div, n0, fo, at12n q1, pp, n_suc, v, ob_n, b2_n, tc_rn, tc_ln, F_sF, A_sF, R_sF, L_sF, F_sA, A_sA, R_sA, L_sA, F_sR, A_sR, R_sR, L_sR, F_sL, A_sL, R_sL, L_sL, and_true, true_and, and_false, false_and, and_self, reduceIte, sF_sF, sA_sA, false_or, or_false, true_or, or_true, not_false_eq_true, not_true_eq_false, decide_true, decide_false, Bool.true_or, Bool.or_true, Bool.false_and, Bool.true_and, Bool.false_or, Bool.or_false, Bool.and_true, Bool.and_false]
  · simp (decide := true) only [bX12_scale_62, f139_13, e1, nlr (show w < 2147483648 by omega), ob_n, b2_n, tc_rn, tc_ln, F_sF, A_sF, R_sF, L_sF, F_sA, A_sA, R_sA, L_sA, F_sR, A_sR, R_sR, L_sR, F_sL, A_sL, R_sL, L_sL, and_true, true_and, and_false, false_and, and_self, reduceIte, sF_sF, sA_sA, false_or, or_false, true_or, or_true, not_false_eq_true, not_true_eq_false, decide_true, decide_false, Bool.true_or, Bool.or_true, Bool.false_and, Bool.true_and, Bool.false_or, Bool.or_false, Bool.and_true, Bool.and_false]
  · simp (decide := true) only [bX12_scale_50, f139_14, e2, nle hy (by omega), ob_n, b2_n, tc_rn, tc_ln, F_sF, A_sF, R_sF, L_sF, F_sA, A_sA, R_sA, L_sA, F_sR, A_sR, R_sR, L_sR, F_sL, A_sL, R_sL, L_sL, and_true, true_and, and_false, false_and, and_self, reduceIte, sF_sF, sA_sA, false_or, or_false, true_or, or_true, not_false_eq_true, not_true_eq_false, decide_true, decide_false, Bool.true_or, Bool.or_true, Bool.false_and, Bool.true_and, Bool.false_or, Bool.or_false, Bool.and_true, Bool.and_false]
  · simp (decide := true) only [bX12_scale_50, f139_14, e2, nlr (show h < 2147483648 by omega), ob_n, b2_n, tc_rn, tc_ln, F_sF, A_sF, R_sF, L_sF, F_sA, A_sA, R_sA, L_sA, F_sR, A_sR, R_sR, L_sR, F_sL, A_sL, R_sL, L_sL, and_true, true_and, and_false, false_and, and_self, reduceIte, sF_sF, sA_sA, false_or, or_false, true_or, or_true, not_false_eq_true, not_true_eq_false, decide_true, decide_false, Bool.true_or, Bool.or_true, Bool.false_and, Bool.true_and, Bool.false_or, Bool.or_false, Bool.and_true, Bool.and_false]
theorem scale12 {s : e_S} {g : ps_G} {x n d sm : Int32} {st pc w h : Nat} (h1 : st < 25) (h2 : pc ≤ 24) (e1 : s.1 139 10 = Int32.ofNat st) (e2 : s.1 139 11 = Int32.ofNat pc) (hw : w ≤ 24) (hh : h ≤ 24) (e3 : s.1 139 13 = Int32.ofNat w) (e4 : s.1 139 14 = Int32.ofNat h) : fX12_scale (e_g s g) 139 x n d sm = if (rg n 1 16 && rg d 1 16) = false ∨ (isL (s.2.1 142) x = true ∧ ¬ s.2.1 142 (1169 * x.toInt.toNat + 1) = 0) then some (e_g (sF s 139 0 1) g) else if isL (s.2.1 142) x then some (e_g (pxM s x.toInt.toNat st pc (h * w) (scV n d sm w h (pxN (s.2.1 142) x.toInt.toNat))) g) else some (e_g (sF s 139 0 2) g) := by
  have hwh := wh_le hw hh
  have wy := why12 (s := s) (g := g) (x := x) (b := rg n 1 16 && rg d 1 16)
  have ed := fun s' q1 q2 => edited12 (s := s') (g := g) h1 h2 q1 q2
  have go : fX12_scale (e_g s g) 139 x n d sm = jX12_scale_28 (e_g s g) 139 x n d sm 139 139 x (if (rg n 1 16 && rg d 1 16) then 1 else 0) := by
    by_cases a : rg n 1 16 = true
    · by_cases b : rg d 1 16 = true <;> simp (decide := true) only [fX12_scale, jX12_scale_27, rin, a, b, ob_n, b2_n, tc_rn, tc_ln, F_sF, A_sF, R_sF, L_sF, F_sA, A_sA, R_sA, L_sA, F_sR, A_sR, R_sR, L_sR, F_sL, A_sL, R_sL, L_sL, and_true, true_and, and_false, false_and, and_self, reduceIte, sF_sF, sA_sA, false_or, or_false, true_or, or_true, not_false_eq_true, not_true_eq_false, decide_true, decide_false, Bool.true_or, Bool.or_true, Bool.false_and, Bool.true_and, Bool.false_or, Bool.or_false, Bool.and_true, Bool.and_false]
    · simp (decide := true) only [fX12_scale, jX12_scale_27, rin, a, ob_n, b2_n, tc_rn, tc_ln, F_sF, A_sF, R_sF, L_sF, F_sA, A_sA, R_sA, L_sA, F_sR, A_sR, R_sR, L_sR, F_sL, A_sL, R_sL, L_sL, and_true, true_and, and_false, false_and, and_self, reduceIte, sF_sF, sA_sA, false_or, or_false, true_or, or_true, not_false_eq_true, not_true_eq_false, decide_true, decide_false, Bool.true_or, Bool.or_true, Bool.false_and, Bool.true_and, Bool.false_or, Bool.or_false, Bool.and_true, Bool.and_false]
  rw [go]
  by_cases q1 : (rg n 1 16 && rg d 1 16) = false ∨ (isL (s.2.1 142) x = true ∧ ¬ s.2.1 142 (1169 * x.toInt.toNat + 1) = 0)
  · rw [if_pos q1] at wy ⊢
    simp (decide := true) only [jX12_scale_28, ob139, wy, w139_0, f139_0, ob_n, b2_n, tc_rn, tc_ln, F_sF, A_sF, R_sF, L_sF, F_sA, A_sA, R_sA, L_sA, F_sR, A_sR, R_sR, L_sR, F_sL, A_sL, R_sL, L_sL, and_true, true_and, and_false, false_and, and_self, reduceIte, sF_sF, sA_sA, false_or, or_false, true_or, or_true, not_false_eq_true, not_true_eq_false, decide_true, decide_false, Bool.true_or, Bool.or_true, Bool.false_and, Bool.true_and, Bool.false_or, Bool.or_false, Bool.and_true, Bool.and_false]
  · rw [if_neg q1] at wy ⊢
    have q2 : rg n 1 16 = true := by cases e : rg n 1 16 with
      | true => rfl
      | false => exact absurd (Or.inl (by rw [e]; rfl)) q1
    by_cases hx : isL (s.2.1 142) x
    · rw [if_pos hx] at wy ⊢
      obtain ⟨l, rfl, hl, hl1⟩ := isL_n hx
      rw [n_int (by omega), Int.toNat_natCast]
      have lp := fun s' => scale12l (s := s') (g := g) (l := l) (n := n) (d := d) (sm := sm) hw hh
      simp (decide := true) only [jX12_scale_28, ob139, wy, w139_0, f139_0, begin12 hl, ob_n, b2_n, tc_rn, tc_ln, F_sF, A_sF, R_sF, L_sF, F_sA, A_sA, R_sA, L_sA, F_sR, A_sR, R_sR, L_sR, F_sL, A_sL, R_sL, L_sL, and_true, true_and, and_false, false_and, and_self, reduceIte, sF_sF, sA_sA, false_or, or_false, true_or, or_true, not_false_eq_true, not_true_eq_false, decide_true, decide_false, Bool.true_or, Bool.or_true, Bool.false_and, Bool.true_and, Bool.false_or, Bool.or_false, Bool.and_true, Bool.and_false]
      rw [lp _ (by simp (decide := true) only [ob_n, b2_n, tc_rn, tc_ln, F_sF, A_sF, R_sF, L_sF, F_sA, A_sA, R_sA, L_sA, F_sR, A_sR, R_sR, L_sR, F_sL, A_sL, R_sL, L_sL, and_true, true_and, and_false, false_and, and_self, reduceIte, sF_sF, sA_sA, false_or, or_false, true_or, or_true, not_false_eq_true, not_true_eq_false, decide_true, decide_false, Bool.true_or, Bool.or_true, Bool.false_and, Bool.true_and, Bool.false_or, Bool.or_false, Bool.and_true, Bool.and_false, e3]) (by simp (decide := true) only [ob_n, b2_n, tc_rn, tc_ln, F_sF, A_sF, R_sF, L_sF, F_sA, A_sA, R_sA, L_sA, F_sR, A_sR, R_sR, L_sR, F_sL, A_sL, R_sL, L_sL, and_true, true_and, and_false, false_and, and_self, reduceIte, sF_sF, sA_sA, false_or, or_false, true_or, or_true, not_false_eq_true, not_true_eq_false, decide_true, decide_false, Bool.true_or, Bool.or_true, Bool.false_and, Bool.true_and, Bool.false_or, Bool.or_false, Bool.and_true, Bool.and_false, e4]) hl q2]
      simp (decide := true) only [ob_n, b2_n, tc_rn, tc_ln, F_sF, A_sF, R_sF, L_sF, F_sA, A_sA, R_sA, L_sA, F_sR, A_sR, R_sR, L_sR, F_sL, A_sL, R_sL, L_sL, and_true, true_and, and_false, false_and, and_self, reduceIte, sF_sF, sA_sA, false_or, or_false, true_or, or_true, not_false_eq_true, not_true_eq_false, decide_true, decide_false, Bool.true_or, Bool.or_true, Bool.false_and, Bool.true_and, Bool.false_or, Bool.or_false, Bool.and_true, Bool.and_false, ob139]
      rw [ed _ (by simp (decide := true) only [ob_n, b2_n, tc_rn, tc_ln, F_sF, A_sF, R_sF, L_sF, F_sA, A_sA, R_sA, L_sA, F_sR, A_sR, R_sR, L_sR, F_sL, A_sL, R_sL, L_sL, and_true, true_and, and_false, false_and, and_self, reduceIte, sF_sF, sA_sA, false_or, or_false, true_or, or_true, not_false_eq_true, not_true_eq_false, decide_true, decide_false, Bool.true_or, Bool.or_true, Bool.false_and, Bool.true_and, Bool.false_or, Bool.or_false, Bool.and_true, Bool.and_false, e1]) (by simp (decide := true) only [ob_n, b2_n, tc_rn, tc_ln, F_sF, A_sF, R_sF, L_sF, F_sA, A_sA, R_sA, L_sA, F_sR, A_sR, R_sR, L_sR, F_sL, A_sL, R_sL, L_sL, and_true, true_and, and_false, false_and, and_self, reduceIte, sF_sF, sA_sA, false_or, or_false, true_or, or_true, not_false_eq_true, not_true_eq_false, decide_true, decide_false, Bool.true_or, Bool.or_true, Bool.false_and, Bool.true_and, Bool.false_or, Bool.or_false, Bool.and_true, Bool.and_false, e2])]
      have ec : cpT (s.2.1 142) (scV n d sm w h (cpT (s.2.1 158) (pxN (s.2.1 142) l) 0 576)) (1169 * l + 17) (h * w) = cpT (s.2.1 142) (scV n d sm w h (pxN (s.2.1 142) l)) (1169 * l + 17) (h * w) := by
        refine cpT_cong (fun k hk => scV_c (fun i hi => ?_))
        have := cpT_in (A := s.2.1 158) (N := pxN (s.2.1 142) l) (b := 0) (n := 576) (k := i) (by omega)
        rw [Nat.zero_add] at this
        exact this
      simp (decide := true) only [ob_n, b2_n, tc_rn, tc_ln, F_sF, A_sF, R_sF, L_sF, F_sA, A_sA, R_sA, L_sA, F_sR, A_sR, R_sR, L_sR, F_sL, A_sL, R_sL, L_sL, and_true, true_and, and_false, false_and, and_self, reduceIte, sF_sF, sA_sA, false_or, or_false, true_or, or_true, not_false_eq_true, not_true_eq_false, decide_true, decide_false, Bool.true_or, Bool.or_true, Bool.false_and, Bool.true_and, Bool.false_or, Bool.or_false, Bool.and_true, Bool.and_false, ob139, forget12, fg12, pxM, ec]
    · rw [if_neg hx] at wy ⊢
      simp (decide := true) only [jX12_scale_28, ob139, wy, w139_0, f139_0, ob_n, b2_n, tc_rn, tc_ln, F_sF, A_sF, R_sF, L_sF, F_sA, A_sA, R_sA, L_sA, F_sR, A_sR, R_sR, L_sR, F_sL, A_sL, R_sL, L_sL, and_true, true_and, and_false, false_and, and_self, reduceIte, sF_sF, sA_sA, false_or, or_false, true_or, or_true, not_false_eq_true, not_true_eq_false, decide_true, decide_false, Bool.true_or, Bool.or_true, Bool.false_and, Bool.true_and, Bool.false_or, Bool.or_false, Bool.and_true, Bool.and_false]
theorem K_scale {s : e_S} {g : ps_G} {x n d sm : Int32} (hR : Rel s g) : KV (fL_scale (e_g s g) 8 x n d sm) (fun G => fX12_scale G 139 x n d sm) g := by
  have hg := rel_g hR
  obtain ⟨h1, h2, h3, h4, h5, h6, ⟨w, h, h7, h8, h9⟩, h10, h11⟩ := id hR
  obtain ⟨a, st, pc, uc, f1, f2, f3, f4, f5, f6, f7, f8, f9, f10, f11, f12⟩ := h9
  obtain ⟨d1, d2, d3, d4, d5, d6, d7, d8, d9⟩ := id h7
  have hwh := wh_le d2 d4
  obtain ⟨s0, s1, -, -⟩ := stW (s := s) f9
  have hm0 := fun s' g e1 e2 e3 e4 => scale12 (s := s') (g := g) (x := x) (n := n) (d := d) (sm := sm) f1 (show pc ≤ 24 by omega) e1 e2 d2 d4 e3 e4
  by_cases qn : rg n 1 16
  · by_cases qd : rg d 1 16
    · have qq : (rg n 1 16 && rg d 1 16) = true := by rw [qn, qd]; rfl
      rcases knownPix11 (x := x) hg f3 f9 with ⟨k1, k2⟩ | ⟨l, b, rfl, hl, k1, k3, hLy, ⟨k4, k2⟩ | ⟨k4, k2⟩⟩
      · refine KV_no (E := "java/util/NoSuchElementException") (y := 2) hR ?_ (by decide +kernel) ((hm0 _ _ f6 f7 d5 d6).trans ((if_neg (by rw [qq, k1]; simp)).trans (if_neg (by rw [k1]; decide))))
        simp (decide := true) only [fX11_scale, rng hg, qn, qd, ob8, k2, ob_n, b2_n, tc_rn, tc_ln, F_sF, A_sF, R_sF, L_sF, F_sA, A_sA, R_sA, L_sA, F_sR, A_sR, R_sR, L_sR, F_sL, A_sL, R_sL, L_sL, and_true, true_and, and_false, false_and, and_self, reduceIte, sF_sF, sA_sA, false_or, or_false, true_or, or_true, not_false_eq_true, not_true_eq_false, decide_true, decide_false, Bool.true_or, Bool.or_true, Bool.false_and, Bool.true_and, Bool.false_or, Bool.or_false, Bool.and_true, Bool.and_false]
      · refine KV_no (E := "java/lang/IllegalArgumentException") (y := 1) hR ?_ (by decide +kernel) ((hm0 _ _ f6 f7 d5 d6).trans (if_pos (Or.inr ⟨k1, by rw [n_int (by omega), Int.toNat_natCast]; exact k4⟩)))
        simp (decide := true) only [fX11_scale, rng hg, qn, qd, ob8, k2, ob_n, b2_n, tc_rn, tc_ln, F_sF, A_sF, R_sF, L_sF, F_sA, A_sA, R_sA, L_sA, F_sR, A_sR, R_sR, L_sR, F_sL, A_sL, R_sL, L_sL, and_true, true_and, and_false, false_and, and_self, reduceIte, sF_sF, sA_sA, false_or, or_false, true_or, or_true, not_false_eq_true, not_true_eq_false, decide_true, decide_false, Bool.true_or, Bool.or_true, Bool.false_and, Bool.true_and, Bool.false_or, Bool.or_false, Bool.and_true, Bool.and_false]
      · have n1 : ¬ ((rg n 1 16 && rg d 1 16) = false ∨ (isL (s.2.1 142) (Int32.ofNat l) = true ∧ ¬ s.2.1 142 (1169 * (Int32.ofNat l).toInt.toNat + 1) = 0)) := by
          rw [n_int (by omega), Int.toNat_natCast, qq]
          rintro (z | z)
          · cases z
          · exact z.2 k4
        refine KV_px (l := l) (b := b) (φ := scV n d sm w h (pxN (s.2.1 142) l)) hR h7 f1 f2 f3 f4 f9 f10 f11 hl k3 hLy k4 (cpT (cI (fun _ => 0) 0) (scV n d sm w h (pxN (s.2.1 142) l)) 0 (h * w)) (fun k hk => ?_) (fun g2 w1 => ?_) (fun g2 => ?_)
        · have := cpT_in (A := cI (fun _ => 0) 0) (N := scV n d sm w h (pxN (s.2.1 142) l)) (b := 0) (n := h * w) (k := k) (by rw [Nat.mul_comm]; exact hk)
          rw [Nat.zero_add] at this
          exact this
        · have lp := scale11l (s := s) (d := d) (sm := sm) hg d2 d4 hLy k4 qn (cI (fun _ => 0) 0)
          have e1 : (e_g s g).1 = g.1 := rfl
          simp (decide := true) only [fX11_scale, jX11_scale_30, rng hg, qn, qd, ob8, k2, f8_0, f3, s0, s1, nA_mk hg, e1, lp, w1, ob_n, b2_n, tc_rn, tc_ln, F_sF, A_sF, R_sF, L_sF, F_sA, A_sA, R_sA, L_sA, F_sR, A_sR, R_sR, L_sR, F_sL, A_sL, R_sL, L_sL, and_true, true_and, and_false, false_and, and_self, reduceIte, sF_sF, sA_sA, false_or, or_false, true_or, or_true, not_false_eq_true, not_true_eq_false, decide_true, decide_false, Bool.true_or, Bool.or_true, Bool.false_and, Bool.true_and, Bool.false_or, Bool.or_false, Bool.and_true, Bool.and_false]
        · have e142 : (fgC (rmC s a (g.1 + 2) pc)).2.1 142 = s.2.1 142 := by unfold fgC rmC; simp (decide := true) only [ob_n, b2_n, tc_rn, tc_ln, F_sF, A_sF, R_sF, L_sF, F_sA, A_sA, R_sA, L_sA, F_sR, A_sR, R_sR, L_sR, F_sL, A_sL, R_sL, L_sL, and_true, true_and, and_false, false_and, and_self, reduceIte, sF_sF, sA_sA, false_or, or_false, true_or, or_true, not_false_eq_true, not_true_eq_false, decide_true, decide_false, Bool.true_or, Bool.or_true, Bool.false_and, Bool.true_and, Bool.false_or, Bool.or_false, Bool.and_true, Bool.and_false, F_sRr, A_sRr]
          have := hm0 (fgC (rmC s a (g.1 + 2) pc)) g2 (by unfold fgC rmC; simp (decide := true) only [ob_n, b2_n, tc_rn, tc_ln, F_sF, A_sF, R_sF, L_sF, F_sA, A_sA, R_sA, L_sA, F_sR, A_sR, R_sR, L_sR, F_sL, A_sL, R_sL, L_sL, and_true, true_and, and_false, false_and, and_self, reduceIte, sF_sF, sA_sA, false_or, or_false, true_or, or_true, not_false_eq_true, not_true_eq_false, decide_true, decide_false, Bool.true_or, Bool.or_true, Bool.false_and, Bool.true_and, Bool.false_or, Bool.or_false, Bool.and_true, Bool.and_false, F_sRr, A_sRr]; exact f6) (by unfold fgC rmC; simp (decide := true) only [ob_n, b2_n, tc_rn, tc_ln, F_sF, A_sF, R_sF, L_sF, F_sA, A_sA, R_sA, L_sA, F_sR, A_sR, R_sR, L_sR, F_sL, A_sL, R_sL, L_sL, and_true, true_and, and_false, false_and, and_self, reduceIte, sF_sF, sA_sA, false_or, or_false, true_or, or_true, not_false_eq_true, not_true_eq_false, decide_true, decide_false, Bool.true_or, Bool.or_true, Bool.false_and, Bool.true_and, Bool.false_or, Bool.or_false, Bool.and_true, Bool.and_false, F_sRr, A_sRr]; exact f7) (by unfold fgC rmC; simp (decide := true) only [ob_n, b2_n, tc_rn, tc_ln, F_sF, A_sF, R_sF, L_sF, F_sA, A_sA, R_sA, L_sA, F_sR, A_sR, R_sR, L_sR, F_sL, A_sL, R_sL, L_sL, and_true, true_and, and_false, false_and, and_self, reduceIte, sF_sF, sA_sA, false_or, or_false, true_or, or_true, not_false_eq_true, not_true_eq_false, decide_true, decide_false, Bool.true_or, Bool.or_true, Bool.false_and, Bool.true_and, Bool.false_or, Bool.or_false, Bool.and_true, Bool.and_false, F_sRr, A_sRr]; exact d5) (by unfold fgC rmC; simp (decide := true) only [ob_n, b2_n, tc_rn, tc_ln, F_sF, A_sF, R_sF, L_sF, F_sA, A_sA, R_sA, L_sA, F_sR, A_sR, R_sR, L_sR, F_sL, A_sL, R_sL, L_sL, and_true, true_and, and_false, false_and, and_self, reduceIte, sF_sF, sA_sA, false_or, or_false, true_or, or_true, not_false_eq_true, not_true_eq_false, decide_true, decide_false, Bool.true_or, Bool.or_true, Bool.false_and, Bool.true_and, Bool.false_or, Bool.or_false, Bool.and_true, Bool.and_false, F_sRr, A_sRr]; exact d6)
          rw [e142, if_neg n1, if_pos k1, n_int (by omega), Int.toNat_natCast] at this
          exact this
    · refine KV_no (E := "java/lang/IllegalArgumentException") (y := 1) hR ?_ (by decide +kernel) ((hm0 _ _ f6 f7 d5 d6).trans (if_pos (Or.inl (by rw [qn]; simpa using qd))))
      simp (decide := true) only [fX11_scale, rng hg, qn, qd, ob_n, b2_n, tc_rn, tc_ln, F_sF, A_sF, R_sF, L_sF, F_sA, A_sA, R_sA, L_sA, F_sR, A_sR, R_sR, L_sR, F_sL, A_sL, R_sL, L_sL, and_true, true_and, and_false, false_and, and_self, reduceIte, sF_sF, sA_sA, false_or, or_false, true_or, or_true, not_false_eq_true, not_true_eq_false, decide_true, decide_false, Bool.true_or, Bool.or_true, Bool.false_and, Bool.true_and, Bool.false_or, Bool.or_false, Bool.and_true, Bool.and_false]
  · refine KV_no (E := "java/lang/IllegalArgumentException") (y := 1) hR ?_ (by decide +kernel) ((hm0 _ _ f6 f7 d5 d6).trans (if_pos (Or.inl (by simp [qn]))))
    simp (decide := true) only [fX11_scale, rng hg, qn, ob_n, b2_n, tc_rn, tc_ln, F_sF, A_sF, R_sF, L_sF, F_sA, A_sA, R_sA, L_sA, F_sR, A_sR, R_sR, L_sR, F_sL, A_sL, R_sL, L_sL, and_true, true_and, and_false, false_and, and_self, reduceIte, sF_sF, sA_sA, false_or, or_false, true_or, or_true, not_false_eq_true, not_true_eq_false, decide_true, decide_false, Bool.true_or, Bool.or_true, Bool.false_and, Bool.true_and, Bool.false_or, Bool.or_false, Bool.and_true, Bool.and_false]
