-- needs: 07 10 13 14 20 21 22 23 24 25 26 27 32 38 41 43 46 47 48 50 52 53 54 55 57 60 61 70 71 72 73 74 80 81 82 83 84 85 86 87 88 89 90
theorem cpOk_w {s s' : e_S} {w h sz : Nat} {od : Nat → Int32} {o : Nat → Nat} (hk : CpOk s w h sz od o) (a : ∀ j, j ∈ [142, 150, 152, 153, 154] → s'.2.1 j = s.2.1 j) (b : ∀ j, j ∈ [13, 14, 25, 26] → s'.1 139 j = s.1 139 j) : CpOk s' w h sz od o ∧ ∀ m P, vwF s' w h sz o m P = vwF s w h sz o m P := by
  have a1 := a 142 (by decide)
  have a2 := a 150 (by decide)
  have a3 := a 152 (by decide)
  have a4 := a 153 (by decide)
  have a5 := a 154 (by decide)
  have b1 := b 13 (by decide)
  have b2 := b 14 (by decide)
  have b3 := b 25 (by decide)
  have b4 := b 26 (by decide)
  refine ⟨?_, fun m P => vwF_s a1 ?_ m P⟩
  · unfold CpOk at hk ⊢
    rw [a1, a3, a4, a5, b1, b2, b3]; exact hk
  · unfold aD
    rw [a2, a3, a4, a5, b3, b4]
theorem two_eq {A q r q' r' : Nat} (h1 : r < A) (h2 : r' < A) : A * q + r = A * q' + r' ↔ q = q' ∧ r = r' := by
  constructor
  · intro e
    have a := (k_at (w := A) (k := q * A + r) (y := q) (x := r) h1).mp rfl
    have b := (k_at (w := A) (k := q * A + r) (y := q') (x := r') h2).mp (by rw [Nat.mul_comm q, Nat.mul_comm q']; exact e)
    exact ⟨a.1.symm.trans b.1, a.2.symm.trans b.2⟩
  · rintro ⟨rfl, rfl⟩; rfl
theorem tiles12 {s : e_S} {g : ps_G} {w h X Y : Nat} {F E T U : Nat → Int32} {x y : Int32} (hw1 : 1 ≤ w) (hw : w ≤ 24) (hh : h ≤ 24) (e1 : s.1 139 13 = Int32.ofNat w) (e2 : s.1 139 14 = Int32.ofNat h) (hX : X < w) (hYY : Y / 8 < 100000) : q_lp (fun u => bX12_see_58 139 x y (Int32.ofNat ((w + 7) / 8 * (Y / 8) + X / 8)) u.1 u.2) ((0 : Int32), e_g (cs s F E T U) g) = some (e_g (sA (cs s F E T U) 149 (kpR (tlB w h X Y) F (s.2.1 149))) g) := by
  have hn := wh_le hw hh
  have c149 : (cs s F E T U).2.1 149 = s.2.1 149 := cs_A (by decide)
  have pc : kpR (tlB w h X Y) F (s.2.1 149) = kpR (fun k => decide (k < w * h ∧ k / w / 8 = Y / 8 ∧ k % w / 8 = X / 8)) F (s.2.1 149) := rfl
  rw [pc]
  refine lp_0 (fun i => (Int32.ofNat i, e_g (sA (cs s F E T U) 149 (kpR (fun k => decide (k < i ∧ k / w / 8 = Y / 8 ∧ k % w / 8 = X / 8)) F (s.2.1 149))) g)) (w * h) ?_ (fun i hi => ?_) ?_
  · rw [kpR_0 (fun k => by rw [decide_eq_false_iff_not]; omega), ← c149, sA_id]; rfl
  · have wz : ¬ Int32.ofNat w = 0 := by
      rw [show (0 : Int32) = Int32.ofNat 0 from rfl, n_eq (by omega) (by omega)]; omega
    have hm : i % w < w := Nat.mod_lt _ (by omega)
    have hq : i / w < h := Nat.div_lt_of_lt_mul hi
    have ac := across12 (s := sA (cs s F E T U) 149 (kpR (fun k => decide (k < i ∧ k / w / 8 = Y / 8 ∧ k % w / 8 = X / 8)) F (s.2.1 149))) (g := g) (w := w) hw (by rw [F_sA, cs_F]; exact e1)
    have q1 : q_div (Int32.ofNat i) (Int32.ofNat w) = some (Int32.ofNat (i / w)) := by unfold q_div; rw [if_neg wz, n_div (by omega) (by omega)]
    have q2 : q_mod (Int32.ofNat i) (Int32.ofNat w) = some (Int32.ofNat (i % w)) := by unfold q_mod; rw [if_neg wz, n_rem (by omega) (by omega)]
    have q3 : Int32.ofNat (i / w) / 8 = Int32.ofNat (i / w / 8) := n_div (b := 8) (by omega) (by omega)
    have q4 : Int32.ofNat (i % w) / 8 = Int32.ofNat (i % w / 8) := n_div (b := 8) (by omega) (by omega)
    have te := two_eq (A := (w + 7) / 8) (q := i / w / 8) (r := i % w / 8) (q' := Y / 8) (r' := X / 8) (by omega) (by omega)
    have b1 : (w + 7) / 8 * (i / w / 8) ≤ 3 * 3 := Nat.mul_le_mul (by omega) (by omega)
    have b2 : (w + 7) / 8 * (Y / 8) ≤ 3 * 100000 := Nat.mul_le_mul (by omega) (by omega)
    have te2 : Int32.ofNat ((w + 7) / 8 * (i / w / 8) + i % w / 8) = Int32.ofNat ((w + 7) / 8 * (Y / 8) + X / 8) ↔ i / w / 8 = Y / 8 ∧ i % w / 8 = X / 8 := by
      rw [n_eq (by omega) (by omega)]; exact te
    show bX12_see_58 _ _ _ _ _ _ = _
    unfold bX12_see_58 jX12_see_116_58
    rw [f139_13, F_sA, cs_F, e1, ob_n, f139_14, F_sA, cs_F, e2, ob_n, n_mul, if_neg (nle hi (by omega)), ob139, ob_n, ac, ob_n, ob_n, q1, ob_n, ob_n, q2, ob_n, q3, q4, n_mul, n_add, n_suc]
    by_cases q : i / w / 8 = Y / 8 ∧ i % w / 8 = X / 8
    · have up := kpR_up (P := fun k => decide (k < i ∧ k / w / 8 = Y / 8 ∧ k % w / 8 = X / 8)) (P' := fun k => decide (k < i + 1 ∧ k / w / 8 = Y / 8 ∧ k % w / 8 = X / 8)) (V := F) (f := s.2.1 149) (k0 := i) (fun k => by
        rw [Bool.eq_iff_iff, Bool.or_eq_true, decide_eq_true_iff, decide_eq_true_iff, decide_eq_true_iff]
        constructor
        · rintro ⟨z1, z2⟩
          by_cases z : k = i
          · exact Or.inr z
          · exact Or.inl ⟨by omega, z2⟩
        · rintro (z | z)
          · exact ⟨by omega, z.2⟩
          · subst z; exact ⟨by omega, q⟩)
      rw [if_neg (fun z => z (te2.mpr q)), f139_22, ob_n, ob_n, f139_16, ob_n, ob_n, a145, n_idx (by omega), if_neg (n_in2 (by omega) (by decide)), A_sA, if_neg (by decide), cs_145, ob_n, wrI t149 (by omega) (by omega), A_sA, if_pos rfl, sA_sA, ob_n, up]
    · have e : kpR (fun k => decide (k < i ∧ k / w / 8 = Y / 8 ∧ k % w / 8 = X / 8)) F (s.2.1 149) = kpR (fun k => decide (k < i + 1 ∧ k / w / 8 = Y / 8 ∧ k % w / 8 = X / 8)) F (s.2.1 149) := kpR_c (fun k => by
        rw [decide_eq_decide]
        constructor
        · rintro ⟨z1, z2⟩; exact ⟨by omega, z2⟩
        · rintro ⟨z1, z2⟩
          by_cases z : k = i
          · subst z; exact absurd z2 q
          · exact ⟨by omega, z2⟩)
      rw [if_pos (fun z => q (te2.mp z)), e]
  · show bX12_see_58 _ _ _ _ _ _ = _
    unfold bX12_see_58
    rw [f139_13, F_sA, cs_F, e1, ob_n, f139_14, F_sA, cs_F, e2, ob_n, n_mul, if_pos (nlr (by omega))]
def tlS (s : e_S) (w h X Y : Nat) (F : Nat → Int32) : e_S := sF (sA (sA (sF (sA (sA s 87 (kpR (tlB w h X Y) (s.2.1 86) (s.2.1 87))) 88 (upd (s.2.1 88) (3 * (Y / 8) + X / 8) 1)) 20 8 (s.1 20 8 + 1)) 149 (kpR (tlB w h X Y) F (s.2.1 149))) 148 (upd (s.2.1 148) ((w + 7) / 8 * (Y / 8) + X / 8) 1)) 139 23 (s.1 139 23 + 1)
theorem rel_tile {s : e_S} {g : ps_G} {w h X Y : Nat} {F : Nat → Int32} (hR : Rel s g) (h7 : G7 s w h) (h8 : G8 s w h) (h9 : G10 s g w h) (hX : X < w) (hY : Y < h) (hF : ∀ k, k < w * h → F k = s.2.1 86 k) : Rel (tlS s w h X Y F) g := by
  obtain ⟨h1, h2, h3, h4, h5, h6, -, h10, h11⟩ := hR
  have d2 := h7.2.1
  have d4 := h7.2.2.2.1
  unfold tlS
  refine ⟨?_, ?_, ?_, ?_, ?_, ?_, ⟨w, h, ?_, ?_, ?_⟩, ?_, ?_⟩
  · unfold G1 at h1 ⊢; simp (decide := true) only [ob_n, b2_n, tc_rn, tc_ln, F_sF, A_sF, R_sF, L_sF, F_sA, A_sA, R_sA, L_sA, F_sR, A_sR, R_sR, L_sR, F_sL, A_sL, R_sL, L_sL, and_true, true_and, and_false, false_and, and_self, reduceIte, sF_sF, sA_sA, false_or, or_false, true_or, or_true, not_false_eq_true, not_true_eq_false, decide_true, decide_false, Bool.true_or, Bool.or_true, Bool.false_and, Bool.true_and, Bool.false_or, Bool.or_false, Bool.and_true, Bool.and_false]; exact h1
  · unfold G2 at h2 ⊢; simp (decide := true) only [ob_n, b2_n, tc_rn, tc_ln, F_sF, A_sF, R_sF, L_sF, F_sA, A_sA, R_sA, L_sA, F_sR, A_sR, R_sR, L_sR, F_sL, A_sL, R_sL, L_sL, and_true, true_and, and_false, false_and, and_self, reduceIte, sF_sF, sA_sA, false_or, or_false, true_or, or_true, not_false_eq_true, not_true_eq_false, decide_true, decide_false, Bool.true_or, Bool.or_true, Bool.false_and, Bool.true_and, Bool.false_or, Bool.or_false, Bool.and_true, Bool.and_false]; exact h2
  · unfold G3 at h3 ⊢; simp (decide := true) only [ob_n, b2_n, tc_rn, tc_ln, F_sF, A_sF, R_sF, L_sF, F_sA, A_sA, R_sA, L_sA, F_sR, A_sR, R_sR, L_sR, F_sL, A_sL, R_sL, L_sL, and_true, true_and, and_false, false_and, and_self, reduceIte, sF_sF, sA_sA, false_or, or_false, true_or, or_true, not_false_eq_true, not_true_eq_false, decide_true, decide_false, Bool.true_or, Bool.or_true, Bool.false_and, Bool.true_and, Bool.false_or, Bool.or_false, Bool.and_true, Bool.and_false]; exact h3
  · unfold G4 at h4 ⊢; simp (decide := true) only [ob_n, b2_n, tc_rn, tc_ln, F_sF, A_sF, R_sF, L_sF, F_sA, A_sA, R_sA, L_sA, F_sR, A_sR, R_sR, L_sR, F_sL, A_sL, R_sL, L_sL, and_true, true_and, and_false, false_and, and_self, reduceIte, sF_sF, sA_sA, false_or, or_false, true_or, or_true, not_false_eq_true, not_true_eq_false, decide_true, decide_false, Bool.true_or, Bool.or_true, Bool.false_and, Bool.true_and, Bool.false_or, Bool.or_false, Bool.and_true, Bool.and_false]; exact h4
  · unfold G5 at h5 ⊢; simp (decide := true) only [ob_n, b2_n, tc_rn, tc_ln, F_sF, A_sF, R_sF, L_sF, F_sA, A_sA, R_sA, L_sA, F_sR, A_sR, R_sR, L_sR, F_sL, A_sL, R_sL, L_sL, and_true, true_and, and_false, false_and, and_self, reduceIte, sF_sF, sA_sA, false_or, or_false, true_or, or_true, not_false_eq_true, not_true_eq_false, decide_true, decide_false, Bool.true_or, Bool.or_true, Bool.false_and, Bool.true_and, Bool.false_or, Bool.or_false, Bool.and_true, Bool.and_false]; exact h5
  · unfold G6 at h6 ⊢; simp (decide := true) only [ob_n, b2_n, tc_rn, tc_ln, F_sF, A_sF, R_sF, L_sF, F_sA, A_sA, R_sA, L_sA, F_sR, A_sR, R_sR, L_sR, F_sL, A_sL, R_sL, L_sL, and_true, true_and, and_false, false_and, and_self, reduceIte, sF_sF, sA_sA, false_or, or_false, true_or, or_true, not_false_eq_true, not_true_eq_false, decide_true, decide_false, Bool.true_or, Bool.or_true, Bool.false_and, Bool.true_and, Bool.false_or, Bool.or_false, Bool.and_true, Bool.and_false]; exact h6
  · unfold G7 at h7 ⊢; simp (decide := true) only [ob_n, b2_n, tc_rn, tc_ln, F_sF, A_sF, R_sF, L_sF, F_sA, A_sA, R_sA, L_sA, F_sR, A_sR, R_sR, L_sR, F_sL, A_sL, R_sL, L_sL, and_true, true_and, and_false, false_and, and_self, reduceIte, sF_sF, sA_sA, false_or, or_false, true_or, or_true, not_false_eq_true, not_true_eq_false, decide_true, decide_false, Bool.true_or, Bool.or_true, Bool.false_and, Bool.true_and, Bool.false_or, Bool.or_false, Bool.and_true, Bool.and_false]; exact h7
  · obtain ⟨g1, g2, g3, g4, g5, g6, g7⟩ := h8
    unfold G8
    simp (decide := true) only [ob_n, b2_n, tc_rn, tc_ln, F_sF, A_sF, R_sF, L_sF, F_sA, A_sA, R_sA, L_sA, F_sR, A_sR, R_sR, L_sR, F_sL, A_sL, R_sL, L_sL, and_true, true_and, and_false, false_and, and_self, reduceIte, sF_sF, sA_sA, false_or, or_false, true_or, or_true, not_false_eq_true, not_true_eq_false, decide_true, decide_false, Bool.true_or, Bool.or_true, Bool.false_and, Bool.true_and, Bool.false_or, Bool.or_false, Bool.and_true, Bool.and_false]
    have A3 : (w + 7) / 8 ≤ 3 := by omega
    have xA : X / 8 < (w + 7) / 8 := by omega
    have yB : Y / 8 < (h + 7) / 8 := by omega
    have tAB : (w + 7) / 8 * (Y / 8) + X / 8 < (w + 7) / 8 * ((h + 7) / 8) := by
      have : (w + 7) / 8 * (Y / 8 + 1) ≤ (w + 7) / 8 * ((h + 7) / 8) := Nat.mul_le_mul_left _ yB
      rw [Nat.mul_succ] at this
      omega
    refine ⟨by rw [g1], fun t ht => ⟨?_, ?_⟩, fun x y hx hy => ?_, fun t ht hq => ?_, fun x y hx hy hk => ?_, g6, g7⟩
    · rw [upd_r]
      split
      · exact Or.inr rfl
      · exact (g2 t ht).1
    · rw [upd_r]
      split
      · exact Or.inr rfl
      · exact (g2 t ht).2
    · rw [upd_r, upd_r]
      by_cases q : x = X / 8 ∧ y = Y / 8
      · rw [q.1, q.2, if_pos rfl, if_pos ⟨xA, yB⟩, if_pos rfl]
      · rw [if_neg (fun z => q (by have := (two_eq (A := 3) (q := y) (r := x) (q' := Y / 8) (r' := X / 8) hx (by omega)).mp z; exact ⟨this.2, this.1⟩)), g3 x y hx hy]
        by_cases q2 : x < (w + 7) / 8 ∧ y < (h + 7) / 8
        · rw [if_pos q2, if_pos q2, if_neg (fun z => q (by have := (two_eq (A := (w + 7) / 8) (q := y) (r := x) (q' := Y / 8) (r' := X / 8) q2.1 xA).mp z; exact ⟨this.2, this.1⟩))]
        · rw [if_neg q2, if_neg q2]
    · rw [upd_r, if_neg (by omega)]
      exact g4 t ht hq
    · have at1 := (k_at (w := w) (k := y * w + x) (y := y) (x := x) hx).mp rfl
      have hlt := at_lt hx hy
      unfold kpR
      by_cases q : x / 8 = X / 8 ∧ y / 8 = Y / 8
      · have : tlB w h X Y (y * w + x) = true := decide_eq_true ⟨hlt, by rw [at1.1]; exact q.2, by rw [at1.2]; exact q.1⟩
        rw [if_pos this, if_pos this]
        exact (hF _ hlt).symm
      · have : ¬ tlB w h X Y (y * w + x) = true := fun z => q (by
          have := of_decide_eq_true z
          rw [at1.1, at1.2] at this
          exact ⟨this.2.2, this.2.1⟩)
        rw [if_neg this, if_neg this]
        rw [upd_r, if_neg (fun z => q (by have := (two_eq (A := 3) (q := y / 8) (r := x / 8) (q' := Y / 8) (r' := X / 8) (by omega) (by omega)).mp z; exact ⟨this.2, this.1⟩))] at hk
        exact g5 x y hx hy hk
  · unfold G10 at h9 ⊢; simp (decide := true) only [ob_n, b2_n, tc_rn, tc_ln, F_sF, A_sF, R_sF, L_sF, F_sA, A_sA, R_sA, L_sA, F_sR, A_sR, R_sR, L_sR, F_sL, A_sL, R_sL, L_sL, and_true, true_and, and_false, false_and, and_self, reduceIte, sF_sF, sA_sA, false_or, or_false, true_or, or_true, not_false_eq_true, not_true_eq_false, decide_true, decide_false, Bool.true_or, Bool.or_true, Bool.false_and, Bool.true_and, Bool.false_or, Bool.or_false, Bool.and_true, Bool.and_false]; exact h9
  · unfold G9 at h10 ⊢; simp (decide := true) only [ob_n, b2_n, tc_rn, tc_ln, F_sF, A_sF, R_sF, L_sF, F_sA, A_sA, R_sA, L_sA, F_sR, A_sR, R_sR, L_sR, F_sL, A_sL, R_sL, L_sL, and_true, true_and, and_false, false_and, and_self, reduceIte, sF_sF, sA_sA, false_or, or_false, true_or, or_true, not_false_eq_true, not_true_eq_false, decide_true, decide_false, Bool.true_or, Bool.or_true, Bool.false_and, Bool.true_and, Bool.false_or, Bool.or_false, Bool.and_true, Bool.and_false]; exact h10
  · unfold G11 at h11 ⊢; simp (decide := true) only [ob_n, b2_n, tc_rn, tc_ln, F_sF, A_sF, R_sF, L_sF, F_sA, A_sA, R_sA, L_sA, F_sR, A_sR, R_sR, L_sR, F_sL, A_sL, R_sL, L_sL, and_true, true_and, and_false, false_and, and_self, reduceIte, sF_sF, sA_sA, false_or, or_false, true_or, or_true, not_false_eq_true, not_true_eq_false, decide_true, decide_false, Bool.true_or, Bool.or_true, Bool.false_and, Bool.true_and, Bool.false_or, Bool.or_false, Bool.and_true, Bool.and_false]; exact h11
theorem keeps11 {s : e_S} {g : ps_G} {X Y : Nat} (hX : X < 24) (hY : Y < 24) (hb : s.2.1 88 (3 * (Y / 8) + X / 8) = 0 ∨ s.2.1 88 (3 * (Y / 8) + X / 8) = 1) : fX10_keeps (e_g s g) 20 (Int32.ofNat X) (Int32.ofNat Y) = some (s.2.1 88 (3 * (Y / 8) + X / 8)) := by
  have tile : fX10_tileOf (Int32.ofNat X) (Int32.ofNat Y) = Int32.ofNat (3 * (Y / 8) + X / 8) := by
    unfold fX10_tileOf
    have a : Int32.ofNat X / 8 = Int32.ofNat (X / 8) := n_div (b := 8) (by omega) (by omega)
    have b : Int32.ofNat Y / 8 = Int32.ofNat (Y / 8) := n_div (b := 8) (by omega) (by omega)
    have c : fX11_within (Int32.ofNat (X / 8)) 0 2 = Int32.ofNat (X / 8) := within_n (a := 0) (b := 2) (by omega) (by omega) (by omega)
    have d : fX11_within (Int32.ofNat (Y / 8)) 0 2 = Int32.ofNat (Y / 8) := within_n (a := 0) (b := 2) (by omega) (by omega) (by omega)
    rw [a, b, c, d]
    show _ * Int32.ofNat 3 + _ = _
    rw [n_mul, n_add, Nat.mul_comm]
  unfold fX10_keeps q_bl
  rw [f20_7, ob_n, ob_n, tile, a88, n_idx (by omega), if_neg (n_in2 (by omega) (by decide)), ob_n, if_neg (fun z => z hb), ob_n]
theorem K_see {s : e_S} {g : ps_G} {x y : Int32} (hR : Rel s g) : KI (fL_see (e_g s g) 8 x y 194) (fun G => fX12_see G 139 x y) g := by
  have hg := rel_g hR
  obtain ⟨h1, h2, h3, h4, h5, h6, ⟨w, h, h7, h8, h9⟩, h10, h11⟩ := id hR
  obtain ⟨a, st, pc, uc, f1, f2, f3, f4, f5, f6, f7, f8, f9, f10, f11, f12⟩ := id h9
  obtain ⟨d1, d2, d3, d4, d5, d6, d7, d8, d9⟩ := id h7
  have hn := wh_le d2 d4
  have st := fun s' => stW (s := s') f9
  by_cases p : plc w h x y = true
  · obtain ⟨X, Y, rfl, rfl, hX, hY⟩ := plc_n p
    have hlt := at_lt hX hY
    have g8 := h8
    obtain ⟨g1, g2, g3, g4, g5, g6, g7⟩ := g8
    have b88 := (g2 (3 * (Y / 8) + X / 8) (by omega)).2
    have e148 := g3 (X / 8) (Y / 8) (by omega) (by omega)
    rw [if_pos ⟨by omega, by omega⟩] at e148
    have A9 : (w + 7) / 8 * (Y / 8) + X / 8 < 9 := by
      have : (w + 7) / 8 * (Y / 8) ≤ 3 * (Y / 8) := Nat.mul_le_mul_right _ (by omega)
      omega
    have wi : fX11_within (Int32.ofNat (Y * w + X)) 0 575 = Int32.ofNat (Y * w + X) := within_n (a := 0) (b := 575) (by omega) (by omega) (by omega)
    have j52 : ∀ s' : e_S, s'.2.2.1 8 0 = some a → jX11_see_52 (e_g s' g) 8 (Int32.ofNat X) (Int32.ofNat Y) = some (.inr (s'.2.1 87 (Y * w + X)), e_g s' g) := by
      intro s' e0
      unfold jX11_see_52 fX10_keptAt
      rw [f8_6, ob_n, ob_n, f8_0, e0, ob_n, ob_n, (st s').1, ob_n, ob20, ob_n, f20_6, ob_n, ob_n, n_mul, n_add, wi, rdI t87 (by omega), ob_n, ob_n]
    have q8x : Int32.ofNat X / 8 = Int32.ofNat (X / 8) := n_div (b := 8) (by omega) (by omega)
    have q8y : Int32.ofNat Y / 8 = Int32.ofNat (Y / 8) := n_div (b := 8) (by omega) (by omega)
    have head : ∀ s' : e_S, s'.1 139 13 = Int32.ofNat w → s'.1 139 14 = Int32.ofNat h → fX12_see (e_g s' g) 139 (Int32.ofNat X) (Int32.ofNat Y) = (if ¬ s'.2.1 148 ((w + 7) / 8 * (Y / 8) + X / 8) = 0 then jX12_see_139 (e_g (sF s' 139 0 0) g) 139 (Int32.ofNat X) (Int32.ofNat Y) else Option.bind (fX12_composeAll (e_g (sF s' 139 0 0) g) 139) fun v22 => Option.bind (q_lp (fun u => bX12_see_58 139 (Int32.ofNat X) (Int32.ofNat Y) (Int32.ofNat ((w + 7) / 8 * (Y / 8) + X / 8)) u.1 u.2) ((0 : Int32), v22)) fun s45 => Option.bind (q_fR 12 21 s45 139) fun v46 => Option.bind (v46) fun a47 => Option.bind (q_wB s45 a47 (Int32.ofNat ((w + 7) / 8 * (Y / 8) + X / 8)) (1 : Int32)) fun g48 => Option.bind (q_fI 12 23 g48 139) fun v49 => Option.bind (q_sI 12 23 g48 139 (v49 + (1 : Int32))) fun g50 => jX12_see_139 g50 139 (Int32.ofNat X) (Int32.ofNat Y)) := by
      intro s' e1 e2
      unfold fX12_see
      rw [ob139, ob_n, place12 d2 d4 e1 e2, ob_n, p, if_pos rfl, if_neg (by decide), w139_0, ob_n, f139_0, F_sF, if_pos ⟨rfl, rfl⟩, ob_n, if_pos (by decide), ob139, ob_n, across12 d2 (by simp (decide := true) only [ob_n, b2_n, tc_rn, tc_ln, F_sF, A_sF, R_sF, L_sF, F_sA, A_sA, R_sA, L_sA, F_sR, A_sR, R_sR, L_sR, F_sL, A_sL, R_sL, L_sL, and_true, true_and, and_false, false_and, and_self, reduceIte, sF_sF, sA_sA, false_or, or_false, true_or, or_true, not_false_eq_true, not_true_eq_false, decide_true, decide_false, Bool.true_or, Bool.or_true, Bool.false_and, Bool.true_and, Bool.false_or, Bool.or_false, Bool.and_true, Bool.and_false]; exact e1), ob_n, f139_21, ob_n, ob_n, q8x, q8y, n_mul, n_add, a148, n_idx (by omega), if_neg (n_in2 A9 (by decide)), A_sF, ob_n, ob_n]
    have j139 : ∀ s' : e_S, s'.1 139 13 = Int32.ofNat w → jX12_see_139 (e_g s' g) 139 (Int32.ofNat X) (Int32.ofNat Y) = some (s'.2.1 149 (Y * w + X), e_g s' g) := by
      intro s' e1
      unfold jX12_see_139
      rw [f139_22, ob_n, ob_n, ob139, ob_n, at12n e1, ob_n, rdI t149 (by omega), ob_n]
    by_cases kq : s.2.1 88 (3 * (Y / 8) + X / 8) = 0
    · obtain ⟨s1, sz, od, o, hk, c1, c2, c3, c4, c5, c6⟩ := seen11 hR h7 h8 f9
      have kp := keep11 (s := s1) (g := g) d2 d4 hX hY
      generalize hC : sF (sA (sA s1 87 (kpR (tlB w h X Y) (s1.2.1 86) (s1.2.1 87))) 88 (upd (s1.2.1 88) (3 * (Y / 8) + X / 8) 1)) 20 8 (s1.1 20 8 + 1) = sC at kp
      have tb : tlB w h X Y (Y * w + X) = true := by
        have at1 := (k_at (w := w) (k := Y * w + X) (y := Y) (x := X) hX).mp rfl
        exact decide_eq_true ⟨hlt, by rw [at1.1], by rw [at1.2]⟩
      have eC0 : sC.2.2.1 8 0 = some a := by
        rw [← hC]
        simp (decide := true) only [ob_n, b2_n, tc_rn, tc_ln, F_sF, A_sF, R_sF, L_sF, F_sA, A_sA, R_sA, L_sA, F_sR, A_sR, R_sR, L_sR, F_sL, A_sL, R_sL, L_sL, and_true, true_and, and_false, false_and, and_self, reduceIte, sF_sF, sA_sA, false_or, or_false, true_or, or_true, not_false_eq_true, not_true_eq_false, decide_true, decide_false, Bool.true_or, Bool.or_true, Bool.false_and, Bool.true_and, Bool.false_or, Bool.or_false, Bool.and_true, Bool.and_false]
        rw [c3.2.1 8 (by omega)]; exact f3
      have eC87 : sC.2.1 87 (Y * w + X) = s1.2.1 86 (Y * w + X) := by
        rw [← hC]
        simp (decide := true) only [ob_n, b2_n, tc_rn, tc_ln, F_sF, A_sF, R_sF, L_sF, F_sA, A_sA, R_sA, L_sA, F_sR, A_sR, R_sR, L_sR, F_sL, A_sL, R_sL, L_sL, and_true, true_and, and_false, false_and, and_self, reduceIte, sF_sF, sA_sA, false_or, or_false, true_or, or_true, not_false_eq_true, not_true_eq_false, decide_true, decide_false, Bool.true_or, Bool.or_true, Bool.false_and, Bool.true_and, Bool.false_or, Bool.or_false, Bool.and_true, Bool.and_false]
        unfold kpR
        rw [if_pos tb]
      have hc : fX11_see (e_g s g) 8 (Int32.ofNat X) (Int32.ofNat Y) = some (.inr (s1.2.1 86 (Y * w + X)), e_g sC g) := by
        unfold fX11_see
        rw [ob8, ob_n, place11 hg d2 d4 f3 f9, p, if_pos rfl, tc_rn, f8_6, ob_n, ob_n, ob20, ob_n, keeps11 (by omega) (by omega) b88, kq, ob_n, if_neg (fun z => z rfl), ob_n, ob_n, f8_0, f3, ob_n, ob_n, (st s).1, ob_n, ob_n, ob_n, (st s).2.1, ob_n, ob_n, ob_n, ob_n, ob_n, ob20, ob_n, c1, b2_n, ob_n, ob20, ob_n, kp, ob_n, j52 _ eC0, eC87]
      have A1 : ∀ v j, j ∈ [142, 150, 152, 153, 154] → (sF (pO sC v) 139 0 0).2.1 j = s1.2.1 j := by
        intro v j hj
        have : ¬ j = 87 ∧ ¬ j = 88 := by
          have : ∀ j, j ∈ [142, 150, 152, 153, 154] → ¬ j = 87 ∧ ¬ j = 88 := by decide
          exact this j hj
        rw [← hC]
        unfold pO
        rw [A_sF, A_sL, A_sF, A_sA, if_neg this.2, A_sA, if_neg this.1]
      have B1 : ∀ v j, j ∈ [13, 14, 25, 26] → (sF (pO sC v) 139 0 0).1 139 j = s1.1 139 j := by
        intro v j hj
        have : ¬ j = 0 := by
          have : ∀ j, j ∈ [13, 14, 25, 26] → ¬ j = 0 := by decide
          exact this j hj
        rw [← hC]
        unfold pO
        rw [F_sF, if_neg (fun z => this z.2), F_sL, F_sF, if_neg (by omega), F_sA, F_sA]
      have ck := fun v => cpOk_w c5 (A1 v) (B1 v)
      obtain ⟨F, E, T, U, m1, m2⟩ := composeAll12 (g := g) (ck (s1.2.1 86 (Y * w + X)).toInt64).1
      have hF : ∀ k, k < w * h → F k = s1.2.1 86 k := fun k hkk => by rw [m2 k hkk, (ck _).2, c6 k hkk, c2 k hkk]
      generalize hv : (s1.2.1 86 (Y * w + X)).toInt64 = v64 at m1 m2 ck
      have e13 : (pO sC v64).1 139 13 = Int32.ofNat w := by
        rw [← hC]; unfold pO; simp (decide := true) only [ob_n, b2_n, tc_rn, tc_ln, F_sF, A_sF, R_sF, L_sF, F_sA, A_sA, R_sA, L_sA, F_sR, A_sR, R_sR, L_sR, F_sL, A_sL, R_sL, L_sL, and_true, true_and, and_false, false_and, and_self, reduceIte, sF_sF, sA_sA, false_or, or_false, true_or, or_true, not_false_eq_true, not_true_eq_false, decide_true, decide_false, Bool.true_or, Bool.or_true, Bool.false_and, Bool.true_and, Bool.false_or, Bool.or_false, Bool.and_true, Bool.and_false]
        exact c5.2.2.2.2.2.2.2.1
      have e14 : (pO sC v64).1 139 14 = Int32.ofNat h := by
        rw [← hC]; unfold pO; simp (decide := true) only [ob_n, b2_n, tc_rn, tc_ln, F_sF, A_sF, R_sF, L_sF, F_sA, A_sA, R_sA, L_sA, F_sR, A_sR, R_sR, L_sR, F_sL, A_sL, R_sL, L_sL, and_true, true_and, and_false, false_and, and_self, reduceIte, sF_sF, sA_sA, false_or, or_false, true_or, or_true, not_false_eq_true, not_true_eq_false, decide_true, decide_false, Bool.true_or, Bool.or_true, Bool.false_and, Bool.true_and, Bool.false_or, Bool.or_false, Bool.and_true, Bool.and_false]
        exact c5.2.2.2.2.2.2.2.2.1
      have e8 : (pO sC v64).2.1 148 = s1.2.1 148 := by rw [← hC]; unfold pO; simp (decide := true) only [ob_n, b2_n, tc_rn, tc_ln, F_sF, A_sF, R_sF, L_sF, F_sA, A_sA, R_sA, L_sA, F_sR, A_sR, R_sR, L_sR, F_sL, A_sL, R_sL, L_sL, and_true, true_and, and_false, false_and, and_self, reduceIte, sF_sF, sA_sA, false_or, or_false, true_or, or_true, not_false_eq_true, not_true_eq_false, decide_true, decide_false, Bool.true_or, Bool.or_true, Bool.false_and, Bool.true_and, Bool.false_or, Bool.or_false, Bool.and_true, Bool.and_false]
      have e9 : (pO sC v64).2.1 149 = s1.2.1 149 := by rw [← hC]; unfold pO; simp (decide := true) only [ob_n, b2_n, tc_rn, tc_ln, F_sF, A_sF, R_sF, L_sF, F_sA, A_sA, R_sA, L_sA, F_sR, A_sR, R_sR, L_sR, F_sL, A_sL, R_sL, L_sL, and_true, true_and, and_false, false_and, and_self, reduceIte, sF_sF, sA_sA, false_or, or_false, true_or, or_true, not_false_eq_true, not_true_eq_false, decide_true, decide_false, Bool.true_or, Bool.or_true, Bool.false_and, Bool.true_and, Bool.false_or, Bool.or_false, Bool.and_true, Bool.and_false]
      have e23 : (pO sC v64).1 139 23 = s1.1 139 23 := by rw [← hC]; unfold pO; simp (decide := true) only [ob_n, b2_n, tc_rn, tc_ln, F_sF, A_sF, R_sF, L_sF, F_sA, A_sA, R_sA, L_sA, F_sR, A_sR, R_sR, L_sR, F_sL, A_sL, R_sL, L_sL, and_true, true_and, and_false, false_and, and_self, reduceIte, sF_sF, sA_sA, false_or, or_false, true_or, or_true, not_false_eq_true, not_true_eq_false, decide_true, decide_false, Bool.true_or, Bool.or_true, Bool.false_and, Bool.true_and, Bool.false_or, Bool.or_false, Bool.and_true, Bool.and_false]
      have o148 : s1.2.1 148 = s.2.1 148 := c3.2.2.2 148 (by omega)
      have tl := tiles12 (s := sF (pO sC v64) 139 0 0) (g := g) (F := F) (E := E) (T := T) (U := U) (x := Int32.ofNat X) (y := Int32.ofNat Y) (X := X) (Y := Y) d1 d2 d4 (by rw [B1 v64 13 (by decide)]; exact c5.2.2.2.2.2.2.2.1) (by rw [B1 v64 14 (by decide)]; exact c5.2.2.2.2.2.2.2.2.1) hX (by omega)
      have nt : vp_nar .boolean (1 : Int32) = 1 := by decide
      have hm : fX12_see (e_g (pO sC v64) g) 139 (Int32.ofNat X) (Int32.ofNat Y) = some (s1.2.1 86 (Y * w + X), e_g (sF (sA (sA (cs (sF (pO sC v64) 139 0 0) F E T U) 149 (kpR (tlB w h X Y) F (s1.2.1 149))) 148 (upd (s1.2.1 148) ((w + 7) / 8 * (Y / 8) + X / 8) 1)) 139 23 (s1.1 139 23 + 1)) g) := by
        rw [A_sF, e9] at tl
        rw [head _ e13 e14, if_neg (fun z => z (by rw [e8, o148, ← e148]; exact kq)), m1, ob_n, tl, ob_n, f139_21, ob_n, ob_n, u148, n_idx (by omega), if_neg (n_in2 A9 (by decide)), A_sA, if_neg (by decide), cs_A (by decide), A_sF, e8, nt, ob_n, f139_23, F_sA, F_sA, cs_F, F_sF, if_neg (by decide), e23, ob_n, w139_23, ob_n, j139 _ (by
          rw [F_sF, if_neg (by decide), F_sA, F_sA, cs_F, B1 v64 13 (by decide)]; exact c5.2.2.2.2.2.2.2.1)]
        rw [A_sF, A_sA, if_neg (by decide), A_sA, if_pos rfl]
        unfold kpR
        rw [if_pos tb, hF _ hlt]
      subst hv
      refine KI_r hc hm ?_ ?_ ?_ ext_rf
      · rw [F_sF, if_neg (by decide), F_sA, F_sA, cs_F, F_sF, if_pos ⟨rfl, rfl⟩]
      · unfold cs
        simp (decide := true) only [ob_n, b2_n, tc_rn, tc_ln, F_sF, A_sF, R_sF, L_sF, F_sA, A_sA, R_sA, L_sA, F_sR, A_sR, R_sR, L_sR, F_sL, A_sL, R_sL, L_sL, and_true, true_and, and_false, false_and, and_self, reduceIte, sF_sF, sA_sA, false_or, or_false, true_or, or_true, not_false_eq_true, not_true_eq_false, decide_true, decide_false, Bool.true_or, Bool.or_true, Bool.false_and, Bool.true_and, Bool.false_or, Bool.or_false, Bool.and_true, Bool.and_false]
      · obtain ⟨-, -, -, -, -, -, ⟨w', h', i7, i8, i9⟩, -, -⟩ := id c4
        have ew : w' = w := by
          have a1 := i7.2.1
          have a2 := i7.2.2.2.2.1
          rw [c5.2.2.2.2.2.2.2.1] at a2
          exact ((n_eq (by omega) (by omega)).mp a2).symm
        have eh : h' = h := by
          have a1 := i7.2.2.2.1
          have a2 := i7.2.2.2.2.2.1
          rw [c5.2.2.2.2.2.2.2.2.1] at a2
          exact ((n_eq (by omega) (by omega)).mp a2).symm
        subst ew eh
        have R := rel_tile c4 i7 i8 i9 hX hY hF
        refine rel_sm R ?_
        unfold tlS
        rw [hC]
        exact sm_cF (sm_cA (sm_cA (sm_tr (sm_F (sm_L sm_rf) (by decide)) sm_cs)))
    · have k1 := b88.resolve_left kq
      have hc : fX11_see (e_g s g) 8 (Int32.ofNat X) (Int32.ofNat Y) = some (.inr (s.2.1 87 (Y * w + X)), e_g s g) := by
        unfold fX11_see
        rw [ob8, ob_n, place11 hg d2 d4 f3 f9, p, if_pos rfl, tc_rn, f8_6, ob_n, ob_n, ob20, ob_n, keeps11 (by omega) (by omega) b88, ob_n, if_pos kq, j52 _ f3]
      have ag := g5 X Y hX hY k1
      refine KI_r (s2 := sF (pO s (s.2.1 87 (Y * w + X)).toInt64) 139 0 0) hc ?_ (by simp (decide := true) only [ob_n, b2_n, tc_rn, tc_ln, F_sF, A_sF, R_sF, L_sF, F_sA, A_sA, R_sA, L_sA, F_sR, A_sR, R_sR, L_sR, F_sL, A_sL, R_sL, L_sL, and_true, true_and, and_false, false_and, and_self, reduceIte, sF_sF, sA_sA, false_or, or_false, true_or, or_true, not_false_eq_true, not_true_eq_false, decide_true, decide_false, Bool.true_or, Bool.or_true, Bool.false_and, Bool.true_and, Bool.false_or, Bool.or_false, Bool.and_true, Bool.and_false]) rfl (rel_thrown (rel_out hR)) ext_rf
      show fX12_see _ _ _ _ = _
      rw [head (pO s _) d5 d6, if_pos (show ¬ (pO s (s.2.1 87 (Y * w + X)).toInt64).2.1 148 ((w + 7) / 8 * (Y / 8) + X / 8) = 0 from fun z => kq (e148.trans z)), j139 _ (by simp (decide := true) only [ob_n, b2_n, tc_rn, tc_ln, F_sF, A_sF, R_sF, L_sF, F_sA, A_sA, R_sA, L_sA, F_sR, A_sR, R_sR, L_sR, F_sL, A_sL, R_sL, L_sL, and_true, true_and, and_false, false_and, and_self, reduceIte, sF_sF, sA_sA, false_or, or_false, true_or, or_true, not_false_eq_true, not_true_eq_false, decide_true, decide_false, Bool.true_or, Bool.or_true, Bool.false_and, Bool.true_and, Bool.false_or, Bool.or_false, Bool.and_true, Bool.and_false]; exact d5), A_sF]
      rw [ag]
      rfl
  · refine KI_no (b := 0) (E := "java/util/NoSuchElementException") (y := 1) hR ?_ (by decide +kernel) (by decide) ?_
    · show fX11_see _ _ _ _ = _
      unfold fX11_see
      rw [ob8, ob_n, place11 hg d2 d4 f3 f9, if_neg p, tc_ln]
    · show fX12_see _ _ _ _ = _
      unfold fX12_see
      rw [ob139, ob_n, place12 d2 d4 d5 d6, ob_n, if_neg p, if_pos rfl, w139_0, ob_n, f139_0, F_sF, if_pos ⟨rfl, rfl⟩, ob_n, if_neg (by decide)]
