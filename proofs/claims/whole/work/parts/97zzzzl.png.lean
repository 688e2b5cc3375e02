-- needs: 97zzzzk
/-! ===== png ===== -/
theorem kP_sm {s s' : e_S} (k : KP s s') : Sm s s' := by
  have a : ∀ j, j ∈ reA → ¬ (126 ≤ j ∧ j ≤ 136) := by decide
  have b : ∀ p, p ∈ reF → ¬ p.1 = 125 ∧ ¬ p.1 = 128 := by decide
  refine ⟨fun j hj => k.1 j (a j hj), fun p hp => k.2.1 p.1 p.2 (b p hp).1 (b p hp).2, fun j hj => k.2.2.1 j ?_⟩
  omega
theorem smI_kz {s s' s'' : e_S} (h : SmI s s') (k : KZ s' s'') : SmI s s'' := by
  have a : ∀ j, j ∈ reA → [187, 188, 189, 190, 191, 192, 193].contains j = false := by decide
  have b : ∀ p, p ∈ reI → ¬ (p.1 = 139 ∧ [2, 3, 4, 5, 75, 79, 82, 83, 84, 85, 86, 87, 88, 89, 93].contains p.2 = true) := by decide
  exact ⟨fun j hj => (k.1 j (a j hj)).trans (h.1 j hj), fun p hp => (k.2.1 p.1 p.2 (b p hp)).trans (h.2.1 p hp), fun j hj => (congrFun k.2.2.1 j).trans (h.2.2 j hj)⟩
theorem tkM_k {S : e_S} : Kp [] 139 [2, 3, 4, 5] S (tkM S) := by
  unfold tkM
  exact kp_F (kp_F (kp_F (kp_F kp_rf (by decide)) (by decide)) (by decide)) (by decide)
theorem kz_sm {X Y : e_S} (k : KZ X Y) (y2 : Y.1 139 2 = 0) (y4 : Y.1 139 4 = 0) (y5 : Y.1 139 5 = 0) : Sm (tkM X) Y := by
  have a : ∀ j, j ∈ reA → [187, 188, 189, 190, 191, 192, 193].contains j = false := by decide
  have b : ∀ p, p ∈ reF → p = (139, 2) ∨ p = (139, 4) ∨ p = (139, 5) ∨ ¬ (p.1 = 139 ∧ [2, 3, 4, 5, 75, 79, 82, 83, 84, 85, 86, 87, 88, 89, 93].contains p.2 = true) := by decide
  have kt : KZ X (tkM X) := kz_w tkM_k (fun j hj => by cases hj) (by decide)
  have t2 : (tkM X).1 139 2 = 0 := by unfold tkM; rw [F_sF, if_neg (by decide), F_sF, if_neg (by decide), F_sF, if_pos ⟨rfl, rfl⟩]
  have t4 : (tkM X).1 139 4 = 0 := by unfold tkM; rw [F_sF, if_neg (by decide), F_sF, if_pos ⟨rfl, rfl⟩]
  have t5 : (tkM X).1 139 5 = 0 := by unfold tkM; rw [F_sF, if_pos ⟨rfl, rfl⟩]
  refine ⟨fun j hj => (k.1 j (a j hj)).trans (kt.1 j (a j hj)).symm, fun p hp => ?_, fun j hj => (congrFun k.2.2.1 j).trans (congrFun kt.2.2.1 j).symm⟩
  rcases b p hp with e | e | e | e
  · rw [e]; exact y2.trans t2.symm
  · rw [e]; exact y4.trans t4.symm
  · rw [e]; exact y5.trans t5.symm
  · exact (k.2.1 p.1 p.2 e).trans (kt.2.1 p.1 p.2 e).symm
theorem re_out {f0 : Nat → Int32} {φ : Nat → Nat → Int32} {b w h W H k : Nat} (hW : W ≤ w) (hH : H ≤ h) (hwh : w * h ≤ 576) (hk : k < b ∨ b + 576 ≤ k) : reT f0 φ b w W H 0 k = f0 k := by
  unfold reT
  rw [if_neg]
  rintro ⟨z1, z2, z3⟩
  have z4 : (k - b) / w < H := z3.elim id (fun y => absurd y.2 (Nat.not_lt_zero _))
  have d := Nat.div_add_mod (k - b) w
  have a : w * ((k - b) / w + 1) ≤ w * h := Nat.mul_le_mul_left _ (by omega)
  rw [Nat.mul_succ] at a
  omega
theorem re_two {f0 f1 : Nat → Int32} {φ : Nat → Nat → Int32} {b w W H k : Nat} (h : f0 k = f1 (b + k)) : reT f0 φ 0 w W H 0 k = reT f1 φ b w W H 0 (b + k) := by
  unfold reT
  have e1 : k - 0 = k := Nat.sub_zero k
  have e2 : b + k - b = k := Nat.add_sub_cancel_left b k
  rw [e1, e2]
  by_cases q : k % w < W ∧ (k / w < H ∨ (k / w = H ∧ k % w < 0))
  · rw [if_pos ⟨Nat.zero_le _, q⟩, if_pos ⟨by omega, q⟩]
  · rw [if_neg (fun z => q z.2), if_neg (fun z => q z.2), h]
theorem K_png {s : e_S} {g : ps_G} (hR : Rel s g) : KI (fL_png (e_g s g) 8 194) (fun G => fX12_png G 139) g := by
  have hg := rel_g hR
  obtain ⟨h1, h2, h3, h4, h5, h6, ⟨w, h, h7, h8, h9⟩, h10, h11⟩ := id hR
  obtain ⟨a, st, pc, uc, f1, f2, f3, f4, f5, f6, f7, f8, f9, f10, f11, f12⟩ := h9
  obtain ⟨m, i1, i2, i3, i4, i5, i6⟩ := h1
  obtain ⟨d1, d2, d3, d4, d5, d6, d7, d8, d9⟩ := id h7
  have hwh := wh_le d2 d4
  obtain ⟨n, ta1, ta2, ta3⟩ := f9.1.1
  have hT : TbC g := h11.2.2.2.1
  have hB : ∀ i, i < m → rg (s.2.1 140 i) 0 255 = true := fun i hi => by
    rw [rg_i]
    exact (i4 i hi).2
  -- the class's state once INPUT is taken
  have c0 : (tkC s).2.2.1 8 0 = some a := by unfold tkC; simp (decide := true) only [ob_n, b2_n, tc_rn, tc_ln, F_sF, A_sF, R_sF, L_sF, F_sA, A_sA, R_sA, L_sA, F_sR, A_sR, R_sR, L_sR, F_sL, A_sL, R_sL, L_sL, and_true, true_and, and_false, false_and, and_self, reduceIte, sF_sF, sA_sA, false_or, or_false, true_or, or_true, not_false_eq_true, not_true_eq_false, decide_true, decide_false, Bool.true_or, Bool.or_true, Bool.false_and, Bool.true_and, Bool.false_or, Bool.or_false, Bool.and_true, Bool.and_false]; exact f3
  have c8 : (tkC s).1 8 2 = Int32.ofNat pc := by unfold tkC; simp (decide := true) only [ob_n, b2_n, tc_rn, tc_ln, F_sF, A_sF, R_sF, L_sF, F_sA, A_sA, R_sA, L_sA, F_sR, A_sR, R_sR, L_sR, F_sL, A_sL, R_sL, L_sL, and_true, true_and, and_false, false_and, and_self, reduceIte, sF_sF, sA_sA, false_or, or_false, true_or, or_true, not_false_eq_true, not_true_eq_false, decide_true, decide_false, Bool.true_or, Bool.or_true, Bool.false_and, Bool.true_and, Bool.false_or, Bool.or_false, Bool.and_true, Bool.and_false]; exact f4
  have c137 : (tkC s).2.1 137 = s.2.1 137 := by unfold tkC; simp (decide := true) only [ob_n, b2_n, tc_rn, tc_ln, F_sF, A_sF, R_sF, L_sF, F_sA, A_sA, R_sA, L_sA, F_sR, A_sR, R_sR, L_sR, F_sL, A_sL, R_sL, L_sL, and_true, true_and, and_false, false_and, and_self, reduceIte, sF_sF, sA_sA, false_or, or_false, true_or, or_true, not_false_eq_true, not_true_eq_false, decide_true, decide_false, Bool.true_or, Bool.or_true, Bool.false_and, Bool.true_and, Bool.false_or, Bool.or_false, Bool.and_true, Bool.and_false]
  have nn := needNumber11 (s := tkC s) hg c0 f9 ta1 ta2
  have smT : SmI s (tkC s) := smI_F (smI_F (smI_F smI_rf (by decide)) (by decide)) (by decide)
  -- the reference from a state of the class
  have ref : ∀ (S : e_S) (G : ps_G), (∀ j, j ∈ [140, 182, 183, 184, 185, 186] → S.2.1 j = s.2.1 j) → S.1 139 2 = s.1 139 2 → ∃ S', fX12_png (e_g S G) 139 = jX12_png_19 (e_g S' G) 139 ∧ KZ S S' ∧ S'.1 139 2 = 0 ∧ (∀ Q P, pgO (s.2.1 140) m = .inr (Q, P) → S'.1 139 4 = 0 ∧ S'.1 139 5 = 0 ∧ QM S' Q ∧ RM S' (chN (hQ Q).1) (hQ Q).2.1 (hQ Q).2.2 (dQ Q) P) ∧ ∀ e p, pgO (s.2.1 140) m = .inl (e, p) → S'.1 139 4 = Int32.ofNat e ∧ S'.1 139 5 = Int32.ofNat p := fun S G a1 a2 => png12 (by
      unfold TbM
      rw [a1 182 (by decide), a1 183 (by decide), a1 184 (by decide), a1 185 (by decide)]
      exact ⟨h11.1, h11.2.1⟩) (fun j hj => by rw [a1 186 (by decide)]; exact h11.2.2.1 j hj) i1 (a2.trans i3) (fun i hi => by rw [a1 140 (by decide)]) hB
  have j19a : ∀ (Y : e_S) (G : ps_G), Y.2.1 142 = s.2.1 142 → n = 30 → jX12_png_19 (e_g Y G) 139 = some (0, e_g (sF (sF (sF Y 139 0 1) 139 4 0) 139 5 0) G) := fun Y G e q => by
    have fu := full12 (s := Y) (g := G) ta1 (by rw [e]; exact ta2)
    rw [if_pos q] at fu
    unfold jX12_png_19
    rw [ob139, ob_n, fu, b2_n, if_neg (by decide)]
  have j19f : ∀ (Y : e_S) (G : ps_G) e, Y.2.1 142 = s.2.1 142 → ¬ n = 30 → Y.1 139 4 = e → ¬ e ≤ 0 → jX12_png_19 (e_g Y G) 139 = some (0, e_g (sF (sF Y 139 0 0) 139 0 2) G) := fun Y G e ea q e4 e0 => by
    have fu := full12 (s := Y) (g := G) ta1 (by rw [ea]; exact ta2)
    rw [if_neg q] at fu
    have f4 : (sF Y 139 0 0).1 139 4 = e := by simp (decide := true) only [ob_n, b2_n, tc_rn, tc_ln, F_sF, A_sF, R_sF, L_sF, F_sA, A_sA, R_sA, L_sA, F_sR, A_sR, R_sR, L_sR, F_sL, A_sL, R_sL, L_sL, and_true, true_and, and_false, false_and, and_self, reduceIte, sF_sF, sA_sA, false_or, or_false, true_or, or_true, not_false_eq_true, not_true_eq_false, decide_true, decide_false, Bool.true_or, Bool.or_true, Bool.false_and, Bool.true_and, Bool.false_or, Bool.or_false, Bool.and_true, Bool.and_false]; exact e4
    unfold jX12_png_19
    rw [ob139, ob_n, fu, b2_n, if_pos rfl, f139_4, f4, ob_n, if_neg e0, w139_0, ob_n]
  by_cases q30 : n = 30
  · rw [if_pos q30] at nn
    obtain ⟨Y, y1, k, y2, -, -⟩ := ref (tkC s) (nx g) (fun j hj => by unfold tkC; simp (decide := true) only [ob_n, b2_n, tc_rn, tc_ln, F_sF, A_sF, R_sF, L_sF, F_sA, A_sA, R_sA, L_sA, F_sR, A_sR, R_sR, L_sR, F_sL, A_sL, R_sL, L_sL, and_true, true_and, and_false, false_and, and_self, reduceIte, sF_sF, sA_sA, false_or, or_false, true_or, or_true, not_false_eq_true, not_true_eq_false, decide_true, decide_false, Bool.true_or, Bool.or_true, Bool.false_and, Bool.true_and, Bool.false_or, Bool.or_false, Bool.and_true, Bool.and_false]) (by unfold tkC; simp (decide := true) only [ob_n, b2_n, tc_rn, tc_ln, F_sF, A_sF, R_sF, L_sF, F_sA, A_sA, R_sA, L_sA, F_sR, A_sR, R_sR, L_sR, F_sL, A_sL, R_sL, L_sL, and_true, true_and, and_false, false_and, and_self, reduceIte, sF_sF, sA_sA, false_or, or_false, true_or, or_true, not_false_eq_true, not_true_eq_false, decide_true, decide_false, Bool.true_or, Bool.or_true, Bool.false_and, Bool.true_and, Bool.false_or, Bool.or_false, Bool.and_true, Bool.and_false])
    have y142 : Y.2.1 142 = s.2.1 142 := (k.1 142 (by decide)).trans (by unfold tkC; simp (decide := true) only [ob_n, b2_n, tc_rn, tc_ln, F_sF, A_sF, R_sF, L_sF, F_sA, A_sA, R_sA, L_sA, F_sR, A_sR, R_sR, L_sR, F_sL, A_sL, R_sL, L_sL, and_true, true_and, and_false, false_and, and_self, reduceIte, sF_sF, sA_sA, false_or, or_false, true_or, or_true, not_false_eq_true, not_true_eq_false, decide_true, decide_false, Bool.true_or, Bool.or_true, Bool.false_and, Bool.true_and, Bool.false_or, Bool.or_false, Bool.and_true, Bool.and_false])
    have k14 := k.2.1 8 14 (by decide)
    have k15 := k.2.1 8 15 (by decide)
    have k16 := k.2.1 8 16 (by decide)
    refine KI_l (E := "java/lang/IndexOutOfBoundsException") (y := 1) (s := s) (s1 := tkC s) (g1 := nx g) ?_ (by decide +kernel) (by decide) (y1.trans (j19a Y (nx g) y142 q30)) (by simp (decide := true) only [ob_n, b2_n, tc_rn, tc_ln, F_sF, A_sF, R_sF, L_sF, F_sA, A_sA, R_sA, L_sA, F_sR, A_sR, R_sR, L_sR, F_sL, A_sL, R_sL, L_sL, and_true, true_and, and_false, false_and, and_self, reduceIte, sF_sF, sA_sA, false_or, or_false, true_or, or_true, not_false_eq_true, not_true_eq_false, decide_true, decide_false, Bool.true_or, Bool.or_true, Bool.false_and, Bool.true_and, Bool.false_or, Bool.or_false, Bool.and_true, Bool.and_false]) (rel_fl hR (smI_F (smI_F (smI_F (smI_kz smT k) (by decide)) (by decide)) (by decide)) ?_ ?_ ?_ ?_) ext_nx
    · unfold fX11_png
      rw [ob8, ob_n, takeInput11, b2_n, ob8, ob_n, nn, tc_ln]
    · simp (decide := true) only [ob_n, b2_n, tc_rn, tc_ln, F_sF, A_sF, R_sF, L_sF, F_sA, A_sA, R_sA, L_sA, F_sR, A_sR, R_sR, L_sR, F_sL, A_sL, R_sL, L_sL, and_true, true_and, and_false, false_and, and_self, reduceIte, sF_sF, sA_sA, false_or, or_false, true_or, or_true, not_false_eq_true, not_true_eq_false, decide_true, decide_false, Bool.true_or, Bool.or_true, Bool.false_and, Bool.true_and, Bool.false_or, Bool.or_false, Bool.and_true, Bool.and_false]; rw [k14]; unfold tkC; simp (decide := true) only [ob_n, b2_n, tc_rn, tc_ln, F_sF, A_sF, R_sF, L_sF, F_sA, A_sA, R_sA, L_sA, F_sR, A_sR, R_sR, L_sR, F_sL, A_sL, R_sL, L_sL, and_true, true_and, and_false, false_and, and_self, reduceIte, sF_sF, sA_sA, false_or, or_false, true_or, or_true, not_false_eq_true, not_true_eq_false, decide_true, decide_false, Bool.true_or, Bool.or_true, Bool.false_and, Bool.true_and, Bool.false_or, Bool.or_false, Bool.and_true, Bool.and_false]
    · simp (decide := true) only [ob_n, b2_n, tc_rn, tc_ln, F_sF, A_sF, R_sF, L_sF, F_sA, A_sA, R_sA, L_sA, F_sR, A_sR, R_sR, L_sR, F_sL, A_sL, R_sL, L_sL, and_true, true_and, and_false, false_and, and_self, reduceIte, sF_sF, sA_sA, false_or, or_false, true_or, or_true, not_false_eq_true, not_true_eq_false, decide_true, decide_false, Bool.true_or, Bool.or_true, Bool.false_and, Bool.true_and, Bool.false_or, Bool.or_false, Bool.and_true, Bool.and_false]; exact y2
    · simp (decide := true) only [ob_n, b2_n, tc_rn, tc_ln, F_sF, A_sF, R_sF, L_sF, F_sA, A_sA, R_sA, L_sA, F_sR, A_sR, R_sR, L_sR, F_sL, A_sL, R_sL, L_sL, and_true, true_and, and_false, false_and, and_self, reduceIte, sF_sF, sA_sA, false_or, or_false, true_or, or_true, not_false_eq_true, not_true_eq_false, decide_true, decide_false, Bool.true_or, Bool.or_true, Bool.false_and, Bool.true_and, Bool.false_or, Bool.or_false, Bool.and_true, Bool.and_false]; rw [k15]; unfold tkC; simp (decide := true) only [ob_n, b2_n, tc_rn, tc_ln, F_sF, A_sF, R_sF, L_sF, F_sA, A_sA, R_sA, L_sA, F_sR, A_sR, R_sR, L_sR, F_sL, A_sL, R_sL, L_sL, and_true, true_and, and_false, false_and, and_self, reduceIte, sF_sF, sA_sA, false_or, or_false, true_or, or_true, not_false_eq_true, not_true_eq_false, decide_true, decide_false, Bool.true_or, Bool.or_true, Bool.false_and, Bool.true_and, Bool.false_or, Bool.or_false, Bool.and_true, Bool.and_false]
    · simp (decide := true) only [ob_n, b2_n, tc_rn, tc_ln, F_sF, A_sF, R_sF, L_sF, F_sA, A_sA, R_sA, L_sA, F_sR, A_sR, R_sR, L_sR, F_sL, A_sL, R_sL, L_sL, and_true, true_and, and_false, false_and, and_self, reduceIte, sF_sF, sA_sA, false_or, or_false, true_or, or_true, not_false_eq_true, not_true_eq_false, decide_true, decide_false, Bool.true_or, Bool.or_true, Bool.false_and, Bool.true_and, Bool.false_or, Bool.or_false, Bool.and_true, Bool.and_false]; rw [k16]; unfold tkC; simp (decide := true) only [ob_n, b2_n, tc_rn, tc_ln, F_sF, A_sF, R_sF, L_sF, F_sA, A_sA, R_sA, L_sA, F_sR, A_sR, R_sR, L_sR, F_sL, A_sL, R_sL, L_sL, and_true, true_and, and_false, false_and, and_self, reduceIte, sF_sF, sA_sA, false_or, or_false, true_or, or_true, not_false_eq_true, not_true_eq_false, decide_true, decide_false, Bool.true_or, Bool.or_true, Bool.false_and, Bool.true_and, Bool.false_or, Bool.or_false, Bool.and_true, Bool.and_false]
  · rw [if_neg q30] at nn
    obtain ⟨s', v, r1, r2, r3, r4⟩ := read8 (s := tkC s) (g := g) (I := s.2.1 140) hT i1 (fun i hi => by rw [c137]; exact (i4 i hi).1) hB
    have smR : SmI s s' := smI_sm smT (kP_sm r2)
    have pre : fX11_png (e_g s g) 8 = if ¬ v = 0 then jX11_png_42 (e_g s' g) 8 else some (.inl "java/lang/UnsupportedOperationException", e_g (sF (sF s' 8 15 (s'.1 125 0)) 8 16 (s'.1 125 1)) (nx g)) := by
      unfold fX11_png
      rw [ob8, ob_n, takeInput11, b2_n, ob8, ob_n, nn, tc_rn, f8_12, ob_n, ob_n, f8_13, ob_n, ob_n, ob125, ob_n, i2, r1, b2_n]
      by_cases q : v = 0
      · rw [if_neg (fun y => y q), if_neg (fun y => y q), f8_12, ob_n, ob_n, f125_0, ob_n, ob_n, ob_n, f125_1, ob_n, ob8, ob_n, failInput11 hg, tc_ln]
      · rw [if_pos q, if_pos q]
    have sA' : ∀ j, ¬ (126 ≤ j ∧ j ≤ 136) → s'.2.1 j = s.2.1 j := fun j hj => (r2.1 j hj).trans (by unfold tkC; simp (decide := true) only [ob_n, b2_n, tc_rn, tc_ln, F_sF, A_sF, R_sF, L_sF, F_sA, A_sA, R_sA, L_sA, F_sR, A_sR, R_sR, L_sR, F_sL, A_sL, R_sL, L_sL, and_true, true_and, and_false, false_and, and_self, reduceIte, sF_sF, sA_sA, false_or, or_false, true_or, or_true, not_false_eq_true, not_true_eq_false, decide_true, decide_false, Bool.true_or, Bool.or_true, Bool.false_and, Bool.true_and, Bool.false_or, Bool.or_false, Bool.and_true, Bool.and_false])
    have sF' : ∀ k, s'.1 139 k = s.1 139 k := fun k => (r2.2.1 139 k (by decide) (by decide)).trans (by unfold tkC; simp (decide := true) only [ob_n, b2_n, tc_rn, tc_ln, F_sF, A_sF, R_sF, L_sF, F_sA, A_sA, R_sA, L_sA, F_sR, A_sR, R_sR, L_sR, F_sL, A_sL, R_sL, L_sL, and_true, true_and, and_false, false_and, and_self, reduceIte, sF_sF, sA_sA, false_or, or_false, true_or, or_true, not_false_eq_true, not_true_eq_false, decide_true, decide_false, Bool.true_or, Bool.or_true, Bool.false_and, Bool.true_and, Bool.false_or, Bool.or_false, Bool.and_true, Bool.and_false])
    cases eP : pgO (s.2.1 140) m with
    | inl f =>
      obtain ⟨e, p⟩ := f
      obtain ⟨v0, ve, vp⟩ := r4 e p eP
      have b := pg_e eP
      rw [if_neg (fun y => y v0), ve, vp] at pre
      obtain ⟨Y, y1, k, y2, -, y3⟩ := ref (sF (sF s' 8 15 (Int32.ofNat e)) 8 16 (Int32.ofNat p)) (nx g) (fun j hj => by
        have : ∀ j, j ∈ [140, 182, 183, 184, 185, 186] → ¬ (126 ≤ j ∧ j ≤ 136) := by decide
        rw [A_sF, A_sF]
        exact sA' j (this j hj)) (by rw [F_sF, if_neg (by decide), F_sF, if_neg (by decide)]; exact sF' 2)
      obtain ⟨y4, y5⟩ := y3 e p eP
      have y142 : Y.2.1 142 = s.2.1 142 := by
        rw [k.1 142 (by decide), A_sF, A_sF]
        exact sA' 142 (by decide)
      have k14 : Y.1 8 14 = 0 := by
        rw [k.2.1 8 14 (by decide), F_sF, if_neg (by decide), F_sF, if_neg (by decide), r2.2.1 8 14 (by decide) (by decide)]
        unfold tkC
        simp (decide := true) only [ob_n, b2_n, tc_rn, tc_ln, F_sF, A_sF, R_sF, L_sF, F_sA, A_sA, R_sA, L_sA, F_sR, A_sR, R_sR, L_sR, F_sL, A_sL, R_sL, L_sL, and_true, true_and, and_false, false_and, and_self, reduceIte, sF_sF, sA_sA, false_or, or_false, true_or, or_true, not_false_eq_true, not_true_eq_false, decide_true, decide_false, Bool.true_or, Bool.or_true, Bool.false_and, Bool.true_and, Bool.false_or, Bool.or_false, Bool.and_true, Bool.and_false]
      have k15 : Y.1 8 15 = Int32.ofNat e := by
        rw [k.2.1 8 15 (by decide), F_sF, if_neg (by decide), F_sF, if_pos ⟨rfl, rfl⟩]
      have k16 : Y.1 8 16 = Int32.ofNat p := by
        rw [k.2.1 8 16 (by decide), F_sF, if_pos ⟨rfl, rfl⟩]
      have ne : ¬ Int32.ofNat e ≤ 0 := fun y => by
        have y' : Int32.ofNat e ≤ Int32.ofNat 0 := y
        have := (n_le (by omega) (by omega)).mp y'
        omega
      refine KI_l (E := "java/lang/UnsupportedOperationException") (y := 2) (s := s) (s1 := sF (sF s' 8 15 (Int32.ofNat e)) 8 16 (Int32.ofNat p)) (g1 := nx g) pre (by decide +kernel) (by decide) (y1.trans (j19f Y (nx g) (Int32.ofNat e) y142 q30 y4 ne)) (by simp (decide := true) only [ob_n, b2_n, tc_rn, tc_ln, F_sF, A_sF, R_sF, L_sF, F_sA, A_sA, R_sA, L_sA, F_sR, A_sR, R_sR, L_sR, F_sL, A_sL, R_sL, L_sL, and_true, true_and, and_false, false_and, and_self, reduceIte, sF_sF, sA_sA, false_or, or_false, true_or, or_true, not_false_eq_true, not_true_eq_false, decide_true, decide_false, Bool.true_or, Bool.or_true, Bool.false_and, Bool.true_and, Bool.false_or, Bool.or_false, Bool.and_true, Bool.and_false]) (rel_fl hR (smI_F (smI_F (smI_kz (smI_F (smI_F smR (by decide)) (by decide)) k) (by decide)) (by decide)) ?_ ?_ ?_ ?_) ext_nx
      · simp (decide := true) only [ob_n, b2_n, tc_rn, tc_ln, F_sF, A_sF, R_sF, L_sF, F_sA, A_sA, R_sA, L_sA, F_sR, A_sR, R_sR, L_sR, F_sL, A_sL, R_sL, L_sL, and_true, true_and, and_false, false_and, and_self, reduceIte, sF_sF, sA_sA, false_or, or_false, true_or, or_true, not_false_eq_true, not_true_eq_false, decide_true, decide_false, Bool.true_or, Bool.or_true, Bool.false_and, Bool.true_and, Bool.false_or, Bool.or_false, Bool.and_true, Bool.and_false]; exact k14
      · simp (decide := true) only [ob_n, b2_n, tc_rn, tc_ln, F_sF, A_sF, R_sF, L_sF, F_sA, A_sA, R_sA, L_sA, F_sR, A_sR, R_sR, L_sR, F_sL, A_sL, R_sL, L_sL, and_true, true_and, and_false, false_and, and_self, reduceIte, sF_sF, sA_sA, false_or, or_false, true_or, or_true, not_false_eq_true, not_true_eq_false, decide_true, decide_false, Bool.true_or, Bool.or_true, Bool.false_and, Bool.true_and, Bool.false_or, Bool.or_false, Bool.and_true, Bool.and_false]; exact y2
      · simp (decide := true) only [ob_n, b2_n, tc_rn, tc_ln, F_sF, A_sF, R_sF, L_sF, F_sA, A_sA, R_sA, L_sA, F_sR, A_sR, R_sR, L_sR, F_sL, A_sL, R_sL, L_sL, and_true, true_and, and_false, false_and, and_self, reduceIte, sF_sF, sA_sA, false_or, or_false, true_or, or_true, not_false_eq_true, not_true_eq_false, decide_true, decide_false, Bool.true_or, Bool.or_true, Bool.false_and, Bool.true_and, Bool.false_or, Bool.or_false, Bool.and_true, Bool.and_false]; rw [k15, y4]
      · simp (decide := true) only [ob_n, b2_n, tc_rn, tc_ln, F_sF, A_sF, R_sF, L_sF, F_sA, A_sA, R_sA, L_sA, F_sR, A_sR, R_sR, L_sR, F_sL, A_sL, R_sL, L_sL, and_true, true_and, and_false, false_and, and_self, reduceIte, sF_sF, sA_sA, false_or, or_false, true_or, or_true, not_false_eq_true, not_true_eq_false, decide_true, decide_false, Bool.true_or, Bool.or_true, Bool.false_and, Bool.true_and, Bool.false_or, Bool.or_false, Bool.and_true, Bool.and_false]; rw [k16, y5]
    | inr QP =>
      obtain ⟨Q, P⟩ := QP
      obtain ⟨v1, qc, ro⟩ := r3 Q P eP
      obtain ⟨c, w', h', hP⟩ := pg_s hB eP
      have v0 : ¬ v = 0 := by rw [v1]; decide
      rw [if_pos v0] at pre
      have hh : hQ Q = (c, w', h') := by unfold hQ; rw [hP.1]; rfl
      have hd : dQ Q = h' * (1 + w' * chN c) := by unfold dQ; rw [hP.1]; rfl
      rw [hd] at ro
      have smM : Sm (tkM (tkC s)) (tkM s') := sm_tkM (kP_sm r2)
      have R2 : Rel (tkM s') g := rel_sm (rel_tk hR) smM
      have v142 : (tkM s').2.1 142 = s.2.1 142 := (tkM_k.1 142 rfl).trans (sA' 142 (by decide))
      have v143 : (tkM s').2.1 143 = s.2.1 143 := (tkM_k.1 143 rfl).trans (sA' 143 (by decide))
      have v12 : (tkM s').2.2.1 12 = s.2.2.1 12 := (congrFun tkM_k.2.2.1 12).trans ((r2.2.2.1 12 (by decide)).trans (by unfold tkC; simp (decide := true) only [ob_n, b2_n, tc_rn, tc_ln, F_sF, A_sF, R_sF, L_sF, F_sA, A_sA, R_sA, L_sA, F_sR, A_sR, R_sR, L_sR, F_sL, A_sL, R_sL, L_sL, and_true, true_and, and_false, false_and, and_self, reduceIte, sF_sF, sA_sA, false_or, or_false, true_or, or_true, not_false_eq_true, not_true_eq_false, decide_true, decide_false, Bool.true_or, Bool.or_true, Bool.false_and, Bool.true_and, Bool.false_or, Bool.or_false, Bool.and_true, Bool.and_false]))
      have h7' : G7 (tkM s') w h := g7_sm (s := tkM (tkC s)) (by
        unfold G7 at h7 ⊢
        unfold tkM tkC
        simp (decide := true) only [ob_n, b2_n, tc_rn, tc_ln, F_sF, A_sF, R_sF, L_sF, F_sA, A_sA, R_sA, L_sA, F_sR, A_sR, R_sR, L_sR, F_sL, A_sL, R_sL, L_sL, and_true, true_and, and_false, false_and, and_self, reduceIte, sF_sF, sA_sA, false_or, or_false, true_or, or_true, not_false_eq_true, not_true_eq_false, decide_true, decide_false, Bool.true_or, Bool.or_true, Bool.false_and, Bool.true_and, Bool.false_or, Bool.or_false, Bool.and_true, Bool.and_false]
        exact h7) smM
      have f10' : ∀ k, k < 35071 → (tkM s').2.1 143 (35071 * ((st + pc) % 25) + k) = (tkM s').2.1 142 k := by rw [v142, v143]; exact f10
      have f11' : ∀ i, i < pc → ∃ b, (tkM s').2.2.1 12 i = some b ∧ StN g b w h (kp ((tkM s').2.1 143) st i) := by rw [v143, v12]; exact f11
      have f9' : StN g a w h ((tkM s').2.1 142) := by rw [v142]; exact f9
      have k0 : s'.2.2.1 8 0 = some a := (congrFun (r2.2.2.1 8 (by decide)) 0).trans c0
      have k1 : s'.1 8 2 = Int32.ofNat pc := (r2.2.1 8 2 (by decide) (by decide)).trans c8
      have k2 : s'.2.2.1 12 = s.2.2.1 12 := (r2.2.2.1 12 (by decide)).trans (by unfold tkC; simp (decide := true) only [ob_n, b2_n, tc_rn, tc_ln, F_sF, A_sF, R_sF, L_sF, F_sA, A_sA, R_sA, L_sA, F_sR, A_sR, R_sR, L_sR, F_sL, A_sL, R_sL, L_sL, and_true, true_and, and_false, false_and, and_self, reduceIte, sF_sF, sA_sA, false_or, or_false, true_or, or_true, not_false_eq_true, not_true_eq_false, decide_true, decide_false, Bool.true_or, Bool.or_true, Bool.false_and, Bool.true_and, Bool.false_or, Bool.or_false, Bool.and_true, Bool.and_false])
      have nA := nA_mk (s := s') hg
      have pt := paint8 (f0 := cI (fun _ => 0) 0) hg d2 d4 hP qc ro
      obtain ⟨φ, eφ⟩ : ∃ φ, φ = pxQ Q P c w' := ⟨_, rfl⟩
      rw [← eφ] at pt
      obtain ⟨N0, eN0⟩ : ∃ N0, N0 = nlN (s.2.1 142) 0 (-1) (Int32.ofNat (cnt (chL (s.2.1 142) (-1)) 30)) n := ⟨_, rfl⟩
      have n0 : ∀ k, k < 576 → N0 (1169 * n + 17 + k) = 0 := fun k hk => by
        rw [eN0, Nat.add_assoc]
        unfold nlN
        rw [cpT_in (by omega)]
        unfold nlR
        rw [if_neg (by omega), if_neg (by omega), if_neg (by omega), if_neg (by omega), if_neg (by omega), if_neg (by omega), if_neg (fun y => by omega)]
      obtain ⟨F, eF⟩ : ∃ F, F = reT (cI (fun _ => 0) 0) φ 0 w (min w w') (min h h') 0 := ⟨_, rfl⟩
      rw [← eF] at pt
      obtain ⟨N', eN'⟩ : ∃ N', N' = reT N0 φ (1169 * n + 17) w (min w w') (min h h') 0 := ⟨_, rfl⟩
      have m1 := Nat.min_le_left w w'
      have m3 := Nat.min_le_left h h'
      have hEA := ext_mkA (g := g) (f := F)
      obtain ⟨b, g2, ap, hE, hSt⟩ := addPx (s := s') (G := mkA g F) (va := g.1) (f := F) (N' := N') hwh hg hEA ⟨show g.1 + 1 + 5 ≤ g.1 + 100 by omega, show g.2.1 + 576 + 659 ≤ g.2.1 + 10000 by omega⟩ k0 k1 (show pc ≤ 24 by omega) (fun i hi => (f11 i hi).imp fun b hb => ⟨_, by rw [k2]; exact hb.1, hb.2⟩) f9 (show n < 30 by omega) ta2 hg (show g.1 < g.1 + 1 by omega) nw_at (fun k hk => by
          rw [eN', re_out m1 m3 hwh (by omega), eN0]) (fun k hk => by
          rw [eF, eN', ← Nat.add_assoc]
          refine re_two ?_
          rw [n0 k (by omega)]
          show (if k < 0 then (0 : Int32) else 0) = 0
          rw [if_neg (Nat.not_lt_zero k)])
      obtain ⟨Y, y1, k, y2, y3, -⟩ := ref (pO (fgC (rmC s' a b pc)) (Int32.toInt64 (Int32.ofNat n))) g2 (fun j hj => by
        have q : ∀ j, j ∈ [140, 182, 183, 184, 185, 186] → ¬ (126 ≤ j ∧ j ≤ 136) := by decide
        rw [← sA' j (q j hj)]
        have : j = 140 ∨ j = 182 ∨ j = 183 ∨ j = 184 ∨ j = 185 ∨ j = 186 := by
          have u : ∀ j, j ∈ [140, 182, 183, 184, 185, 186] → j = 140 ∨ j = 182 ∨ j = 183 ∨ j = 184 ∨ j = 185 ∨ j = 186 := by decide
          exact u j hj
        rcases this with rfl | rfl | rfl | rfl | rfl | rfl <;> (unfold pO fgC rmC; simp (decide := true) only [ob_n, b2_n, tc_rn, tc_ln, F_sF, A_sF, R_sF, L_sF, F_sA, A_sA, R_sA, L_sA, F_sR, A_sR, R_sR, L_sR, F_sL, A_sL, R_sL, L_sL, and_true, true_and, and_false, false_and, and_self, reduceIte, sF_sF, sA_sA, false_or, or_false, true_or, or_true, not_false_eq_true, not_true_eq_false, decide_true, decide_false, Bool.true_or, Bool.or_true, Bool.false_and, Bool.true_and, Bool.false_or, Bool.or_false, Bool.and_true, Bool.and_false, A_sRr])) (by rw [← sF' 2]; unfold pO fgC rmC; simp (decide := true) only [ob_n, b2_n, tc_rn, tc_ln, F_sF, A_sF, R_sF, L_sF, F_sA, A_sA, R_sA, L_sA, F_sR, A_sR, R_sR, L_sR, F_sL, A_sL, R_sL, L_sL, and_true, true_and, and_false, false_and, and_self, reduceIte, sF_sF, sA_sA, false_or, or_false, true_or, or_true, not_false_eq_true, not_true_eq_false, decide_true, decide_false, Bool.true_or, Bool.or_true, Bool.false_and, Bool.true_and, Bool.false_or, Bool.or_false, Bool.and_true, Bool.and_false, F_sRr])
      obtain ⟨y4, y5, qm, rm⟩ := y3 Q P eP
      rw [hh, hd] at rm
      have smY := kz_sm k y2 y4 y5
      rw [tkM_rm] at smY
      have smY' : Sm (fgC (rmC (tkM s') a b pc)) Y := sm_tr (by unfold pO; exact sm_L sm_rf) smY
      have eL : Y.2.2.2 = (pO (fgC (rmC s' a b pc)) (Int32.toInt64 (Int32.ofNat n))).2.2.2 := k.2.2.2
      have y142 : Y.2.1 142 = s.2.1 142 := by
        rw [k.1 142 (by decide), ← sA' 142 (by decide)]
        unfold pO fgC rmC
        simp (decide := true) only [ob_n, b2_n, tc_rn, tc_ln, F_sF, A_sF, R_sF, L_sF, F_sA, A_sA, R_sA, L_sA, F_sR, A_sR, R_sR, L_sR, F_sL, A_sL, R_sL, L_sL, and_true, true_and, and_false, false_and, and_self, reduceIte, sF_sF, sA_sA, false_or, or_false, true_or, or_true, not_false_eq_true, not_true_eq_false, decide_true, decide_false, Bool.true_or, Bool.or_true, Bool.false_and, Bool.true_and, Bool.false_or, Bool.or_false, Bool.and_true, Bool.and_false, A_sRr]
      have yF : ∀ j, j = 10 ∨ j = 11 ∨ j = 13 ∨ j = 14 → Y.1 139 j = s.1 139 j := fun j hj => by
        rw [k.2.1 139 j (by
          rintro ⟨-, z⟩
          rcases hj with rfl | rfl | rfl | rfl <;> cases z), ← sF' j]
        unfold pO fgC rmC
        simp (decide := true) only [ob_n, b2_n, tc_rn, tc_ln, F_sF, A_sF, R_sF, L_sF, F_sA, A_sA, R_sA, L_sA, F_sR, A_sR, R_sR, L_sR, F_sL, A_sL, R_sL, L_sL, and_true, true_and, and_false, false_and, and_self, reduceIte, sF_sF, sA_sA, false_or, or_false, true_or, or_true, not_false_eq_true, not_true_eq_false, decide_true, decide_false, Bool.true_or, Bool.or_true, Bool.false_and, Bool.true_and, Bool.false_or, Bool.or_false, Bool.and_true, Bool.and_false, F_sRr]
      have z142 : (sF Y 139 0 0).2.1 142 = s.2.1 142 := by rw [A_sF]; exact y142
      have z4 : (sF Y 139 0 0).1 139 4 = 0 := by rw [F_sF, if_neg (by decide)]; exact y4
      have zF : ∀ j, j = 10 ∨ j = 11 ∨ j = 13 ∨ j = 14 → (sF Y 139 0 0).1 139 j = s.1 139 j := fun j hj => by
        rw [F_sF, if_neg (fun y => by omega)]
        exact yF j hj
      have fu := full12 (s := Y) (g := g2) ta1 (by rw [y142]; exact ta2)
      rw [if_neg q30] at fu
      have my := many12 (s := sF Y 139 0 0) (g := g2) (P := -1)
      rw [z142] at my
      have nl := newLayer12 (s := sF Y 139 0 0) (g := g2) (kind := 0) (P := -1) (k := Int32.ofNat (cnt (chL (s.2.1 142) (-1)) 30)) (l := n) (by omega) (by rw [z142]; exact ta2)
      rw [z142, ← eN0] at nl
      have zQ : QM (sF Y 139 0 0) Q := by
        unfold QM at qm ⊢
        rw [F_sF, if_neg (by decide), F_sF, if_neg (by decide), F_sF, if_neg (by decide), F_sF, if_neg (by decide), F_sF, if_neg (by decide), F_sF, if_neg (by decide), A_sF]
        exact qm
      have zR : RM (sF Y 139 0 0) (chN c) w' h' (h' * (1 + w' * chN c)) P := by
        unfold RM at rm ⊢
        rw [F_sF, if_neg (by decide), F_sF, if_neg (by decide), F_sF, if_neg (by decide), A_sF]
        exact rm
      have rl := pngl12 (s := sA (sF Y 139 0 0) 142 N0) (g := g2) (l := n) (w := w) (h := h) d2 d4 (by rw [F_sA, zF _ (by omega)]; exact d5) (by rw [F_sA, zF _ (by omega)]; exact d6) (by omega) hP (qm_A zQ) (rm_A zR)
      rw [A_sA, if_pos rfl, sA_sA, ← eφ, ← eN'] at rl
      have ed := edited12 (s := sA (sF Y 139 0 0) 142 N') (g := g2) f1 (show pc ≤ 24 by omega) (by rw [F_sA, zF _ (by omega)]; exact f6) (by rw [F_sA, zF _ (by omega)]; exact f7)
      have hm : fX12_png (e_g (pO (fgC (rmC s' a b pc)) (Int32.toInt64 (Int32.ofNat n))) g2) 139 = some (Int32.ofNat n, e_g (fg12 (edM (sA (sF Y 139 0 0) 142 N') st pc)) g2) := by
        rw [y1]
        unfold jX12_png_19 jX12_png_122
        rw [ob139, ob_n, fu, b2_n, if_pos rfl, f139_4, z4, ob_n, if_pos (by decide), ob139, ob_n, my, ob_n, ob_n, nl, b2_n, rl, ob_n, ob139, ob_n, ed, ob_n, ob139, ob_n, forget12, ob_n]
        rfl
      obtain ⟨sw, sh, -, -⟩ := stW (s := s') (stN_ext (ext_mkA (g := g) (f := cI (fun _ => 0) 0)) f9)
      refine KI_r (s := s) (s1 := fgC (rmC s' a b pc)) (g1 := g2) (v := Int32.ofNat n) ?_ hm ?_ ?_ (rel_sm (rel_edit R2 h7' f1 f2 f9' f10' f11' hE hSt) ?_) hE
      · rw [pre]
        unfold jX11_png_42
        have e1' : (e_g s' g).1 = g.1 := rfl
        rw [nA, ob_n, f8_12, ob_n, ob_n, f8_0, k0, ob_n, ob_n, sw, ob_n, ob_n, ob_n, sh, ob_n, ob125, ob_n, e1', pt, ob_n, ob8, ob_n, ap, b2_n]
      · unfold fg12 edM; simp (decide := true) only [ob_n, b2_n, tc_rn, tc_ln, F_sF, A_sF, R_sF, L_sF, F_sA, A_sA, R_sA, L_sA, F_sR, A_sR, R_sR, L_sR, F_sL, A_sL, R_sL, L_sL, and_true, true_and, and_false, false_and, and_self, reduceIte, sF_sF, sA_sA, false_or, or_false, true_or, or_true, not_false_eq_true, not_true_eq_false, decide_true, decide_false, Bool.true_or, Bool.or_true, Bool.false_and, Bool.true_and, Bool.false_or, Bool.or_false, Bool.and_true, Bool.and_false]
      · rw [← eL]
        rfl
      · unfold edS
        exact sm_fg (sm_edM (sm_A2 (sm_F smY' (by decide))))
