-- needs: 97zw
theorem rel_np {s : e_S} {g : ps_G} (hR : Rel s g) : Rel (sF (sF s 93 8 0) 139 43 0) g := by
  obtain ⟨h1, h2, h3, h4, h5, h6, ⟨w, h, h7, h8, h9⟩, h10, h11⟩ := hR
  refine ⟨(by unfold G1 at h1 ⊢; simp (decide := true) only [ob_s, b2_s, tc_r, tc_l, F_sF, A_sF, R_sF, L_sF, F_sA, A_sA, R_sA, L_sA, F_sR, A_sR, R_sR, L_sR, F_sL, A_sL, R_sL, L_sL, and_true, true_and, and_false, false_and, and_self, reduceIte, sF_sF, sA_sA, false_or, or_false, true_or, or_true, not_false_eq_true, not_true_eq_false, decide_true, decide_false, Bool.true_or, Bool.or_true, Bool.false_and, Bool.true_and, Bool.false_or, Bool.or_false, Bool.and_true, Bool.and_false, pO]; exact h1), ?_, (by unfold G3 at h3 ⊢; simp (decide := true) only [ob_s, b2_s, tc_r, tc_l, F_sF, A_sF, R_sF, L_sF, F_sA, A_sA, R_sA, L_sA, F_sR, A_sR, R_sR, L_sR, F_sL, A_sL, R_sL, L_sL, and_true, true_and, and_false, false_and, and_self, reduceIte, sF_sF, sA_sA, false_or, or_false, true_or, or_true, not_false_eq_true, not_true_eq_false, decide_true, decide_false, Bool.true_or, Bool.or_true, Bool.false_and, Bool.true_and, Bool.false_or, Bool.or_false, Bool.and_true, Bool.and_false, pO]; exact h3), (by unfold G4 at h4 ⊢; simp (decide := true) only [ob_s, b2_s, tc_r, tc_l, F_sF, A_sF, R_sF, L_sF, F_sA, A_sA, R_sA, L_sA, F_sR, A_sR, R_sR, L_sR, F_sL, A_sL, R_sL, L_sL, and_true, true_and, and_false, false_and, and_self, reduceIte, sF_sF, sA_sA, false_or, or_false, true_or, or_true, not_false_eq_true, not_true_eq_false, decide_true, decide_false, Bool.true_or, Bool.or_true, Bool.false_and, Bool.true_and, Bool.false_or, Bool.or_false, Bool.and_true, Bool.and_false, pO]; exact h4), (by unfold G5 at h5 ⊢; simp (decide := true) only [ob_s, b2_s, tc_r, tc_l, F_sF, A_sF, R_sF, L_sF, F_sA, A_sA, R_sA, L_sA, F_sR, A_sR, R_sR, L_sR, F_sL, A_sL, R_sL, L_sL, and_true, true_and, and_false, false_and, and_self, reduceIte, sF_sF, sA_sA, false_or, or_false, true_or, or_true, not_false_eq_true, not_true_eq_false, decide_true, decide_false, Bool.true_or, Bool.or_true, Bool.false_and, Bool.true_and, Bool.false_or, Bool.or_false, Bool.and_true, Bool.and_false, pO]; exact h5), (by unfold G6 at h6 ⊢; simp (decide := true) only [ob_s, b2_s, tc_r, tc_l, F_sF, A_sF, R_sF, L_sF, F_sA, A_sA, R_sA, L_sA, F_sR, A_sR, R_sR, L_sR, F_sL, A_sL, R_sL, L_sL, and_true, true_and, and_false, false_and, and_self, reduceIte, sF_sF, sA_sA, false_or, or_false, true_or, or_true, not_false_eq_true, not_true_eq_false, decide_true, decide_false, Bool.true_or, Bool.or_true, Bool.false_and, Bool.true_and, Bool.false_or, Bool.or_false, Bool.and_true, Bool.and_false, pO]; exact h6), ⟨w, h, (by unfold G7 at h7 ⊢; simp (decide := true) only [ob_s, b2_s, tc_r, tc_l, F_sF, A_sF, R_sF, L_sF, F_sA, A_sA, R_sA, L_sA, F_sR, A_sR, R_sR, L_sR, F_sL, A_sL, R_sL, L_sL, and_true, true_and, and_false, false_and, and_self, reduceIte, sF_sF, sA_sA, false_or, or_false, true_or, or_true, not_false_eq_true, not_true_eq_false, decide_true, decide_false, Bool.true_or, Bool.or_true, Bool.false_and, Bool.true_and, Bool.false_or, Bool.or_false, Bool.and_true, Bool.and_false, pO]; exact h7), (by unfold G8 at h8 ⊢; simp (decide := true) only [ob_s, b2_s, tc_r, tc_l, F_sF, A_sF, R_sF, L_sF, F_sA, A_sA, R_sA, L_sA, F_sR, A_sR, R_sR, L_sR, F_sL, A_sL, R_sL, L_sL, and_true, true_and, and_false, false_and, and_self, reduceIte, sF_sF, sA_sA, false_or, or_false, true_or, or_true, not_false_eq_true, not_true_eq_false, decide_true, decide_false, Bool.true_or, Bool.or_true, Bool.false_and, Bool.true_and, Bool.false_or, Bool.or_false, Bool.and_true, Bool.and_false, pO]; exact h8), (by unfold G10 at h9 ⊢; simp (decide := true) only [ob_s, b2_s, tc_r, tc_l, F_sF, A_sF, R_sF, L_sF, F_sA, A_sA, R_sA, L_sA, F_sR, A_sR, R_sR, L_sR, F_sL, A_sL, R_sL, L_sL, and_true, true_and, and_false, false_and, and_self, reduceIte, sF_sF, sA_sA, false_or, or_false, true_or, or_true, not_false_eq_true, not_true_eq_false, decide_true, decide_false, Bool.true_or, Bool.or_true, Bool.false_and, Bool.true_and, Bool.false_or, Bool.or_false, Bool.and_true, Bool.and_false, pO]; exact h9)⟩, (by unfold G9 at h10 ⊢; simp (decide := true) only [ob_s, b2_s, tc_r, tc_l, F_sF, A_sF, R_sF, L_sF, F_sA, A_sA, R_sA, L_sA, F_sR, A_sR, R_sR, L_sR, F_sL, A_sL, R_sL, L_sL, and_true, true_and, and_false, false_and, and_self, reduceIte, sF_sF, sA_sA, false_or, or_false, true_or, or_true, not_false_eq_true, not_true_eq_false, decide_true, decide_false, Bool.true_or, Bool.or_true, Bool.false_and, Bool.true_and, Bool.false_or, Bool.or_false, Bool.and_true, Bool.and_false, pO]; exact h10), (by unfold G11 at h11 ⊢; simp (decide := true) only [ob_s, b2_s, tc_r, tc_l, F_sF, A_sF, R_sF, L_sF, F_sA, A_sA, R_sA, L_sA, F_sR, A_sR, R_sR, L_sR, F_sL, A_sL, R_sL, L_sL, and_true, true_and, and_false, false_and, and_self, reduceIte, sF_sF, sA_sA, false_or, or_false, true_or, or_true, not_false_eq_true, not_true_eq_false, decide_true, decide_false, Bool.true_or, Bool.or_true, Bool.false_and, Bool.true_and, Bool.false_or, Bool.or_false, Bool.and_true, Bool.and_false, pO]; exact h11)⟩
  unfold G2 at h2 ⊢
  obtain ⟨a0, a1, a2, a3, a4, a5, a6, a7, a8, a9, a10, a11, a12, a13, a14, n, b⟩ := h2
  simp (decide := true) only [ob_n, b2_n, tc_rn, tc_ln, F_sF, A_sF, R_sF, L_sF, F_sA, A_sA, R_sA, L_sA, F_sR, A_sR, R_sR, L_sR, F_sL, A_sL, R_sL, L_sL, and_true, true_and, and_false, false_and, and_self, reduceIte, sF_sF, sA_sA, false_or, or_false, true_or, or_true, not_false_eq_true, not_true_eq_false, decide_true, decide_false, Bool.true_or, Bool.or_true, Bool.false_and, Bool.true_and, Bool.false_or, Bool.or_false, Bool.and_true, Bool.and_false]
  exact ⟨a0, a1, a2, a3, a4, a5, a6, a7, a8, a9, a10, a11, a12, a13, a14, 0, by omega, rfl, rfl, fun k hk => absurd hk (by omega)⟩
theorem K_stroke {s : e_S} {g : ps_G} {x how : Int32} (hR : Rel s g) : KI (fL_stroke (e_g s g) 8 x how 194) (fun G => fX12_stroke G 139 x how) g := by
  have hg := rel_g hR
  obtain ⟨h1, h2, h3, h4, h5, h6, ⟨w, h, h7, h8, h9⟩, h10, h11⟩ := id hR
  obtain ⟨a, st, pc, uc, f1, f2, f3, f4, f5, f6, f7, f8, f9, f10, f11, f12⟩ := h9
  obtain ⟨d1, d2, d3, d4, d5, d6, d7, d8, d9⟩ := id h7
  obtain ⟨b0, b1, b2, b3, b4, b5, b6, b7, b8, b9, b10, b11, b12, b13, b14, n, hn, n1, n2, hpt⟩ := h2
  have hwh := wh_le d2 d4
  obtain ⟨s0, s1, -, -⟩ := stW (s := s) f9
  have hdv : 0 < (s.1 139 25).toInt := by
    have := (rg_i.mp h3.2.2.1).1
    have e1 : (1 : Int32).toInt = 1 := rfl
    omega
  have no : ∀ (y : Int32), ¬ y = 0 → ¬ y ≤ 0 → (if rg how 0 3 = false ∨ (isL (s.2.1 142) x = true ∧ ¬ s.2.1 142 (1169 * x.toInt.toNat + 1) = 0) then (1 : Int32) else if isL (s.2.1 142) x then 0 else 2) = y → fX12_stroke (e_g s (nx g)) 139 x how = some (0, e_g (sF s 139 0 y) (nx g)) := fun y hy hyl e => by
    unfold fX12_stroke jX12_stroke_34
    rw [ob139, ob_n, rin, why12, ob_n, e, w139_0, ob_n, f139_0, F_sF, if_pos ⟨rfl, rfl⟩, ob_n, if_pos hy, ob_n, if_neg hyl]
  by_cases q1 : rg how 0 3 = true
  · rw [q1] at no
    rcases knownPix11 (x := x) hg f3 f9 with ⟨k1, k2⟩ | ⟨l, b, rfl, hl, k1, k3, hLy, ⟨k4, k2⟩ | ⟨k4, k2⟩⟩
    · refine KI_no (E := "java/util/NoSuchElementException") (y := 2) (b := 0) hR ?_ (by decide +kernel) (by decide) (no 2 (by decide) (by decide) (by rw [k1]; rfl))
      unfold fX11_stroke
      rw [rng hg, if_pos q1, tc_rn, ob8, ob_n, k2, tc_ln]
    · refine KI_no (E := "java/lang/IllegalArgumentException") (y := 1) (b := 0) hR ?_ (by decide +kernel) (by decide) (no 1 (by decide) (by decide) (if_pos (Or.inr ⟨k1, by rw [n_int (by omega), Int.toNat_natCast]; exact k4⟩)))
      unfold fX11_stroke
      rw [rng hg, if_pos q1, tc_rn, ob8, ob_n, k2, tc_ln]
    · have wy0 : (if (true : Bool) = false ∨ (isL (s.2.1 142) (Int32.ofNat l) = true ∧ ¬ s.2.1 142 (1169 * (Int32.ofNat l).toInt.toNat + 1) = 0) then (1 : Int32) else if isL (s.2.1 142) (Int32.ofNat l) then 0 else 2) = 0 := by
        rw [if_neg, k1]
        · rfl
        · rw [n_int (by omega), Int.toNat_natCast]
          rintro (z | z)
          · cases z
          · exact z.2 k4
      by_cases qn : n = 0
      · subst qn
        refine KI_no (E := "java/lang/IllegalStateException") (y := 3) (b := 0) hR ?_ (by decide +kernel) (by decide) ?_
        · unfold fX11_stroke
          rw [rng hg, if_pos q1, tc_rn, ob8, ob_n, k2, tc_rn, f8_8, ob_n, ob_n, f93_8, n1, ob_n, if_neg (show ¬ (0 : Int32) < Int32.ofNat 0 by decide), refuse11 hg, if_neg (by decide), tc_ln]
        · have wy := why12 (s := s) (g := nx g) (x := Int32.ofNat l) (b := true)
          rw [wy0] at wy
          have wy' : fX12_why (e_g s (nx g)) 139 (Int32.ofNat l) (if true = true then 1 else 0) = some 0 := wy
          have z43 : (sF s 139 0 0).1 139 43 = 0 := by rw [F_sF, if_neg (by decide), n2]; rfl
          unfold fX12_stroke jX12_stroke_34
          rw [ob139, ob_n, rin, q1, wy', ob_n, w139_0, ob_n, f139_0, F_sF, if_pos ⟨rfl, rfl⟩, ob_n, if_neg (fun z => z rfl), f139_43, z43, ob_n, if_neg (fun z => z rfl), w139_0, ob_n, sF_sF, f139_0, F_sF, if_pos ⟨rfl, rfl⟩, ob_n, if_neg (show ¬ (3 : Int32) ≤ 0 by decide)]
      · have hn1 : 1 ≤ n := by omega
        obtain ⟨m, hm⟩ : ∃ m : Nat, 65536 ≤ m := ⟨65536, Nat.le_refl _⟩
        have hb : BrO (s.1 139 36) (s.1 139 37) (s.1 139 38) (s.1 139 39) := ⟨b8, b9, b10, b11⟩
        have hp : PtO (s.2.1 159) (s.2.1 160) (s.2.1 161) n := fun k hk => (hpt k hk).2.2.2
        have skr := sk_r (w := w) (h := h) hb hm hn1 hp
        obtain ⟨F, sw, sa⟩ := sweep1 (s := s) (g := g) (w := w) (h := h) hb hm hn hn1 hp d1 d3 d2 d4 (fun k hk => (hpt k hk).1) (fun k hk => (hpt k hk).2.1) (fun k hk => (hpt k hk).2.2.1) b1 b2 b3 b4 n1
        generalize hcov : skV (s.2.1 159) (s.2.1 160) (s.2.1 161) (s.1 139 36) (s.1 139 37) (s.1 139 38) (s.1 139 39) w h m n = cov at *
        obtain ⟨y1, y2, p, q', x0, y0, x1, yy1, pa, ma, y3, z1, z2, z3, z4, z5, z6, z7, z8, z9, z10, z11, z12, -⟩ := id hLy
        obtain ⟨a1, a0, a2, B, a3, a4⟩ := z12 k4
        generalize hT : sA (sF (sF s 93 13 (Int32.ofNat w)) 93 14 (Int32.ofNat h)) 97 F = T at sw
        have f15 : q_fR 4 15 (e_g T g) b = some (some pa) := d_fR y1 y3 rfl
        have hnr : nr B w h = nr (pxN (s.2.1 142) l) w h := nr_c d1 d3 (fun k hk => a4 k hk)
        have t14 : T.1 14 4 = s.1 14 4 := by rw [← hT]; simp (decide := true) only [ob_n, b2_n, tc_rn, tc_ln, F_sF, A_sF, R_sF, L_sF, F_sA, A_sA, R_sA, L_sA, F_sR, A_sR, R_sR, L_sR, F_sL, A_sL, R_sL, L_sL, and_true, true_and, and_false, false_and, and_self, reduceIte, sF_sF, sA_sA, false_or, or_false, true_or, or_true, not_false_eq_true, not_true_eq_false, decide_true, decide_false, Bool.true_or, Bool.or_true, Bool.false_and, Bool.true_and, Bool.false_or, Bool.or_false, Bool.and_true, Bool.and_false]
        obtain ⟨t', ap⟩ := apply5 (s := T) (g := g) (a := pa) (to := 138) (w := w) (h := h) (kind := 0) (n := 1) (F := B) t138 (by decide) (by decide) (by decide) (Or.inl ⟨rfl, 1, by omega, rfl⟩) d1 d3 d2 d4 (by rw [t14, h3.2.1]; exact hdv) (d_len a1 a3) (fun f t i => d_aI a1 a3)
        rw [hnr] at ap
        generalize hs1 : sA (sA (apS T pa w h) 138 (cpT (T.2.1 138) (fun k => flV 0 1 (nr (pxN (s.2.1 142) l) w h) (T.2.1 18) (T.1 14 4) (T.1 14 5) (Int32.ofNat (k % w)) (Int32.ofNat (k / w))) 0 (h * w))) 19 t' = S1 at ap
        have smS : Sm s S1 := by
          rw [← hs1, ← hT]; unfold apS
          exact sm_A (sm_A (sm_F (sm_F (sm_R (sm_A (sm_F (sm_F sm_rf (by decide)) (by decide)) (by decide)) (by decide)) (by decide)) (by decide)) (by decide)) (by decide)
        have eR : ∀ j k, ¬ j = 14 → S1.2.2.1 j k = s.2.2.1 j k := fun j k hj => by
          rw [← hs1, ← hT]; unfold apS
          rw [R_sA, R_sA, R_sF, R_sF, R_sR, if_neg (fun z => hj z.1), R_sA, R_sF, R_sF]
        have eF1 : ∀ i j, ¬ i = 14 → ¬ (i = 93 ∧ 13 ≤ j) → S1.1 i j = s.1 i j := fun i j hj h2 => by
          rw [← hs1, ← hT]; unfold apS
          rw [F_sA, F_sA, F_sF, if_neg (fun z => hj z.1), F_sF, if_neg (fun z => hj z.1), F_sR, F_sA, F_sF, if_neg (by omega), F_sF, if_neg (by omega)]
        have eA1 : ∀ j, ¬ j = 138 → ¬ j = 19 → ¬ j = 97 → S1.2.1 j = s.2.1 j := fun j h1 h2 h3 => by
          rw [← hs1, ← hT]; unfold apS
          rw [A_sA, if_neg h2, A_sA, if_neg h1, A_sF, A_sF, A_sR, A_sA, if_neg h3, A_sF, A_sF]
        have h97 : S1.2.1 97 = F := by
          rw [← hs1, ← hT]; unfold apS
          rw [A_sA, if_neg (by decide), A_sA, if_neg (by decide), A_sF, A_sF, A_sR, A_sA, if_pos rfl]
        have h138 : ∀ k, k < w * h → S1.2.1 138 k = sfV (nr (pxN (s.2.1 142) l) w h) 1 (Int32.ofNat (k % w)) (Int32.ofNat (k / w)) := fun k hk => by
          rw [← hs1, A_sA, if_neg (by decide), A_sA, if_pos rfl]
          have := cpT_in (A := T.2.1 138) (N := fun k => flV 0 1 (nr (pxN (s.2.1 142) l) w h) (T.2.1 18) (T.1 14 4) (T.1 14 5) (Int32.ofNat (k % w)) (Int32.ofNat (k / w))) (b := 0) (n := h * w) (k := k) (by rw [Nat.mul_comm]; exact hk)
          rw [Nat.zero_add] at this
          rw [this]
          unfold flV
          rw [if_pos rfl]
        have gF : Gd F := fun k hk => by rw [sa k hk]; exact skr k hk
        have lp := strokel11 (s := S1) (N := s.2.1 142) (l := l) (b := b) (a := a) (how := how) hg d2 d4 f9 hLy k4 (by rw [eF1 _ _ (by decide) (by omega)]; exact d7) (by rw [eF1 _ _ (by decide) (by omega)]; exact d8) h138 (by rw [h97]; exact gF) (fun k hk => by rw [eA1 _ (by decide) (by decide) (by decide), (d9 k hk).1]; exact (d9 k hk).2) (by rw [eF1 _ _ (by decide) (by omega), b5]; exact b12) (cI (fun _ => 0) 0)
        rw [h97, eA1 90 (by decide) (by decide) (by decide), eF1 _ _ (by decide) (by omega), eF1 _ _ (by decide) (by omega), eF1 _ _ (by decide) (by omega), eF1 _ _ (by decide) (by omega), b5, b0, b6, b7] at lp
        have wF : ∀ i j, ¬ (i = 93 ∧ j = 8) → ¬ (i = 139 ∧ j = 43) → (sF (sF s 93 8 0) 139 43 0).1 i j = s.1 i j := fun i j q1 q2 => by
          rw [F_sF, if_neg q2, F_sF, if_neg q1]
        have wA : (sF (sF s 93 8 0) 139 43 0).2.1 = s.2.1 := by rw [A_sF, A_sF]
        have wR : (sF (sF s 93 8 0) 139 43 0).2.2.1 = s.2.2.1 := by rw [R_sF, R_sF]
        have hRW := rel_np hR
        have h7W : G7 (sF (sF s 93 8 0) 139 43 0) w h := by
          unfold G7 at h7 ⊢
          rw [wA, wF _ _ (by omega) (by omega), wF _ _ (by omega) (by omega), wF _ _ (by omega) (by omega), wF _ _ (by omega) (by omega)]
          exact h7
        have h8W : G8 (sF (sF s 93 8 0) 139 43 0) w h := by
          unfold G8 at h8 ⊢
          rw [wA, wF 20 8 (by omega) (by omega), wF 139 23 (by omega) (by omega), wF 20 5 (by omega) (by omega), wF 139 25 (by omega) (by omega), wF 139 26 (by omega) (by omega)]
          exact h8
        generalize hφ : skO how cov (s.1 139 40) (s.2.1 155) (s.1 139 34) (s.1 139 41) (s.1 139 42) (s.2.1 142 (1169 * l + 8)) (s.2.1 142 (1169 * l + 9)) w h (pxN (s.2.1 142) l) = φ
        refine KI_pt2 (s0 := sF (sF s 93 8 0) 139 43 0) (s1 := sF S1 93 8 0) (l := l) (b := b) (st := st) (uc := uc) (φ := φ) hRW h7W h8W f1 f2 (by rw [R_sF, eR 8 0 (by decide)]; exact f3) (by rw [F_sF, if_neg (by decide), eF1 _ _ (by decide) (by omega)]; exact f4) (by rw [wA]; exact f9) (by rw [wA]; exact f10) (by rw [wA, wR]; exact f11) (by rw [R_sF, wR]; exact funext fun i => eR 12 i (by decide)) hl (by rw [wA]; exact k3) (by rw [wA]; exact hLy) (by rw [wA]; exact k4) (cpT (cI (fun _ => 0) 0) (skO how F (s.1 139 40) (s.2.1 90) (s.1 139 34) (s.1 139 41) (s.1 139 42) (s.2.1 142 (1169 * l + 8)) (s.2.1 142 (1169 * l + 9)) w h (pxN (s.2.1 142) l)) 0 (h * w)) (fun k hk => ?_) (fun v g2 w1 => ?_) (fun S g2 hS => ?_)
        · have := cpT_in (A := cI (fun _ => 0) 0) (N := skO how F (s.1 139 40) (s.2.1 90) (s.1 139 34) (s.1 139 41) (s.1 139 42) (s.2.1 142 (1169 * l + 8)) (s.2.1 142 (1169 * l + 9)) w h (pxN (s.2.1 142) l)) (b := 0) (n := h * w) (k := k) (by rw [Nat.mul_comm]; exact hk)
          rw [Nat.zero_add] at this
          rw [this, ← hφ]
          exact skO_c hk (fun k hk => sa k (by omega)) (fun k hk => (d9 k (by omega)).1)
        · have e1 : (e_g S1 g).1 = g.1 := rfl
          have c0 : (0 : Int32) < Int32.ofNat n := (n_lt (n := 0) (m := n) (by omega) (by omega)).mpr hn1
          unfold fX11_stroke jX11_stroke_39
          rw [rng hg, if_pos q1, tc_rn, ob8, ob_n, k2, tc_rn, f8_8, ob_n, ob_n, f93_8, n1, ob_n, if_pos c0, refuse11 hg, if_pos rfl, tc_rn, f8_0, f3, ob_n, ob_n, s0, ob_n, ob_n, ob_n, s1, ob_n, f8_8, ob_n, ob_n, ob93, ob_n, sw, ob_n, f8_5, ob_n, ob_n, ob_n, f15, ob_n, ob_n, f8_17, ob_n, ob_n, ob14, ob_n, ap, ob_n, nA_mk hg, ob_n, e1, lp, ob_n, f8_8, ob_n, ob_n, w93_8, ob_n, ob8, ob_n, w1, b2_n]
        · rw [wA] at hS ⊢
          obtain ⟨p1, p2, p3⟩ := pt_S (s := s) hS
          have eA : ∀ j, ¬ j = 88 → ¬ j = 138 → ¬ j = 19 → ¬ j = 97 → S.2.1 j = s.2.1 j := fun j h1 h2 h3 h4 => by rw [p1 j h1, A_sF, eA1 j h2 h3 h4]
          have eF : ∀ j, S.1 139 j = s.1 139 j := fun j => by rw [p2 139 j (by decide) (by decide), F_sF, if_neg (by omega), eF1 _ _ (by decide) (by omega)]
          have bg : fX12_begin (e_g (sF S 139 0 0) g2) 139 (Int32.ofNat l) = some (e_g (bgM S l) g2) := by
            rw [begin12 hl]
            unfold bgM
            rw [A_sF]
          have ws := was12 (s := bgM S l) (g := g2) (b := fun t => bX12_stroke_50 139 (Int32.ofNat l) how t.1 t.2) (fun i s' => by simp (decide := true) only [bX12_stroke_50, f139_18, f139_35, ob_n, b2_n, tc_rn, tc_ln, F_sF, A_sF, R_sF, L_sF, F_sA, A_sA, R_sA, L_sA, F_sR, A_sR, R_sR, L_sR, F_sL, A_sL, R_sL, L_sL, and_true, true_and, and_false, false_and, and_self, reduceIte, sF_sF, sA_sA, false_or, or_false, true_or, or_true, not_false_eq_true, not_true_eq_false, decide_true, decide_false, Bool.true_or, Bool.or_true, Bool.false_and, Bool.true_and, Bool.false_or, Bool.or_false, Bool.and_true, Bool.and_false])
          generalize hW : cpT ((bgM S l).2.1 147) ((bgM S l).2.1 158) 0 576 = W1 at ws
          have hWk : ∀ k, k < w * h → W1 k = pxN (s.2.1 142) l k := by
            intro k hk
            have := cpT_in (A := (bgM S l).2.1 147) (N := (bgM S l).2.1 158) (b := 0) (n := 576) (k := k) (by omega)
            rw [Nat.zero_add, hW] at this
            rw [this, bg_158 (by omega), eA _ (by decide) (by decide) (by decide) (by decide)]
          have bA : ∀ j, ¬ j = 158 → ¬ j = 147 → (sA (bgM S l) 147 W1).2.1 j = S.2.1 j := fun j hj h2 => by unfold bgM; rw [A_sA, if_neg h2, A_sA, if_neg hj, A_sF]
          have bF : ∀ j, ¬ j = 0 → (sA (bgM S l) 147 W1).1 139 j = s.1 139 j := fun j hj => by unfold bgM; rw [F_sA, F_sA, F_sF, if_neg (fun z => hj z.2), eF]
          have b158 : ∀ k, k < w * h → (sA (bgM S l) 147 W1).2.1 158 k = pxN (s.2.1 142) l k := fun k hk => by rw [A_sA, if_neg (by decide), bg_158 (by omega), eA _ (by decide) (by decide) (by decide) (by decide)]
          have b147 : (sA (bgM S l) 147 W1).2.1 147 = W1 := by rw [A_sA, if_pos rfl]
          have bL : (sA (bgM S l) 147 W1).2.2.2 = S.2.2.2 := by unfold bgM; simp (decide := true) only [ob_n, b2_n, tc_rn, tc_ln, F_sF, A_sF, R_sF, L_sF, F_sA, A_sA, R_sA, L_sA, F_sR, A_sR, R_sR, L_sR, F_sL, A_sL, R_sL, L_sL, and_true, true_and, and_false, false_and, and_self, reduceIte, sF_sF, sA_sA, false_or, or_false, true_or, or_true, not_false_eq_true, not_true_eq_false, decide_true, decide_false, Bool.true_or, Bool.or_true, Bool.false_and, Bool.true_and, Bool.false_or, Bool.or_false, Bool.and_true, Bool.and_false]
          have b00 : (sA (bgM S l) 147 W1).1 139 0 = 0 := by unfold bgM; simp (decide := true) only [ob_n, b2_n, tc_rn, tc_ln, F_sF, A_sF, R_sF, L_sF, F_sA, A_sA, R_sA, L_sA, F_sR, A_sR, R_sR, L_sR, F_sL, A_sL, R_sL, L_sL, and_true, true_and, and_false, false_and, and_self, reduceIte, sF_sF, sA_sA, false_or, or_false, true_or, or_true, not_false_eq_true, not_true_eq_false, decide_true, decide_false, Bool.true_or, Bool.or_true, Bool.false_and, Bool.true_and, Bool.false_or, Bool.or_false, Bool.and_true, Bool.and_false]
          obtain ⟨F', db, da⟩ := dabs12 (s := sA (bgM S l) 147 W1) (g := g2) (w := w) (h := h) hb hm hn hn1 hp d2 d4 (by rw [bF _ (by omega)]; exact d5) (by rw [bF _ (by omega)]; exact d6) (fun k hk => by rw [bA _ (by decide) (by decide), eA _ (by decide) (by decide) (by decide) (by decide)]) (fun k hk => by rw [bA _ (by decide) (by decide), eA _ (by decide) (by decide) (by decide) (by decide)]) (fun k hk => by rw [bA _ (by decide) (by decide), eA _ (by decide) (by decide) (by decide) (by decide)]) (bF _ (by omega)) (bF _ (by omega)) (bF _ (by omega)) (bF _ (by omega)) (by rw [bF _ (by omega)]; exact n2)
          rw [hcov] at da
          have gF' : Gd F' := fun k hk => by rw [da k hk]; exact skr k hk
          have sS : Sm (rmC (fcC (sF (sF s 93 8 0) 139 43 0) (s.2.1 142) l w (h * w) φ) a (g.1 + 2) pc) (sF (sA (sA (bgM S l) 147 W1) 162 F') 139 43 0) := by
            have base : Sm (rmC (fcC (sF (sF s 93 8 0) 139 43 0) (s.2.1 142) l w (h * w) φ) a (g.1 + 2) pc) (sF S 139 43 0) := by
              rw [← sF_rf]
              exact sm_F2 (sm_tr (sm_rmC (sm_fcC (sm_F2 smS))) p3)
            unfold bgM
            rw [← sA_sF, ← sA_sF, ← sA_sF, sF_cm (show ¬ (139 = 139 ∧ 0 = 43) by decide)]
            exact sm_A (sm_A (sm_A (sm_F base (by decide)) (by decide)) (by decide)) (by decide)
          have tA : ∀ j, ¬ j = 162 → (sF (sA (sA (bgM S l) 147 W1) 162 F') 139 43 0).2.1 j = (sA (bgM S l) 147 W1).2.1 j := fun j hj => by rw [A_sF, A_sA, if_neg hj]
          have t162 : (sF (sA (sA (bgM S l) 147 W1) 162 F') 139 43 0).2.1 162 = F' := by rw [A_sF, A_sA, if_pos rfl]
          have tF : ∀ j, ¬ j = 43 → (sF (sA (sA (bgM S l) 147 W1) 162 F') 139 43 0).1 139 j = (sA (bgM S l) 147 W1).1 139 j := fun j hj => by rw [F_sF, if_neg (by omega), F_sA]
          have tL : (sF (sA (sA (bgM S l) 147 W1) 162 F') 139 43 0).2.2.2 = (sA (bgM S l) 147 W1).2.2.2 := by rw [L_sF, L_sA]
          have w43 : q_sI 12 43 (e_g (sA (sA (bgM S l) 147 W1) 162 F') g2) 139 0 = some (e_g (sF (sA (sA (bgM S l) 147 W1) 162 F') 139 43 0) g2) := w139_43
          generalize sF (sA (sA (bgM S l) 147 W1) 162 F') 139 43 0 = S' at sS tA t162 tF tL w43
          have rF : ∀ j, ¬ j = 0 → ¬ j = 43 → S'.1 139 j = s.1 139 j := fun j q1 q2 => by rw [tF j q2, bF j q1]
          have rA : ∀ j, ¬ j = 162 → ¬ j = 158 → ¬ j = 147 → ¬ j = 88 → ¬ j = 138 → ¬ j = 19 → ¬ j = 97 → S'.2.1 j = s.2.1 j := fun j q1 q2 q3 q4 q5 q6 q7 => by rw [tA j q1, bA j q2 q3, eA j q4 q5 q6 q7]
          have r142 := rA 142 (by decide) (by decide) (by decide) (by decide) (by decide) (by decide) (by decide)
          have r155 := rA 155 (by decide) (by decide) (by decide) (by decide) (by decide) (by decide) (by decide)
          have r158 : ∀ k, k < w * h → S'.2.1 158 k = pxN (s.2.1 142) l k := fun k hk => by rw [tA _ (by decide)]; exact b158 k hk
          have sl := strokel12 (s := S') (g := g2) (l := l) (w := w) (h := h) (how := how) q1 d1 d3 d2 d4 (by rw [rF _ (by omega) (by omega)]; exact d5) (by rw [rF _ (by omega) (by omega)]; exact d6) hl (fun k hk => by rw [r142]; exact r158 k hk) (fun k hk => by rw [r142, tA _ (by decide), b147]; exact hWk k hk) (by rw [t162]; exact gF') (fun k hk => by rw [r155]; exact (d9 k hk).2) (by rw [rF _ (by omega) (by omega)]; exact b12)
          rw [r142, r155, t162, rF _ (by omega) (by omega), rF _ (by omega) (by omega), rF _ (by omega) (by omega), rF _ (by omega) (by omega)] at sl
          have ce : cpT (s.2.1 142) (skO how F' (s.1 139 40) (s.2.1 155) (s.1 139 34) (s.1 139 41) (s.1 139 42) (s.2.1 142 (1169 * l + 8)) (s.2.1 142 (1169 * l + 9)) w h (pxN (s.2.1 142) l)) (1169 * l + 17) (h * w) = cpT (s.2.1 142) φ (1169 * l + 17) (h * w) := cpT_cong (fun k hk => by
            rw [← hφ]
            exact skO_c (by rw [Nat.mul_comm]; exact hk) (fun k hk => da k (by omega)) (fun _ _ => rfl))
          rw [ce] at sl
          have ch := changed12 (s := sA S' 142 (cpT (s.2.1 142) φ (1169 * l + 17) (h * w))) (g := g2) (l := l) (N := s.2.1 142) (φ := φ) d2 d4 d1 hl f1 (show pc ≤ 24 by omega) (by rw [F_sA, rF _ (by omega) (by omega)]; exact f6) (by rw [F_sA, rF _ (by omega) (by omega)]; exact f7) (by rw [F_sA, rF _ (by omega) (by omega)]; exact d5) (by rw [F_sA, rF _ (by omega) (by omega)]; exact d6) (by rw [A_sA, if_pos rfl]) (fun k hk => by
            rw [A_sA, if_neg (by decide)]
            exact r158 k hk)
          refine ⟨S', ?_, by rw [tF _ (by omega)]; exact b00, by rw [tL]; exact bL, sS⟩
          have wy := why12 (s := S) (g := g2) (x := Int32.ofNat l) (b := true)
          rw [eA _ (by decide) (by decide) (by decide) (by decide), wy0] at wy
          have wy' : fX12_why (e_g S g2) 139 (Int32.ofNat l) (if true = true then 1 else 0) = some 0 := wy
          have z43 : (sF S 139 0 0).1 139 43 = Int32.ofNat n := by rw [F_sF, if_neg (by decide), eF]; exact n2
          have nz : ¬ Int32.ofNat n = 0 := fun z => qn ((n_eq (b := 0) (by omega) (by omega)).mp z)
          show fX12_stroke (e_g S g2) 139 (Int32.ofNat l) how = _
          unfold fX12_stroke jX12_stroke_34
          rw [ob139, ob_n, rin, q1, wy', ob_n, w139_0, ob_n, f139_0, F_sF, if_pos ⟨rfl, rfl⟩, ob_n, if_neg (fun z => z rfl), f139_43, z43, ob_n, if_pos nz, ob_n, if_pos (by decide), ob139, ob_n, bg, ob_n, ws, ob_n, ob139, ob_n, db, ob_n, w43, ob_n, sl, ob_n, ob139, ob_n, ch, b2_n]
  · refine KI_no (E := "java/lang/IllegalArgumentException") (y := 1) (b := 0) hR ?_ (by decide +kernel) (by decide) (no 1 (by decide) (by decide) (if_pos (Or.inl (by simpa using q1))))
    unfold fX11_stroke
    rw [rng hg, if_neg q1, tc_ln]
