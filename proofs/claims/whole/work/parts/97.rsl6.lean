-- needs: 07 10 13 14 20 21 22 23 24 25 26 27 32 38 41 43 46 47 48 50 52 53 54 55 57 60 61 70 71 72 73 74 80 81 82 83 84 85 86 87 88 89 90 91 92 93 94 95 96
noncomputable def rwR (how : Int32) (n w h : Nat) (f : Nat → Int32) : Nat → Int32 := if how = 3 then nwR how n w h (nwR how n w h f) else nwR how n w h f
theorem resel12 {s : e_S} {g : ps_G} {w h n : Nat} {how : Int32} (hw1 : 1 ≤ w) (hh1 : 1 ≤ h) (hw : w ≤ 24) (hh : h ≤ 24) (e0 : s.1 139 13 = Int32.ofNat w) (e1 : s.1 139 14 = Int32.ofNat h) (hn : n ≤ 8) (h13 : how = 0 ∨ how = 1 ∨ how = 2 ∨ how = 3) (hB : ∀ k, k < 576 → rg (s.2.1 155 k) 0 255) : ∃ s2, jX12_reselect_31 (e_g s g) 139 how (Int32.ofNat n) 139 = some (Int32.ofNat (cnt (abC (rwR how n w h (s.2.1 155))) (w * h)), e_g s2 g) ∧ Sm (sA (sF s 139 0 0) 155 (rwR how n w h (s.2.1 155))) s2 ∧ s2.1 139 0 = 0 ∧ s2.2.2.2 = s.2.2.2 := by
  have hwh := wh_le hw hh
  have b0 : (sF s 139 0 0).1 139 13 = Int32.ofNat w := by rw [F_sF, if_neg (by decide)]; exact e0
  have b1 : (sF s 139 0 0).1 139 14 = Int32.ofNat h := by rw [F_sF, if_neg (by decide)]; exact e1
  have hd : jX12_reselect_31 (e_g s g) 139 how (Int32.ofNat n) 139 = Option.bind (q_lp (fun u => bX12_reselect_50 139 how (Int32.ofNat n) u.1 u.2) ((0 : Int32), e_g (sF s 139 0 0) g)) fun s52 => Option.bind (q_ob 12 s52 139) fun u53 => Option.bind (fX12_above s52 139) fun v54 => some (v54, s52) := by
    unfold jX12_reselect_31 jX12_reselect_36
    rw [w139_0, ob_n, f139_0, F_sF, if_pos ⟨rfl, rfl⟩, ob_n, if_pos (by decide)]
  rw [hd]
  by_cases q : how = 3
  · subst q
    have r1 := round12 (s := sF s 139 0 0) (g := g) (n := n) (how := 3) (r := 0) hw1 hh1 hw hh b0 b1 hn h13 (by rw [A_sF]; exact hB) (by decide)
    rw [A_sF] at r1
    generalize hc1 : cpT (s.2.1 156) (s.2.1 155) 0 (w * h) = c1 at r1
    have e5 : (sA (sA (sF s 139 0 0) 156 c1) 155 (nwR 3 n w h (s.2.1 155))).2.1 155 = nwR 3 n w h (s.2.1 155) := by rw [A_sA, if_pos rfl]
    have r2 := round12 (s := sA (sA (sF s 139 0 0) 156 c1) 155 (nwR 3 n w h (s.2.1 155))) (g := g) (n := n) (how := 3) (r := 1) hw1 hh1 hw hh (by rw [F_sA, F_sA]; exact b0) (by rw [F_sA, F_sA]; exact b1) hn h13 (by rw [e5]; exact nwR_r hw1 hh1 hwh hn hB) (by decide)
    rw [e5] at r2
    generalize hc2 : cpT ((sA (sA (sF s 139 0 0) 156 c1) 155 (nwR 3 n w h (s.2.1 155))).2.1 156) (nwR 3 n w h (s.2.1 155)) 0 (w * h) = c2 at r2
    have st2 : sA (sA (sA (sA (sF s 139 0 0) 156 c1) 155 (nwR 3 n w h (s.2.1 155))) 156 c2) 155 (nwR 3 n w h (nwR 3 n w h (s.2.1 155))) = sA (sA (sF s 139 0 0) 156 c2) 155 (nwR 3 n w h (nwR 3 n w h (s.2.1 155))) := by
      rw [sA_cm (i := 155) (j := 156) (by decide), sA_sA, sA_sA]
    rw [st2] at r2
    have loop : q_lp (fun u => bX12_reselect_50 139 3 (Int32.ofNat n) u.1 u.2) ((0 : Int32), e_g (sF s 139 0 0) g) = some (e_g (sA (sA (sF s 139 0 0) 156 c2) 155 (nwR 3 n w h (nwR 3 n w h (s.2.1 155)))) g) := by
      rw [lp_go (s' := ((1 : Int32), e_g (sA (sA (sF s 139 0 0) 156 c1) 155 (nwR 3 n w h (s.2.1 155))) g)) r1, lp_go (s' := ((2 : Int32), e_g (sA (sA (sF s 139 0 0) 156 c2) 155 (nwR 3 n w h (nwR 3 n w h (s.2.1 155)))) g)) r2]
      exact lp_end (by show bX12_reselect_50 _ _ _ _ _ = _; unfold bX12_reselect_50; rw [if_pos (show (if ¬ (3 : Int32) = (3 : Int32) then (1 : Int32) else (2 : Int32)) ≤ 2 by decide)])
    have er : rwR 3 n w h (s.2.1 155) = nwR 3 n w h (nwR 3 n w h (s.2.1 155)) := if_pos rfl
    rw [er]
    refine ⟨sA (sA (sF s 139 0 0) 156 c2) 155 (nwR 3 n w h (nwR 3 n w h (s.2.1 155))), ?_, sm_cA (sm_A sm_rf (by decide)), ?_, ?_⟩
    · rw [loop, ob_n, ob139, ob_n, above12 hw hh (by rw [F_sA, F_sA]; exact b0) (by rw [F_sA, F_sA]; exact b1), ob_n, A_sA, if_pos rfl]
    · rw [F_sA, F_sA, F_sF, if_pos ⟨rfl, rfl⟩]
    · simp (decide := true) only [ob_n, b2_n, tc_rn, tc_ln, F_sF, A_sF, R_sF, L_sF, F_sA, A_sA, R_sA, L_sA, F_sR, A_sR, R_sR, L_sR, F_sL, A_sL, R_sL, L_sL, and_true, true_and, and_false, false_and, and_self, reduceIte, sF_sF, sA_sA, false_or, or_false, true_or, or_true, not_false_eq_true, not_true_eq_false, decide_true, decide_false, Bool.true_or, Bool.or_true, Bool.false_and, Bool.true_and, Bool.false_or, Bool.or_false, Bool.and_true, Bool.and_false]
  · have r1 := round12 (s := sF s 139 0 0) (g := g) (n := n) (how := how) (r := 0) hw1 hh1 hw hh b0 b1 hn h13 (by rw [A_sF]; exact hB) (by rw [if_pos q]; decide)
    rw [A_sF] at r1
    generalize hc1 : cpT (s.2.1 156) (s.2.1 155) 0 (w * h) = c1 at r1
    have loop : q_lp (fun u => bX12_reselect_50 139 how (Int32.ofNat n) u.1 u.2) ((0 : Int32), e_g (sF s 139 0 0) g) = some (e_g (sA (sA (sF s 139 0 0) 156 c1) 155 (nwR how n w h (s.2.1 155))) g) := by
      rw [lp_go (s' := ((1 : Int32), e_g (sA (sA (sF s 139 0 0) 156 c1) 155 (nwR how n w h (s.2.1 155))) g)) r1]
      exact lp_end (by show bX12_reselect_50 _ _ _ _ _ = _; unfold bX12_reselect_50; rw [if_pos (show (if ¬ how = (3 : Int32) then (1 : Int32) else (2 : Int32)) ≤ 1 by rw [if_pos q]; decide)])
    have er : rwR how n w h (s.2.1 155) = nwR how n w h (s.2.1 155) := if_neg q
    rw [er]
    refine ⟨sA (sA (sF s 139 0 0) 156 c1) 155 (nwR how n w h (s.2.1 155)), ?_, sm_cA (sm_A sm_rf (by decide)), ?_, ?_⟩
    · rw [loop, ob_n, ob139, ob_n, above12 hw hh (by rw [F_sA, F_sA]; exact b0) (by rw [F_sA, F_sA]; exact b1), ob_n, A_sA, if_pos rfl]
    · rw [F_sA, F_sA, F_sF, if_pos ⟨rfl, rfl⟩]
    · simp (decide := true) only [ob_n, b2_n, tc_rn, tc_ln, F_sF, A_sF, R_sF, L_sF, F_sA, A_sA, R_sA, L_sA, F_sR, A_sR, R_sR, L_sR, F_sL, A_sL, R_sL, L_sL, and_true, true_and, and_false, false_and, and_self, reduceIte, sF_sF, sA_sA, false_or, or_false, true_or, or_true, not_false_eq_true, not_true_eq_false, decide_true, decide_false, Bool.true_or, Bool.or_true, Bool.false_and, Bool.true_and, Bool.false_or, Bool.or_false, Bool.and_true, Bool.and_false]
theorem rsV_n {how : Int32} {n w h : Nat} {f : Nat → Int32} (q : ¬ how = 0) : nwR how n w h f = cpT f (fun k => arV how n w h f (k % w) (k / w)) 0 (h * w) := by
  unfold nwR
  have : rsV how n w h f = fun k => arV how n w h f (k % w) (k / w) := by
    funext k
    exact if_neg q
  rw [this]
theorem resel11 {s : e_S} {g : ps_G} {w h n : Nat} {how : Int32} (hg : 195 ≤ g.1) (hw1 : 1 ≤ w) (hh1 : 1 ≤ h) (hw : w ≤ 24) (hh : h ≤ 24) (e0 : s.1 89 0 = Int32.ofNat w) (e1 : s.1 89 1 = Int32.ofNat h) (hn : n ≤ 8) (h13 : how = 0 ∨ how = 1 ∨ how = 2 ∨ how = 3) (v1 : rg how 0 3 = true) (v2 : rg (Int32.ofNat n) (if ¬ how = 0 then 1 else 0) (if ¬ how = 0 then 8 else 0) = true) (hB : ∀ k, k < 576 → rg (s.2.1 90 k) 0 255) : ∃ s1, fX11_reselect (e_g s g) 8 how (Int32.ofNat n) = some (.inr (Int32.ofNat (cnt (abC (rwR how n w h (s.2.1 90))) (w * h))), e_g s1 g) ∧ Sm (sA s 90 (rwR how n w h (s.2.1 90))) s1 := by
  have hwh := wh_le hw hh
  have fin : ∀ s' : e_S, s'.1 89 0 = Int32.ofNat w → s'.1 89 1 = Int32.ofNat h → jX11_reselect_106 (e_g s' g) 8 = some (.inr (Int32.ofNat (cnt (abC (s'.2.1 90)) (w * h))), e_g s' g) := by
    intro s' q0 q1
    unfold jX11_reselect_106
    rw [f8_7, ob_n, ob_n, ob89, ob_n, above11 hw hh q0 q1, ob_n]
  have z30 : ¬ (3 : Int32) = 0 := by decide
  have z31 : ¬ (3 : Int32) = 1 := by decide
  have z32 : ¬ (3 : Int32) = 2 := by decide
  have z10 : ¬ (1 : Int32) = 0 := by decide
  have z20 : ¬ (2 : Int32) = 0 := by decide
  have z21 : ¬ (2 : Int32) = 1 := by decide
  unfold fX11_reselect
  rw [rng hg, if_pos v1, tc_rn, rng hg, if_pos v2, tc_rn]
  rcases h13 with e | e | e | e
  · subst e
    have er : rwR 0 n w h (s.2.1 90) = nwR 0 n w h (s.2.1 90) := if_neg (by decide)
    rw [er, if_pos rfl, f8_7, ob_n, ob_n, ob89, ob_n, turnOver11 (n := n) hw hh e0 e1, ob_n, fin _ (by rw [F_sA]; exact e0) (by rw [F_sA]; exact e1), A_sA, if_pos rfl]
    exact ⟨_, rfl, sm_rf⟩
  · subst e
    have er : rwR 1 n w h (s.2.1 90) = nwR 1 n w h (s.2.1 90) := if_neg (by decide)
    have wd := widen11 (s := s) (g := g) (n := n) (gr := 1) hw hh e0 e1 hn hB
    rw [if_neg z10, ← rsV_n z10] at wd
    rw [er, if_neg z10, if_pos rfl, f8_7, ob_n, ob_n, ob89, ob_n, wd, ob_n, fin _ (by rw [F_sA, F_sA]; exact e0) (by rw [F_sA, F_sA]; exact e1), A_sA, if_pos rfl]
    exact ⟨_, rfl, sm_cA (sm_A sm_rf (by decide))⟩
  · subst e
    have er : rwR 2 n w h (s.2.1 90) = nwR 2 n w h (s.2.1 90) := if_neg (by decide)
    have wd := widen11 (s := s) (g := g) (n := n) (gr := 0) hw hh e0 e1 hn hB
    rw [if_pos rfl, ← rsV_n z20] at wd
    rw [er, if_neg z20, if_neg z21, if_pos rfl, f8_7, ob_n, ob_n, ob89, ob_n, wd, ob_n, fin _ (by rw [F_sA, F_sA]; exact e0) (by rw [F_sA, F_sA]; exact e1), A_sA, if_pos rfl]
    exact ⟨_, rfl, sm_cA (sm_A sm_rf (by decide))⟩
  · subst e
    have er : rwR 3 n w h (s.2.1 90) = nwR 3 n w h (nwR 3 n w h (s.2.1 90)) := if_pos rfl
    have s1 := soften11 (s := s) (g := g) (n := n) hw1 hh1 hw hh e0 e1 hn
    rw [← rsV_n z30] at s1
    generalize cpT (s.2.1 92) (s.2.1 90) 0 576 = c1 at s1
    have e90 : (sA (sA s 92 c1) 90 (nwR 3 n w h (s.2.1 90))).2.1 90 = nwR 3 n w h (s.2.1 90) := by rw [A_sA, if_pos rfl]
    have s2 := soften11 (s := sA (sA s 92 c1) 90 (nwR 3 n w h (s.2.1 90))) (g := g) (n := n) hw1 hh1 hw hh (by rw [F_sA, F_sA]; exact e0) (by rw [F_sA, F_sA]; exact e1) hn
    rw [e90, ← rsV_n z30] at s2
    generalize cpT ((sA (sA s 92 c1) 90 (nwR 3 n w h (s.2.1 90))).2.1 92) (nwR 3 n w h (s.2.1 90)) 0 576 = c2 at s2
    rw [sA_cm (i := 90) (j := 92) (by decide), sA_sA, sA_sA] at s2
    rw [er, if_neg z30, if_neg z31, if_neg z32, f8_7, ob_n, ob_n, ob89, ob_n, s1, ob_n, f8_7, ob_n, ob_n, ob89, ob_n, s2, ob_n, fin _ (by rw [F_sA, F_sA]; exact e0) (by rw [F_sA, F_sA]; exact e1), A_sA, if_pos rfl]
    exact ⟨_, rfl, sm_cA (sm_A sm_rf (by decide))⟩
theorem K_reselect {s : e_S} {g : ps_G} {how n : Int32} (hR : Rel s g) : KI (fL_reselect (e_g s g) 8 how n 194) (fun G => fX12_reselect G 139 how n) g := by
  have hg := rel_g hR
  obtain ⟨h1, h2, h3, h4, h5, h6, ⟨w, h, h7, h8, h9⟩, h10, h11⟩ := id hR
  obtain ⟨d1, d2, d3, d4, d5, d6, d7, d8, d9⟩ := id h7
  have hwh := wh_le d2 d4
  have bad : ∀ s' : e_S, jX12_reselect_35 (e_g s' (nx g)) 139 how n 139 = some (0, e_g (sF s' 139 0 1) (nx g)) := by
    intro s'
    unfold jX12_reselect_35 jX12_reselect_36
    rw [w139_0, ob_n, f139_0, F_sF, if_pos ⟨rfl, rfl⟩, ob_n, if_neg (by decide)]
  by_cases v1 : rg how 0 3 = true
  · by_cases v2 : rg n (if ¬ how = 0 then 1 else 0) (if ¬ how = 0 then 8 else 0) = true
    · have h13 : how = 0 ∨ how = 1 ∨ how = 2 ∨ how = 3 := by
        have a := rg_i.mp v1
        rw [show (0 : Int32).toInt = 0 from rfl, show (3 : Int32).toInt = 3 from rfl] at a
        rw [i_eq, i_eq, i_eq, i_eq, show (0 : Int32).toInt = 0 from rfl, show (1 : Int32).toInt = 1 from rfl, show (2 : Int32).toInt = 2 from rfl, show (3 : Int32).toInt = 3 from rfl]
        omega
      obtain ⟨m, rfl, hm⟩ : ∃ m : Nat, n = Int32.ofNat m ∧ m ≤ 8 := by
        have a := rg_i.mp v2
        by_cases q : how = 0
        · have q' : ¬ ¬ how = 0 := fun z => z q
          rw [if_neg q', if_neg q', show (0 : Int32).toInt = 0 from rfl] at a
          exact ⟨n.toInt.toNat, n_of (by omega), by omega⟩
        · rw [if_pos q, if_pos q, show (1 : Int32).toInt = 1 from rfl, show (8 : Int32).toInt = 8 from rfl] at a
          exact ⟨n.toInt.toNat, n_of (by omega), by omega⟩
      have hB : ∀ k, k < 576 → rg (s.2.1 155 k) 0 255 := fun k hk => (d9 k hk).2
      have hB0 : ∀ k, k < 576 → rg (s.2.1 90 k) 0 255 := fun k hk => by rw [(d9 k hk).1]; exact hB k hk
      obtain ⟨s1, c1, c2⟩ := resel11 (s := s) (g := g) (n := m) (how := how) hg d1 d3 d2 d4 d7 d8 hm h13 v1 v2 hB0
      have rr : ∀ k, k < 576 → rwR how m w h (s.2.1 90) k = rwR how m w h (s.2.1 155) k ∧ rg (rwR how m w h (s.2.1 155) k) 0 255 := by
        intro k hk
        unfold rwR
        by_cases q : how = 3
        · rw [if_pos q, if_pos q]
          exact ⟨nwR_c d1 d3 hwh (nwR_c d1 d3 hwh (fun k hk => (d9 k hk).1)) k hk, nwR_r d1 d3 hwh hm (nwR_r d1 d3 hwh hm hB) k hk⟩
        · rw [if_neg q, if_neg q]
          exact ⟨nwR_c d1 d3 hwh (fun k hk => (d9 k hk).1) k hk, nwR_r d1 d3 hwh hm hB k hk⟩
      have cc : cnt (abC (rwR how m w h (s.2.1 90))) (w * h) = cnt (abC (rwR how m w h (s.2.1 155))) (w * h) := abC_c (fun k hk => (rr k (by omega)).1)
      rw [cc] at c1
      generalize hv : (Int32.ofNat (cnt (abC (rwR how m w h (s.2.1 155))) (w * h))).toInt64 = v64
      have a155 : (pO s1 v64).2.1 155 = s.2.1 155 := by
        show s1.2.1 155 = _
        rw [c2.1 155 (by decide), A_sA, if_neg (by decide)]
      have b13 : (pO s1 v64).1 139 13 = Int32.ofNat w := by
        show s1.1 139 13 = _
        rw [c2.2.1 (139, 13) (by decide), F_sA]; exact d5
      have b14 : (pO s1 v64).1 139 14 = Int32.ofNat h := by
        show s1.1 139 14 = _
        rw [c2.2.1 (139, 14) (by decide), F_sA]; exact d6
      obtain ⟨s2, m1, m2, m3, m4⟩ := resel12 (s := pO s1 v64) (g := g) (n := m) (how := how) d1 d3 d2 d4 b13 b14 hm h13 (by rw [a155]; exact hB)
      rw [a155] at m1 m2
      have hm12 : fX12_reselect (e_g (pO s1 v64) g) 139 how (Int32.ofNat m) = some (Int32.ofNat (cnt (abC (rwR how m w h (s.2.1 155))) (w * h)), e_g s2 g) := by
        unfold fX12_reselect
        rw [rin, if_pos v1, if_neg (by decide), m1]
        by_cases q : how = 0
        · have q' : ¬ ¬ how = 0 := fun z => z q
          have a := rg_i.mp v2
          rw [if_neg q', if_neg q', show (0 : Int32).toInt = 0 from rfl] at a
          have n0 : ¬ ¬ Int32.ofNat m = 0 := fun z => z (by rw [i_eq, show (0 : Int32).toInt = 0 from rfl]; omega)
          rw [if_neg q', if_neg n0]
        · rw [if_pos q, if_pos q] at v2
          rw [if_pos q, rin, if_pos v2, if_neg (by decide)]
      subst hv
      refine KI_r c1 hm12 m3 m4 ?_ ext_rf
      refine rel_sm (rel_ch hR rr) ?_
      exact sm_tr (sm_cA (sm_F (sm_L c2) (by decide))) m2
    · refine KI_no (b := 0) (E := "java/lang/IllegalArgumentException") (y := 1) hR ?_ (by decide +kernel) (by decide) ?_
      · show fX11_reselect _ _ _ _ = _
        unfold fX11_reselect
        rw [rng hg, if_pos v1, tc_rn, rng hg, if_neg v2, tc_ln]
      · show fX12_reselect _ _ _ _ = _
        unfold fX12_reselect
        rw [rin, if_pos v1, if_neg (by decide), bad]
        by_cases q : how = 0
        · have q' : ¬ ¬ how = 0 := fun z => z q
          have n0 : ¬ n = 0 := fun z => v2 (by rw [if_neg q', if_neg q', z]; decide)
          rw [if_neg q', if_pos n0]
        · rw [if_pos q, if_pos q] at v2
          rw [if_pos q, rin, if_neg v2, if_pos rfl]
  · refine KI_no (b := 0) (E := "java/lang/IllegalArgumentException") (y := 1) hR ?_ (by decide +kernel) (by decide) ?_
    · show fX11_reselect _ _ _ _ = _
      unfold fX11_reselect
      rw [rng hg, if_neg v1, tc_ln]
    · show fX12_reselect _ _ _ _ = _
      unfold fX12_reselect
      rw [rin, if_neg v1, if_pos rfl, bad]
