-- needs: 07 10 13 14 20 21 22 23 24 25 26 27 32 33 34 38 39 40 41 42 43 44 45 50
theorem K_curve {s : e_S} {g : ps_G} {k c x y : Int32} (hR : Rel s g) : KI (fL_curve (e_g s g) 8 k c x y 194) (fun G => fX12_curve G 139 k c x y) g := by
  have hg := rel_g hR
  have h4 : G4 s := hR.2.2.2.1
  by_cases v : vOk k c x y
  · have hc := (curve11a (s := s) (k := k) (c := c) (x := x) (y := y) hg).trans (if_pos v)
    have hm := fun (s' : e_S) g' => (curve12a (s := s') (g := g') (k := k) (c := c) (x := x) (y := y)).trans (by rw [if_pos v])
    have v' := v
    unfold vOk at v'
    rw [Bool.and_eq_true, Bool.and_eq_true, Bool.or_eq_true, Bool.and_eq_true] at v'
    obtain ⟨⟨v1, v2⟩, v3⟩ := v'
    obtain ⟨kn, rfl, hk⟩ := rg_cases (n := 7) v1 (by omega)
    obtain ⟨cn, rfl, hcn⟩ := rg_cases (n := 3) v2 (by omega)
    have ech : Int32.ofNat kn * 4 + Int32.ofNat cn = Int32.ofNat (4 * kn + cn) := by
      show Int32.ofNat kn * Int32.ofNat 4 + _ = _
      rw [n_mul, n_add, Nat.mul_comm]
    have ech2 : 4 * Int32.ofNat kn + Int32.ofNat cn = Int32.ofNat (4 * kn + cn) := by
      show Int32.ofNat 4 * Int32.ofNat kn + _ = _
      rw [n_mul, n_add]
    have hch : 4 * kn + cn < 32 := by omega
    generalize 4 * kn + cn = ch at ech ech2 hch
    obtain ⟨e17, n, hn, e152, hv⟩ := h4 ch hch
    have other : ∀ d, d < 32 → ¬ d = ch → ∀ i, i < 8 → ¬ (8 * ch ≤ 8 * d + i ∧ 8 * d + i < 8 * ch + 8) := by intro d _ hd i hi; omega
    by_cases xm : x = -1
    · subst xm
      have z : ¬ (0 : Int32) ≤ -1 := by decide
      have hcl : fX11_curve (e_g s g) 8 (Int32.ofNat kn) (Int32.ofNat cn) (-1) y = some (.inr 0, e_g (fgC (sA s 17 (upd (s.2.1 17) ch 0))) g) := by
        rw [hc]
        simp (decide := true) only [jX11_curve_34, jX11_curve_68, z, f8_5, f8_6, ob14, ech, fX5_clearCurve, f14_2, u17, n_in2 hch (by decide), n_idx (show ch < 2147483648 by omega), ob20, forget11, fgC, ob_s, b2_s, tc_r, tc_l, F_sF, A_sF, R_sF, L_sF, F_sA, A_sA, R_sA, L_sA, F_sR, A_sR, R_sR, L_sR, F_sL, A_sL, R_sL, L_sL, and_true, true_and, and_false, false_and, and_self, reduceIte, sF_sF, sA_sA, false_or, or_false, true_or, or_true, not_false_eq_true, not_true_eq_false, decide_true, decide_false, Bool.true_or, Bool.or_true, Bool.false_and, Bool.true_and, Bool.false_or, Bool.or_false, Bool.and_true, Bool.and_false]
      have hm' : ∀ s' : e_S, fX12_curve (e_g s' g) 139 (Int32.ofNat kn) (Int32.ofNat cn) (-1) y = some (0, e_g (fg12 (sA (sF s' 139 0 0) 152 (upd (s'.2.1 152) ch 0))) g) := by
        intro s'
        rw [hm]
        simp (decide := true) only [jX12_curve_52, w139_0, f139_0, f139_28, u152, ech2, n_in2 hch (by decide), n_idx (show ch < 2147483648 by omega), ob139, forget12, fg12, ob_s, b2_s, tc_r, tc_l, F_sF, A_sF, R_sF, L_sF, F_sA, A_sA, R_sA, L_sA, F_sR, A_sR, R_sR, L_sR, F_sL, A_sL, R_sL, L_sL, and_true, true_and, and_false, false_and, and_self, reduceIte, sF_sF, sA_sA, false_or, or_false, true_or, or_true, not_false_eq_true, not_true_eq_false, decide_true, decide_false, Bool.true_or, Bool.or_true, Bool.false_and, Bool.true_and, Bool.false_or, Bool.or_false, Bool.and_true, Bool.and_false]
      refine KI_r hcl (hm' _) (by simp (decide := true) only [ob_s, b2_s, tc_r, tc_l, F_sF, A_sF, R_sF, L_sF, F_sA, A_sA, R_sA, L_sA, F_sR, A_sR, R_sR, L_sR, F_sL, A_sL, R_sL, L_sL, and_true, true_and, and_false, false_and, and_self, reduceIte, sF_sF, sA_sA, false_or, or_false, true_or, or_true, not_false_eq_true, not_true_eq_false, decide_true, decide_false, Bool.true_or, Bool.or_true, Bool.false_and, Bool.true_and, Bool.false_or, Bool.or_false, Bool.and_true, Bool.and_false, fg12]) (by simp (decide := true) only [ob_s, b2_s, tc_r, tc_l, F_sF, A_sF, R_sF, L_sF, F_sA, A_sA, R_sA, L_sA, F_sR, A_sR, R_sR, L_sR, F_sL, A_sL, R_sL, L_sL, and_true, true_and, and_false, false_and, and_self, reduceIte, sF_sF, sA_sA, false_or, or_false, true_or, or_true, not_false_eq_true, not_true_eq_false, decide_true, decide_false, Bool.true_or, Bool.or_true, Bool.false_and, Bool.true_and, Bool.false_or, Bool.or_false, Bool.and_true, Bool.and_false, fg12]) ?_ ext_rf
      refine rel_curve hR ?_ (fun j hj hn => ?_) (fun p hp hn => ?_) (fun j hj => ?_) (fun t ht => ?_) (fun t ht => ?_) ?_
      · unfold G4 fg12 fgC pO
        simp (decide := true) only [ob_s, b2_s, tc_r, tc_l, F_sF, A_sF, R_sF, L_sF, F_sA, A_sA, R_sA, L_sA, F_sR, A_sR, R_sR, L_sR, F_sL, A_sL, R_sL, L_sL, and_true, true_and, and_false, false_and, and_self, reduceIte, sF_sF, sA_sA, false_or, or_false, true_or, or_true, not_false_eq_true, not_true_eq_false, decide_true, decide_false, Bool.true_or, Bool.or_true, Bool.false_and, Bool.true_and, Bool.false_or, Bool.or_false, Bool.and_true, Bool.and_false]
        intro d hd
        rw [upd_r, upd_r]
        by_cases q : d = ch
        · rw [if_pos q, if_pos q]
          exact ⟨rfl, 0, by omega, rfl, fun i hi => absurd hi (by omega)⟩
        · rw [if_neg q, if_neg q]
          exact h4 d hd
      · simp (decide := true) only [fg12, fgC, pO, A_sA, A_sF, A_sL]
        rw [if_neg (fun e => hn (by omega)), if_neg (fun e => hn (by omega)), if_neg (fun e => hn (by omega)), if_neg (fun e => hn (by omega)), if_neg (fun e => hn (by omega))]
      · obtain ⟨a, b⟩ := p
        have n1 : ¬ (a = 139 ∧ b = 0) := fun e => absurd hp (by rw [e.1, e.2]; decide)
        have n2 : ¬ (a = 20 ∧ b = 5) := fun e => hn (by rw [e.1, e.2])
        simp (decide := true) only [fg12, fgC, pO, F_sA, F_sF, F_sL, n1, n2, reduceIte]
      · simp (decide := true) only [fg12, fgC, pO, R_sA, R_sF, R_sL]
      · simp (decide := true) only [fg12, fgC, pO, ob_s, b2_s, tc_r, tc_l, F_sF, A_sF, R_sF, L_sF, F_sA, A_sA, R_sA, L_sA, F_sR, A_sR, R_sR, L_sR, F_sL, A_sL, R_sL, L_sL, and_true, true_and, and_false, false_and, and_self, reduceIte, sF_sF, sA_sA, false_or, or_false, true_or, or_true, not_false_eq_true, not_true_eq_false, decide_true, decide_false, Bool.true_or, Bool.or_true, Bool.false_and, Bool.true_and, Bool.false_or, Bool.or_false, Bool.and_true, Bool.and_false]; exact fl_lt ht
      · simp (decide := true) only [fg12, fgC, pO, ob_s, b2_s, tc_r, tc_l, F_sF, A_sF, R_sF, L_sF, F_sA, A_sA, R_sA, L_sA, F_sR, A_sR, R_sR, L_sR, F_sL, A_sL, R_sL, L_sL, and_true, true_and, and_false, false_and, and_self, reduceIte, sF_sF, sA_sA, false_or, or_false, true_or, or_true, not_false_eq_true, not_true_eq_false, decide_true, decide_false, Bool.true_or, Bool.or_true, Bool.false_and, Bool.true_and, Bool.false_or, Bool.or_false, Bool.and_true, Bool.and_false]; exact fl_lt ht
      · simp (decide := true) only [fg12, fgC, pO, ob_s, b2_s, tc_r, tc_l, F_sF, A_sF, R_sF, L_sF, F_sA, A_sA, R_sA, L_sA, F_sR, A_sR, R_sR, L_sR, F_sL, A_sL, R_sL, L_sL, and_true, true_and, and_false, false_and, and_self, reduceIte, sF_sF, sA_sA, false_or, or_false, true_or, or_true, not_false_eq_true, not_true_eq_false, decide_true, decide_false, Bool.true_or, Bool.or_true, Bool.false_and, Bool.true_and, Bool.false_or, Bool.or_false, Bool.and_true, Bool.and_false]
    · have hxy : rg x 0 255 = true ∧ rg y 0 255 = true := by
        rcases v3 with e | e
        · exact absurd (of_decide_eq_true e) xm
        · exact e
      have z : (0 : Int32) ≤ x := by rw [i_le]; exact (rg_i.mp hxy.1).1
      obtain ⟨p, hp, p1, p2⟩ := fpos (s.2.1 153) (8 * ch) x n
      have p1' : ∀ i, i < p → s.2.1 15 (8 * ch + i) < x := fun i hi => by rw [(hv i (by omega)).1]; exact p1 i hi
      have p2' : p = n ∨ x ≤ s.2.1 15 (8 * ch + p) := by
        by_cases q : p = n
        · exact Or.inl q
        · rw [(hv p (by omega)).1]; exact Or.inr (p2.resolve_left q)
      have bc := bend11 (s := s) (g := g) (y := y) hch hn (e17.trans e152) hp p1' p2'
      have bm := fun (s' : e_S) g' (q1 : s'.2.1 152 = s.2.1 152) (q2 : s'.2.1 153 = s.2.1 153) => bend12 (s := s') (g := g') (x := x) (y := y) hch hn (by rw [q1]; exact e152) hp (by rw [q2]; exact p1) (by rw [q2]; exact p2)
      have eqx : (p < n ∧ s.2.1 15 (8 * ch + p) = x) ↔ (p < n ∧ s.2.1 153 (8 * ch + p) = x) := by
        constructor
        · rintro ⟨a, b⟩; rw [(hv p a).1] at b; exact ⟨a, b⟩
        · rintro ⟨a, b⟩; rw [← (hv p a).1] at b; exact ⟨a, b⟩
      have m52 : ∀ (s' : e_S) g', fX12_curve (e_g s' g') 139 (Int32.ofNat kn) (Int32.ofNat cn) x y = (Option.bind (q_lp (fun t => bX12_curve_106 (e_g (sF s' 139 0 0) g') 139 x y (Int32.ofNat ch) t) (0 : Int32)) fun t => jX12_curve_141 (e_g (sF s' 139 0 0) g') 139 x y (Int32.ofNat ch) t) := by
        intro s' g'
        rw [hm]
        simp (decide := true) only [jX12_curve_52, w139_0, f139_0, xm, ech2, ob_s, b2_s, tc_r, tc_l, F_sF, A_sF, R_sF, L_sF, F_sA, A_sA, R_sA, L_sA, F_sR, A_sR, R_sR, L_sR, F_sL, A_sL, R_sL, L_sL, and_true, true_and, and_false, false_and, and_self, reduceIte, sF_sF, sA_sA, false_or, or_false, true_or, or_true, not_false_eq_true, not_true_eq_false, decide_true, decide_false, Bool.true_or, Bool.or_true, Bool.false_and, Bool.true_and, Bool.false_or, Bool.or_false, Bool.and_true, Bool.and_false]
      have c68 : ∀ (s' : e_S) m, m < 2147483648 → jX11_curve_68 (e_g s' g) 8 (Int32.ofNat m) = some (.inr (Int32.ofNat m), e_g (fgC s') g) := by
        intro s' m hm9
        have z0 : (0 : Int32) ≤ Int32.ofNat m := by
          show Int32.ofNat 0 ≤ Int32.ofNat m
          rw [n_le (by omega) hm9]; omega
        simp (decide := true) only [jX11_curve_68, z0, f8_6, ob20, forget11, fgC, ob_s, b2_s, tc_r, tc_l, F_sF, A_sF, R_sF, L_sF, F_sA, A_sA, R_sA, L_sA, F_sR, A_sR, R_sR, L_sR, F_sL, A_sL, R_sL, L_sL, and_true, true_and, and_false, false_and, and_self, reduceIte, sF_sF, sA_sA, false_or, or_false, true_or, or_true, not_false_eq_true, not_true_eq_false, decide_true, decide_false, Bool.true_or, Bool.or_true, Bool.false_and, Bool.true_and, Bool.false_or, Bool.or_false, Bool.and_true, Bool.and_false]
      by_cases q0 : p < n ∧ s.2.1 153 (8 * ch + p) = x
      · rw [if_pos (eqx.mpr q0)] at bc
        have hcl : fX11_curve (e_g s g) 8 (Int32.ofNat kn) (Int32.ofNat cn) x y = some (.inr (Int32.ofNat n), e_g (fgC (sA s 16 (upd (s.2.1 16) (8 * ch + p) y))) g) := by
          rw [hc]
          simp (decide := true) only [jX11_curve_34, z, f8_5, ob14, ech, bc, c68 _ n (by omega), ob_s, b2_s, tc_r, tc_l, F_sF, A_sF, R_sF, L_sF, F_sA, A_sA, R_sA, L_sA, F_sR, A_sR, R_sR, L_sR, F_sL, A_sL, R_sL, L_sL, and_true, true_and, and_false, false_and, and_self, reduceIte, sF_sF, sA_sA, false_or, or_false, true_or, or_true, not_false_eq_true, not_true_eq_false, decide_true, decide_false, Bool.true_or, Bool.or_true, Bool.false_and, Bool.true_and, Bool.false_or, Bool.or_false, Bool.and_true, Bool.and_false]
        have bm' := bm (sF (pO (fgC (sA s 16 (upd (s.2.1 16) (8 * ch + p) y))) (Int32.ofNat n).toInt64) 139 0 0) g (by simp (decide := true) only [ob_s, b2_s, tc_r, tc_l, F_sF, A_sF, R_sF, L_sF, F_sA, A_sA, R_sA, L_sA, F_sR, A_sR, R_sR, L_sR, F_sL, A_sL, R_sL, L_sL, and_true, true_and, and_false, false_and, and_self, reduceIte, sF_sF, sA_sA, false_or, or_false, true_or, or_true, not_false_eq_true, not_true_eq_false, decide_true, decide_false, Bool.true_or, Bool.or_true, Bool.false_and, Bool.true_and, Bool.false_or, Bool.or_false, Bool.and_true, Bool.and_false, pO, fgC]) (by simp (decide := true) only [ob_s, b2_s, tc_r, tc_l, F_sF, A_sF, R_sF, L_sF, F_sA, A_sA, R_sA, L_sA, F_sR, A_sR, R_sR, L_sR, F_sL, A_sL, R_sL, L_sL, and_true, true_and, and_false, false_and, and_self, reduceIte, sF_sF, sA_sA, false_or, or_false, true_or, or_true, not_false_eq_true, not_true_eq_false, decide_true, decide_false, Bool.true_or, Bool.or_true, Bool.false_and, Bool.true_and, Bool.false_or, Bool.or_false, Bool.and_true, Bool.and_false, pO, fgC])
        have e153 : (sF (pO (fgC (sA s 16 (upd (s.2.1 16) (8 * ch + p) y))) (Int32.ofNat n).toInt64) 139 0 0).2.1 153 = s.2.1 153 := by simp (decide := true) only [ob_s, b2_s, tc_r, tc_l, F_sF, A_sF, R_sF, L_sF, F_sA, A_sA, R_sA, L_sA, F_sR, A_sR, R_sR, L_sR, F_sL, A_sL, R_sL, L_sL, and_true, true_and, and_false, false_and, and_self, reduceIte, sF_sF, sA_sA, false_or, or_false, true_or, or_true, not_false_eq_true, not_true_eq_false, decide_true, decide_false, Bool.true_or, Bool.or_true, Bool.false_and, Bool.true_and, Bool.false_or, Bool.or_false, Bool.and_true, Bool.and_false, pO, fgC]
        rw [e153, if_neg (fun w => w.1 q0), if_pos q0] at bm'
        refine KI_r hcl ((m52 _ _).trans bm') ?_ ?_ ?_ ext_rf
        · unfold cvM; rw [if_pos (by simp (decide := true) only [ob_s, b2_s, tc_r, tc_l, F_sF, A_sF, R_sF, L_sF, F_sA, A_sA, R_sA, L_sA, F_sR, A_sR, R_sR, L_sR, F_sL, A_sL, R_sL, L_sL, and_true, true_and, and_false, false_and, and_self, reduceIte, sF_sF, sA_sA, false_or, or_false, true_or, or_true, not_false_eq_true, not_true_eq_false, decide_true, decide_false, Bool.true_or, Bool.or_true, Bool.false_and, Bool.true_and, Bool.false_or, Bool.or_false, Bool.and_true, Bool.and_false, pO, fgC]; exact q0)]; simp (decide := true) only [ob_s, b2_s, tc_r, tc_l, F_sF, A_sF, R_sF, L_sF, F_sA, A_sA, R_sA, L_sA, F_sR, A_sR, R_sR, L_sR, F_sL, A_sL, R_sL, L_sL, and_true, true_and, and_false, false_and, and_self, reduceIte, sF_sF, sA_sA, false_or, or_false, true_or, or_true, not_false_eq_true, not_true_eq_false, decide_true, decide_false, Bool.true_or, Bool.or_true, Bool.false_and, Bool.true_and, Bool.false_or, Bool.or_false, Bool.and_true, Bool.and_false, fg12]
        · unfold cvM; rw [if_pos (by simp (decide := true) only [ob_s, b2_s, tc_r, tc_l, F_sF, A_sF, R_sF, L_sF, F_sA, A_sA, R_sA, L_sA, F_sR, A_sR, R_sR, L_sR, F_sL, A_sL, R_sL, L_sL, and_true, true_and, and_false, false_and, and_self, reduceIte, sF_sF, sA_sA, false_or, or_false, true_or, or_true, not_false_eq_true, not_true_eq_false, decide_true, decide_false, Bool.true_or, Bool.or_true, Bool.false_and, Bool.true_and, Bool.false_or, Bool.or_false, Bool.and_true, Bool.and_false, pO, fgC]; exact q0)]; simp (decide := true) only [ob_s, b2_s, tc_r, tc_l, F_sF, A_sF, R_sF, L_sF, F_sA, A_sA, R_sA, L_sA, F_sR, A_sR, R_sR, L_sR, F_sL, A_sL, R_sL, L_sL, and_true, true_and, and_false, false_and, and_self, reduceIte, sF_sF, sA_sA, false_or, or_false, true_or, or_true, not_false_eq_true, not_true_eq_false, decide_true, decide_false, Bool.true_or, Bool.or_true, Bool.false_and, Bool.true_and, Bool.false_or, Bool.or_false, Bool.and_true, Bool.and_false, fg12]
        · unfold cvM
          rw [if_pos (by simp (decide := true) only [ob_s, b2_s, tc_r, tc_l, F_sF, A_sF, R_sF, L_sF, F_sA, A_sA, R_sA, L_sA, F_sR, A_sR, R_sR, L_sR, F_sL, A_sL, R_sL, L_sL, and_true, true_and, and_false, false_and, and_self, reduceIte, sF_sF, sA_sA, false_or, or_false, true_or, or_true, not_false_eq_true, not_true_eq_false, decide_true, decide_false, Bool.true_or, Bool.or_true, Bool.false_and, Bool.true_and, Bool.false_or, Bool.or_false, Bool.and_true, Bool.and_false, pO, fgC]; exact q0)]
          refine rel_curve hR ?_ (fun j hj hn => ?_) (fun p hp hn => ?_) (fun j hj => ?_) (fun t ht => ?_) (fun t ht => ?_) ?_
          · unfold G4 fg12 fgC pO
            simp (decide := true) only [ob_s, b2_s, tc_r, tc_l, F_sF, A_sF, R_sF, L_sF, F_sA, A_sA, R_sA, L_sA, F_sR, A_sR, R_sR, L_sR, F_sL, A_sL, R_sL, L_sL, and_true, true_and, and_false, false_and, and_self, reduceIte, sF_sF, sA_sA, false_or, or_false, true_or, or_true, not_false_eq_true, not_true_eq_false, decide_true, decide_false, Bool.true_or, Bool.or_true, Bool.false_and, Bool.true_and, Bool.false_or, Bool.or_false, Bool.and_true, Bool.and_false]
            intro d hd
            by_cases q : d = ch
            · subst q
              exact ⟨e17, n, hn, e152, curve_set q0.2 hxy.2 hv⟩
            · obtain ⟨a1, m, a2, a3, a4⟩ := h4 d hd
              refine ⟨a1, m, a2, a3, fun i hi => ?_⟩
              have o := other d hd q i (by omega)
              obtain ⟨b1, b2, b3, b4, b5⟩ := a4 i hi
              rw [upd_n (by omega), upd_n (by omega), upd_n (by omega)]
              refine ⟨b1, b2, b3, b4, fun hz => ?_⟩
              have o3 := other d hd q (i - 1) (by omega)
              rw [upd_n (by omega)]
              exact b5 hz
          · simp (decide := true) only [fg12, fgC, pO, A_sA, A_sF, A_sL]
            rw [if_neg (fun e => hn (by omega)), if_neg (fun e => hn (by omega)), if_neg (fun e => hn (by omega)), if_neg (fun e => hn (by omega)), if_neg (fun e => hn (by omega)), if_neg (fun e => hn (by omega))]
          · obtain ⟨a, b⟩ := p
            have n1 : ¬ (a = 139 ∧ b = 0) := fun e => absurd hp (by rw [e.1, e.2]; decide)
            have n2 : ¬ (a = 20 ∧ b = 5) := fun e => hn (by rw [e.1, e.2])
            simp (decide := true) only [fg12, fgC, pO, F_sA, F_sF, F_sL, n1, n2, reduceIte]
          · simp (decide := true) only [fg12, fgC, pO, R_sA, R_sF, R_sL]
          · simp (decide := true) only [fg12, fgC, pO, ob_s, b2_s, tc_r, tc_l, F_sF, A_sF, R_sF, L_sF, F_sA, A_sA, R_sA, L_sA, F_sR, A_sR, R_sR, L_sR, F_sL, A_sL, R_sL, L_sL, and_true, true_and, and_false, false_and, and_self, reduceIte, sF_sF, sA_sA, false_or, or_false, true_or, or_true, not_false_eq_true, not_true_eq_false, decide_true, decide_false, Bool.true_or, Bool.or_true, Bool.false_and, Bool.true_and, Bool.false_or, Bool.or_false, Bool.and_true, Bool.and_false]; exact fl_lt ht
          · simp (decide := true) only [fg12, fgC, pO, ob_s, b2_s, tc_r, tc_l, F_sF, A_sF, R_sF, L_sF, F_sA, A_sA, R_sA, L_sA, F_sR, A_sR, R_sR, L_sR, F_sL, A_sL, R_sL, L_sL, and_true, true_and, and_false, false_and, and_self, reduceIte, sF_sF, sA_sA, false_or, or_false, true_or, or_true, not_false_eq_true, not_true_eq_false, decide_true, decide_false, Bool.true_or, Bool.or_true, Bool.false_and, Bool.true_and, Bool.false_or, Bool.or_false, Bool.and_true, Bool.and_false]; exact fl_lt ht
          · simp (decide := true) only [fg12, fgC, pO, ob_s, b2_s, tc_r, tc_l, F_sF, A_sF, R_sF, L_sF, F_sA, A_sA, R_sA, L_sA, F_sR, A_sR, R_sR, L_sR, F_sL, A_sL, R_sL, L_sL, and_true, true_and, and_false, false_and, and_self, reduceIte, sF_sF, sA_sA, false_or, or_false, true_or, or_true, not_false_eq_true, not_true_eq_false, decide_true, decide_false, Bool.true_or, Bool.or_true, Bool.false_and, Bool.true_and, Bool.false_or, Bool.or_false, Bool.and_true, Bool.and_false]
      · rw [if_neg (fun w => q0 (eqx.mp w))] at bc
        by_cases n8 : n < 8
        · rw [if_pos n8] at bc
          have hcl : fX11_curve (e_g s g) 8 (Int32.ofNat kn) (Int32.ofNat cn) x y = some (.inr (Int32.ofNat (n + 1)), e_g (fgC (sA (sA (sA s 15 (upd (shf (s.2.1 15) (8 * ch) p n) (8 * ch + p) x)) 16 (upd (shf (s.2.1 16) (8 * ch) p n) (8 * ch + p) y)) 17 (upd (s.2.1 17) ch (Int32.ofNat (n + 1))))) g) := by
            rw [hc]
            simp (decide := true) only [jX11_curve_34, z, f8_5, ob14, ech, bc, c68 _ (n + 1) (by omega), ob_s, b2_s, tc_r, tc_l, F_sF, A_sF, R_sF, L_sF, F_sA, A_sA, R_sA, L_sA, F_sR, A_sR, R_sR, L_sR, F_sL, A_sL, R_sL, L_sL, and_true, true_and, and_false, false_and, and_self, reduceIte, sF_sF, sA_sA, false_or, or_false, true_or, or_true, not_false_eq_true, not_true_eq_false, decide_true, decide_false, Bool.true_or, Bool.or_true, Bool.false_and, Bool.true_and, Bool.false_or, Bool.or_false, Bool.and_true, Bool.and_false]
          have bm' := bm (sF (pO (fgC (sA (sA (sA s 15 (upd (shf (s.2.1 15) (8 * ch) p n) (8 * ch + p) x)) 16 (upd (shf (s.2.1 16) (8 * ch) p n) (8 * ch + p) y)) 17 (upd (s.2.1 17) ch (Int32.ofNat (n + 1))))) (Int32.ofNat (n + 1)).toInt64) 139 0 0) g (by simp (decide := true) only [ob_s, b2_s, tc_r, tc_l, F_sF, A_sF, R_sF, L_sF, F_sA, A_sA, R_sA, L_sA, F_sR, A_sR, R_sR, L_sR, F_sL, A_sL, R_sL, L_sL, and_true, true_and, and_false, false_and, and_self, reduceIte, sF_sF, sA_sA, false_or, or_false, true_or, or_true, not_false_eq_true, not_true_eq_false, decide_true, decide_false, Bool.true_or, Bool.or_true, Bool.false_and, Bool.true_and, Bool.false_or, Bool.or_false, Bool.and_true, Bool.and_false, pO, fgC]) (by simp (decide := true) only [ob_s, b2_s, tc_r, tc_l, F_sF, A_sF, R_sF, L_sF, F_sA, A_sA, R_sA, L_sA, F_sR, A_sR, R_sR, L_sR, F_sL, A_sL, R_sL, L_sL, and_true, true_and, and_false, false_and, and_self, reduceIte, sF_sF, sA_sA, false_or, or_false, true_or, or_true, not_false_eq_true, not_true_eq_false, decide_true, decide_false, Bool.true_or, Bool.or_true, Bool.false_and, Bool.true_and, Bool.false_or, Bool.or_false, Bool.and_true, Bool.and_false, pO, fgC])
          have e153 : (sF (pO (fgC (sA (sA (sA s 15 (upd (shf (s.2.1 15) (8 * ch) p n) (8 * ch + p) x)) 16 (upd (shf (s.2.1 16) (8 * ch) p n) (8 * ch + p) y)) 17 (upd (s.2.1 17) ch (Int32.ofNat (n + 1))))) (Int32.ofNat (n + 1)).toInt64) 139 0 0).2.1 153 = s.2.1 153 := by simp (decide := true) only [ob_s, b2_s, tc_r, tc_l, F_sF, A_sF, R_sF, L_sF, F_sA, A_sA, R_sA, L_sA, F_sR, A_sR, R_sR, L_sR, F_sL, A_sL, R_sL, L_sL, and_true, true_and, and_false, false_and, and_self, reduceIte, sF_sF, sA_sA, false_or, or_false, true_or, or_true, not_false_eq_true, not_true_eq_false, decide_true, decide_false, Bool.true_or, Bool.or_true, Bool.false_and, Bool.true_and, Bool.false_or, Bool.or_false, Bool.and_true, Bool.and_false, pO, fgC]
          rw [e153, if_neg (fun w => absurd w.2 (by omega)), if_neg q0] at bm'
          refine KI_r hcl ((m52 _ _).trans bm') ?_ ?_ ?_ ext_rf
          · unfold cvM; rw [if_neg (by simp (decide := true) only [ob_s, b2_s, tc_r, tc_l, F_sF, A_sF, R_sF, L_sF, F_sA, A_sA, R_sA, L_sA, F_sR, A_sR, R_sR, L_sR, F_sL, A_sL, R_sL, L_sL, and_true, true_and, and_false, false_and, and_self, reduceIte, sF_sF, sA_sA, false_or, or_false, true_or, or_true, not_false_eq_true, not_true_eq_false, decide_true, decide_false, Bool.true_or, Bool.or_true, Bool.false_and, Bool.true_and, Bool.false_or, Bool.or_false, Bool.and_true, Bool.and_false, pO, fgC]; exact q0)]; simp (decide := true) only [ob_s, b2_s, tc_r, tc_l, F_sF, A_sF, R_sF, L_sF, F_sA, A_sA, R_sA, L_sA, F_sR, A_sR, R_sR, L_sR, F_sL, A_sL, R_sL, L_sL, and_true, true_and, and_false, false_and, and_self, reduceIte, sF_sF, sA_sA, false_or, or_false, true_or, or_true, not_false_eq_true, not_true_eq_false, decide_true, decide_false, Bool.true_or, Bool.or_true, Bool.false_and, Bool.true_and, Bool.false_or, Bool.or_false, Bool.and_true, Bool.and_false, fg12]
          · unfold cvM; rw [if_neg (by simp (decide := true) only [ob_s, b2_s, tc_r, tc_l, F_sF, A_sF, R_sF, L_sF, F_sA, A_sA, R_sA, L_sA, F_sR, A_sR, R_sR, L_sR, F_sL, A_sL, R_sL, L_sL, and_true, true_and, and_false, false_and, and_self, reduceIte, sF_sF, sA_sA, false_or, or_false, true_or, or_true, not_false_eq_true, not_true_eq_false, decide_true, decide_false, Bool.true_or, Bool.or_true, Bool.false_and, Bool.true_and, Bool.false_or, Bool.or_false, Bool.and_true, Bool.and_false, pO, fgC]; exact q0)]; simp (decide := true) only [ob_s, b2_s, tc_r, tc_l, F_sF, A_sF, R_sF, L_sF, F_sA, A_sA, R_sA, L_sA, F_sR, A_sR, R_sR, L_sR, F_sL, A_sL, R_sL, L_sL, and_true, true_and, and_false, false_and, and_self, reduceIte, sF_sF, sA_sA, false_or, or_false, true_or, or_true, not_false_eq_true, not_true_eq_false, decide_true, decide_false, Bool.true_or, Bool.or_true, Bool.false_and, Bool.true_and, Bool.false_or, Bool.or_false, Bool.and_true, Bool.and_false, fg12]
          · unfold cvM
            rw [if_neg (by simp (decide := true) only [ob_s, b2_s, tc_r, tc_l, F_sF, A_sF, R_sF, L_sF, F_sA, A_sA, R_sA, L_sA, F_sR, A_sR, R_sR, L_sR, F_sL, A_sL, R_sL, L_sL, and_true, true_and, and_false, false_and, and_self, reduceIte, sF_sF, sA_sA, false_or, or_false, true_or, or_true, not_false_eq_true, not_true_eq_false, decide_true, decide_false, Bool.true_or, Bool.or_true, Bool.false_and, Bool.true_and, Bool.false_or, Bool.or_false, Bool.and_true, Bool.and_false, pO, fgC]; exact q0)]
            refine rel_curve hR ?_ (fun j hj hn => ?_) (fun p hp hn => ?_) (fun j hj => ?_) (fun t ht => ?_) (fun t ht => ?_) ?_
            · unfold G4 fg12 fgC pO
              simp (decide := true) only [ob_s, b2_s, tc_r, tc_l, F_sF, A_sF, R_sF, L_sF, F_sA, A_sA, R_sA, L_sA, F_sR, A_sR, R_sR, L_sR, F_sL, A_sL, R_sL, L_sL, and_true, true_and, and_false, false_and, and_self, reduceIte, sF_sF, sA_sA, false_or, or_false, true_or, or_true, not_false_eq_true, not_true_eq_false, decide_true, decide_false, Bool.true_or, Bool.or_true, Bool.false_and, Bool.true_and, Bool.false_or, Bool.or_false, Bool.and_true, Bool.and_false]
              intro d hd
              by_cases q : d = ch
              · subst q
                rw [upd_s, upd_s]
                refine ⟨rfl, n + 1, by omega, rfl, curve_ins hxy.1 hxy.2 hp hv p1 (fun w => ?_)⟩
                have w1 := p2.resolve_left (by omega)
                have w2 : ¬ s.2.1 153 (8 * d + p) = x := fun e => q0 ⟨w, e⟩
                rw [i_le] at w1
                rw [i_eq] at w2
                rw [i_lt]; omega
              · rw [upd_n q, upd_n q]
                obtain ⟨a1, m, a2, a3, a4⟩ := h4 d hd
                refine ⟨a1, m, a2, a3, fun i hi => ?_⟩
                have o := other d hd q i (by omega)
                have o2 : ¬ (8 * ch + p < 8 * d + i ∧ 8 * d + i ≤ 8 * ch + n) := by omega
                obtain ⟨b1, b2, b3, b4, b5⟩ := a4 i hi
                rw [upd_n (by omega), upd_n (by omega), upd_n (by omega), upd_n (by omega), shf_out o2, shf_out o2, shf_out o2, shf_out o2]
                refine ⟨b1, b2, b3, b4, fun hz => ?_⟩
                have o3 := other d hd q (i - 1) (by omega)
                rw [upd_n (by omega), shf_out (by omega)]
                exact b5 hz
            · simp (decide := true) only [fg12, fgC, pO, A_sA, A_sF, A_sL]
              rw [if_neg (fun e => hn (by omega)), if_neg (fun e => hn (by omega)), if_neg (fun e => hn (by omega)), if_neg (fun e => hn (by omega)), if_neg (fun e => hn (by omega)), if_neg (fun e => hn (by omega)), if_neg (fun e => hn (by omega)), if_neg (fun e => hn (by omega)), if_neg (fun e => hn (by omega))]
            · obtain ⟨a, b⟩ := p
              have n1 : ¬ (a = 139 ∧ b = 0) := fun e => absurd hp (by rw [e.1, e.2]; decide)
              have n2 : ¬ (a = 20 ∧ b = 5) := fun e => hn (by rw [e.1, e.2])
              simp (decide := true) only [fg12, fgC, pO, F_sA, F_sF, F_sL, n1, n2, reduceIte]
            · simp (decide := true) only [fg12, fgC, pO, R_sA, R_sF, R_sL]
            · simp (decide := true) only [fg12, fgC, pO, ob_s, b2_s, tc_r, tc_l, F_sF, A_sF, R_sF, L_sF, F_sA, A_sA, R_sA, L_sA, F_sR, A_sR, R_sR, L_sR, F_sL, A_sL, R_sL, L_sL, and_true, true_and, and_false, false_and, and_self, reduceIte, sF_sF, sA_sA, false_or, or_false, true_or, or_true, not_false_eq_true, not_true_eq_false, decide_true, decide_false, Bool.true_or, Bool.or_true, Bool.false_and, Bool.true_and, Bool.false_or, Bool.or_false, Bool.and_true, Bool.and_false]; exact fl_lt ht
            · simp (decide := true) only [fg12, fgC, pO, ob_s, b2_s, tc_r, tc_l, F_sF, A_sF, R_sF, L_sF, F_sA, A_sA, R_sA, L_sA, F_sR, A_sR, R_sR, L_sR, F_sL, A_sL, R_sL, L_sL, and_true, true_and, and_false, false_and, and_self, reduceIte, sF_sF, sA_sA, false_or, or_false, true_or, or_true, not_false_eq_true, not_true_eq_false, decide_true, decide_false, Bool.true_or, Bool.or_true, Bool.false_and, Bool.true_and, Bool.false_or, Bool.or_false, Bool.and_true, Bool.and_false]; exact fl_lt ht
            · simp (decide := true) only [fg12, fgC, pO, ob_s, b2_s, tc_r, tc_l, F_sF, A_sF, R_sF, L_sF, F_sA, A_sA, R_sA, L_sA, F_sR, A_sR, R_sR, L_sR, F_sL, A_sL, R_sL, L_sL, and_true, true_and, and_false, false_and, and_self, reduceIte, sF_sF, sA_sA, false_or, or_false, true_or, or_true, not_false_eq_true, not_true_eq_false, decide_true, decide_false, Bool.true_or, Bool.or_true, Bool.false_and, Bool.true_and, Bool.false_or, Bool.or_false, Bool.and_true, Bool.and_false]
        · rw [if_neg n8] at bc
          have nz : ¬ (0 : Int32) ≤ -1 := by decide
          have e3 : ps_nw (e_g s g) 6 ps_e0 = e_g s (nx g) := e_nw hg
          have bm' := bm (sF s 139 0 0) (nx g) (by simp (decide := true) only [ob_s, b2_s, tc_r, tc_l, F_sF, A_sF, R_sF, L_sF, F_sA, A_sA, R_sA, L_sA, F_sR, A_sR, R_sR, L_sR, F_sL, A_sL, R_sL, L_sL, and_true, true_and, and_false, false_and, and_self, reduceIte, sF_sF, sA_sA, false_or, or_false, true_or, or_true, not_false_eq_true, not_true_eq_false, decide_true, decide_false, Bool.true_or, Bool.or_true, Bool.false_and, Bool.true_and, Bool.false_or, Bool.or_false, Bool.and_true, Bool.and_false]) (by simp (decide := true) only [ob_s, b2_s, tc_r, tc_l, F_sF, A_sF, R_sF, L_sF, F_sA, A_sA, R_sA, L_sA, F_sR, A_sR, R_sR, L_sR, F_sL, A_sL, R_sL, L_sL, and_true, true_and, and_false, false_and, and_self, reduceIte, sF_sF, sA_sA, false_or, or_false, true_or, or_true, not_false_eq_true, not_true_eq_false, decide_true, decide_false, Bool.true_or, Bool.or_true, Bool.false_and, Bool.true_and, Bool.false_or, Bool.or_false, Bool.and_true, Bool.and_false])
          have e153 : (sF s 139 0 0).2.1 153 = s.2.1 153 := by simp (decide := true) only [ob_s, b2_s, tc_r, tc_l, F_sF, A_sF, R_sF, L_sF, F_sA, A_sA, R_sA, L_sA, F_sR, A_sR, R_sR, L_sR, F_sL, A_sL, R_sL, L_sL, and_true, true_and, and_false, false_and, and_self, reduceIte, sF_sF, sA_sA, false_or, or_false, true_or, or_true, not_false_eq_true, not_true_eq_false, decide_true, decide_false, Bool.true_or, Bool.or_true, Bool.false_and, Bool.true_and, Bool.false_or, Bool.or_false, Bool.and_true, Bool.and_false]
          rw [e153, if_pos ⟨q0, by omega⟩, sF_sF] at bm'
          refine KI_no (E := "java/lang/IndexOutOfBoundsException") (y := 2) hR ?_ (by decide +kernel) (by decide) ((m52 _ _).trans bm')
          rw [hc]
          simp (decide := true) only [jX11_curve_34, jX11_curve_68, z, nz, f8_5, ob14, ech, bc, e3, ob_s, b2_s, tc_r, tc_l, F_sF, A_sF, R_sF, L_sF, F_sA, A_sA, R_sA, L_sA, F_sR, A_sR, R_sR, L_sR, F_sL, A_sL, R_sL, L_sL, and_true, true_and, and_false, false_and, and_self, reduceIte, sF_sF, sA_sA, false_or, or_false, true_or, or_true, not_false_eq_true, not_true_eq_false, decide_true, decide_false, Bool.true_or, Bool.or_true, Bool.false_and, Bool.true_and, Bool.false_or, Bool.or_false, Bool.and_true, Bool.and_false]
  · refine KI_no (E := "java/lang/IllegalArgumentException") (y := 1) (b := 0) hR ((curve11a hg).trans (if_neg v)) (by decide +kernel) (by decide) ?_
    show fX12_curve (e_g s (nx g)) 139 k c x y = _
    rw [curve12a, if_neg v]
    simp (decide := true) only [jX12_curve_52, w139_0, f139_0, ob_s, b2_s, tc_r, tc_l, F_sF, A_sF, R_sF, L_sF, F_sA, A_sA, R_sA, L_sA, F_sR, A_sR, R_sR, L_sR, F_sL, A_sL, R_sL, L_sL, and_true, true_and, and_false, false_and, and_self, reduceIte, sF_sF, sA_sA, false_or, or_false, true_or, or_true, not_false_eq_true, not_true_eq_false, decide_true, decide_false, Bool.true_or, Bool.or_true, Bool.false_and, Bool.true_and, Bool.false_or, Bool.or_false, Bool.and_true, Bool.and_false]
