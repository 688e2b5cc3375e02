-- needs: 97zzzc
/-! ===== made ===== -/
/-- from where both sides have pixels alike -/
theorem made_b {s s1 : e_S} {g : ps_G} {a r w h : Nat} {x : Int32} {B : Nat → Int32} (hR1 : Rel s1 g) (h7 : G7 s1 w h) (e0 : s1.2.2.1 8 0 = some r) (f9 : StN g r w h (s1.2.1 142)) (hRd : ∀ S : e_S, S.2.1 86 = s1.2.1 86 → RdB (e_g S g) a B) (hc : fX11_made (e_g s g) 8 x = jX11_made_27 (e_g s1 g) 8 (some a)) (hm : ∀ S, S.2.1 142 = s1.2.1 142 → (∀ j, j ∈ [142, 150, 152, 153, 154] → S.2.1 j = s1.2.1 j) → (∀ j, j ∈ [13, 14, 25, 26] → S.1 139 j = s1.1 139 j) → ∃ (S1 : e_S) (B' : Nat → Int32), fX12_made (e_g S g) 139 x = jX12_made_41 (e_g S1 g) 139 x ∧ Sm S S1 ∧ S1.1 139 0 = 0 ∧ S1.2.2.2 = S.2.2.2 ∧ (∀ k, k < w * h → B' k = B k) ∧ ∀ F k, k < w * h → bX12_made_43 139 x (Int32.ofNat k) (e_g (sA S1 158 F) g) = some (.inl (Int32.ofNat (k + 1), e_g (sA S1 158 (upd F k (B' k))) g))) : KI (fL_made (e_g s g) 8 x 194) (fun G => fX12_made G 139 x) g := by
  obtain ⟨d1, d2, d3, d4, d5, d6, d7, d8, d9⟩ := id h7
  have h11 := hR1.2.2.2.2.2.2.2.2
  have hT : TbC g := h11.2.2.2.1
  obtain ⟨T, wr⟩ := write7 (s := s1) (g := g) (a := a) (w := w) (h := h) (B := B) hT hRd d2 d4
  have hn := row_n (B := B) (O := s1.2.1 124) (w := w) h
  have hl := row_le d2 d4
  have hBR := by_row (B := B) (O := s1.2.1 124) d2 h
  generalize eR : rowV B w (s1.2.1 124) h = R at wr hn hBR
  have hR2 : R.2 ≤ 2328 := by omega
  have mk := fun A' => mk_i (A := s1.2.1 123) (A' := A') (w := Int32.ofNat w) (h := Int32.ofNat h) hR2
  generalize eQ : mkP (s1.2.1 123, 0) (Int32.ofNat w) (Int32.ofNat h) R = Q at wr mk
  have smC : Sm s1 (wrC s1 R T) := by
    unfold wrC rC
    exact sm_F (sm_F (sm_F (sm_A sm_rf (by decide)) (by decide)) (by decide)) (by decide)
  have cA : ∀ j, ¬ j = 123 → ¬ j = 124 → (oC (wrC s1 R T) Q).2.1 j = s1.2.1 j := fun j j1 j2 => by
    unfold oC wrC rC
    rw [A_sF, A_sA, if_neg j1, A_sF, A_sF, A_sF, A_sA, if_neg j2]
  have cF : ∀ j k, ¬ j = 122 → (oC (wrC s1 R T) Q).1 j k = s1.1 j k := fun j k hj => by
    unfold oC wrC rC
    rw [F_sF, if_neg (fun z => hj z.1), F_sA, F_sF, if_neg (fun z => hj z.1), F_sF, if_neg (fun z => hj z.1), F_sF, if_neg (fun z => hj z.1), F_sA]
  have c1 : (oC (wrC s1 R T) Q).1 122 1 = Int32.ofNat Q.2 := by
    unfold oC
    rw [F_sF, if_pos ⟨rfl, rfl⟩]
  obtain ⟨sw, sh, -, -⟩ := stW (s := s1) f9
  have hcl : fX11_made (e_g s g) 8 x = some (.inr (Int32.ofNat Q.2), e_g (oC (wrC s1 R T) Q) g) := by
    rw [hc]
    unfold jX11_made_27
    rw [f8_11, ob_n, ob_n, ob_n, f8_0, e0, ob_n, ob_n, sw, ob_n, ob_n, ob_n, sh, ob_n, ob122, ob_n, wr, ob_n, f8_11, ob_n, ob_n, f122_1, c1, ob_n]
  have eA : (pO (oC (wrC s1 R T) Q) (Int32.ofNat Q.2).toInt64).2.1 = (oC (wrC s1 R T) Q).2.1 := by unfold pO; rw [A_sL]
  have eF : (pO (oC (wrC s1 R T) Q) (Int32.ofNat Q.2).toInt64).1 = (oC (wrC s1 R T) Q).1 := by unfold pO; rw [F_sL]
  have smP : Sm (oC (wrC s1 R T) Q) (pO (oC (wrC s1 R T) Q) (Int32.ofNat Q.2).toInt64) := by unfold pO; exact sm_L sm_rf
  obtain ⟨S1, B', m1, m2, m3, m4, m5, m6⟩ := hm (pO (oC (wrC s1 R T) Q) (Int32.ofNat Q.2).toInt64) (by rw [eA, cA 142 (by decide) (by decide)]) (fun j hj => by
    have : ∀ j, j ∈ [142, 150, 152, 153, 154] → ¬ j = 123 ∧ ¬ j = 124 := by decide
    rw [eA, cA j (this j hj).1 (this j hj).2]) (fun j hj => by rw [eF, cF 139 j (by decide)])
  have sm1 := sm_tr smP m2
  have e13 : S1.1 139 13 = Int32.ofNat w := (sm1.2.1 (139, 13) (by decide)).trans ((cF 139 13 (by decide)).trans d5)
  have e14 : S1.1 139 14 = Int32.ofNat h := (sm1.2.1 (139, 14) (by decide)).trans ((cF 139 14 (by decide)).trans d6)
  have cp := copy12 (g := g) (x := x) (B := B') d2 d4 e13 e14 m6
  have e158 : (sA S1 158 (fun k => if k < w * h then B' k else S1.2.1 158 k)).2.1 158 = fun k => if k < w * h then B' k else S1.2.1 158 k := by rw [A_sA, if_pos rfl]
  have e187 : (sA S1 158 (fun k => if k < w * h then B' k else S1.2.1 158 k)).2.1 187 = S1.2.1 187 := by rw [A_sA, if_neg (by decide)]
  have ag : AgR R (rowV ((sA S1 158 (fun k => if k < w * h then B' k else S1.2.1 158 k)).2.1 158) w ((sA S1 158 (fun k => if k < w * h then B' k else S1.2.1 158 k)).2.1 187) h) := by
    rw [e158, e187, ← eR]
    exact row_c (fun k hk => by rw [if_pos hk, m5 k hk]) h (Nat.le_refl _)
  have tb : TbM (sA S1 158 (fun k => if k < w * h then B' k else S1.2.1 158 k)) := by
    have e : ∀ j, reA.contains j = true → ¬ j = 158 → ¬ j = 123 → ¬ j = 124 → (sA S1 158 (fun k => if k < w * h then B' k else S1.2.1 158 k)).2.1 j = s1.2.1 j := fun j h1 h2 h3 h4 => by
      rw [A_sA, if_neg h2, sm1.1 j (List.contains_iff_mem.mp h1), cA j h3 h4]
    unfold TbM
    rw [e 182 (by decide) (by decide) (by decide) (by decide), e 183 (by decide) (by decide) (by decide) (by decide), e 184 (by decide) (by decide) (by decide) (by decide), e 185 (by decide) (by decide) (by decide) (by decide)]
    exact ⟨h11.1, h11.2.1⟩
  obtain ⟨X, x1, x2, x3, x4⟩ := made41 (w := w) (h := h) (R := R) cp tb d2 d4 (by rw [F_sA]; exact e13) (by rw [F_sA]; exact e14) hR2 hBR ag
  generalize (sA S1 158 (fun k => if k < w * h then B' k else S1.2.1 158 k)).2.1 141 = A' at x1
  have mkA := mk A'
  generalize mkP (A', 0) (Int32.ofNat w) (Int32.ofNat h) R = Q' at x1 mkA
  have eN : Q'.2 = Q.2 := mkA.2.2.1.symm
  have sX : Sm (oC s1 Q) X := by
    have q1 : Sm (oC s1 Q) (oC (wrC s1 R T) Q) := sm_F2 (sm_A2 smC)
    exact sm_tr (sm_tr q1 sm1) (sm_tr (sm_A sm_rf (by decide)) x2)
  have RX : Rel (oM X Q') g := rel_sm (rel_o (P := Q) (P' := Q') hR1 mkA.1 mkA.2.1 mkA.2.2) (sm_F2 (sm_A2 sX))
  unfold fL_made
  refine KI_r (v := Int32.ofNat Q.2) hcl (s2 := oM X Q') ?_ ?_ ?_ RX ext_rf
  · show fX12_made (e_g (pO (oC (wrC s1 R T) Q) (Int32.ofNat Q.2).toInt64) g) 139 x = _
    rw [m1, x1, eN]
  · rw [oM_rd (by decide), x3, F_sA]; exact m3
  · unfold oM
    rw [L_sF, L_sA, x4, L_sA]
    exact m4
theorem K_made {s : e_S} {g : ps_G} {x : Int32} (hR : Rel s g) : KI (fL_made (e_g s g) 8 x 194) (fun G => fX12_made G 139 x) g := by
  obtain ⟨h1, h2, h3, h4, h5, h6, ⟨w, h, h7, h8, h9⟩, h10, h11⟩ := id hR
  obtain ⟨a, st, pc, uc, f1, f2, f3, f4, f5, f6, f7, f8, f9, f10, f11, f12⟩ := h9
  obtain ⟨d1, d2, d3, d4, d5, d6, d7, d8, d9⟩ := id h7
  have hg : 195 ≤ g.1 := h11.2.2.2.2
  have hn := wh_le d2 d4
  by_cases q : x = -1
  · subst q
    obtain ⟨s1, sz, od, o, hk, c1, c2, c3, c4, c5, c6⟩ := seen11 hR h7 h8 f9
    have e3 : s1.2.2.1 8 0 = some a := by rw [c3.2.1 8 (by omega)]; exact f3
    have e142 : s1.2.1 142 = s.2.1 142 := c3.2.2.2 142 (by decide)
    have e89 : ∀ k, s1.1 89 k = s.1 89 k := fun k => c3.2.2.1 89 k (by decide) (by omega)
    have h71 : G7 s1 w h := by
      unfold G7 at h7 ⊢
      rw [c3.2.2.1 139 13 (by decide) (by decide), c3.2.2.1 139 14 (by decide) (by decide), e89, e89, c3.2.2.2 90 (by decide), c3.2.2.2 155 (by decide)]
      exact h7
    refine made_b (a := 86) (r := a) (B := s1.2.1 86) c4 h71 e3 (by rw [e142]; exact f9) (fun S hS => ⟨l86, fun i hi => by rw [rdI t86 hi, hS]⟩) ?_ (fun S q1 q2 q3 => ?_)
    · unfold fX11_made
      rw [if_neg (fun z => z rfl), f8_6, ob_n, ob_n, f8_0, f3, ob_n, ob_n, ob20, ob_n, c1, b2_n]
    · have ck := cpOk_w (s' := sF S 139 0 0) c5 (fun j hj => by rw [A_sF, q2 j hj]) (fun j hj => by
        have : ∀ j, j ∈ [13, 14, 25, 26] → ¬ j = 0 := by decide
        rw [F_sF, if_neg (fun z => this j hj z.2), q3 j hj])
      obtain ⟨F, E, T, U, m1, m2⟩ := composeAll12 (g := g) ck.1
      have e13 : (sF S 139 0 0).1 139 13 = Int32.ofNat w := by rw [F_sF, if_neg (by decide), q3 13 (by decide)]; exact h71.2.2.2.2.1
      have e14 : (sF S 139 0 0).1 139 14 = Int32.ofNat h := by rw [F_sF, if_neg (by decide), q3 14 (by decide)]; exact h71.2.2.2.2.2.1
      refine ⟨cs (sF S 139 0 0) F E T U, F, ?_, sm_tr (sm_F sm_rf (by decide)) sm_cs, ?_, ?_, fun k hkk => ?_, fun F' k hkk => ?_⟩
      · unfold fX12_made jX12_made_15 jX12_made_20
        rw [if_pos rfl, w139_0, ob_n, f139_0, F_sF, if_pos ⟨rfl, rfl⟩, ob_n, if_pos (by decide), if_neg (fun z => z rfl), ob139, ob_n, m1, ob_n]
      · rw [cs_F, F_sF, if_pos ⟨rfl, rfl⟩]
      · unfold cs; simp (decide := true) only [ob_n, b2_n, tc_rn, tc_ln, F_sF, A_sF, R_sF, L_sF, F_sA, A_sA, R_sA, L_sA, F_sR, A_sR, R_sR, L_sR, F_sL, A_sL, R_sL, L_sL, and_true, true_and, and_false, false_and, and_self, reduceIte, sF_sF, sA_sA, false_or, or_false, true_or, or_true, not_false_eq_true, not_true_eq_false, decide_true, decide_false, Bool.true_or, Bool.or_true, Bool.false_and, Bool.true_and, Bool.false_or, Bool.or_false, Bool.and_true, Bool.and_false]
      · rw [m2 k hkk, ck.2, c6 k hkk, c2 k hkk]
      · have rd : q_aI (e_g (sA (cs (sF S 139 0 0) F E T U) 158 F') g) 145 (Int32.ofNat k) = some (F k) := by
          have r1 := cs_r145 (s := sF S 139 0 0) (g := g) (f := F) (e := E) (t := T) (u := U) (k := k) (by omega)
          rw [a145, n_idx (by omega), if_neg (n_in2 (show k < 18000 by omega) (by decide))] at r1
          rw [a145, n_idx (by omega), if_neg (n_in2 (show k < 18000 by omega) (by decide)), A_sA, if_neg (by decide)]
          exact r1
        unfold bX12_made_43 jX12_made_84_43
        rw [f139_13, F_sA, cs_F, e13, ob_n, f139_14, F_sA, cs_F, e14, ob_n, n_mul, if_neg (nle hkk (by omega)), f139_35, ob_n, ob_n, if_neg (fun z => z rfl), f139_16, ob_n, ob_n, rd, ob_n, ob_n, u158, n_idx (by omega), if_neg (n_in2 (show k < 576 by omega) (by decide)), ob_n, A_sA, if_pos rfl, sA_sA, n_suc]
  · have e3 : ps_nw (e_g s g) 6 ps_e0 = e_g s (nx g) := e_nw hg
    have no : fX12_is (e_g s (nx g)) 139 x 0 = some 0 → fX11_selectable (e_g s g) 8 x = some (.inl "java/util/NoSuchElementException", e_g s (nx g)) → KI (fL_made (e_g s g) 8 x 194) (fun G => fX12_made G 139 x) g := fun is sl => by
      refine KI_no (E := "java/util/NoSuchElementException") (y := 1) (b := 0) hR ?_ (by decide +kernel) (by decide) ?_
      · unfold fX11_made
        rw [if_pos q, ob8, ob_n, sl, tc_ln]
      · show fX12_made (e_g s (nx g)) 139 x = _
        unfold fX12_made jX12_made_20
        rw [if_neg q, ob139, ob_n, is, ob_n, if_pos rfl, w139_0, ob_n, f139_0, F_sF, if_pos ⟨rfl, rfl⟩, ob_n, if_neg (by decide)]
    have b0 : q_bl 0 = some 0 := rfl
    rcases known11 (x := x) hg f3 f9 with ⟨k1, k2⟩ | ⟨l, b, ea, hl, k1, k3, k2, hLy⟩
    · refine no ?_ ?_
      · unfold fX12_is jX12_is_22 jX12_is_23
        rw [ob139, ob_n, isLayer12, k1, ob_n, if_pos (by decide), b0, ob_n]
      · unfold fX11_selectable
        rw [ob8, ob_n, k2, tc_ln]
    · obtain ⟨-, -, fK, -⟩ := ly_f hLy s
      by_cases k4 : s.2.1 142 (1169 * l + 1) = 0
      · obtain ⟨y1, y2, p, q', x0, y0, x1', y1', pa, ma, y3, -, -, -, -, -, -, -, -, -, -, -, ypx, -⟩ := id hLy
        obtain ⟨p1, p2, p3, f, p4, p5⟩ := ypx k4
        have f15 : q_fR 4 15 (e_g s g) b = some (some pa) := d_fR y1 y3 rfl
        have fK0 : q_fI 4 1 (e_g s g) b = some 0 := by rw [fK]; exact congrArg some k4
        refine made_b (a := pa) (r := a) (B := f) hR h7 f3 f9 (fun S hS => ⟨d_len (n := 576) p1 p4, fun i hi => by rw [d_aI p1 p4, n_idx (by omega), if_neg (n_in2 hi (by decide))]⟩) ?_ (fun S q1 q2 q3 => ?_)
        · unfold fX11_made fX11_selectable
          rw [if_pos q, ob8, ob_n, ob_n, k2, tc_rn, ob_n, fK0, ob_n, if_pos rfl, tc_rn, ob_n, f15, ob_n]
        · have is := isG12 (s := S) (g := g) (l := l) (K := 0) hl
          rw [q1, if_pos ⟨k3, k4⟩] at is
          have e13 : (sF S 139 0 0).1 139 13 = Int32.ofNat w := by rw [F_sF, if_neg (by decide), q3 13 (by decide)]; exact d5
          have e14 : (sF S 139 0 0).1 139 14 = Int32.ofNat h := by rw [F_sF, if_neg (by decide), q3 14 (by decide)]; exact d6
          refine ⟨sF S 139 0 0, fun k => s.2.1 142 (1169 * l + 17 + k), ?_, sm_F sm_rf (by decide), ?_, ?_, fun k hkk => ?_, fun F' k hkk => ?_⟩
          · unfold fX12_made jX12_made_15 jX12_made_20
            rw [if_neg q, ob139, ob_n, ea, is, ob_n, if_neg (by decide), w139_0, ob_n, f139_0, F_sF, if_pos ⟨rfl, rfl⟩, ob_n, if_pos (by decide), if_pos (by rw [← ea]; exact q)]
          · rw [F_sF, if_pos ⟨rfl, rfl⟩]
          · rw [L_sF]
          · rw [p5 k hkk]
            show s.2.1 142 (1169 * l + 17 + k) = s.2.1 142 (1169 * l + (17 + k))
            rw [Nat.add_assoc]
          · have gt := get12n (s := sA (sF S 139 0 0) 158 F') (g := g) (l := l) (k := k) hl (by omega)
            rw [A_sA, if_neg (by decide), A_sF, q1] at gt
            unfold bX12_made_43 jX12_made_84_43
            rw [f139_13, F_sA, e13, ob_n, f139_14, F_sA, e14, ob_n, n_mul, if_neg (nle hkk (by omega)), f139_35, ob_n, ob_n, if_pos q, ob139, ob_n, ea, gt, ob_n, ob_n, u158, n_idx (by omega), if_neg (n_in2 (show k < 576 by omega) (by decide)), ob_n, A_sA, if_pos rfl, sA_sA, n_suc]
      · refine no ?_ ?_
        · rw [ea, isG12 hl, if_neg (fun z => k4 z.2)]
        · unfold fX11_selectable
          rw [ob8, ob_n, k2, tc_rn, ob_n, fK, ob_n, if_neg (show ¬ lR (s.2.1 142) l 1 = 0 from k4), e3]
