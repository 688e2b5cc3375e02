-- needs: 97zd
/-! ===== path ===== -/
theorem sm_tC {s : e_S} {t : TrS} {T C : Nat → Int32} : Sm s (sA (sA (tC s t) 109 T) 110 C) := by
  unfold tC
  exact sm_A (sm_A (sm_F (sm_F (sm_F (sm_A (sm_A (sm_A (sm_A sm_rf (by decide)) (by decide)) (by decide)) (by decide)) (by decide)) (by decide)) (by decide)) (by decide)) (by decide)
theorem sm_tM {s s' : e_S} {t : TrS} {F : Nat → Int32} (h : Sm s s') : Sm s (sA (tM s' t) 156 F) := by
  unfold tM
  exact sm_A (sm_F (sm_A (sm_A (sm_A (sm_A h (by decide)) (by decide)) (by decide)) (by decide)) (by decide)) (by decide)
theorem plV_c {cov cov' A A' f f' : Nat → Int32} {col dx dy : Int32} {w h k : Nat} (hk : k < w * h) (e1 : ∀ k, k < w * h → cov k = cov' k) (e2 : ∀ k, k < w * h → A k = A' k) (e3 : ∀ k, k < w * h → f k = f' k) : plV cov A col dx dy w h f k = plV cov' A' col dx dy w h f' k := by
  unfold plV shV
  rw [e1 k hk, e3 k hk, bAt_c e2]
theorem path12h {s : e_S} {g : ps_G} {x P Q : Int32} : fX12_path (e_g s g) 139 x P Q = jX12_path_27 (e_g s g) 139 x P Q 139 139 x (if (rg P 0 7 && rg Q 0 1) then 1 else 0) := by
  unfold fX12_path jX12_path_26
  rw [rin, rin]
  by_cases q1 : rg P 0 7 = true
  · by_cases q2 : rg Q 0 1 = true
    · rw [q1, q2]; rfl
    · rw [q1, (by simpa using q2 : rg Q 0 1 = false)]; rfl
  · rw [(by simpa using q1 : rg P 0 7 = false)]; rfl
theorem bd2000 {v : Int32} (h : rg v (-2000) 2000) : v.toInt.natAbs ≤ 2000 := by
  have z := rg_i.mp h
  have e1 : (-2000 : Int32).toInt = -2000 := by decide
  have e2 : (2000 : Int32).toInt = 2000 := by decide
  omega
theorem K_path {s : e_S} {g : ps_G} {x P Q : Int32} (hR : Rel s g) : KI (fL_path (e_g s g) 8 x P Q 194) (fun G => fX12_path G 139 x P Q) g := by
  have hg := rel_g hR
  obtain ⟨h1, h2, h3, h4, h5, h6, ⟨w, h, h7, h8, h9⟩, h10, h11⟩ := id hR
  obtain ⟨a, st, pc, uc, f1, f2, f3, f4, f5, f6, f7, f8, f9, f10, f11, f12⟩ := h9
  obtain ⟨d1, d2, d3, d4, d5, d6, d7, d8, d9⟩ := id h7
  have hwh := wh_le d2 d4
  have no : ∀ (y : Int32), ¬ y ≤ 0 → (if (rg P 0 7 && rg Q 0 1) = false ∨ (isL (s.2.1 142) x = true ∧ ¬ s.2.1 142 (1169 * x.toInt.toNat + 1) = 0) then (1 : Int32) else if isL (s.2.1 142) x then 0 else 2) = y → fX12_path (e_g s (nx g)) 139 x P Q = some (0, e_g (sF s 139 0 y) (nx g)) := fun y hy e => by
    rw [path12h]
    unfold jX12_path_27
    rw [ob139, ob_n, why12, ob_n, e, w139_0, ob_n, f139_0, F_sF, if_pos ⟨rfl, rfl⟩, ob_n, if_neg hy]
  by_cases q1 : rg P 0 7 = true
  · by_cases q2 : rg Q 0 1 = true
    · have qq : (rg P 0 7 && rg Q 0 1) = true := by rw [q1, q2]; rfl
      rw [qq] at no
      rcases knownPix11 (x := x) hg f3 f9 with ⟨k1, k2⟩ | ⟨l, b, rfl, hl, k1, k3, hLy, ⟨k4, k2⟩ | ⟨k4, k2⟩⟩
      · refine KI_no (E := "java/util/NoSuchElementException") (y := 2) (b := 0) hR ?_ (by decide +kernel) (by decide) (no 2 (by decide) (by rw [k1]; rfl))
        simp (decide := true) only [fX11_path, rng hg, q1, q2, ob8, k2, ob_n, b2_n, tc_rn, tc_ln, F_sF, A_sF, R_sF, L_sF, F_sA, A_sA, R_sA, L_sA, F_sR, A_sR, R_sR, L_sR, F_sL, A_sL, R_sL, L_sL, and_true, true_and, and_false, false_and, and_self, reduceIte, sF_sF, sA_sA, false_or, or_false, true_or, or_true, not_false_eq_true, not_true_eq_false, decide_true, decide_false, Bool.true_or, Bool.or_true, Bool.false_and, Bool.true_and, Bool.false_or, Bool.or_false, Bool.and_true, Bool.and_false]
      · refine KI_no (E := "java/lang/IllegalArgumentException") (y := 1) (b := 0) hR ?_ (by decide +kernel) (by decide) (no 1 (by decide) (if_pos (Or.inr ⟨k1, by rw [n_int (by omega), Int.toNat_natCast]; exact k4⟩)))
        simp (decide := true) only [fX11_path, rng hg, q1, q2, ob8, k2, ob_n, b2_n, tc_rn, tc_ln, F_sF, A_sF, R_sF, L_sF, F_sA, A_sA, R_sA, L_sA, F_sR, A_sR, R_sR, L_sR, F_sL, A_sL, R_sL, L_sL, and_true, true_and, and_false, false_and, and_self, reduceIte, sF_sF, sA_sA, false_or, or_false, true_or, or_true, not_false_eq_true, not_true_eq_false, decide_true, decide_false, Bool.true_or, Bool.or_true, Bool.false_and, Bool.true_and, Bool.false_or, Bool.or_false, Bool.and_true, Bool.and_false]
      · obtain ⟨p, rfl, hp⟩ : ∃ p : Nat, P = Int32.ofNat p ∧ p < 8 := by
          have z := rg_i.mp q1
          have z1 : 0 ≤ P.toInt := z.1
          have z2 : P.toInt ≤ 7 := z.2
          exact ⟨P.toInt.toNat, n_of (by omega), by omega⟩
        have wy0 : (if (true : Bool) = false ∨ (isL (s.2.1 142) (Int32.ofNat l) = true ∧ ¬ s.2.1 142 (1169 * (Int32.ofNat l).toInt.toNat + 1) = 0) then (1 : Int32) else if isL (s.2.1 142) (Int32.ofNat l) then 0 else 2) = 0 := by
          rw [if_neg, k1]
          · rfl
          · rw [n_int (by omega), Int.toNat_natCast]
            rintro (z | z)
            · cases z
            · exact z.2 k4
        obtain ⟨g6a, n, hn, g6b, g6c⟩ := h6.1 p hp
        have bX : ∀ i, i < n → Bd (s.2.1 165 (40 * p + i) + 0) := fun i hi => by
          rw [Int32.add_zero]
          exact Nat.le_trans (bd2000 (g6c i hi).2.2.2.2.1) (by omega)
        have bY : ∀ i, i < n → Bd (s.2.1 166 (40 * p + i) + 0) := fun i hi => by
          rw [Int32.add_zero]
          exact Nat.le_trans (bd2000 (g6c i hi).2.2.2.2.2) (by omega)
        obtain ⟨y1, y2, pp, qq', x0, y0, x1, yy1, pa, ma, y3, z1, z2, z3, z4, z5, z6, z7, z8, z9, z10, z11, z12, z13, z14⟩ := id hLy
        obtain ⟨e1, e8, e2, F, e3, e4⟩ := z12 k4
        have f15 : q_fR 4 15 (e_g s g) b = some (some pa) := d_fR y1 y3 rfl
        have cl := d_cl (s := s) e1 e8 e3 hg
        obtain ⟨t, tr, ok, le, lb, cE⟩ := trace6' (s := s) (g := mkA g F) (p := p) (n := n) (dx := 0) (dy := 0) (K := fun i => s.2.1 164 (40 * p + i)) (X := fun i => s.2.1 165 (40 * p + i)) (Y := fun i => s.2.1 166 (40 * p + i)) hp hn (by rw [g6a]; exact g6b) (fun i hi => (g6c i hi).1) (fun i hi => (g6c i hi).2.1) (fun i hi => (g6c i hi).2.2.1) bX bY
        obtain ⟨T, C, ft⟩ := fillTr11 (s := s) (g := g) (b := b) (l := l) (N := s.2.1 142) (f0 := F) (t := t) (rule := Q) hg d2 d4 f3 f9 hLy d7 d8 (fun k hk => by rw [(d9 k hk).1]; exact (d9 k hk).2) ok lb le
        generalize hlt : lnT (fun i => s.2.1 164 (40 * p + i)) (fun i => s.2.1 165 (40 * p + i)) (fun i => s.2.1 166 (40 * p + i)) 0 0 n = tt at cE
        have smS := sm_tC (s := s) (t := t) (T := T) (C := C)
        have eR : (sA (sA (tC s t) 109 T) 110 C).2.2.1 = s.2.2.1 := by unfold tC; simp (decide := true) only [ob_n, b2_n, tc_rn, tc_ln, F_sF, A_sF, R_sF, L_sF, F_sA, A_sA, R_sA, L_sA, F_sR, A_sR, R_sR, L_sR, F_sL, A_sL, R_sL, L_sL, and_true, true_and, and_false, false_and, and_self, reduceIte, sF_sF, sA_sA, false_or, or_false, true_or, or_true, not_false_eq_true, not_true_eq_false, decide_true, decide_false, Bool.true_or, Bool.or_true, Bool.false_and, Bool.true_and, Bool.false_or, Bool.or_false, Bool.and_true, Bool.and_false]
        have eF1 : ∀ i j, ¬ i = 98 → (sA (sA (tC s t) 109 T) 110 C).1 i j = s.1 i j := fun i j hi => by
          unfold tC
          rw [F_sA, F_sA, F_sF, if_neg (fun z => hi z.1), F_sF, if_neg (fun z => hi z.1), F_sF, if_neg (fun z => hi z.1), F_sA, F_sA, F_sA, F_sA]
        have eA1 : ∀ j, 111 ≤ j → (sA (sA (tC s t) 109 T) 110 C).2.1 j = s.2.1 j := fun j hj => by
          rw [A_sA, if_neg (by omega), A_sA, if_neg (by omega), tC_A (by omega)]
        generalize sA (sA (tC s t) 109 T) 110 C = S1 at ft smS eR eF1 eA1
        refine KI_pt2 (s1 := S1) (l := l) (b := b) (φ := plV (cvT Q tt w) (s.2.1 155) (s.1 139 34) (s.2.1 142 (1169 * l + 8)) (s.2.1 142 (1169 * l + 9)) w h (pxN (s.2.1 142) l)) hR h7 h8 f1 f2 (by rw [eR]; exact f3) (by rw [eF1 _ _ (by decide)]; exact f4) f9 f10 f11 (by rw [eR]) hl k3 hLy k4 (cpT F (plV (cvT Q t w) (s.2.1 90) (s.1 93 0) (s.2.1 142 (1169 * l + 8)) (s.2.1 142 (1169 * l + 9)) w h F) 0 (h * w)) (fun k hk => ?_) (fun v g2 w1 => ?_) (fun S g2 hS => ?_)
        · have := cpT_in (A := F) (N := plV (cvT Q t w) (s.2.1 90) (s.1 93 0) (s.2.1 142 (1169 * l + 8)) (s.2.1 142 (1169 * l + 9)) w h F) (b := 0) (n := h * w) (k := k) (by rw [Nat.mul_comm]; exact hk)
          rw [Nat.zero_add] at this
          rw [this, h2.1]
          exact plV_c hk (fun k _ => cE _ _ _) (fun k hk => (d9 k (by omega)).1) (fun k hk => e4 k hk)
        · have e1' : (e_g s g).1 = g.1 := rfl
          unfold fX11_path
          rw [rng hg, if_pos q1, tc_rn, rng hg, if_pos q2, tc_rn, ob8, ob_n, k2, tc_rn, ob_n, f15, ob_n, ob_n, cl, ob_n, f8_9, ob_n, ob_n, ob98, ob_n, tr, ob_n, ob8, ob_n, e1', ft, ob_n, ob8, ob_n, w1, b2_n]
        · obtain ⟨p1, p2, p3⟩ := pt_S (s := s) hS
          have eA : ∀ j, 111 ≤ j → S.2.1 j = s.2.1 j := fun j h1 => by rw [p1 j (by omega), eA1 j h1]
          have eF : ∀ j, S.1 139 j = s.1 139 j := fun j => by rw [p2 139 j (by decide) (by decide), eF1 _ _ (by decide)]
          have bg : fX12_begin (e_g (sF S 139 0 0) g2) 139 (Int32.ofNat l) = some (e_g (bgM S l) g2) := by
            rw [begin12 hl]
            unfold bgM
            rw [A_sF]
          have bA : ∀ j, ¬ j = 158 → (bgM S l).2.1 j = S.2.1 j := fun j hj => by unfold bgM; rw [A_sA, if_neg hj, A_sF]
          have bF : ∀ j, ¬ j = 0 → (bgM S l).1 139 j = S.1 139 j := fun j hj => by unfold bgM; rw [F_sA, F_sF, if_neg (fun z => hj z.2)]
          obtain ⟨F', sh, cv⟩ := shape12 (s := bgM S l) (g := g2) (p := p) (n := n) (w := w) (h := h) (rule := Q) (dx := 0) (dy := 0) (K := fun i => s.2.1 164 (40 * p + i)) (X := fun i => s.2.1 165 (40 * p + i)) (Y := fun i => s.2.1 166 (40 * p + i)) hp hn d2 d4 (by rw [bF _ (by omega), eF]; exact d5) (by rw [bF _ (by omega), eF]; exact d6) (by rw [bA _ (by decide), eA _ (by decide)]; exact g6b) (fun i hi => by rw [bA _ (by decide), eA _ (by decide)]) (fun i hi => (g6c i hi).2.2.2.1) (fun i hi => by rw [bA _ (by decide), eA _ (by decide)]) (fun i hi => by rw [bA _ (by decide), eA _ (by decide)]) bX bY
          rw [hlt] at sh cv
          have tA : ∀ j, ¬ j = 156 → ¬ j = 158 → ¬ (167 ≤ j ∧ j ≤ 170) → (sA (tM (bgM S l) tt) 156 F').2.1 j = S.2.1 j := fun j j1 j2 j3 => by rw [A_sA, if_neg j1, tM_A (by omega), bA j j2]
          have tF : ∀ j, ¬ j = 0 → ¬ j = 52 → (sA (tM (bgM S l) tt) 156 F').1 139 j = S.1 139 j := fun j j1 j2 => by
            rw [F_sA]
            unfold tM
            rw [F_sF, if_neg (fun z => j2 z.2), F_sA, F_sA, F_sA, F_sA, bF j j1]
          have t156 : (sA (tM (bgM S l) tt) 156 F').2.1 156 = F' := by rw [A_sA, if_pos rfl]
          have t158 : ∀ k, k < w * h → (sA (tM (bgM S l) tt) 156 F').2.1 158 k = pxN (s.2.1 142) l k := fun k hk => by
            rw [A_sA, if_neg (by decide), tM_A (by decide), bg_158 (by omega), eA _ (by decide)]
          have t0 : (sA (tM (bgM S l) tt) 156 F').1 139 0 = 0 := by
            unfold tM bgM
            simp (decide := true) only [ob_n, b2_n, tc_rn, tc_ln, F_sF, A_sF, R_sF, L_sF, F_sA, A_sA, R_sA, L_sA, F_sR, A_sR, R_sR, L_sR, F_sL, A_sL, R_sL, L_sL, and_true, true_and, and_false, false_and, and_self, reduceIte, sF_sF, sA_sA, false_or, or_false, true_or, or_true, not_false_eq_true, not_true_eq_false, decide_true, decide_false, Bool.true_or, Bool.or_true, Bool.false_and, Bool.true_and, Bool.false_or, Bool.or_false, Bool.and_true, Bool.and_false]
          have tL : (sA (tM (bgM S l) tt) 156 F').2.2.2 = S.2.2.2 := by
            unfold tM bgM
            simp (decide := true) only [ob_n, b2_n, tc_rn, tc_ln, F_sF, A_sF, R_sF, L_sF, F_sA, A_sA, R_sA, L_sA, F_sR, A_sR, R_sR, L_sR, F_sL, A_sL, R_sL, L_sL, and_true, true_and, and_false, false_and, and_self, reduceIte, sF_sF, sA_sA, false_or, or_false, true_or, or_true, not_false_eq_true, not_true_eq_false, decide_true, decide_false, Bool.true_or, Bool.or_true, Bool.false_and, Bool.true_and, Bool.false_or, Bool.or_false, Bool.and_true, Bool.and_false]
          have tS' : Sm (rmC (fcC s (s.2.1 142) l w (h * w) (plV (cvT Q tt w) (s.2.1 155) (s.1 139 34) (s.2.1 142 (1169 * l + 8)) (s.2.1 142 (1169 * l + 9)) w h (pxN (s.2.1 142) l))) a (g.1 + 2) pc) (sA (tM (bgM S l) tt) 156 F') := by
            refine sm_tM ?_
            unfold bgM
            exact sm_A (sm_F (sm_tr (sm_rmC (sm_fcC smS)) p3) (by decide)) (by decide)
          generalize sA (tM (bgM S l) tt) 156 F' = S' at sh tA tF t156 t158 t0 tL tS'
          have fs := fillSh12 (s := S') (g := g2) (l := l) (w := w) (h := h) (cov := cvT Q tt w) d2 d4 d1 (by rw [tF _ (by omega) (by omega), eF]; exact d5) (by rw [tF _ (by omega) (by omega), eF]; exact d6) hl (fun k hk => by rw [tA _ (by decide) (by decide) (by omega), eA _ (by decide)]; exact (d9 k hk).2) (fun k hk => ⟨by rw [t156]; exact cv k hk, cvT_r⟩)
          rw [tA 142 (by decide) (by decide) (by omega), tA 155 (by decide) (by decide) (by omega), tF _ (by omega) (by omega), eA _ (by decide), eA _ (by decide), eF] at fs
          have ch := changed12 (s := sA S' 142 (cpT (s.2.1 142) (plV (cvT Q tt w) (s.2.1 155) (s.1 139 34) (s.2.1 142 (1169 * l + 8)) (s.2.1 142 (1169 * l + 9)) w h (pxN (s.2.1 142) l)) (1169 * l + 17) (h * w))) (g := g2) (l := l) (N := s.2.1 142) (φ := plV (cvT Q tt w) (s.2.1 155) (s.1 139 34) (s.2.1 142 (1169 * l + 8)) (s.2.1 142 (1169 * l + 9)) w h (pxN (s.2.1 142) l)) d2 d4 d1 hl f1 (show pc ≤ 24 by omega) (by rw [F_sA, tF _ (by omega) (by omega), eF]; exact f6) (by rw [F_sA, tF _ (by omega) (by omega), eF]; exact f7) (by rw [F_sA, tF _ (by omega) (by omega), eF]; exact d5) (by rw [F_sA, tF _ (by omega) (by omega), eF]; exact d6) (by rw [A_sA, if_pos rfl]) (fun k hk => by
            rw [A_sA, if_neg (by decide)]
            exact t158 k hk)
          refine ⟨S', ?_, t0, tL, tS'⟩
          have wy := why12 (s := S) (g := g2) (x := Int32.ofNat l) (b := true)
          rw [eA _ (by decide), wy0] at wy
          have wy' : fX12_why (e_g S g2) 139 (Int32.ofNat l) (if true = true then 1 else 0) = some 0 := wy
          show fX12_path (e_g S g2) 139 (Int32.ofNat l) (Int32.ofNat p) Q = _
          rw [path12h, qq]
          unfold jX12_path_27
          rw [ob139, ob_n, wy', ob_n, w139_0, ob_n, f139_0, F_sF, if_pos ⟨rfl, rfl⟩, ob_n, if_pos (by decide), ob139, ob_n, bg, ob_n, ob139, ob_n, sh, ob_n, ob139, ob_n, fs, ob_n, ob139, ob_n, ch, b2_n]
    · refine KI_no (E := "java/lang/IllegalArgumentException") (y := 1) (b := 0) hR ?_ (by decide +kernel) (by decide) (no 1 (by decide) (if_pos (Or.inl (by rw [q1]; simpa using q2))))
      simp (decide := true) only [fX11_path, rng hg, q1, q2, ob_n, b2_n, tc_rn, tc_ln, F_sF, A_sF, R_sF, L_sF, F_sA, A_sA, R_sA, L_sA, F_sR, A_sR, R_sR, L_sR, F_sL, A_sL, R_sL, L_sL, and_true, true_and, and_false, false_and, and_self, reduceIte, sF_sF, sA_sA, false_or, or_false, true_or, or_true, not_false_eq_true, not_true_eq_false, decide_true, decide_false, Bool.true_or, Bool.or_true, Bool.false_and, Bool.true_and, Bool.false_or, Bool.or_false, Bool.and_true, Bool.and_false]
  · refine KI_no (E := "java/lang/IllegalArgumentException") (y := 1) (b := 0) hR ?_ (by decide +kernel) (by decide) (no 1 (by decide) (if_pos (Or.inl (by simp [q1]))))
    simp (decide := true) only [fX11_path, rng hg, q1, ob_n, b2_n, tc_rn, tc_ln, F_sF, A_sF, R_sF, L_sF, F_sA, A_sA, R_sA, L_sA, F_sR, A_sR, R_sR, L_sR, F_sL, A_sL, R_sL, L_sL, and_true, true_and, and_false, false_and, and_self, reduceIte, sF_sF, sA_sA, false_or, or_false, true_or, or_true, not_false_eq_true, not_true_eq_false, decide_true, decide_false, Bool.true_or, Bool.or_true, Bool.false_and, Bool.true_and, Bool.false_or, Bool.or_false, Bool.and_true, Bool.and_false]
