-- needs: 97zg
theorem sF_rf {s : e_S} {N φ : Nat → Int32} {k l w n a b pc : Nat} {v : Int32} : sF (rmC (fcC s N l w n φ) a b pc) 139 k v = rmC (fcC (sF s 139 k v) N l w n φ) a b pc := by
  unfold fcC
  by_cases q : cnt (dfN φ (pxN N l)) n = 0
  · rw [if_pos q, if_pos q]
    have e : (sF (rmC s a b pc) 139 k v).1 = (rmC (sF s 139 k v) a b pc).1 := by
      unfold rmC
      funext x y
      simp only [F_sF, F_sA, F_sR, F_sRr]
      by_cases q : x = 139 ∧ y = k
      · rw [if_pos q, if_neg (by omega), if_neg (by omega), if_pos q]
      · rw [if_neg q, if_neg q]
    exact Prod.ext e rfl
  · rw [if_neg q, if_neg q]
    have e : (sF (rmC (fbC s (bxL N l w n φ) (bxT N l w n φ) (bxR N l w n φ) (bxB N l w n φ)) a b pc) 139 k v).1 = (rmC (fbC (sF s 139 k v) (bxL N l w n φ) (bxT N l w n φ) (bxR N l w n φ) (bxB N l w n φ)) a b pc).1 := by
      unfold rmC fbC
      funext x y
      simp only [F_sF, F_sA, F_sR, F_sRr]
      by_cases q : x = 139 ∧ y = k
      · rw [if_pos q, if_neg (by omega), if_neg (by omega), if_neg (by omega), if_pos q]
      · rw [if_neg q, if_neg q]
    exact Prod.ext e rfl
theorem tkM_rf {s : e_S} {N φ : Nat → Int32} {l w n a b pc : Nat} {v : Int64} : tkM (pO (rmC (fcC s N l w n φ) a b pc) v) = pO (rmC (fcC (tkM s) N l w n φ) a b pc) v := by
  have e : (rmC (fcC s N l w n φ) a b pc).1 139 2 = s.1 139 2 := by
    unfold rmC fcC
    simp (decide := true) only [ob_n, b2_n, tc_rn, tc_ln, F_sF, A_sF, R_sF, L_sF, F_sA, A_sA, R_sA, L_sA, F_sR, A_sR, R_sR, L_sR, F_sL, A_sL, R_sL, L_sL, and_true, true_and, and_false, false_and, and_self, reduceIte, sF_sF, sA_sA, false_or, or_false, true_or, or_true, not_false_eq_true, not_true_eq_false, decide_true, decide_false, Bool.true_or, Bool.or_true, Bool.false_and, Bool.true_and, Bool.false_or, Bool.or_false, Bool.and_true, Bool.and_false, F_sRr]
    split
    · rfl
    · unfold fbC; simp (decide := true) only [ob_n, b2_n, tc_rn, tc_ln, F_sF, A_sF, R_sF, L_sF, F_sA, A_sA, R_sA, L_sA, F_sR, A_sR, R_sR, L_sR, F_sL, A_sL, R_sL, L_sL, and_true, true_and, and_false, false_and, and_self, reduceIte, sF_sF, sA_sA, false_or, or_false, true_or, or_true, not_false_eq_true, not_true_eq_false, decide_true, decide_false, Bool.true_or, Bool.or_true, Bool.false_and, Bool.true_and, Bool.false_or, Bool.or_false, Bool.and_true, Bool.and_false]
  have e2 : tkM (pO (rmC (fcC s N l w n φ) a b pc) v) = pO (tkM (rmC (fcC s N l w n φ) a b pc)) v := rfl
  rw [e2]
  unfold tkM
  rw [e, sF_rf, sF_rf, sF_rf, sF_rf]
theorem sm_tkM {s s' : e_S} (h : Sm s s') : Sm (tkM s) (tkM s') := by
  have e : s'.1 139 2 = s.1 139 2 := h.2.1 (139, 2) (by decide)
  unfold tkM
  rw [e]
  exact sm_F2 (sm_F2 (sm_F2 (sm_F2 h)))
theorem text12h {s : e_S} {g : ps_G} {l x y : Int32} : fX12_text (e_g s g) 139 l x y = jX12_text_38 (e_g (tkM s) g) 139 l x y 139 139 l (if (rg x (-2000) 2000 && rg y (-2000) 2000) then 1 else 0) := by
  unfold fX12_text jX12_text_37
  rw [ob139, ob_n, takeInput12, ob_n, rin, rin]
  by_cases q1 : rg x (-2000) 2000 = true
  · by_cases q2 : rg y (-2000) 2000 = true
    · rw [q1, q2]; rfl
    · rw [q1, (by simpa using q2 : rg y (-2000) 2000 = false)]; rfl
  · rw [(by simpa using q1 : rg x (-2000) 2000 = false)]; rfl
theorem K_text {s : e_S} {g : ps_G} {xl x y : Int32} (hR : Rel s g) : KI (fL_text (e_g s g) 8 xl x y 194) (fun G => fX12_text G 139 xl x y) g := by
  have hg := rel_g hR
  obtain ⟨h1, h2, h3, h4, h5, h6, ⟨w, h, h7, h8, h9⟩, h10, h11⟩ := id hR
  obtain ⟨a, st, pc, uc, f1, f2, f3, f4, f5, f6, f7, f8, f9, f10, f11, f12⟩ := h9
  obtain ⟨m, i1, i2, i3, i4, i5, i6⟩ := h1
  obtain ⟨d1, d2, d3, d4, d5, d6, d7, d8, d9⟩ := id h7
  have hwh := wh_le d2 d4
  have c0 : (tkC s).2.2.1 = s.2.2.1 := by unfold tkC; simp (decide := true) only [ob_n, b2_n, tc_rn, tc_ln, F_sF, A_sF, R_sF, L_sF, F_sA, A_sA, R_sA, L_sA, F_sR, A_sR, R_sR, L_sR, F_sL, A_sL, R_sL, L_sL, and_true, true_and, and_false, false_and, and_self, reduceIte, sF_sF, sA_sA, false_or, or_false, true_or, or_true, not_false_eq_true, not_true_eq_false, decide_true, decide_false, Bool.true_or, Bool.or_true, Bool.false_and, Bool.true_and, Bool.false_or, Bool.or_false, Bool.and_true, Bool.and_false]
  have cA : (tkC s).2.1 = s.2.1 := by unfold tkC; simp (decide := true) only [ob_n, b2_n, tc_rn, tc_ln, F_sF, A_sF, R_sF, L_sF, F_sA, A_sA, R_sA, L_sA, F_sR, A_sR, R_sR, L_sR, F_sL, A_sL, R_sL, L_sL, and_true, true_and, and_false, false_and, and_self, reduceIte, sF_sF, sA_sA, false_or, or_false, true_or, or_true, not_false_eq_true, not_true_eq_false, decide_true, decide_false, Bool.true_or, Bool.or_true, Bool.false_and, Bool.true_and, Bool.false_or, Bool.or_false, Bool.and_true, Bool.and_false]
  have wA : (tkM (tkC s)).2.1 = s.2.1 := by unfold tkM tkC; simp (decide := true) only [ob_n, b2_n, tc_rn, tc_ln, F_sF, A_sF, R_sF, L_sF, F_sA, A_sA, R_sA, L_sA, F_sR, A_sR, R_sR, L_sR, F_sL, A_sL, R_sL, L_sL, and_true, true_and, and_false, false_and, and_self, reduceIte, sF_sF, sA_sA, false_or, or_false, true_or, or_true, not_false_eq_true, not_true_eq_false, decide_true, decide_false, Bool.true_or, Bool.or_true, Bool.false_and, Bool.true_and, Bool.false_or, Bool.or_false, Bool.and_true, Bool.and_false]
  have wR : (tkM (tkC s)).2.2.1 = s.2.2.1 := by unfold tkM tkC; simp (decide := true) only [ob_n, b2_n, tc_rn, tc_ln, F_sF, A_sF, R_sF, L_sF, F_sA, A_sA, R_sA, L_sA, F_sR, A_sR, R_sR, L_sR, F_sL, A_sL, R_sL, L_sL, and_true, true_and, and_false, false_and, and_self, reduceIte, sF_sF, sA_sA, false_or, or_false, true_or, or_true, not_false_eq_true, not_true_eq_false, decide_true, decide_false, Bool.true_or, Bool.or_true, Bool.false_and, Bool.true_and, Bool.false_or, Bool.or_false, Bool.and_true, Bool.and_false]
  have hRW := rel_tk hR
  have no : ∀ (z : Int32) (E : String), ps_hf hL_text E = some z → ¬ z = 0 → ¬ z ≤ 0 → fX11_text (e_g s g) 8 xl x y = some (.inl E, e_g (tkC s) (nx g)) → (if (rg x (-2000) 2000 && rg y (-2000) 2000) = false ∨ (isL (s.2.1 142) xl = true ∧ ¬ s.2.1 142 (1169 * xl.toInt.toNat + 1) = 0) then (1 : Int32) else if isL (s.2.1 142) xl then 0 else 2) = z → KI (fL_text (e_g s g) 8 xl x y 194) (fun G => fX12_text G 139 xl x y) g := fun z E hz hz0 hzl hc e => by
    refine KI_l (E := E) (y := z) (s := s) (s1 := tkC s) (g1 := nx g) (s2 := sF (tkM (tkC s)) 139 0 z) (b := 0) hc hz hz0 ?_ (by rw [F_sF, if_pos ⟨rfl, rfl⟩]) (rel_ext ext_nx (rel_thrown hRW)) ext_nx
    show fX12_text (e_g (tkC s) (nx g)) 139 xl x y = _
    rw [text12h]
    unfold jX12_text_38
    rw [ob139, ob_n, why12, ob_n, wA, e, w139_0, ob_n, f139_0, F_sF, if_pos ⟨rfl, rfl⟩, ob_n, if_neg hzl]
  by_cases q1 : rg x (-2000) 2000 = true
  · by_cases q2 : rg y (-2000) 2000 = true
    · have qq : (rg x (-2000) 2000 && rg y (-2000) 2000) = true := by rw [q1, q2]; rfl
      rw [qq] at no
      have pre : fX11_text (e_g s g) 8 xl x y = Option.bind (q_ob 11 (e_g (tkC s) g) 8) fun u8 => q_tc (fX11_knownPixels (e_g (tkC s) g) 8 xl) fun v9 g10 => Option.bind (v9) fun a11 => Option.bind (q_fR 4 15 g10 a11) fun v12 => Option.bind (v12) fun a13 => Option.bind (q_cl g10 a13) fun g14 => Option.bind (q_lp (fun s => bX11_text_52 8 y (Int32.ofNat m) (some a11) g10.1 s.1 s.2.1 s.2.2) (x, (0 : Int32), g14)) fun s44 => jX11_text_138 s44 8 (some a11) g10.1 := by
        unfold fX11_text
        rw [ob8, ob_n, takeInput11, b2_n, rng hg, if_pos q1, tc_rn, rng hg, if_pos q2, tc_rn, i2]
      rcases knownPix11 (s := tkC s) (x := xl) hg (by rw [c0]; exact f3) f9 with ⟨k1, k2⟩ | ⟨l, b, rfl, hl, k1, k3, hLy, ⟨k4, k2⟩ | ⟨k4, k2⟩⟩
      · exact no 2 "java/util/NoSuchElementException" (by decide +kernel) (by decide) (by decide) (by rw [pre, ob8, ob_n, k2, tc_ln]) (by rw [k1]; rfl)
      · exact no 1 "java/lang/IllegalArgumentException" (by decide +kernel) (by decide) (by decide) (by rw [pre, ob8, ob_n, k2, tc_ln]) (if_pos (Or.inr ⟨k1, by rw [n_int (by omega), Int.toNat_natCast]; exact k4⟩))
      · have wy0 : (if (true : Bool) = false ∨ (isL (s.2.1 142) (Int32.ofNat l) = true ∧ ¬ s.2.1 142 (1169 * (Int32.ofNat l).toInt.toNat + 1) = 0) then (1 : Int32) else if isL (s.2.1 142) (Int32.ofNat l) then 0 else 2) = 0 := by
          rw [if_neg, k1]
          · rfl
          · rw [n_int (by omega), Int.toNat_natCast]
            rintro (z | z)
            · cases z
            · exact z.2 k4
        have H : TxH s m x y := ⟨h6, i1, i4, bd2000 q1, bd2000 q2⟩
        obtain ⟨y1, y2, pp, qq', x0, y0, x1, yy1, pa, ma, y3, z1, z2, z3, z4, z5, z6, z7, z8, z9, z10, z11, z12, z13, z14⟩ := id hLy
        obtain ⟨e1, e8, e2, F, e3, e4⟩ := z12 k4
        have f15 : q_fR 4 15 (e_g (tkC s) g) b = some (some pa) := d_fR y1 y3 rfl
        have cl := d_cl (s := tkC s) e1 e8 e3 hg
        have tF : ∀ i j, ¬ i = 8 → (tkC s).1 i j = s.1 i j := fun i j hi => by
          unfold tkC
          rw [F_sF, if_neg (fun z => hi z.1), F_sF, if_neg (fun z => hi z.1), F_sF, if_neg (fun z => hi z.1)]
        obtain ⟨S1, f, lp, hK, hf⟩ := textl11 (s := s) (S0 := tkC s) (g := g) (b := b) (l := l) (m := m) (x := x) (y := y) (F := F) H hg d2 d4 (by rw [c0]; exact f3) f9 hLy (by rw [tF _ _ (by decide)]; exact d7) (by rw [tF _ _ (by decide)]; exact d8) (by rw [tF _ _ (by decide)]; exact h2.1) (fun k hk => by rw [cA]; exact d9 k hk) (fun j hj => by rw [cA]) (fun k hk => e4 k hk)
        obtain ⟨K1, K2, K3, K4⟩ := id hK
        have r8 : S1.2.2.1 = s.2.2.1 := by rw [K2, c0]
        generalize hW : tkM (tkC s) = W at wA wR hRW no
        have h7W : G7 W w h := by
          have e : ∀ i j, ¬ i = 8 → ¬ (i = 139 ∧ (j = 2 ∨ j = 3 ∨ j = 4 ∨ j = 5)) → W.1 i j = s.1 i j := fun i j q1 q2 => by
            rw [← hW]
            unfold tkM
            rw [F_sF, if_neg (by omega), F_sF, if_neg (by omega), F_sF, if_neg (by omega), F_sF, if_neg (by omega), tF i j q1]
          unfold G7 at h7 ⊢
          rw [wA, e _ _ (by omega) (by omega), e _ _ (by omega) (by omega), e _ _ (by omega) (by omega), e _ _ (by omega) (by omega)]
          exact h7
        have h8W : G8 W w h := by
          have e : ∀ i j, ¬ i = 8 → ¬ (i = 139 ∧ (j = 2 ∨ j = 3 ∨ j = 4 ∨ j = 5)) → W.1 i j = s.1 i j := fun i j q1 q2 => by
            rw [← hW]
            unfold tkM
            rw [F_sF, if_neg (by omega), F_sF, if_neg (by omega), F_sF, if_neg (by omega), F_sF, if_neg (by omega), tF i j q1]
          unfold G8 at h8 ⊢
          rw [wA, e 20 8 (by omega) (by omega), e 139 23 (by omega) (by omega), e 20 5 (by omega) (by omega), e 139 25 (by omega) (by omega), e 139 26 (by omega) (by omega)]
          exact h8
        refine KI_pt2 (s0 := W) (s1 := S1) (l := l) (b := b) (st := st) (uc := uc) (φ := txV s l w h x y (min m 40)) hRW h7W h8W f1 f2 (by rw [r8]; exact f3) (by rw [K3 _ _ (by decide)]; unfold tkC; simp (decide := true) only [ob_n, b2_n, tc_rn, tc_ln, F_sF, A_sF, R_sF, L_sF, F_sA, A_sA, R_sA, L_sA, F_sR, A_sR, R_sR, L_sR, F_sL, A_sL, R_sL, L_sL, and_true, true_and, and_false, false_and, and_self, reduceIte, sF_sF, sA_sA, false_or, or_false, true_or, or_true, not_false_eq_true, not_true_eq_false, decide_true, decide_false, Bool.true_or, Bool.or_true, Bool.false_and, Bool.true_and, Bool.false_or, Bool.or_false, Bool.and_true, Bool.and_false]; exact f4) (by rw [wA]; exact f9) (by rw [wA]; exact f10) (by rw [wA, wR]; exact f11) (by rw [r8, wR]) hl (by rw [wA]; exact k3) (by rw [wA]; exact hLy) (by rw [wA]; exact k4) f hf (fun v g2 w1 => ?_) (fun S g2 hS => ?_)
        · have e1' : (e_g (tkC s) g).1 = g.1 := rfl
          rw [pre]
          unfold jX11_text_138
          rw [ob8, ob_n, k2, tc_rn, ob_n, f15, ob_n, ob_n, cl, ob_n, e1', lp, ob_n, ob_n, ob8, ob_n, w1, b2_n]
        · rw [wA] at hS
          obtain ⟨p1, p2, p3⟩ := pt_S (s := s) hS
          have eA : ∀ j, ¬ j = 88 → ¬ (105 ≤ j ∧ j ≤ 110) → S.2.1 j = s.2.1 j := fun j j1 j2 => by rw [p1 j j1, K4 j j2, cA]
          have eF : ∀ j, S.1 139 j = s.1 139 j := fun j => by rw [p2 139 j (by decide) (by decide), K3 _ _ (by decide), tF _ _ (by decide)]
          have mA : (tkM S).2.1 = S.2.1 := by unfold tkM; simp (decide := true) only [ob_n, b2_n, tc_rn, tc_ln, F_sF, A_sF, R_sF, L_sF, F_sA, A_sA, R_sA, L_sA, F_sR, A_sR, R_sR, L_sR, F_sL, A_sL, R_sL, L_sL, and_true, true_and, and_false, false_and, and_self, reduceIte, sF_sF, sA_sA, false_or, or_false, true_or, or_true, not_false_eq_true, not_true_eq_false, decide_true, decide_false, Bool.true_or, Bool.or_true, Bool.false_and, Bool.true_and, Bool.false_or, Bool.or_false, Bool.and_true, Bool.and_false]
          have mF : ∀ j, ¬ j = 2 → ¬ j = 3 → ¬ j = 4 → ¬ j = 5 → (tkM S).1 139 j = s.1 139 j := fun j j2 j3 j4 j5 => by
            unfold tkM
            rw [F_sF, if_neg (by omega), F_sF, if_neg (by omega), F_sF, if_neg (by omega), F_sF, if_neg (by omega), eF]
          have m3 : (tkM S).1 139 3 = Int32.ofNat m := by
            unfold tkM
            simp (decide := true) only [ob_n, b2_n, tc_rn, tc_ln, F_sF, A_sF, R_sF, L_sF, F_sA, A_sA, R_sA, L_sA, F_sR, A_sR, R_sR, L_sR, F_sL, A_sL, R_sL, L_sL, and_true, true_and, and_false, false_and, and_self, reduceIte, sF_sF, sA_sA, false_or, or_false, true_or, or_true, not_false_eq_true, not_true_eq_false, decide_true, decide_false, Bool.true_or, Bool.or_true, Bool.false_and, Bool.true_and, Bool.false_or, Bool.or_false, Bool.and_true, Bool.and_false]
            rw [eF]; exact i3
          have bg : fX12_begin (e_g (sF (tkM S) 139 0 0) g2) 139 (Int32.ofNat l) = some (e_g (bgM (tkM S) l) g2) := by
            rw [begin12 hl]
            unfold bgM
            rw [A_sF]
          have bA : ∀ j, ¬ j = 158 → (bgM (tkM S) l).2.1 j = S.2.1 j := fun j hj => by unfold bgM; rw [A_sA, if_neg hj, A_sF, mA]
          have bF : ∀ j, ¬ j = 0 → (bgM (tkM S) l).1 139 j = (tkM S).1 139 j := fun j hj => by unfold bgM; rw [F_sA, F_sF, if_neg (fun z => hj z.2)]
          obtain ⟨Z, lz, hZ⟩ := textl12 (s := s) (Z0 := bgM (tkM S) l) (g := g2) (w := w) (h := h) (l := l) (m := m) (x := x) (y := y) H d2 d4 d1 hl (by rw [bF _ (by omega), mF _ (by omega) (by omega) (by omega) (by omega)]; exact d5) (by rw [bF _ (by omega), mF _ (by omega) (by omega) (by omega) (by omega)]; exact d6) (by rw [bF _ (by omega)]; exact m3) (by rw [bF _ (by omega), mF _ (by omega) (by omega) (by omega) (by omega)]) (fun k hk => (d9 k hk).2) (fun j j0 j1 => by rw [bA j j1, eA j (by omega) (by omega)])
          obtain ⟨L1, L2, L3, L4⟩ := id hZ
          have zF : ∀ j, ¬ j = 0 → ¬ j = 52 → ¬ j = 2 → ¬ j = 3 → ¬ j = 4 → ¬ j = 5 → Z.1 139 j = s.1 139 j := fun j j0 j1 j2 j3 j4 j5 => by rw [L3 _ _ (fun z => j1 z.2), bF j j0, mF j j2 j3 j4 j5]
          have z158 : ∀ k, k < w * h → Z.2.1 158 k = pxN (s.2.1 142) l k := fun k hk => by
            rw [L4 _ (by decide) (by decide), bg_158 (by omega), mA, eA _ (by decide) (by decide)]
          have ch := changed12 (s := sA Z 142 (cpT (s.2.1 142) (txV s l w h x y (min m 40)) (1169 * l + 17) (h * w))) (g := g2) (l := l) (N := s.2.1 142) (φ := txV s l w h x y (min m 40)) d2 d4 d1 hl f1 (show pc ≤ 24 by omega) (by rw [F_sA, zF _ (by omega) (by omega) (by omega) (by omega) (by omega) (by omega)]; exact f6) (by rw [F_sA, zF _ (by omega) (by omega) (by omega) (by omega) (by omega) (by omega)]; exact f7) (by rw [F_sA, zF _ (by omega) (by omega) (by omega) (by omega) (by omega) (by omega)]; exact d5) (by rw [F_sA, zF _ (by omega) (by omega) (by omega) (by omega) (by omega) (by omega)]; exact d6) (by rw [A_sA, if_pos rfl]) (fun k hk => by
            rw [A_sA, if_neg (by decide)]
            exact z158 k hk)
          rw [wA]
          refine ⟨Z, ?_, ?_, ?_, ?_⟩
          · have wy := why12 (s := tkM S) (g := g2) (x := Int32.ofNat l) (b := true)
            rw [mA, eA _ (by decide) (by decide), wy0] at wy
            have wy' : fX12_why (e_g (tkM S) g2) 139 (Int32.ofNat l) (if true = true then 1 else 0) = some 0 := wy
            show fX12_text (e_g S g2) 139 (Int32.ofNat l) x y = _
            rw [text12h, qq]
            unfold jX12_text_38 jX12_text_140
            rw [ob139, ob_n, wy', ob_n, w139_0, ob_n, f139_0, F_sF, if_pos ⟨rfl, rfl⟩, ob_n, if_pos (by decide), ob139, ob_n, bg, ob_n, lz, ob_n, ob139, ob_n, ch, b2_n]
          · rw [L3 _ _ (by decide)]
            unfold bgM
            rw [F_sA, F_sF, if_pos ⟨rfl, rfl⟩]
          · have : Z.2.2.2 = (bgM (tkM S) l).2.2.2 := by rw [L2]
            rw [this]
            unfold bgM tkM
            simp (decide := true) only [ob_n, b2_n, tc_rn, tc_ln, F_sF, A_sF, R_sF, L_sF, F_sA, A_sA, R_sA, L_sA, F_sR, A_sR, R_sR, L_sR, F_sL, A_sL, R_sL, L_sL, and_true, true_and, and_false, false_and, and_self, reduceIte, sF_sF, sA_sA, false_or, or_false, true_or, or_true, not_false_eq_true, not_true_eq_false, decide_true, decide_false, Bool.true_or, Bool.or_true, Bool.false_and, Bool.true_and, Bool.false_or, Bool.or_false, Bool.and_true, Bool.and_false]
          · have e0 : Sm (rmC (fcC W (s.2.1 142) l w (h * w) (txV s l w h x y (min m 40))) a (g.1 + 2) pc) (tkM S) := by
              rw [hS, tkM_rf, ← hW]
              exact sm_tr (sm_rmC (sm_fcC (sm_tkM K1))) (sm_L sm_rf)
            refine sm_tr ?_ L1
            unfold bgM
            exact sm_A (sm_F e0 (by decide)) (by decide)
    · refine no 1 "java/lang/IllegalArgumentException" (by decide +kernel) (by decide) (by decide) ?_ (if_pos (Or.inl (by rw [q1]; simpa using q2)))
      unfold fX11_text
      rw [ob8, ob_n, takeInput11, b2_n, rng hg, if_pos q1, tc_rn, rng hg, if_neg q2, tc_ln]
  · refine no 1 "java/lang/IllegalArgumentException" (by decide +kernel) (by decide) (by decide) ?_ (if_pos (Or.inl (by simp [q1])))
    unfold fX11_text
    rw [ob8, ob_n, takeInput11, b2_n, rng hg, if_neg q1, tc_ln]
