-- needs: 97zzzb
/-! ===== made: the file by the reference ===== -/
theorem oM_rd {s : e_S} {P : (Nat → Int32) × Nat} {k : Nat} (hk : ¬ k = 7) : (oM s P).1 139 k = s.1 139 k := by
  unfold oM
  rw [F_sF, if_neg (fun z => hk z.2), F_sA]
theorem oM_ra {s : e_S} {P : (Nat → Int32) × Nat} {j : Nat} (hj : ¬ j = 141) : (oM s P).2.1 j = s.2.1 j := by
  unfold oM
  rw [A_sF, A_sA, if_neg hj]
theorem zero12 {s : e_S} {g : ps_G} {P : (Nat → Int32) × Nat} (h : P.2 + 3 ≤ 3000) : q_lp (fun t => bX12_made_147 139 t.1 t.2) ((0 : Int32), e_g (oM s P) g) = some (e_g (oM s (obV (obV (obV P 0) 0) 0)) g) := by
  have st : ∀ (k : Nat) (Q : (Nat → Int32) × Nat), k < 3 → Q.2 < 3000 → bX12_made_147 139 (Int32.ofNat k) (e_g (oM s Q) g) = some (.inl (Int32.ofNat (k + 1), e_g (oM s (obV Q 0)) g)) := fun k Q hk hQ => by
    unfold bX12_made_147
    have c : ¬ (3 : Int32) ≤ Int32.ofNat k := show ¬ Int32.ofNat 3 ≤ Int32.ofNat k from nle hk (by omega)
    rw [if_neg c, ob139, ob_n, outByte12 hQ, ob_n, n_suc]
  have p1 : (obV P 0).2 = P.2 + 1 := rfl
  have p2 : (obV (obV P 0) 0).2 = P.2 + 2 := rfl
  have z0 : ((0 : Int32), e_g (oM s P) g) = (Int32.ofNat 0, e_g (oM s P) g) := rfl
  rw [z0, lp_go (b := fun t => bX12_made_147 139 t.1 t.2) (st 0 P (by omega) (by omega)), lp_go (b := fun t => bX12_made_147 139 t.1 t.2) (st 1 _ (by omega) (by omega)), lp_go (b := fun t => bX12_made_147 139 t.1 t.2) (st 2 _ (by omega) (by omega))]
  refine lp_end ?_
  show bX12_made_147 _ _ _ = _
  unfold bX12_made_147
  rw [if_pos (show (3 : Int32) ≤ Int32.ofNat (2 + 1) by decide)]
theorem made41 {G g : ps_G} {S : e_S} {x : Int32} {w h : Nat} {R : (Nat → Int32) × Nat} (lp : q_lp (fun t => bX12_made_43 139 x t.1 t.2) ((0 : Int32), G) = some (e_g S g)) (hT : TbM S) (hw : w ≤ 24) (hh : h ≤ 24) (e13 : S.1 139 13 = Int32.ofNat w) (e14 : S.1 139 14 = Int32.ofNat h) (hR2 : R.2 ≤ 2328) (hB : ByO R) (hA : AgR R (rowV (S.2.1 158) w (S.2.1 187) h)) : ∃ X, jX12_made_41 G 139 x = some (Int32.ofNat (mkP (S.2.1 141, 0) (Int32.ofNat w) (Int32.ofNat h) R).2, e_g (oM X (mkP (S.2.1 141, 0) (Int32.ofNat w) (Int32.ofNat h) R)) g) ∧ Sm S X ∧ X.1 139 0 = S.1 139 0 ∧ X.2.2.2 = S.2.2.2 := by
  have z : sF S 139 7 0 = oM S (S.2.1 141, 0) := by
    show _ = sF (sA S 141 (S.2.1 141)) 139 7 (Int32.ofNat 0)
    rw [sA_id]
    rfl
  generalize S.2.1 141 = A at z ⊢
  generalize eR : rowV (S.2.1 158) w (S.2.1 187) h = R' at hA
  have b1 := db_i (A := A) (w := Int32.ofNat w) (h := Int32.ofNat h) hR2
  have n1 := hd_n (A := A) (w := Int32.ofNat w) (h := Int32.ofNat h)
  -- the states
  have eS2 : ∃ S2, S2 = sF (sF S 139 73 (Int32.ofNat 8)) 139 73 (Int32.ofNat 33) := ⟨_, rfl⟩
  obtain ⟨S2, eS2⟩ := eS2
  have f2 : ∀ k, ¬ k = 73 → S2.1 139 k = S.1 139 k := fun k hk => by
    rw [eS2, F_sF, if_neg (fun z => hk z.2), F_sF, if_neg (fun z => hk z.2)]
  have a2 : S2.2.1 = S.2.1 := by rw [eS2, A_sF, A_sF]
  have g2 : S2.1 139 73 = Int32.ofNat 33 := by rw [eS2, F_sF, if_pos ⟨rfl, rfl⟩]
  have rows : fX12_makeRows (e_g (oM S2 (daV (A, 0) (Int32.ofNat w) (Int32.ofNat h))) g) 139 = some (e_g (oM (rM S2 R') (daV (A, 0) (Int32.ofNat w) (Int32.ofNat h))) g) := by
    have q := rows12 (s := oM S2 (daV (A, 0) (Int32.ofNat w) (Int32.ofNat h))) (g := g) (w := w) (h := h) hw hh (by rw [oM_rd (by decide), f2 13 (by decide)]; exact e13) (by rw [oM_rd (by decide), f2 14 (by decide)]; exact e14)
    rw [oM_ra (by decide), oM_ra (by decide), a2, eR, rM_oM] at q
    exact q
  have hR : RwM (rM S2 R') R := by
    refine ⟨hR2, ?_, fun i hi => ?_⟩
    · unfold rM; rw [F_sF, if_pos ⟨rfl, rfl⟩, hA.1]
    · unfold rM; rw [A_sF, A_sA, if_pos rfl, hA.2 i hi]
  have hT2 : TbM (rM S2 R') := by
    have e : ∀ a, ¬ a = 187 → (rM S2 R').2.1 a = S.2.1 a := fun a ha => by
      unfold rM
      rw [A_sF, A_sA, if_neg ha, a2]
    unfold TbM
    rw [e 182 (by decide), e 183 (by decide), e 184 (by decide), e 185 (by decide)]
    exact hT
  have dd := deflate12 (g := g) hT2 hR (P := daV (A, 0) (Int32.ofNat w) (Int32.ofNat h)) (by rw [n1.2]; omega) by_da
  have ad := adlerM (g := g) (rwM_b hR (T := deV R (daV (A, 0) (Int32.ofNat w) (Int32.ofNat h)))) hB
  have byT := (de_i (R := R) (P := daV (A, 0) (Int32.ofNat w) (Int32.ofNat h)) hR2 (by rw [n1.2]; omega) by_da).2.2.2
  have e4 : ∃ S4, S4 = sF (sF (rM S2 R') 139 76 (deV R (daV (A, 0) (Int32.ofNat w) (Int32.ofNat h))).2.1) 139 77 (Int32.ofNat (deV R (daV (A, 0) (Int32.ofNat w) (Int32.ofNat h))).2.2) := ⟨_, rfl⟩
  obtain ⟨S4, eS4⟩ := e4
  have bo : bM (rM S2 R') (deV R (daV (A, 0) (Int32.ofNat w) (Int32.ofNat h))) = oM S4 (deV R (daV (A, 0) (Int32.ofNat w) (Int32.ofNat h))).1 := by rw [eS4]; rfl
  have g4 : S4.1 139 73 = Int32.ofNat 33 := by
    rw [eS4, F_sF, if_neg (by decide), F_sF, if_neg (by decide)]
    unfold rM
    rw [F_sF, if_neg (by decide), F_sA]
    exact g2
  have sm4 : Sm S S4 := by
    rw [eS4, eS2]
    unfold rM
    exact sm_F (sm_F (sm_F (sm_A (sm_F (sm_F sm_rf (by decide)) (by decide)) (by decide)) (by decide)) (by decide)) (by decide)
  have t4 : S4.1 139 0 = S.1 139 0 := by
    rw [eS4, F_sF, if_neg (by decide), F_sF, if_neg (by decide)]
    unfold rM
    rw [F_sF, if_neg (by decide), F_sA]
    exact f2 0 (by decide)
  have l4 : S4.2.2.2 = S.2.2.2 := by
    rw [eS4, eS2]
    unfold rM
    rw [L_sF, L_sF, L_sF, L_sA, L_sF, L_sF]
  rw [bo] at dd ad
  refine ⟨sF S4 139 73 (Int32.ofNat (dbP (A, 0) (Int32.ofNat w) (Int32.ofNat h) R).2), ?_, sm_F sm4 (by decide), by rw [F_sF, if_neg (by decide)]; exact t4, by rw [L_sF]; exact l4⟩
  have o0 := outWord12 (s := S) (g := g) (P := (A, 0)) (v := -1991225785) (show 0 + 4 ≤ 3000 by omega)
  have o1 := outWord12 (s := S) (g := g) (P := w4V (A, 0) (-1991225785)) (v := 218765834) (show 4 + 4 ≤ 3000 by omega)
  have o2 : fX12_openChunk (e_g (oM S (w4V (w4V (A, 0) (-1991225785)) 218765834)) g) 139 1229472850 = some (e_g (oM (sF S 139 73 (Int32.ofNat 8)) (opV (sgV (A, 0)) 1229472850)) g) := openC12 (show 8 + 8 ≤ 3000 by omega)
  have f13 : ∀ Q, (oM (sF S 139 73 (Int32.ofNat 8)) Q).1 139 13 = Int32.ofNat w := fun Q => by rw [oM_rd (by decide), F_sF, if_neg (by decide)]; exact e13
  have f14 : ∀ Q, (oM (sF S 139 73 (Int32.ofNat 8)) Q).1 139 14 = Int32.ofNat h := fun Q => by rw [oM_rd (by decide), F_sF, if_neg (by decide)]; exact e14
  have o3 := outWord12 (s := sF S 139 73 (Int32.ofNat 8)) (g := g) (P := opV (sgV (A, 0)) 1229472850) (v := Int32.ofNat w) (show 16 + 4 ≤ 3000 by omega)
  have o4 := outWord12 (s := sF S 139 73 (Int32.ofNat 8)) (g := g) (P := w4V (opV (sgV (A, 0)) 1229472850) (Int32.ofNat w)) (v := Int32.ofNat h) (show 20 + 4 ≤ 3000 by omega)
  have o5 := outByte12 (s := sF S 139 73 (Int32.ofNat 8)) (g := g) (P := w4V (w4V (opV (sgV (A, 0)) 1229472850) (Int32.ofNat w)) (Int32.ofNat h)) (b := 8) (show 24 < 3000 by omega)
  have o6 := outByte12 (s := sF S 139 73 (Int32.ofNat 8)) (g := g) (P := obV (w4V (w4V (opV (sgV (A, 0)) 1229472850) (Int32.ofNat w)) (Int32.ofNat h)) 8) (b := 6) (show 25 < 3000 by omega)
  have o7 := zero12 (s := sF S 139 73 (Int32.ofNat 8)) (g := g) (P := obV (obV (w4V (w4V (opV (sgV (A, 0)) 1229472850) (Int32.ofNat w)) (Int32.ofNat h)) 8) 6) (show 26 + 3 ≤ 3000 by omega)
  have o8 : fX12_closeChunk (e_g (oM (sF S 139 73 (Int32.ofNat 8)) (obV (obV (obV (obV (obV (w4V (w4V (opV (sgV (A, 0)) 1229472850) (Int32.ofNat w)) (Int32.ofNat h)) 8) 6) 0) 0) 0)) g) 139 = some (e_g (oM (sF S 139 73 (Int32.ofNat 8)) (hdV (A, 0) (Int32.ofNat w) (Int32.ofNat h))) g) := close12 (by rw [F_sF, if_pos ⟨rfl, rfl⟩]) (by_o (by_o (by_o (by_o (by_o (by_4 (by_4 (by_4 (by_4 (by_4 (by_4 by_0))))))))))) (show 8 + 8 ≤ 29 by omega) (show 29 + 4 ≤ 3000 by omega)
  have o9 : fX12_openChunk (e_g (oM (sF S 139 73 (Int32.ofNat 8)) (hdV (A, 0) (Int32.ofNat w) (Int32.ofNat h))) g) 139 1229209940 = some (e_g (oM S2 (opV (hdV (A, 0) (Int32.ofNat w) (Int32.ofNat h)) 1229209940)) g) := by
    rw [eS2]
    exact openC12 (show 33 + 8 ≤ 3000 by omega)
  have oa := outByte12 (s := S2) (g := g) (P := opV (hdV (A, 0) (Int32.ofNat w) (Int32.ofNat h)) 1229209940) (b := 120) (show 41 < 3000 by omega)
  have ob : fX12_outByte (e_g (oM S2 (obV (opV (hdV (A, 0) (Int32.ofNat w) (Int32.ofNat h)) 1229209940) 120)) g) 139 1 = some (e_g (oM S2 (daV (A, 0) (Int32.ofNat w) (Int32.ofNat h))) g) := outByte12 (show 42 < 3000 by omega)
  have oc := outWord12 (s := S4) (g := g) (P := (deV R (daV (A, 0) (Int32.ofNat w) (Int32.ofNat h))).1) (v := (adV R.1 R.2).2 * 65536 + (adV R.1 R.2).1) (by omega)
  have od : fX12_closeChunk (e_g (oM S4 (w4V (deV R (daV (A, 0) (Int32.ofNat w) (Int32.ofNat h))).1 ((adV R.1 R.2).2 * 65536 + (adV R.1 R.2).1))) g) 139 = some (e_g (oM S4 (dbP (A, 0) (Int32.ofNat w) (Int32.ofNat h) R)) g) := close12 g4 (by_4 byT) (by rw [w4_2]; omega) (by rw [w4_2]; omega)
  have oe := openC12 (s := S4) (g := g) (P := dbP (A, 0) (Int32.ofNat w) (Int32.ofNat h) R) (v := 1229278788) (by omega)
  have of : fX12_closeChunk (e_g (oM (sF S4 139 73 (Int32.ofNat (dbP (A, 0) (Int32.ofNat w) (Int32.ofNat h) R).2)) (opV (dbP (A, 0) (Int32.ofNat w) (Int32.ofNat h) R) 1229278788)) g) 139 = some (e_g (oM (sF S4 139 73 (Int32.ofNat (dbP (A, 0) (Int32.ofNat w) (Int32.ofNat h) R).2)) (mkP (A, 0) (Int32.ofNat w) (Int32.ofNat h) R)) g) := close12 (by rw [F_sF, if_pos ⟨rfl, rfl⟩]) (by_4 (by_4 b1.2.1)) (by rw [op_2]; omega) (by rw [op_2]; omega)
  have f7 : (oM (sF S4 139 73 (Int32.ofNat (dbP (A, 0) (Int32.ofNat w) (Int32.ofNat h) R).2)) (mkP (A, 0) (Int32.ofNat w) (Int32.ofNat h) R)).1 139 7 = Int32.ofNat (mkP (A, 0) (Int32.ofNat w) (Int32.ofNat h) R).2 := by
    unfold oM
    rw [F_sF, if_pos ⟨rfl, rfl⟩]
  unfold jX12_made_41
  rw [lp, ob_n, w139_7, ob_n, z, ob139, ob_n, o0, ob_n, ob139, ob_n, o1, ob_n, ob139, ob_n, o2, ob_n, f139_13, f13, ob_n, ob139, ob_n, o3, ob_n, f139_14, f14, ob_n, ob139, ob_n, o4, ob_n, ob139, ob_n, o5, ob_n, ob139, ob_n, o6, ob_n, o7, ob_n, ob139, ob_n, o8, ob_n, ob139, ob_n, o9, ob_n, ob139, ob_n, oa, ob_n, ob139, ob_n, ob, ob_n, ob139, ob_n, rows, ob_n, ob139, ob_n, dd, ob_n, ob139, ob_n, ad, ob_n, ob_n, oc, ob_n, ob139, ob_n, od, ob_n, ob139, ob_n, oe, ob_n, ob139, ob_n, of, ob_n, f139_7, f7, ob_n]
theorem copy12 {S : e_S} {g : ps_G} {x : Int32} {w h : Nat} {B : Nat → Int32} (hw : w ≤ 24) (hh : h ≤ 24) (e13 : S.1 139 13 = Int32.ofNat w) (e14 : S.1 139 14 = Int32.ofNat h) (hb : ∀ F k, k < w * h → bX12_made_43 139 x (Int32.ofNat k) (e_g (sA S 158 F) g) = some (.inl (Int32.ofNat (k + 1), e_g (sA S 158 (upd F k (B k))) g))) : q_lp (fun t => bX12_made_43 139 x t.1 t.2) ((0 : Int32), e_g S g) = some (e_g (sA S 158 (fun k => if k < w * h then B k else S.2.1 158 k)) g) := by
  have hn := wh_le hw hh
  refine lp_0 (fun k => (Int32.ofNat k, e_g (sA S 158 (fun j => if j < k then B j else S.2.1 158 j)) g)) (w * h) ?_ (fun k hk => ?_) ?_
  · have e : (fun j => if j < 0 then B j else S.2.1 158 j) = S.2.1 158 := by
      funext j
      rw [if_neg (Nat.not_lt_zero j)]
    show _ = (Int32.ofNat 0, e_g (sA S 158 (fun j => if j < 0 then B j else S.2.1 158 j)) g)
    rw [e, sA_id]
    rfl
  · show bX12_made_43 _ _ _ _ = _
    rw [hb _ k hk, upd_fill]
  · show bX12_made_43 _ _ _ _ = _
    unfold bX12_made_43
    rw [f139_13, F_sA, e13, ob_n, f139_14, F_sA, e14, ob_n, n_mul, if_pos (nlr (by omega))]
theorem rel_o {s : e_S} {g : ps_G} {P P' : (Nat → Int32) × Nat} (hR : Rel s g) (h : P.2 ≤ 3000) (hB : ByO P) (hA : AgR P P') : Rel (oM (oC s P) P') g := by
  obtain ⟨h1, h2, h3, h4, h5, h6, ⟨w, h0, h7, h8, h9⟩, h10, h11⟩ := hR
  unfold oM oC
  refine ⟨(by unfold G1 at h1 ⊢; simp (decide := true) only [ob_s, b2_s, tc_r, tc_l, F_sF, A_sF, R_sF, L_sF, F_sA, A_sA, R_sA, L_sA, F_sR, A_sR, R_sR, L_sR, F_sL, A_sL, R_sL, L_sL, and_true, true_and, and_false, false_and, and_self, reduceIte, sF_sF, sA_sA, false_or, or_false, true_or, or_true, not_false_eq_true, not_true_eq_false, decide_true, decide_false, Bool.true_or, Bool.or_true, Bool.false_and, Bool.true_and, Bool.false_or, Bool.or_false, Bool.and_true, Bool.and_false, pO]; exact h1), (by unfold G2 at h2 ⊢; simp (decide := true) only [ob_s, b2_s, tc_r, tc_l, F_sF, A_sF, R_sF, L_sF, F_sA, A_sA, R_sA, L_sA, F_sR, A_sR, R_sR, L_sR, F_sL, A_sL, R_sL, L_sL, and_true, true_and, and_false, false_and, and_self, reduceIte, sF_sF, sA_sA, false_or, or_false, true_or, or_true, not_false_eq_true, not_true_eq_false, decide_true, decide_false, Bool.true_or, Bool.or_true, Bool.false_and, Bool.true_and, Bool.false_or, Bool.or_false, Bool.and_true, Bool.and_false, pO]; exact h2), (by unfold G3 at h3 ⊢; simp (decide := true) only [ob_s, b2_s, tc_r, tc_l, F_sF, A_sF, R_sF, L_sF, F_sA, A_sA, R_sA, L_sA, F_sR, A_sR, R_sR, L_sR, F_sL, A_sL, R_sL, L_sL, and_true, true_and, and_false, false_and, and_self, reduceIte, sF_sF, sA_sA, false_or, or_false, true_or, or_true, not_false_eq_true, not_true_eq_false, decide_true, decide_false, Bool.true_or, Bool.or_true, Bool.false_and, Bool.true_and, Bool.false_or, Bool.or_false, Bool.and_true, Bool.and_false, pO]; exact h3), (by unfold G4 at h4 ⊢; simp (decide := true) only [ob_s, b2_s, tc_r, tc_l, F_sF, A_sF, R_sF, L_sF, F_sA, A_sA, R_sA, L_sA, F_sR, A_sR, R_sR, L_sR, F_sL, A_sL, R_sL, L_sL, and_true, true_and, and_false, false_and, and_self, reduceIte, sF_sF, sA_sA, false_or, or_false, true_or, or_true, not_false_eq_true, not_true_eq_false, decide_true, decide_false, Bool.true_or, Bool.or_true, Bool.false_and, Bool.true_and, Bool.false_or, Bool.or_false, Bool.and_true, Bool.and_false, pO]; exact h4), (by unfold G5 at h5 ⊢; simp (decide := true) only [ob_s, b2_s, tc_r, tc_l, F_sF, A_sF, R_sF, L_sF, F_sA, A_sA, R_sA, L_sA, F_sR, A_sR, R_sR, L_sR, F_sL, A_sL, R_sL, L_sL, and_true, true_and, and_false, false_and, and_self, reduceIte, sF_sF, sA_sA, false_or, or_false, true_or, or_true, not_false_eq_true, not_true_eq_false, decide_true, decide_false, Bool.true_or, Bool.or_true, Bool.false_and, Bool.true_and, Bool.false_or, Bool.or_false, Bool.and_true, Bool.and_false, pO]; exact h5), (by unfold G6 at h6 ⊢; simp (decide := true) only [ob_s, b2_s, tc_r, tc_l, F_sF, A_sF, R_sF, L_sF, F_sA, A_sA, R_sA, L_sA, F_sR, A_sR, R_sR, L_sR, F_sL, A_sL, R_sL, L_sL, and_true, true_and, and_false, false_and, and_self, reduceIte, sF_sF, sA_sA, false_or, or_false, true_or, or_true, not_false_eq_true, not_true_eq_false, decide_true, decide_false, Bool.true_or, Bool.or_true, Bool.false_and, Bool.true_and, Bool.false_or, Bool.or_false, Bool.and_true, Bool.and_false, pO]; exact h6), ⟨w, h0, (by unfold G7 at h7 ⊢; simp (decide := true) only [ob_s, b2_s, tc_r, tc_l, F_sF, A_sF, R_sF, L_sF, F_sA, A_sA, R_sA, L_sA, F_sR, A_sR, R_sR, L_sR, F_sL, A_sL, R_sL, L_sL, and_true, true_and, and_false, false_and, and_self, reduceIte, sF_sF, sA_sA, false_or, or_false, true_or, or_true, not_false_eq_true, not_true_eq_false, decide_true, decide_false, Bool.true_or, Bool.or_true, Bool.false_and, Bool.true_and, Bool.false_or, Bool.or_false, Bool.and_true, Bool.and_false, pO]; exact h7), (by unfold G8 at h8 ⊢; simp (decide := true) only [ob_s, b2_s, tc_r, tc_l, F_sF, A_sF, R_sF, L_sF, F_sA, A_sA, R_sA, L_sA, F_sR, A_sR, R_sR, L_sR, F_sL, A_sL, R_sL, L_sL, and_true, true_and, and_false, false_and, and_self, reduceIte, sF_sF, sA_sA, false_or, or_false, true_or, or_true, not_false_eq_true, not_true_eq_false, decide_true, decide_false, Bool.true_or, Bool.or_true, Bool.false_and, Bool.true_and, Bool.false_or, Bool.or_false, Bool.and_true, Bool.and_false, pO]; exact h8), (by unfold G10 at h9 ⊢; simp (decide := true) only [ob_s, b2_s, tc_r, tc_l, F_sF, A_sF, R_sF, L_sF, F_sA, A_sA, R_sA, L_sA, F_sR, A_sR, R_sR, L_sR, F_sL, A_sL, R_sL, L_sL, and_true, true_and, and_false, false_and, and_self, reduceIte, sF_sF, sA_sA, false_or, or_false, true_or, or_true, not_false_eq_true, not_true_eq_false, decide_true, decide_false, Bool.true_or, Bool.or_true, Bool.false_and, Bool.true_and, Bool.false_or, Bool.or_false, Bool.and_true, Bool.and_false, pO]; exact h9)⟩, ?_, (by unfold G11 at h11 ⊢; simp (decide := true) only [ob_s, b2_s, tc_r, tc_l, F_sF, A_sF, R_sF, L_sF, F_sA, A_sA, R_sA, L_sA, F_sR, A_sR, R_sR, L_sR, F_sL, A_sL, R_sL, L_sL, and_true, true_and, and_false, false_and, and_self, reduceIte, sF_sF, sA_sA, false_or, or_false, true_or, or_true, not_false_eq_true, not_true_eq_false, decide_true, decide_false, Bool.true_or, Bool.or_true, Bool.false_and, Bool.true_and, Bool.false_or, Bool.or_false, Bool.and_true, Bool.and_false, pO]; exact h11)⟩
  refine ⟨P.2, h, ?_, ?_, fun k hk => ?_⟩
  · rw [F_sF, if_neg (by decide), F_sA, F_sF, if_pos ⟨rfl, rfl⟩]
  · rw [F_sF, if_pos ⟨rfl, rfl⟩, hA.1]
  · rw [A_sF, A_sA, if_neg (by decide), A_sF, A_sA, if_pos rfl, A_sA, if_pos rfl, ← hA.2 k hk]
    exact ⟨rfl, hB k hk⟩
