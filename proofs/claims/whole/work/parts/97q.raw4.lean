-- needs: 07 10 13 14 20 21 22 23 24 25 26 27 32 33 34 36 38 39 40 41 42 43 44 46 47 48 49 50 52 53 54 55 57 60 61 62 63 70 71 72 73 74 80 81 82 83 84 85 86 87 88 97l 97m 97n 97o 97p
def rawPx (V : Nat → Int32) (w h k : Nat) : Int32 := fX11_pack 255 (q_shr (rwV V w h (k % w) (k / w) 0) 4) (q_shr (rwV V w h (k % w) (k / w) 1) 4) (q_shr (rwV V w h (k % w) (k / w) 2) 4)
theorem unfold3 {s : e_S} {g : ps_G} {w h : Nat} {f0 : Nat → Int32} (hg : 195 ≤ g.1) (hw : w ≤ 24) (hh : h ≤ 24) : fX3_unfold (e_g s (mkA g f0)) 111 g.1 (Int32.ofNat w) (Int32.ofNat h) = some (e_g s (mkA g (cpT f0 (rawPx (s.2.1 121) w h) 0 (h * w)))) := by
  have hwh := wh_le hw hh
  have lp : q_lp (fun t => bX3_unfold_3 111 g.1 (Int32.ofNat w) (Int32.ofNat h) t.1 t.2) ((0 : Int32), e_g s (mkA g f0)) = some (e_g s (mkA g (cpT f0 (rawPx (s.2.1 121) w h) 0 (h * w)))) := by
    refine fill1 (fun f => e_g s (mkA g f)) 0 w h (rawPx (s.2.1 121) w h) f0 (bI := fun y t => bX3_unfold_12 111 g.1 (Int32.ofNat w) (Int32.ofNat h) y t.1 t.2) (fun f y x hy hx _ => ?_) (fun f y hy => ?_) (fun f y hy => ?_) (fun f => ?_)
    · have hlt := at_lt hx hy
      have lt : y * w + x < 576 := by omega
      have la := fun c hc => lightAt3 (s := s) (g := mkA g f) (ch := c) hw hh hx hy hc
      have l0 : fX3_lightAt (e_g s (mkA g f)) 111 (Int32.ofNat x) (Int32.ofNat y) (Int32.ofNat w) (Int32.ofNat h) 0 = _ := la 0 (by omega)
      have l1 : fX3_lightAt (e_g s (mkA g f)) 111 (Int32.ofNat x) (Int32.ofNat y) (Int32.ofNat w) (Int32.ofNat h) 1 = _ := la 1 (by omega)
      have l2 : fX3_lightAt (e_g s (mkA g f)) 111 (Int32.ofNat x) (Int32.ofNat y) (Int32.ofNat w) (Int32.ofNat h) 2 = _ := la 2 (by omega)
      have ln : q_len (e_g s (mkA g f)) g.1 = some (Int32.ofNat 576) := d_len (Or.inl hg) nw_at
      have dm := md (w := w) (x := x) (y := y) hx
      have ev : rawPx (s.2.1 121) w h (y * w + x) = fX11_pack 255 (q_shr (rwV (s.2.1 121) w h x y 0) 4) (q_shr (rwV (s.2.1 121) w h x y 1) 4) (q_shr (rwV (s.2.1 121) w h x y 2) 4) := by
        unfold rawPx
        rw [dm.1, dm.2]
      show bX3_unfold_12 _ _ _ _ _ _ _ = _
      unfold bX3_unfold_12 jX3_unfold_83_12
      dsimp only
      rw [if_neg (nle hx (by omega)), ln, ob_n, n_mul, n_add, if_neg (nle lt (by omega)), ob111, ob_n, l0, ob_n, ob_n, l1, ob_n, ob_n, l2, ob_n, wI_mk hg, n_idx (by omega), if_neg (n_in2 lt (by decide)), ob_n, n_suc, Nat.zero_add, ev]
    · show bX3_unfold_12 _ _ _ _ _ _ _ = _
      unfold bX3_unfold_12
      dsimp only
      rw [if_pos (nlr (by omega))]
    · show bX3_unfold_3 _ _ _ _ _ _ = _
      unfold bX3_unfold_3
      dsimp only
      rw [if_neg (nle hy (by omega))]
    · show bX3_unfold_3 _ _ _ _ _ _ = _
      unfold bX3_unfold_3
      dsimp only
      rw [if_pos (nlr (by omega))]
  unfold fX3_unfold
  rw [lp, ob_n]
theorem rawl12 {s : e_S} {g : ps_G} {w h l : Nat} (hw1 : 1 ≤ w) (hw : w ≤ 24) (hh : h ≤ 24) (e13 : s.1 139 13 = Int32.ofNat w) (e14 : s.1 139 14 = Int32.ofNat h) (hl : l < 30) : q_lp (fun t => bX12_raw_205 139 (Int32.ofNat (w * h)) (Int32.ofNat l) t.1 t.2) ((0 : Int32), e_g s g) = some (e_g (sA s 142 (cpT (s.2.1 142) (rawPx (s.2.1 181) w h) (1169 * l + 17) (w * h))) g) := by
  have hwh := wh_le hw hh
  have lp := fillN (fun F => e_g (sA s 142 F) g) (1169 * l + 17) (w * h) (rawPx (s.2.1 181) w h) (s.2.1 142) (bO := fun t => bX12_raw_205 139 (Int32.ofNat (w * h)) (Int32.ofNat l) t.1 t.2) (fun f i hi _ => ?_) (fun f => ?_)
  · rw [sA_id] at lp
    exact lp
  · have mo := Nat.mod_lt i (show 0 < w by omega)
    have dv : i / w < h := Nat.div_lt_of_lt_mul (by omega)
    have ix : i / w * w + i % w = i := by rw [Nat.mul_comm]; exact Nat.div_add_mod i w
    have ra := fun c hc => rawAt12 (s := sA s 142 f) (g := g) (ch := c) hw hh (by rw [F_sA]; exact e13) (by rw [F_sA]; exact e14) mo dv hc
    rw [ix, A_sA, if_neg (by decide)] at ra
    have r0 : fX12_rawAt (e_g (sA s 142 f) g) 139 (Int32.ofNat i) 0 = _ := ra 0 (by omega)
    have r1 : fX12_rawAt (e_g (sA s 142 f) g) 139 (Int32.ofNat i) 1 = _ := ra 1 (by omega)
    have r2 : fX12_rawAt (e_g (sA s 142 f) g) 139 (Int32.ofNat i) 2 = _ := ra 2 (by omega)
    have pp := fun v => put12n (s := sA s 142 f) (g := g) (v := v) hl (show i < 576 by omega)
    rw [A_sA, if_pos rfl] at pp
    simp only [sA_sA] at pp
    show bX12_raw_205 _ _ _ _ _ = _
    unfold bX12_raw_205
    dsimp only
    rw [if_neg (nle hi (by omega)), ob139, ob_n, r0, ob_n, ob_n, r1, ob_n, ob_n, r2, ob_n, ob_n, pp, ob_n, n_suc]
    rfl
  · show bX12_raw_205 _ _ _ _ _ = _
    unfold bX12_raw_205
    dsimp only
    rw [if_pos (nlr (by omega))]
/-- the reference up to its frame -/
theorem raw12p {S : e_S} {g : ps_G} {w h m : Nat} (hw1 : 1 ≤ w) (hw : w ≤ 24) (hh : h ≤ 24) (e13 : S.1 139 13 = Int32.ofNat w) (e14 : S.1 139 14 = Int32.ofNat h) (hm : m ≤ 8000) (e2 : S.1 139 2 = Int32.ofNat m) (hI : ∀ k, k < m → bt (S.2.1 140 k)) (hD : (0 ≤ (S.2.1 180 0).toInt ∧ (S.2.1 180 0).toInt ≤ 4095) ∧ ∀ c, c < 3 → 0 ≤ (S.2.1 180 (1 + c)).toInt ∧ (S.2.1 180 (1 + c)).toInt ≤ 1024) : ∃ F, (m = 2 * (w * h) ∧ (∀ k, k < w * h → fvI (S.2.1 140) k ≤ 4095) ∧ (∀ k, k < w * h → F k = frV (S.2.1 140) (S.2.1 180) w k) ∧ fX12_raw (e_g S g) 139 = jX12_raw_168 (e_g (sA (tkM S) 181 F) g) 139 (Int32.ofNat (w * h))) ∨ ∃ e p : Int32, ¬ e ≤ 0 ∧ fX12_raw (e_g S g) 139 = jX12_raw_168 (e_g (sA (sF (sF (tkM S) 139 4 e) 139 5 p) 181 F) g) 139 (Int32.ofNat (w * h)) ∧ ((¬ m = 2 * (w * h) ∧ e = 1 ∧ p = Int32.ofNat m) ∨ (m = 2 * (w * h) ∧ e = 2 ∧ ∃ k0, k0 < w * h ∧ (∀ k, k < k0 → fvI (S.2.1 140) k ≤ 4095) ∧ ¬ fvI (S.2.1 140) k0 ≤ 4095 ∧ p = Int32.ofNat (2 * k0))) := by
  have hwh := wh_le hw hh
  have t13 : (tkM S).1 139 13 = Int32.ofNat w := by unfold tkM; simp (decide := true) only [ob_n, b2_n, tc_rn, tc_ln, F_sF, A_sF, R_sF, L_sF, F_sA, A_sA, R_sA, L_sA, F_sR, A_sR, R_sR, L_sR, F_sL, A_sL, R_sL, L_sL, and_true, true_and, and_false, false_and, and_self, reduceIte, sF_sF, sA_sA, false_or, or_false, true_or, or_true, not_false_eq_true, not_true_eq_false, decide_true, decide_false, Bool.true_or, Bool.or_true, Bool.false_and, Bool.true_and, Bool.false_or, Bool.or_false, Bool.and_true, Bool.and_false]; exact e13
  have t14 : (tkM S).1 139 14 = Int32.ofNat h := by unfold tkM; simp (decide := true) only [ob_n, b2_n, tc_rn, tc_ln, F_sF, A_sF, R_sF, L_sF, F_sA, A_sA, R_sA, L_sA, F_sR, A_sR, R_sR, L_sR, F_sL, A_sL, R_sL, L_sL, and_true, true_and, and_false, false_and, and_self, reduceIte, sF_sF, sA_sA, false_or, or_false, true_or, or_true, not_false_eq_true, not_true_eq_false, decide_true, decide_false, Bool.true_or, Bool.or_true, Bool.false_and, Bool.true_and, Bool.false_or, Bool.or_false, Bool.and_true, Bool.and_false]; exact e14
  have t3 : (tkM S).1 139 3 = Int32.ofNat m := by unfold tkM; simp (decide := true) only [ob_n, b2_n, tc_rn, tc_ln, F_sF, A_sF, R_sF, L_sF, F_sA, A_sA, R_sA, L_sA, F_sR, A_sR, R_sR, L_sR, F_sL, A_sL, R_sL, L_sL, and_true, true_and, and_false, false_and, and_self, reduceIte, sF_sF, sA_sA, false_or, or_false, true_or, or_true, not_false_eq_true, not_true_eq_false, decide_true, decide_false, Bool.true_or, Bool.or_true, Bool.false_and, Bool.true_and, Bool.false_or, Bool.or_false, Bool.and_true, Bool.and_false]; exact e2
  have t4 : (tkM S).1 139 4 = 0 := by unfold tkM; simp (decide := true) only [ob_n, b2_n, tc_rn, tc_ln, F_sF, A_sF, R_sF, L_sF, F_sA, A_sA, R_sA, L_sA, F_sR, A_sR, R_sR, L_sR, F_sL, A_sL, R_sL, L_sL, and_true, true_and, and_false, false_and, and_self, reduceIte, sF_sF, sA_sA, false_or, or_false, true_or, or_true, not_false_eq_true, not_true_eq_false, decide_true, decide_false, Bool.true_or, Bool.or_true, Bool.false_and, Bool.true_and, Bool.false_or, Bool.or_false, Bool.and_true, Bool.and_false]
  have a140 : (tkM S).2.1 140 = S.2.1 140 := by unfold tkM; simp (decide := true) only [ob_n, b2_n, tc_rn, tc_ln, F_sF, A_sF, R_sF, L_sF, F_sA, A_sA, R_sA, L_sA, F_sR, A_sR, R_sR, L_sR, F_sL, A_sL, R_sL, L_sL, and_true, true_and, and_false, false_and, and_self, reduceIte, sF_sF, sA_sA, false_or, or_false, true_or, or_true, not_false_eq_true, not_true_eq_false, decide_true, decide_false, Bool.true_or, Bool.or_true, Bool.false_and, Bool.true_and, Bool.false_or, Bool.or_false, Bool.and_true, Bool.and_false]
  have a180 : (tkM S).2.1 180 = S.2.1 180 := by unfold tkM; simp (decide := true) only [ob_n, b2_n, tc_rn, tc_ln, F_sF, A_sF, R_sF, L_sF, F_sA, A_sA, R_sA, L_sA, F_sR, A_sR, R_sR, L_sR, F_sL, A_sL, R_sL, L_sL, and_true, true_and, and_false, false_and, and_self, reduceIte, sF_sF, sA_sA, false_or, or_false, true_or, or_true, not_false_eq_true, not_true_eq_false, decide_true, decide_false, Bool.true_or, Bool.or_true, Bool.false_and, Bool.true_and, Bool.false_or, Bool.or_false, Bool.and_true, Bool.and_false]
  have i2 : (2 : Int32) * Int32.ofNat (w * h) = Int32.ofNat (2 * (w * h)) := n_mul (n := 2)
  unfold fX12_raw
  rw [ob139, ob_n, takeInput12, ob_n, f139_13, t13, ob_n, f139_14, t14, ob_n, f139_3, t3, ob_n, n_mul, i2]
  by_cases q : m = 2 * (w * h)
  · rw [if_pos (by rw [q])]
    have fo : FrO ((tkM S).2.1 140) ((tkM S).2.1 180) (w * h) := by
      rw [a140, a180]
      exact ⟨fun k hk => hI k (by omega), hD⟩
    rcases fr_first (P := fun k => fvI (S.2.1 140) k ≤ 4095) (fun k => Decidable.em _) (w * h) with z | ⟨k0, z1, z2, z3⟩
    · obtain ⟨F, x1, x2⟩ := frame12 (s := tkM S) (g := g) (n := w * h) hw1 hw hh t13 t4 (Nat.le_refl _) fo (by rw [a140]; exact z) (Or.inl rfl)
      rw [a140, a180] at x2
      rw [if_pos rfl] at x1
      refine ⟨F, Or.inl ⟨q, z, x2 rfl, ?_⟩⟩
      unfold jX12_raw_33
      rw [x1, ob_n]
    · obtain ⟨F, x1, x2⟩ := frame12 (s := tkM S) (g := g) (n := k0) hw1 hw hh t13 t4 (by omega) fo (by rw [a140]; exact z3) (Or.inr (by rw [a140]; exact z2))
      rw [if_neg (by omega)] at x1
      refine ⟨F, Or.inr ⟨2, Int32.ofNat (2 * k0), by decide, ?_, Or.inr ⟨q, rfl, k0, z1, z3, z2, rfl⟩⟩⟩
      unfold jX12_raw_33
      rw [x1, ob_n]
  · have nq : ¬ Int32.ofNat m = Int32.ofNat (2 * (w * h)) := fun z => q ((n_eq (by omega) (by omega)).mp z)
    rw [if_neg nq, ob_n, ob139, ob_n, wrong12 t4, ob_n]
    refine ⟨(sF (sF (tkM S) 139 4 1) 139 5 (Int32.ofNat m)).2.1 181, Or.inr ⟨1, Int32.ofNat m, by decide, ?_, Or.inl ⟨q, rfl, rfl⟩⟩⟩
    rw [sA_id]
    unfold jX12_raw_33
    have lp : q_lp (fun t => bX12_raw_35 139 (Int32.ofNat (w * h)) t.1 t.2) ((0 : Int32), e_g (sF (sF (tkM S) 139 4 1) 139 5 (Int32.ofNat m)) g) = some (e_g (sF (sF (tkM S) 139 4 1) 139 5 (Int32.ofNat m)) g) := by
      refine lp_end ?_
      have f4 : (sF (sF (tkM S) 139 4 1) 139 5 (Int32.ofNat m)).1 139 4 = 1 := by simp (decide := true) only [ob_n, b2_n, tc_rn, tc_ln, F_sF, A_sF, R_sF, L_sF, F_sA, A_sA, R_sA, L_sA, F_sR, A_sR, R_sR, L_sR, F_sL, A_sL, R_sL, L_sL, and_true, true_and, and_false, false_and, and_self, reduceIte, sF_sF, sA_sA, false_or, or_false, true_or, or_true, not_false_eq_true, not_true_eq_false, decide_true, decide_false, Bool.true_or, Bool.or_true, Bool.false_and, Bool.true_and, Bool.false_or, Bool.or_false, Bool.and_true, Bool.and_false]
      show bX12_raw_35 _ _ _ _ = _
      unfold bX12_raw_35
      dsimp only
      by_cases z : Int32.ofNat (w * h) ≤ 0
      · rw [if_pos z]
      · rw [if_neg z, f139_4, f4, ob_n, if_pos (by decide)]
    rw [lp, ob_n]
