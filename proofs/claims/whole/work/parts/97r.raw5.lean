-- needs: 07 10 13 14 20 21 22 23 24 25 26 27 32 33 34 36 38 39 40 41 42 43 44 46 47 48 49 50 52 53 54 55 57 60 61 62 63 70 71 72 73 74 80 81 82 83 84 85 86 87 88 97l 97m 97n 97o 97p 97q
theorem K_raw {s : e_S} {g : ps_G} (hR : Rel s g) : KI (fL_raw (e_g s g) 8 194) (fun G => fX12_raw G 139) g := by
  have hg := rel_g hR
  obtain ⟨h1, h2, h3, h4, h5, h6, ⟨w, h, h7, h8, h9⟩, h10, h11⟩ := id hR
  obtain ⟨a, st, pc, uc, f1, f2, f3, f4, f5, f6, f7, f8, f9, f10, f11, f12⟩ := h9
  obtain ⟨m, i1, i2, i3, i4, i5, i6⟩ := h1
  obtain ⟨d1, d2, d3, d4, d5, d6, d7, d8, d9⟩ := id h7
  have hwh := wh_le d2 d4
  obtain ⟨n, ta1, ta2, ta3⟩ := f9.1.1
  obtain ⟨g5a, g5b⟩ := h5
  have hD : (0 ≤ (s.2.1 180 0).toInt ∧ (s.2.1 180 0).toInt ≤ 4095) ∧ ∀ c, c < 3 → 0 ≤ (s.2.1 180 (1 + c)).toInt ∧ (s.2.1 180 (1 + c)).toInt ≤ 1024 := by
    refine ⟨?_, fun c hc => ?_⟩
    · have := (g5b 0 (by omega)).2
      rw [if_pos rfl, rg_i] at this
      exact this
    · have := (g5b (1 + c) (by omega)).2
      rw [if_neg (by omega), rg_i] at this
      exact this
  have hI : ∀ k, k < m → bt (s.2.1 140 k) := fun k hk => (i4 k hk).2
  -- the class's state once INPUT is taken
  have c0 : (tkC s).2.2.1 8 0 = some a := by unfold tkC; simp (decide := true) only [ob_n, b2_n, tc_rn, tc_ln, F_sF, A_sF, R_sF, L_sF, F_sA, A_sA, R_sA, L_sA, F_sR, A_sR, R_sR, L_sR, F_sL, A_sL, R_sL, L_sL, and_true, true_and, and_false, false_and, and_self, reduceIte, sF_sF, sA_sA, false_or, or_false, true_or, or_true, not_false_eq_true, not_true_eq_false, decide_true, decide_false, Bool.true_or, Bool.or_true, Bool.false_and, Bool.true_and, Bool.false_or, Bool.or_false, Bool.and_true, Bool.and_false]; exact f3
  have c8 : (tkC s).1 8 2 = Int32.ofNat pc := by unfold tkC; simp (decide := true) only [ob_n, b2_n, tc_rn, tc_ln, F_sF, A_sF, R_sF, L_sF, F_sA, A_sA, R_sA, L_sA, F_sR, A_sR, R_sR, L_sR, F_sL, A_sL, R_sL, L_sL, and_true, true_and, and_false, false_and, and_self, reduceIte, sF_sF, sA_sA, false_or, or_false, true_or, or_true, not_false_eq_true, not_true_eq_false, decide_true, decide_false, Bool.true_or, Bool.or_true, Bool.false_and, Bool.true_and, Bool.false_or, Bool.or_false, Bool.and_true, Bool.and_false]; exact f4
  have c137 : (tkC s).2.1 137 = s.2.1 137 := by unfold tkC; simp (decide := true) only [ob_n, b2_n, tc_rn, tc_ln, F_sF, A_sF, R_sF, L_sF, F_sA, A_sA, R_sA, L_sA, F_sR, A_sR, R_sR, L_sR, F_sL, A_sL, R_sL, L_sL, and_true, true_and, and_false, false_and, and_self, reduceIte, sF_sF, sA_sA, false_or, or_false, true_or, or_true, not_false_eq_true, not_true_eq_false, decide_true, decide_false, Bool.true_or, Bool.or_true, Bool.false_and, Bool.true_and, Bool.false_or, Bool.or_false, Bool.and_true, Bool.and_false]
  have c113 : (tkC s).2.1 113 = s.2.1 113 := by unfold tkC; simp (decide := true) only [ob_n, b2_n, tc_rn, tc_ln, F_sF, A_sF, R_sF, L_sF, F_sA, A_sA, R_sA, L_sA, F_sR, A_sR, R_sR, L_sR, F_sL, A_sL, R_sL, L_sL, and_true, true_and, and_false, false_and, and_self, reduceIte, sF_sF, sA_sA, false_or, or_false, true_or, or_true, not_false_eq_true, not_true_eq_false, decide_true, decide_false, Bool.true_or, Bool.or_true, Bool.false_and, Bool.true_and, Bool.false_or, Bool.or_false, Bool.and_true, Bool.and_false]
  have nn := needNumber11 (s := tkC s) hg c0 f9 ta1 ta2
  obtain ⟨sw, sh, -, sob⟩ := stW (s := tkC s) f9
  -- the reference from a state of the class
  have ref : ∀ (S : e_S) (G : ps_G), (∀ j, j = 140 ∨ j = 180 → S.2.1 j = s.2.1 j) → (∀ j, j = 2 ∨ j = 13 ∨ j = 14 → S.1 139 j = s.1 139 j) → _ := fun S G a1 a2 => raw12p (S := S) (g := G) (w := w) (h := h) (m := m) d1 d2 d4 (by rw [a2 13 (by omega)]; exact d5) (by rw [a2 14 (by omega)]; exact d6) i1 (by rw [a2 2 (by omega)]; exact i3) (by rw [a1 140 (by omega)]; exact hI) (by rw [a1 180 (by omega)]; exact hD)
  have j168 : ∀ (Y : e_S) (G : ps_G), Y.2.1 142 = s.2.1 142 → n = 30 → jX12_raw_168 (e_g Y G) 139 (Int32.ofNat (w * h)) = some (0, e_g (sF (sF (sF Y 139 0 1) 139 4 0) 139 5 0) G) := fun Y G e q => by
    have fu := full12 (s := Y) (g := G) ta1 (by rw [e]; exact ta2)
    rw [if_pos q] at fu
    unfold jX12_raw_168
    rw [ob139, ob_n, fu, b2_n, if_neg (by decide)]
  have j168f : ∀ (Y : e_S) (G : ps_G) e, Y.2.1 142 = s.2.1 142 → ¬ n = 30 → Y.1 139 4 = e → ¬ e ≤ 0 → jX12_raw_168 (e_g Y G) 139 (Int32.ofNat (w * h)) = some (0, e_g (sF (sF Y 139 0 0) 139 0 2) G) := fun Y G e ea q e4 e0 => by
    have fu := full12 (s := Y) (g := G) ta1 (by rw [ea]; exact ta2)
    rw [if_neg q] at fu
    have f4 : (sF Y 139 0 0).1 139 4 = e := by simp (decide := true) only [ob_n, b2_n, tc_rn, tc_ln, F_sF, A_sF, R_sF, L_sF, F_sA, A_sA, R_sA, L_sA, F_sR, A_sR, R_sR, L_sR, F_sL, A_sL, R_sL, L_sL, and_true, true_and, and_false, false_and, and_self, reduceIte, sF_sF, sA_sA, false_or, or_false, true_or, or_true, not_false_eq_true, not_true_eq_false, decide_true, decide_false, Bool.true_or, Bool.or_true, Bool.false_and, Bool.true_and, Bool.false_or, Bool.or_false, Bool.and_true, Bool.and_false]; exact e4
    unfold jX12_raw_168
    rw [ob139, ob_n, fu, b2_n, if_pos rfl, f139_4, f4, ob_n, if_neg e0, w139_0, ob_n]
  by_cases q30 : n = 30
  · rw [if_pos q30] at nn
    obtain ⟨F, rr⟩ := ref (tkC s) (nx g) (fun j hj => by unfold tkC; simp (decide := true) only [ob_n, b2_n, tc_rn, tc_ln, F_sF, A_sF, R_sF, L_sF, F_sA, A_sA, R_sA, L_sA, F_sR, A_sR, R_sR, L_sR, F_sL, A_sL, R_sL, L_sL, and_true, true_and, and_false, false_and, and_self, reduceIte, sF_sF, sA_sA, false_or, or_false, true_or, or_true, not_false_eq_true, not_true_eq_false, decide_true, decide_false, Bool.true_or, Bool.or_true, Bool.false_and, Bool.true_and, Bool.false_or, Bool.or_false, Bool.and_true, Bool.and_false]) (fun j hj => by unfold tkC; simp (decide := true) only [ob_n, b2_n, tc_rn, tc_ln, F_sF, A_sF, R_sF, L_sF, F_sA, A_sA, R_sA, L_sA, F_sR, A_sR, R_sR, L_sR, F_sL, A_sL, R_sL, L_sL, and_true, true_and, and_false, false_and, and_self, reduceIte, sF_sF, sA_sA, false_or, or_false, true_or, or_true, not_false_eq_true, not_true_eq_false, decide_true, decide_false, Bool.true_or, Bool.or_true, Bool.false_and, Bool.true_and, Bool.false_or, Bool.or_false, Bool.and_true, Bool.and_false])
    obtain ⟨Y, y1, y2, y3, y4, y5⟩ : ∃ Y, fX12_raw (e_g (tkC s) (nx g)) 139 = jX12_raw_168 (e_g Y (nx g)) 139 (Int32.ofNat (w * h)) ∧ SmI s Y ∧ Y.1 8 14 = 0 ∧ Y.1 139 2 = 0 ∧ Y.1 8 15 = 0 ∧ Y.1 8 16 = 0 := by
      rcases rr with ⟨r1, r2, r3, r4⟩ | ⟨e, p, r1, r2, r3⟩
      · refine ⟨_, r4, smI_A (smI_F (smI_F (smI_F (smI_F (smI_F (smI_F (smI_F smI_rf (by decide)) (by decide)) (by decide)) (by decide)) (by decide)) (by decide)) (by decide)) (by decide), ?_, ?_, ?_, ?_⟩ <;> unfold tkM tkC <;> simp (decide := true) only [ob_n, b2_n, tc_rn, tc_ln, F_sF, A_sF, R_sF, L_sF, F_sA, A_sA, R_sA, L_sA, F_sR, A_sR, R_sR, L_sR, F_sL, A_sL, R_sL, L_sL, and_true, true_and, and_false, false_and, and_self, reduceIte, sF_sF, sA_sA, false_or, or_false, true_or, or_true, not_false_eq_true, not_true_eq_false, decide_true, decide_false, Bool.true_or, Bool.or_true, Bool.false_and, Bool.true_and, Bool.false_or, Bool.or_false, Bool.and_true, Bool.and_false]
      · refine ⟨_, r2, smI_A (smI_F (smI_F (smI_F (smI_F (smI_F (smI_F (smI_F (smI_F (smI_F smI_rf (by decide)) (by decide)) (by decide)) (by decide)) (by decide)) (by decide)) (by decide)) (by decide)) (by decide)) (by decide), ?_, ?_, ?_, ?_⟩ <;> unfold tkM tkC <;> simp (decide := true) only [ob_n, b2_n, tc_rn, tc_ln, F_sF, A_sF, R_sF, L_sF, F_sA, A_sA, R_sA, L_sA, F_sR, A_sR, R_sR, L_sR, F_sL, A_sL, R_sL, L_sL, and_true, true_and, and_false, false_and, and_self, reduceIte, sF_sF, sA_sA, false_or, or_false, true_or, or_true, not_false_eq_true, not_true_eq_false, decide_true, decide_false, Bool.true_or, Bool.or_true, Bool.false_and, Bool.true_and, Bool.false_or, Bool.or_false, Bool.and_true, Bool.and_false]
    refine KI_l (E := "java/lang/IndexOutOfBoundsException") (y := 1) (s := s) (s1 := tkC s) (g1 := nx g) ?_ (by decide +kernel) (by decide) (y1.trans (j168 Y (nx g) (y2.1 142 (by decide)) q30)) (by simp (decide := true) only [ob_n, b2_n, tc_rn, tc_ln, F_sF, A_sF, R_sF, L_sF, F_sA, A_sA, R_sA, L_sA, F_sR, A_sR, R_sR, L_sR, F_sL, A_sL, R_sL, L_sL, and_true, true_and, and_false, false_and, and_self, reduceIte, sF_sF, sA_sA, false_or, or_false, true_or, or_true, not_false_eq_true, not_true_eq_false, decide_true, decide_false, Bool.true_or, Bool.or_true, Bool.false_and, Bool.true_and, Bool.false_or, Bool.or_false, Bool.and_true, Bool.and_false]) (rel_fl hR (smI_F (smI_F (smI_F y2 (by decide)) (by decide)) (by decide)) ?_ ?_ ?_ ?_) ext_nx
    · unfold fX11_raw
      rw [ob8, ob_n, takeInput11, b2_n, ob8, ob_n, nn, tc_ln]
    · simp (decide := true) only [ob_n, b2_n, tc_rn, tc_ln, F_sF, A_sF, R_sF, L_sF, F_sA, A_sA, R_sA, L_sA, F_sR, A_sR, R_sR, L_sR, F_sL, A_sL, R_sL, L_sL, and_true, true_and, and_false, false_and, and_self, reduceIte, sF_sF, sA_sA, false_or, or_false, true_or, or_true, not_false_eq_true, not_true_eq_false, decide_true, decide_false, Bool.true_or, Bool.or_true, Bool.false_and, Bool.true_and, Bool.false_or, Bool.or_false, Bool.and_true, Bool.and_false]; exact y3
    · simp (decide := true) only [ob_n, b2_n, tc_rn, tc_ln, F_sF, A_sF, R_sF, L_sF, F_sA, A_sA, R_sA, L_sA, F_sR, A_sR, R_sR, L_sR, F_sL, A_sL, R_sL, L_sL, and_true, true_and, and_false, false_and, and_self, reduceIte, sF_sF, sA_sA, false_or, or_false, true_or, or_true, not_false_eq_true, not_true_eq_false, decide_true, decide_false, Bool.true_or, Bool.or_true, Bool.false_and, Bool.true_and, Bool.false_or, Bool.or_false, Bool.and_true, Bool.and_false]; exact y4
    · simp (decide := true) only [ob_n, b2_n, tc_rn, tc_ln, F_sF, A_sF, R_sF, L_sF, F_sA, A_sA, R_sA, L_sA, F_sR, A_sR, R_sR, L_sR, F_sL, A_sL, R_sL, L_sL, and_true, true_and, and_false, false_and, and_self, reduceIte, sF_sF, sA_sA, false_or, or_false, true_or, or_true, not_false_eq_true, not_true_eq_false, decide_true, decide_false, Bool.true_or, Bool.or_true, Bool.false_and, Bool.true_and, Bool.false_or, Bool.or_false, Bool.and_true, Bool.and_false]; exact y5.1
    · simp (decide := true) only [ob_n, b2_n, tc_rn, tc_ln, F_sF, A_sF, R_sF, L_sF, F_sA, A_sA, R_sA, L_sA, F_sR, A_sR, R_sR, L_sR, F_sL, A_sL, R_sL, L_sL, and_true, true_and, and_false, false_and, and_self, reduceIte, sF_sF, sA_sA, false_or, or_false, true_or, or_true, not_false_eq_true, not_true_eq_false, decide_true, decide_false, Bool.true_or, Bool.or_true, Bool.false_and, Bool.true_and, Bool.false_or, Bool.or_false, Bool.and_true, Bool.and_false]; exact y5.2
  · rw [if_neg q30] at nn
    have pre : fX11_raw (e_g s g) 8 = if Int32.ofNat m = Int32.ofNat (2 * w * h) then jX11_raw_40 (e_g (tkC s) g) 8 (Int32.ofNat w) (Int32.ofNat h) else some (.inl "java/lang/UnsupportedOperationException", e_g (sF (sF (tkC s) 8 15 1) 8 16 (Int32.ofNat m)) (nx g)) := by
      have e2 : (2 : Int32) * Int32.ofNat w * Int32.ofNat h = Int32.ofNat (2 * w * h) := by
        rw [show (2 : Int32) = Int32.ofNat 2 from rfl, n_mul, n_mul]
      unfold fX11_raw
      rw [ob8, ob_n, takeInput11, b2_n, ob8, ob_n, nn, tc_rn, f8_0, c0, ob_n, ob_n, sw, ob_n, ob_n, ob_n, sh, ob_n, i2, e2]
      by_cases q : Int32.ofNat m = Int32.ofNat (2 * w * h)
      · rw [if_pos q, if_pos q]
      · rw [if_neg q, if_neg q, ob8, ob_n, failInput11 hg, tc_ln]
    have a2 : 2 * w * h = 2 * (w * h) := Nat.mul_assoc _ _ _
    have fvE : m = 2 * (w * h) → ∀ k, k < w * h → fvI (s.2.1 137) k = fvI (s.2.1 140) k := fun e k hk => by
      unfold fvI
      rw [(i4 (2 * k) (by omega)).1, (i4 (2 * k + 1) (by omega)).1]
    by_cases qm : m = 2 * (w * h)
    · rw [if_pos (by rw [qm, a2])] at pre
      rcases fr_first (P := fun k => fvI (s.2.1 137) k ≤ 4095) (fun k => Decidable.em _) (w * h) with z | ⟨k0, z1, z2, z3⟩
      · have fr := frame3 (s := tkC s) (g := g) (n := w * h) d1 d2 d4 (Nat.le_refl _) (by rw [c137]; exact z) (Or.inl rfl)
        rw [if_pos rfl, c137, c113] at fr
        generalize hF : cpT ((tkC s).2.1 121) (frV (s.2.1 137) (s.2.1 113) w) 0 (w * h) = F at fr
        have Fk : ∀ k, k < w * h → F k = frV (s.2.1 137) (s.2.1 113) w k := fun k hk => by
          have := cpT_in (A := (tkC s).2.1 121) (N := frV (s.2.1 137) (s.2.1 113) w) (b := 0) hk
          rw [Nat.zero_add, hF] at this
          exact this
        have uf := unfold3 (s := sA (tkC s) 121 F) (f0 := cI (fun _ => 0) 0) hg d2 d4
        rw [A_sA, if_pos rfl] at uf
        -- the reference's frame
        have frE : ∀ k, k < w * h → frV (s.2.1 137) (s.2.1 113) w k = frV (s.2.1 140) (s.2.1 180) w k := fun k hk => by
          unfold frV
          rw [fvE qm k hk, (g5b 0 (by omega)).1, (g5b (1 + fpN (k % w) (k / w)) (by have := fpN_l (x := k % w) (y := k / w); omega)).1]
        have pxE : ∀ F' : Nat → Int32, (∀ k, k < w * h → F' k = frV (s.2.1 140) (s.2.1 180) w k) → ∀ k, k < w * h → rawPx F w h k = rawPx F' w h k := fun F' e k hk => by
          have mo := Nat.mod_lt k (show 0 < w by omega)
          have dv : k / w < h := Nat.div_lt_of_lt_mul (by omega)
          have ee : ∀ k, k < w * h → F k = F' k := fun k hk => by rw [Fk k hk, frE k hk, e k hk]
          unfold rawPx
          rw [rwV_v mo dv ee, rwV_v mo dv ee, rwV_v mo dv ee]
        have eS : tkM (sA (tkC s) 121 F) = sA (tkM (tkC s)) 121 F := rfl
        have R2 : Rel (tkM (sA (tkC s) 121 F)) g := by
          rw [eS]
          exact rel_sm (rel_tk hR) (sm_A sm_rf (by decide))
        have v142 : (tkM (sA (tkC s) 121 F)).2.1 142 = s.2.1 142 := by unfold tkM tkC; simp (decide := true) only [ob_n, b2_n, tc_rn, tc_ln, F_sF, A_sF, R_sF, L_sF, F_sA, A_sA, R_sA, L_sA, F_sR, A_sR, R_sR, L_sR, F_sL, A_sL, R_sL, L_sL, and_true, true_and, and_false, false_and, and_self, reduceIte, sF_sF, sA_sA, false_or, or_false, true_or, or_true, not_false_eq_true, not_true_eq_false, decide_true, decide_false, Bool.true_or, Bool.or_true, Bool.false_and, Bool.true_and, Bool.false_or, Bool.or_false, Bool.and_true, Bool.and_false]
        have v143 : (tkM (sA (tkC s) 121 F)).2.1 143 = s.2.1 143 := by unfold tkM tkC; simp (decide := true) only [ob_n, b2_n, tc_rn, tc_ln, F_sF, A_sF, R_sF, L_sF, F_sA, A_sA, R_sA, L_sA, F_sR, A_sR, R_sR, L_sR, F_sL, A_sL, R_sL, L_sL, and_true, true_and, and_false, false_and, and_self, reduceIte, sF_sF, sA_sA, false_or, or_false, true_or, or_true, not_false_eq_true, not_true_eq_false, decide_true, decide_false, Bool.true_or, Bool.or_true, Bool.false_and, Bool.true_and, Bool.false_or, Bool.or_false, Bool.and_true, Bool.and_false]
        have v12 : (tkM (sA (tkC s) 121 F)).2.2.1 = s.2.2.1 := by unfold tkM tkC; simp (decide := true) only [ob_n, b2_n, tc_rn, tc_ln, F_sF, A_sF, R_sF, L_sF, F_sA, A_sA, R_sA, L_sA, F_sR, A_sR, R_sR, L_sR, F_sL, A_sL, R_sL, L_sL, and_true, true_and, and_false, false_and, and_self, reduceIte, sF_sF, sA_sA, false_or, or_false, true_or, or_true, not_false_eq_true, not_true_eq_false, decide_true, decide_false, Bool.true_or, Bool.or_true, Bool.false_and, Bool.true_and, Bool.false_or, Bool.or_false, Bool.and_true, Bool.and_false]
        have h7' : G7 (tkM (sA (tkC s) 121 F)) w h := by
          unfold G7 at h7 ⊢
          unfold tkM tkC
          simp (decide := true) only [ob_n, b2_n, tc_rn, tc_ln, F_sF, A_sF, R_sF, L_sF, F_sA, A_sA, R_sA, L_sA, F_sR, A_sR, R_sR, L_sR, F_sL, A_sL, R_sL, L_sL, and_true, true_and, and_false, false_and, and_self, reduceIte, sF_sF, sA_sA, false_or, or_false, true_or, or_true, not_false_eq_true, not_true_eq_false, decide_true, decide_false, Bool.true_or, Bool.or_true, Bool.false_and, Bool.true_and, Bool.false_or, Bool.or_false, Bool.and_true, Bool.and_false]
          exact h7
        have f10' : ∀ k, k < 35071 → (tkM (sA (tkC s) 121 F)).2.1 143 (35071 * ((st + pc) % 25) + k) = (tkM (sA (tkC s) 121 F)).2.1 142 k := by rw [v142, v143]; exact f10
        have f11' : ∀ i, i < pc → ∃ b, (tkM (sA (tkC s) 121 F)).2.2.1 12 i = some b ∧ StN g b w h (kp ((tkM (sA (tkC s) 121 F)).2.1 143) st i) := by rw [v143, v12]; exact f11
        have f9' : StN g a w h ((tkM (sA (tkC s) 121 F)).2.1 142) := by rw [v142]; exact f9
        have k0 : (sA (tkC s) 121 F).2.2.1 8 0 = some a := by rw [R_sA]; exact c0
        have k1 : (sA (tkC s) 121 F).1 8 2 = Int32.ofNat pc := by rw [F_sA]; exact c8
        have k2 : (sA (tkC s) 121 F).2.2.1 12 = s.2.2.1 12 := by unfold tkC; simp (decide := true) only [ob_n, b2_n, tc_rn, tc_ln, F_sF, A_sF, R_sF, L_sF, F_sA, A_sA, R_sA, L_sA, F_sR, A_sR, R_sR, L_sR, F_sL, A_sL, R_sL, L_sL, and_true, true_and, and_false, false_and, and_self, reduceIte, sF_sF, sA_sA, false_or, or_false, true_or, or_true, not_false_eq_true, not_true_eq_false, decide_true, decide_false, Bool.true_or, Bool.or_true, Bool.false_and, Bool.true_and, Bool.false_or, Bool.or_false, Bool.and_true, Bool.and_false]
        have nA := nA_mk (s := sA (tkC s) 121 F) hg
        have hEA := ext_mkA (g := g) (f := cpT (cI (fun _ => 0) 0) (rawPx F w h) 0 (h * w))
        obtain ⟨b, g2, ap, hE, hSt⟩ := addPx (s := sA (tkC s) 121 F) (G := mkA g (cpT (cI (fun _ => 0) 0) (rawPx F w h) 0 (h * w))) (va := g.1) (N' := cpT (nlN (s.2.1 142) 0 (-1) (Int32.ofNat (cnt (chL (s.2.1 142) (-1)) 30)) n) (rawPx F w h) (1169 * n + 17) (w * h)) hwh hg hEA ⟨show g.1 + 1 + 5 ≤ g.1 + 100 by omega, show g.2.1 + 576 + 659 ≤ g.2.1 + 10000 by omega⟩ k0 k1 (show pc ≤ 24 by omega) (fun i hi => (f11 i hi).imp fun b hb => ⟨_, by rw [k2]; exact hb.1, hb.2⟩) f9 (show n < 30 by omega) ta2 hg (show g.1 < g.1 + 1 by omega) nw_at (fun k hk => cpT_out (by omega)) (fun k hk => by
          have c1 := cpT_in (A := cI (fun _ => 0) 0) (N := rawPx F w h) (b := 0) (n := h * w) (k := k) (by rw [Nat.mul_comm]; exact hk)
          rw [Nat.zero_add] at c1
          rw [c1, ← Nat.add_assoc]
          exact (cpT_in hk).symm)
        obtain ⟨F', rr⟩ := ref (pO (fgC (rmC (sA (tkC s) 121 F) a b pc)) (Int32.toInt64 (Int32.ofNat n))) g2 (fun j hj => by rcases hj with rfl | rfl <;> (unfold pO fgC rmC tkC; simp (decide := true) only [ob_n, b2_n, tc_rn, tc_ln, F_sF, A_sF, R_sF, L_sF, F_sA, A_sA, R_sA, L_sA, F_sR, A_sR, R_sR, L_sR, F_sL, A_sL, R_sL, L_sL, and_true, true_and, and_false, false_and, and_self, reduceIte, sF_sF, sA_sA, false_or, or_false, true_or, or_true, not_false_eq_true, not_true_eq_false, decide_true, decide_false, Bool.true_or, Bool.or_true, Bool.false_and, Bool.true_and, Bool.false_or, Bool.or_false, Bool.and_true, Bool.and_false, A_sRr])) (fun j hj => by unfold pO fgC rmC tkC; simp (decide := true) only [ob_n, b2_n, tc_rn, tc_ln, F_sF, A_sF, R_sF, L_sF, F_sA, A_sA, R_sA, L_sA, F_sR, A_sR, R_sR, L_sR, F_sL, A_sL, R_sL, L_sL, and_true, true_and, and_false, false_and, and_self, reduceIte, sF_sF, sA_sA, false_or, or_false, true_or, or_true, not_false_eq_true, not_true_eq_false, decide_true, decide_false, Bool.true_or, Bool.or_true, Bool.false_and, Bool.true_and, Bool.false_or, Bool.or_false, Bool.and_true, Bool.and_false, F_sRr])
        have S140 : (pO (fgC (rmC (sA (tkC s) 121 F) a b pc)) (Int32.toInt64 (Int32.ofNat n))).2.1 140 = s.2.1 140 := by unfold pO fgC rmC tkC; simp (decide := true) only [ob_n, b2_n, tc_rn, tc_ln, F_sF, A_sF, R_sF, L_sF, F_sA, A_sA, R_sA, L_sA, F_sR, A_sR, R_sR, L_sR, F_sL, A_sL, R_sL, L_sL, and_true, true_and, and_false, false_and, and_self, reduceIte, sF_sF, sA_sA, false_or, or_false, true_or, or_true, not_false_eq_true, not_true_eq_false, decide_true, decide_false, Bool.true_or, Bool.or_true, Bool.false_and, Bool.true_and, Bool.false_or, Bool.or_false, Bool.and_true, Bool.and_false, A_sRr]
        have S180 : (pO (fgC (rmC (sA (tkC s) 121 F) a b pc)) (Int32.toInt64 (Int32.ofNat n))).2.1 180 = s.2.1 180 := by unfold pO fgC rmC tkC; simp (decide := true) only [ob_n, b2_n, tc_rn, tc_ln, F_sF, A_sF, R_sF, L_sF, F_sA, A_sA, R_sA, L_sA, F_sR, A_sR, R_sR, L_sR, F_sL, A_sL, R_sL, L_sL, and_true, true_and, and_false, false_and, and_self, reduceIte, sF_sF, sA_sA, false_or, or_false, true_or, or_true, not_false_eq_true, not_true_eq_false, decide_true, decide_false, Bool.true_or, Bool.or_true, Bool.false_and, Bool.true_and, Bool.false_or, Bool.or_false, Bool.and_true, Bool.and_false, A_sRr]
        rw [S140, S180] at rr
        rcases rr with ⟨r1, r2, r3, r4⟩ | ⟨e, p, r1, r2, r3⟩
        · rw [tkM_rm] at r4
          have cE : cpT (nlN (s.2.1 142) 0 (-1) (Int32.ofNat (cnt (chL (s.2.1 142) (-1)) 30)) n) (rawPx F' w h) (1169 * n + 17) (w * h) = cpT (nlN (s.2.1 142) 0 (-1) (Int32.ofNat (cnt (chL (s.2.1 142) (-1)) 30)) n) (rawPx F w h) (1169 * n + 17) (w * h) := by
            funext k
            by_cases q : 1169 * n + 17 ≤ k ∧ k < 1169 * n + 17 + w * h
            · obtain ⟨i, rfl⟩ := Nat.le.dest q.1
              rw [cpT_in (by omega), cpT_in (by omega)]
              exact (pxE F' r3 i (by omega)).symm
            · rw [cpT_out (by omega), cpT_out (by omega)]
          generalize hW : tkM (sA (tkC s) 121 F) = W at r4 R2 v142 v143 v12 h7' f10' f11' f9'
          have y142 : (sF (sA (pO (fgC (rmC W a b pc)) (Int32.toInt64 (Int32.ofNat n))) 181 F') 139 0 0).2.1 142 = s.2.1 142 := by unfold pO fgC rmC; simp (decide := true) only [ob_n, b2_n, tc_rn, tc_ln, F_sF, A_sF, R_sF, L_sF, F_sA, A_sA, R_sA, L_sA, F_sR, A_sR, R_sR, L_sR, F_sL, A_sL, R_sL, L_sL, and_true, true_and, and_false, false_and, and_self, reduceIte, sF_sF, sA_sA, false_or, or_false, true_or, or_true, not_false_eq_true, not_true_eq_false, decide_true, decide_false, Bool.true_or, Bool.or_true, Bool.false_and, Bool.true_and, Bool.false_or, Bool.or_false, Bool.and_true, Bool.and_false, A_sRr]; exact v142
          have y4 : (sF (sA (pO (fgC (rmC W a b pc)) (Int32.toInt64 (Int32.ofNat n))) 181 F') 139 0 0).1 139 4 = 0 := by
            unfold pO fgC rmC
            simp (decide := true) only [ob_n, b2_n, tc_rn, tc_ln, F_sF, A_sF, R_sF, L_sF, F_sA, A_sA, R_sA, L_sA, F_sR, A_sR, R_sR, L_sR, F_sL, A_sL, R_sL, L_sL, and_true, true_and, and_false, false_and, and_self, reduceIte, sF_sF, sA_sA, false_or, or_false, true_or, or_true, not_false_eq_true, not_true_eq_false, decide_true, decide_false, Bool.true_or, Bool.or_true, Bool.false_and, Bool.true_and, Bool.false_or, Bool.or_false, Bool.and_true, Bool.and_false, F_sRr]
            rw [← hW]
            unfold tkM tkC
            simp (decide := true) only [ob_n, b2_n, tc_rn, tc_ln, F_sF, A_sF, R_sF, L_sF, F_sA, A_sA, R_sA, L_sA, F_sR, A_sR, R_sR, L_sR, F_sL, A_sL, R_sL, L_sL, and_true, true_and, and_false, false_and, and_self, reduceIte, sF_sF, sA_sA, false_or, or_false, true_or, or_true, not_false_eq_true, not_true_eq_false, decide_true, decide_false, Bool.true_or, Bool.or_true, Bool.false_and, Bool.true_and, Bool.false_or, Bool.or_false, Bool.and_true, Bool.and_false]
          have yF : ∀ j, ¬ j = 0 → (sF (sA (pO (fgC (rmC W a b pc)) (Int32.toInt64 (Int32.ofNat n))) 181 F') 139 0 0).1 139 j = W.1 139 j := fun j hj => by
            unfold pO fgC rmC
            simp (decide := true) only [ob_n, b2_n, tc_rn, tc_ln, F_sF, A_sF, R_sF, L_sF, F_sA, A_sA, R_sA, L_sA, F_sR, A_sR, R_sR, L_sR, F_sL, A_sL, R_sL, L_sL, and_true, true_and, and_false, false_and, and_self, reduceIte, sF_sF, sA_sA, false_or, or_false, true_or, or_true, not_false_eq_true, not_true_eq_false, decide_true, decide_false, Bool.true_or, Bool.or_true, Bool.false_and, Bool.true_and, Bool.false_or, Bool.or_false, Bool.and_true, Bool.and_false, F_sRr, hj]
          have wF : ∀ j, ¬ j = 2 → ¬ j = 3 → ¬ j = 4 → ¬ j = 5 → W.1 139 j = s.1 139 j := fun j q2 q3 q4 q5 => by
            rw [← hW]
            unfold tkM tkC
            simp (decide := true) only [ob_n, b2_n, tc_rn, tc_ln, F_sF, A_sF, R_sF, L_sF, F_sA, A_sA, R_sA, L_sA, F_sR, A_sR, R_sR, L_sR, F_sL, A_sL, R_sL, L_sL, and_true, true_and, and_false, false_and, and_self, reduceIte, sF_sF, sA_sA, false_or, or_false, true_or, or_true, not_false_eq_true, not_true_eq_false, decide_true, decide_false, Bool.true_or, Bool.or_true, Bool.false_and, Bool.true_and, Bool.false_or, Bool.or_false, Bool.and_true, Bool.and_false, q2, q3, q4, q5]
          have fu := full12 (s := sA (pO (fgC (rmC W a b pc)) (Int32.toInt64 (Int32.ofNat n))) 181 F') (g := g2) ta1 (by rw [A_sF] at y142; rw [y142]; exact ta2)
          rw [if_neg q30] at fu
          have my := many12 (s := sF (sA (pO (fgC (rmC W a b pc)) (Int32.toInt64 (Int32.ofNat n))) 181 F') 139 0 0) (g := g2) (P := -1)
          rw [y142] at my
          have nl := newLayer12 (s := sF (sA (pO (fgC (rmC W a b pc)) (Int32.toInt64 (Int32.ofNat n))) 181 F') 139 0 0) (g := g2) (kind := 0) (P := -1) (k := Int32.ofNat (cnt (chL (s.2.1 142) (-1)) 30)) (l := n) (by omega) (by rw [y142]; exact ta2)
          rw [y142] at nl
          have rl := rawl12 (s := sA (sF (sA (pO (fgC (rmC W a b pc)) (Int32.toInt64 (Int32.ofNat n))) 181 F') 139 0 0) 142 (nlN (s.2.1 142) 0 (-1) (Int32.ofNat (cnt (chL (s.2.1 142) (-1)) 30)) n)) (g := g2) (l := n) d1 d2 d4 (by rw [F_sA, yF _ (by omega), wF _ (by omega) (by omega) (by omega) (by omega)]; exact d5) (by rw [F_sA, yF _ (by omega), wF _ (by omega) (by omega) (by omega) (by omega)]; exact d6) (by omega)
          have y181 : (sA (sF (sA (pO (fgC (rmC W a b pc)) (Int32.toInt64 (Int32.ofNat n))) 181 F') 139 0 0) 142 (nlN (s.2.1 142) 0 (-1) (Int32.ofNat (cnt (chL (s.2.1 142) (-1)) 30)) n)).2.1 181 = F' := by simp (decide := true) only [ob_n, b2_n, tc_rn, tc_ln, F_sF, A_sF, R_sF, L_sF, F_sA, A_sA, R_sA, L_sA, F_sR, A_sR, R_sR, L_sR, F_sL, A_sL, R_sL, L_sL, and_true, true_and, and_false, false_and, and_self, reduceIte, sF_sF, sA_sA, false_or, or_false, true_or, or_true, not_false_eq_true, not_true_eq_false, decide_true, decide_false, Bool.true_or, Bool.or_true, Bool.false_and, Bool.true_and, Bool.false_or, Bool.or_false, Bool.and_true, Bool.and_false]
          rw [y181, A_sA, if_pos rfl, sA_sA, cE] at rl
          have ed := edited12 (s := sA (sF (sA (pO (fgC (rmC W a b pc)) (Int32.toInt64 (Int32.ofNat n))) 181 F') 139 0 0) 142 (cpT (nlN (s.2.1 142) 0 (-1) (Int32.ofNat (cnt (chL (s.2.1 142) (-1)) 30)) n) (rawPx F w h) (1169 * n + 17) (w * h))) (g := g2) f1 (show pc ≤ 24 by omega) (by rw [F_sA, yF _ (by omega), wF _ (by omega) (by omega) (by omega) (by omega)]; exact f6) (by rw [F_sA, yF _ (by omega), wF _ (by omega) (by omega) (by omega) (by omega)]; exact f7)
          have hm : fX12_raw (e_g (pO (fgC (rmC (sA (tkC s) 121 F) a b pc)) (Int32.toInt64 (Int32.ofNat n))) g2) 139 = some (Int32.ofNat n, e_g (fg12 (edM (sA (sF (sA (pO (fgC (rmC W a b pc)) (Int32.toInt64 (Int32.ofNat n))) 181 F') 139 0 0) 142 (cpT (nlN (s.2.1 142) 0 (-1) (Int32.ofNat (cnt (chL (s.2.1 142) (-1)) 30)) n) (rawPx F w h) (1169 * n + 17) (w * h))) st pc)) g2) := by
            rw [r4]
            unfold jX12_raw_168
            rw [ob139, ob_n, fu, b2_n, if_pos rfl, f139_4, y4, ob_n, if_pos (by decide), ob139, ob_n, my, ob_n, ob_n, nl, b2_n, rl, ob_n, ob139, ob_n, ed, ob_n, ob139, ob_n, forget12, ob_n]
            rfl
          refine KI_r (s := s) (s1 := fgC (rmC (sA (tkC s) 121 F) a b pc)) (g1 := g2) (v := Int32.ofNat n) ?_ hm ?_ ?_ (rel_sm (rel_edit R2 h7' f1 f2 f9' f10' f11' hE hSt) ?_) hE
          · rw [pre]
            unfold jX11_raw_40 jX11_raw_67
            have e1' : (e_g (sA (tkC s) 121 F) g).1 = g.1 := rfl
            rw [f8_10, ob_n, ob_n, f8_13, ob_n, ob_n, ob111, ob_n, fr, b2_n, if_pos (by decide), nA, ob_n, f8_10, ob_n, ob_n, ob111, ob_n, e1', uf, ob_n, ob8, ob_n, ap, b2_n]
          · unfold fg12 edM; simp (decide := true) only [ob_n, b2_n, tc_rn, tc_ln, F_sF, A_sF, R_sF, L_sF, F_sA, A_sA, R_sA, L_sA, F_sR, A_sR, R_sR, L_sR, F_sL, A_sL, R_sL, L_sL, and_true, true_and, and_false, false_and, and_self, reduceIte, sF_sF, sA_sA, false_or, or_false, true_or, or_true, not_false_eq_true, not_true_eq_false, decide_true, decide_false, Bool.true_or, Bool.or_true, Bool.false_and, Bool.true_and, Bool.false_or, Bool.or_false, Bool.and_true, Bool.and_false]
          · subst hW
            rfl
          · unfold edS
            refine sm_fg (sm_edM (sm_A2 (sm_F (sm_A ?_ (by decide)) (by decide))))
            unfold pO
            exact sm_L sm_rf
        · exfalso
          obtain ⟨r4, r5, k1, k2, k3, k4, k5⟩ := r3.resolve_left (fun y => y.1 qm)
          exact k4 (by rw [← fvE qm k1 k2]; exact z k1 k2)
      · have fr := frame3 (s := tkC s) (g := g) (n := k0) d1 d2 d4 (by omega) (by rw [c137]; exact z3) (Or.inr (by rw [c137]; exact z2))
        rw [if_neg (by omega), c137, c113] at fr
        generalize cpT ((tkC s).2.1 121) (frV (s.2.1 137) (s.2.1 113) w) 0 k0 = F at fr
        obtain ⟨F', rr⟩ := ref (sF (sF (sA (tkC s) 121 F) 8 15 2) 8 16 (Int32.ofNat (2 * k0))) (nx g) (fun j hj => by rcases hj with rfl | rfl <;> (unfold tkC; simp (decide := true) only [ob_n, b2_n, tc_rn, tc_ln, F_sF, A_sF, R_sF, L_sF, F_sA, A_sA, R_sA, L_sA, F_sR, A_sR, R_sR, L_sR, F_sL, A_sL, R_sL, L_sL, and_true, true_and, and_false, false_and, and_self, reduceIte, sF_sF, sA_sA, false_or, or_false, true_or, or_true, not_false_eq_true, not_true_eq_false, decide_true, decide_false, Bool.true_or, Bool.or_true, Bool.false_and, Bool.true_and, Bool.false_or, Bool.or_false, Bool.and_true, Bool.and_false])) (fun j hj => by unfold tkC; simp (decide := true) only [ob_n, b2_n, tc_rn, tc_ln, F_sF, A_sF, R_sF, L_sF, F_sA, A_sA, R_sA, L_sA, F_sR, A_sR, R_sR, L_sR, F_sL, A_sL, R_sL, L_sL, and_true, true_and, and_false, false_and, and_self, reduceIte, sF_sF, sA_sA, false_or, or_false, true_or, or_true, not_false_eq_true, not_true_eq_false, decide_true, decide_false, Bool.true_or, Bool.or_true, Bool.false_and, Bool.true_and, Bool.false_or, Bool.or_false, Bool.and_true, Bool.and_false])
        have S140 : (sF (sF (sA (tkC s) 121 F) 8 15 2) 8 16 (Int32.ofNat (2 * k0))).2.1 140 = s.2.1 140 := by unfold tkC; simp (decide := true) only [ob_n, b2_n, tc_rn, tc_ln, F_sF, A_sF, R_sF, L_sF, F_sA, A_sA, R_sA, L_sA, F_sR, A_sR, R_sR, L_sR, F_sL, A_sL, R_sL, L_sL, and_true, true_and, and_false, false_and, and_self, reduceIte, sF_sF, sA_sA, false_or, or_false, true_or, or_true, not_false_eq_true, not_true_eq_false, decide_true, decide_false, Bool.true_or, Bool.or_true, Bool.false_and, Bool.true_and, Bool.false_or, Bool.or_false, Bool.and_true, Bool.and_false]
        rw [S140] at rr
        rcases rr with ⟨r1, r2, r3, r4⟩ | ⟨e, p, r1, r2, r3⟩
        · exfalso
          exact z2 (by rw [fvE qm k0 z1]; exact r2 k0 z1)
        · obtain ⟨r4, r5, k1, k2, k3, k4, k5⟩ := r3.resolve_left (fun y => y.1 qm)
          have kk : k1 = k0 := by
            rcases Nat.lt_trichotomy k1 k0 with y | y | y
            · exact absurd (by rw [← fvE qm k1 k2]; exact z3 k1 y) k4
            · exact y
            · exact absurd (by rw [fvE qm k0 z1]; exact k3 k0 y) z2
          subst kk
          subst r5
          subst k5
          refine KI_l (E := "java/lang/UnsupportedOperationException") (y := 2) (s := s) (s1 := sF (sF (sA (tkC s) 121 F) 8 15 2) 8 16 (Int32.ofNat (2 * k1))) (g1 := nx g) ?_ (by decide +kernel) (by decide) (r2.trans (j168f _ (nx g) 2 ?_ q30 ?_ (by decide))) (by simp (decide := true) only [ob_n, b2_n, tc_rn, tc_ln, F_sF, A_sF, R_sF, L_sF, F_sA, A_sA, R_sA, L_sA, F_sR, A_sR, R_sR, L_sR, F_sL, A_sL, R_sL, L_sL, and_true, true_and, and_false, false_and, and_self, reduceIte, sF_sF, sA_sA, false_or, or_false, true_or, or_true, not_false_eq_true, not_true_eq_false, decide_true, decide_false, Bool.true_or, Bool.or_true, Bool.false_and, Bool.true_and, Bool.false_or, Bool.or_false, Bool.and_true, Bool.and_false]) (rel_fl hR (smI_F (smI_F (smI_A (smI_F (smI_F (smI_F (smI_F (smI_F (smI_F (smI_F (smI_F (smI_A (smI_F (smI_F (smI_F smI_rf (by decide)) (by decide)) (by decide)) (by decide)) (by decide)) (by decide)) (by decide)) (by decide)) (by decide)) (by decide)) (by decide)) (by decide)) (by decide)) (by decide)) (by decide)) ?_ ?_ ?_ ?_) ext_nx
          · rw [pre]
            unfold jX11_raw_40
            rw [f8_10, ob_n, ob_n, f8_13, ob_n, ob_n, ob111, ob_n, fr, b2_n, if_neg (n_neg (by omega)), ob8, ob_n, failInput11 hg, tc_ln]
          · unfold tkM tkC; simp (decide := true) only [ob_n, b2_n, tc_rn, tc_ln, F_sF, A_sF, R_sF, L_sF, F_sA, A_sA, R_sA, L_sA, F_sR, A_sR, R_sR, L_sR, F_sL, A_sL, R_sL, L_sL, and_true, true_and, and_false, false_and, and_self, reduceIte, sF_sF, sA_sA, false_or, or_false, true_or, or_true, not_false_eq_true, not_true_eq_false, decide_true, decide_false, Bool.true_or, Bool.or_true, Bool.false_and, Bool.true_and, Bool.false_or, Bool.or_false, Bool.and_true, Bool.and_false]
          · unfold tkM tkC; simp (decide := true) only [ob_n, b2_n, tc_rn, tc_ln, F_sF, A_sF, R_sF, L_sF, F_sA, A_sA, R_sA, L_sA, F_sR, A_sR, R_sR, L_sR, F_sL, A_sL, R_sL, L_sL, and_true, true_and, and_false, false_and, and_self, reduceIte, sF_sF, sA_sA, false_or, or_false, true_or, or_true, not_false_eq_true, not_true_eq_false, decide_true, decide_false, Bool.true_or, Bool.or_true, Bool.false_and, Bool.true_and, Bool.false_or, Bool.or_false, Bool.and_true, Bool.and_false]
          · unfold tkM tkC; simp (decide := true) only [ob_n, b2_n, tc_rn, tc_ln, F_sF, A_sF, R_sF, L_sF, F_sA, A_sA, R_sA, L_sA, F_sR, A_sR, R_sR, L_sR, F_sL, A_sL, R_sL, L_sL, and_true, true_and, and_false, false_and, and_self, reduceIte, sF_sF, sA_sA, false_or, or_false, true_or, or_true, not_false_eq_true, not_true_eq_false, decide_true, decide_false, Bool.true_or, Bool.or_true, Bool.false_and, Bool.true_and, Bool.false_or, Bool.or_false, Bool.and_true, Bool.and_false]
          · unfold tkM tkC; simp (decide := true) only [ob_n, b2_n, tc_rn, tc_ln, F_sF, A_sF, R_sF, L_sF, F_sA, A_sA, R_sA, L_sA, F_sR, A_sR, R_sR, L_sR, F_sL, A_sL, R_sL, L_sL, and_true, true_and, and_false, false_and, and_self, reduceIte, sF_sF, sA_sA, false_or, or_false, true_or, or_true, not_false_eq_true, not_true_eq_false, decide_true, decide_false, Bool.true_or, Bool.or_true, Bool.false_and, Bool.true_and, Bool.false_or, Bool.or_false, Bool.and_true, Bool.and_false]
          · unfold tkM tkC; simp (decide := true) only [ob_n, b2_n, tc_rn, tc_ln, F_sF, A_sF, R_sF, L_sF, F_sA, A_sA, R_sA, L_sA, F_sR, A_sR, R_sR, L_sR, F_sL, A_sL, R_sL, L_sL, and_true, true_and, and_false, false_and, and_self, reduceIte, sF_sF, sA_sA, false_or, or_false, true_or, or_true, not_false_eq_true, not_true_eq_false, decide_true, decide_false, Bool.true_or, Bool.or_true, Bool.false_and, Bool.true_and, Bool.false_or, Bool.or_false, Bool.and_true, Bool.and_false]
          · unfold tkM tkC; simp (decide := true) only [ob_n, b2_n, tc_rn, tc_ln, F_sF, A_sF, R_sF, L_sF, F_sA, A_sA, R_sA, L_sA, F_sR, A_sR, R_sR, L_sR, F_sL, A_sL, R_sL, L_sL, and_true, true_and, and_false, false_and, and_self, reduceIte, sF_sF, sA_sA, false_or, or_false, true_or, or_true, not_false_eq_true, not_true_eq_false, decide_true, decide_false, Bool.true_or, Bool.or_true, Bool.false_and, Bool.true_and, Bool.false_or, Bool.or_false, Bool.and_true, Bool.and_false]
    · rw [if_neg (fun z => qm (by rw [← a2]; exact (n_eq (by omega) (by omega)).mp z))] at pre
      obtain ⟨F', rr⟩ := ref (sF (sF (tkC s) 8 15 1) 8 16 (Int32.ofNat m)) (nx g) (fun j hj => by unfold tkC; simp (decide := true) only [ob_n, b2_n, tc_rn, tc_ln, F_sF, A_sF, R_sF, L_sF, F_sA, A_sA, R_sA, L_sA, F_sR, A_sR, R_sR, L_sR, F_sL, A_sL, R_sL, L_sL, and_true, true_and, and_false, false_and, and_self, reduceIte, sF_sF, sA_sA, false_or, or_false, true_or, or_true, not_false_eq_true, not_true_eq_false, decide_true, decide_false, Bool.true_or, Bool.or_true, Bool.false_and, Bool.true_and, Bool.false_or, Bool.or_false, Bool.and_true, Bool.and_false]) (fun j hj => by unfold tkC; simp (decide := true) only [ob_n, b2_n, tc_rn, tc_ln, F_sF, A_sF, R_sF, L_sF, F_sA, A_sA, R_sA, L_sA, F_sR, A_sR, R_sR, L_sR, F_sL, A_sL, R_sL, L_sL, and_true, true_and, and_false, false_and, and_self, reduceIte, sF_sF, sA_sA, false_or, or_false, true_or, or_true, not_false_eq_true, not_true_eq_false, decide_true, decide_false, Bool.true_or, Bool.or_true, Bool.false_and, Bool.true_and, Bool.false_or, Bool.or_false, Bool.and_true, Bool.and_false])
      rcases rr with ⟨r1, r2, r3, r4⟩ | ⟨e, p, r1, r2, r3⟩
      · exact absurd r1 qm
      · obtain ⟨r4, r5, r6⟩ := r3.resolve_right (fun y => qm y.1)
        subst r5
        subst r6
        refine KI_l (E := "java/lang/UnsupportedOperationException") (y := 2) (s := s) (s1 := sF (sF (tkC s) 8 15 1) 8 16 (Int32.ofNat m)) (g1 := nx g) pre (by decide +kernel) (by decide) (r2.trans (j168f _ (nx g) 1 ?_ q30 ?_ (by decide))) (by simp (decide := true) only [ob_n, b2_n, tc_rn, tc_ln, F_sF, A_sF, R_sF, L_sF, F_sA, A_sA, R_sA, L_sA, F_sR, A_sR, R_sR, L_sR, F_sL, A_sL, R_sL, L_sL, and_true, true_and, and_false, false_and, and_self, reduceIte, sF_sF, sA_sA, false_or, or_false, true_or, or_true, not_false_eq_true, not_true_eq_false, decide_true, decide_false, Bool.true_or, Bool.or_true, Bool.false_and, Bool.true_and, Bool.false_or, Bool.or_false, Bool.and_true, Bool.and_false]) (rel_fl hR (smI_F (smI_F (smI_A (smI_F (smI_F (smI_F (smI_F (smI_F (smI_F (smI_F (smI_F (smI_F (smI_F (smI_F smI_rf (by decide)) (by decide)) (by decide)) (by decide)) (by decide)) (by decide)) (by decide)) (by decide)) (by decide)) (by decide)) (by decide)) (by decide)) (by decide)) (by decide)) ?_ ?_ ?_ ?_) ext_nx
        · unfold tkM tkC; simp (decide := true) only [ob_n, b2_n, tc_rn, tc_ln, F_sF, A_sF, R_sF, L_sF, F_sA, A_sA, R_sA, L_sA, F_sR, A_sR, R_sR, L_sR, F_sL, A_sL, R_sL, L_sL, and_true, true_and, and_false, false_and, and_self, reduceIte, sF_sF, sA_sA, false_or, or_false, true_or, or_true, not_false_eq_true, not_true_eq_false, decide_true, decide_false, Bool.true_or, Bool.or_true, Bool.false_and, Bool.true_and, Bool.false_or, Bool.or_false, Bool.and_true, Bool.and_false]
        · unfold tkM tkC; simp (decide := true) only [ob_n, b2_n, tc_rn, tc_ln, F_sF, A_sF, R_sF, L_sF, F_sA, A_sA, R_sA, L_sA, F_sR, A_sR, R_sR, L_sR, F_sL, A_sL, R_sL, L_sL, and_true, true_and, and_false, false_and, and_self, reduceIte, sF_sF, sA_sA, false_or, or_false, true_or, or_true, not_false_eq_true, not_true_eq_false, decide_true, decide_false, Bool.true_or, Bool.or_true, Bool.false_and, Bool.true_and, Bool.false_or, Bool.or_false, Bool.and_true, Bool.and_false]
        · unfold tkM tkC; simp (decide := true) only [ob_n, b2_n, tc_rn, tc_ln, F_sF, A_sF, R_sF, L_sF, F_sA, A_sA, R_sA, L_sA, F_sR, A_sR, R_sR, L_sR, F_sL, A_sL, R_sL, L_sL, and_true, true_and, and_false, false_and, and_self, reduceIte, sF_sF, sA_sA, false_or, or_false, true_or, or_true, not_false_eq_true, not_true_eq_false, decide_true, decide_false, Bool.true_or, Bool.or_true, Bool.false_and, Bool.true_and, Bool.false_or, Bool.or_false, Bool.and_true, Bool.and_false]
        · unfold tkM tkC; simp (decide := true) only [ob_n, b2_n, tc_rn, tc_ln, F_sF, A_sF, R_sF, L_sF, F_sA, A_sA, R_sA, L_sA, F_sR, A_sR, R_sR, L_sR, F_sL, A_sL, R_sL, L_sL, and_true, true_and, and_false, false_and, and_self, reduceIte, sF_sF, sA_sA, false_or, or_false, true_or, or_true, not_false_eq_true, not_true_eq_false, decide_true, decide_false, Bool.true_or, Bool.or_true, Bool.false_and, Bool.true_and, Bool.false_or, Bool.or_false, Bool.and_true, Bool.and_false]
        · unfold tkM tkC; simp (decide := true) only [ob_n, b2_n, tc_rn, tc_ln, F_sF, A_sF, R_sF, L_sF, F_sA, A_sA, R_sA, L_sA, F_sR, A_sR, R_sR, L_sR, F_sL, A_sL, R_sL, L_sL, and_true, true_and, and_false, false_and, and_self, reduceIte, sF_sF, sA_sA, false_or, or_false, true_or, or_true, not_false_eq_true, not_true_eq_false, decide_true, decide_false, Bool.true_or, Bool.or_true, Bool.false_and, Bool.true_and, Bool.false_or, Bool.or_false, Bool.and_true, Bool.and_false]
        · unfold tkM tkC; simp (decide := true) only [ob_n, b2_n, tc_rn, tc_ln, F_sF, A_sF, R_sF, L_sF, F_sA, A_sA, R_sA, L_sA, F_sR, A_sR, R_sR, L_sR, F_sL, A_sL, R_sL, L_sL, and_true, true_and, and_false, false_and, and_self, reduceIte, sF_sF, sA_sA, false_or, or_false, true_or, or_true, not_false_eq_true, not_true_eq_false, decide_true, decide_false, Bool.true_or, Bool.or_true, Bool.false_and, Bool.true_and, Bool.false_or, Bool.or_false, Bool.and_true, Bool.and_false]
