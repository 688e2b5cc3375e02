-- needs: 07 10 13 14 20 21 22 23 24 25 26 27 32 33 34 38 39 40 41
/-! ===== rows and numbers that no call shows ===== -/
def reA : List Nat := [15, 16, 17, 18, 86, 87, 88, 90, 94, 95, 96, 99, 100, 101, 102, 103, 104, 112, 113, 123, 137, 140, 141, 142, 143, 148, 149, 150, 152, 153, 154, 155, 159, 160, 161, 163, 164, 165, 166, 171, 172, 173, 180, 182, 183, 184, 185, 186]
def reF : List (Nat × Nat) := [(8, 2), (8, 4), (8, 14), (8, 15), (8, 16), (14, 4), (14, 5), (20, 5), (20, 8), (89, 0), (89, 1), (93, 0), (93, 1), (93, 2), (93, 3), (93, 4), (93, 5), (93, 6), (93, 7), (93, 8), (122, 1), (139, 2), (139, 4), (139, 5), (139, 7), (139, 10), (139, 11), (139, 12), (139, 13), (139, 14), (139, 23), (139, 25), (139, 26), (139, 34), (139, 36), (139, 37), (139, 38), (139, 39), (139, 40), (139, 41), (139, 42), (139, 43)]
def Sm (s s' : e_S) : Prop := (∀ j, j ∈ reA → s'.2.1 j = s.2.1 j) ∧ (∀ p, p ∈ reF → s'.1 p.1 p.2 = s.1 p.1 p.2) ∧ (∀ j, j = 8 ∨ j = 12 ∨ j = 13 → s'.2.2.1 j = s.2.2.1 j)
theorem sm_rf {s : e_S} : Sm s s := ⟨fun _ _ => rfl, fun _ _ => rfl, fun _ _ => rfl⟩
theorem sm_tr {s s' s'' : e_S} (h : Sm s s') (h' : Sm s' s'') : Sm s s'' := ⟨fun j hj => (h'.1 j hj).trans (h.1 j hj), fun p hp => (h'.2.1 p hp).trans (h.2.1 p hp), fun j hj => (h'.2.2 j hj).trans (h.2.2 j hj)⟩
theorem sm_A {s s' : e_S} {j : Nat} {r : Nat → Int32} (h : Sm s s') (hj : reA.contains j = false) : Sm s (sA s' j r) := by
  refine ⟨fun i hi => ?_, fun p hp => ?_, fun i hi => ?_⟩
  · rw [A_sA, if_neg]
    · exact h.1 i hi
    · intro e
      rw [e] at hi
      rw [List.contains_iff_mem.mpr hi] at hj
      cases hj
  · rw [F_sA]; exact h.2.1 p hp
  · rw [R_sA]; exact h.2.2 i hi
theorem sm_F {s s' : e_S} {j k : Nat} {v : Int32} (h : Sm s s') (hj : reF.contains (j, k) = false) : Sm s (sF s' j k v) := by
  refine ⟨fun i hi => ?_, fun p hp => ?_, fun i hi => ?_⟩
  · rw [A_sF]; exact h.1 i hi
  · rw [F_sF, if_neg]
    · exact h.2.1 p hp
    · intro e
      have : p = (j, k) := by rw [← e.1, ← e.2]
      rw [this] at hp
      rw [List.contains_iff_mem.mpr hp] at hj
      cases hj
  · rw [R_sF]; exact h.2.2 i hi
theorem sm_R {s s' : e_S} {j k : Nat} {v : Option Nat} (h : Sm s s') (hj : ¬ (j = 8 ∨ j = 12 ∨ j = 13)) : Sm s (sR s' j k v) := by
  refine ⟨fun i hi => ?_, fun p hp => ?_, fun i hi => ?_⟩
  · rw [A_sR]; exact h.1 i hi
  · rw [F_sR]; exact h.2.1 p hp
  · have e : (sR s' j k v).2.2.1 i = s'.2.2.1 i := by
      funext b
      rw [R_sR, if_neg]
      intro e
      rw [e.1] at hi
      exact hj hi
    rw [e]; exact h.2.2 i hi
theorem sm_L {s s' : e_S} {j : Nat} {r : Nat → Int64} (h : Sm s s') : Sm s (sL s' j r) := by
  refine ⟨fun i hi => ?_, fun p hp => ?_, fun i hi => ?_⟩
  · rw [A_sL]; exact h.1 i hi
  · rw [F_sL]; exact h.2.1 p hp
  · rw [R_sL]; exact h.2.2 i hi
theorem rel_sm {s s' : e_S} {g : ps_G} (h : Rel s g) (q : Sm s s') : Rel s' g := by
  obtain ⟨h1, h2, h3, h4, h5, h6, ⟨w, h, h7, h8, h9⟩, h10, h11⟩ := h
  obtain ⟨qa, qf, qr⟩ := q
  have A := fun j (hj : reA.contains j = true) => qa j (List.contains_iff_mem.mp hj)
  have F := fun j k (hj : reF.contains (j, k) = true) => qf (j, k) (List.contains_iff_mem.mp hj)
  dsimp only at F
  have r8 := qr 8 (Or.inl rfl)
  have r12 := qr 12 (Or.inr (Or.inl rfl))
  have r13 := qr 13 (Or.inr (Or.inr rfl))
  refine ⟨?_, ?_, ?_, ?_, ?_, ?_, ⟨w, h, ?_, ?_, ?_⟩, ?_, ?_⟩
  · unfold G1 at h1 ⊢
    rw [F 8 14 (by decide), F 139 2 (by decide), F 8 15 (by decide), F 139 4 (by decide), F 8 16 (by decide), F 139 5 (by decide), A 137 (by decide), A 140 (by decide)]
    exact h1
  · unfold G2 at h2 ⊢
    rw [F 93 0 (by decide), F 93 1 (by decide), F 93 2 (by decide), F 93 3 (by decide), F 93 4 (by decide), F 93 5 (by decide), F 93 6 (by decide), F 93 7 (by decide), F 93 8 (by decide), F 139 34 (by decide), F 139 36 (by decide), F 139 37 (by decide), F 139 38 (by decide), F 139 39 (by decide), F 139 40 (by decide), F 139 41 (by decide), F 139 42 (by decide), F 139 43 (by decide), A 94 (by decide), A 95 (by decide), A 96 (by decide), A 159 (by decide), A 160 (by decide), A 161 (by decide)]
    exact h2
  · unfold G3 at h3 ⊢
    rw [F 14 4 (by decide), F 14 5 (by decide), F 139 25 (by decide), F 139 26 (by decide), A 18 (by decide), A 150 (by decide)]
    exact h3
  · unfold G4 at h4 ⊢
    rw [A 15 (by decide), A 16 (by decide), A 17 (by decide), A 152 (by decide), A 153 (by decide), A 154 (by decide)]
    exact h4
  · unfold G5 at h5 ⊢
    rw [A 112 (by decide), A 113 (by decide), A 173 (by decide), A 180 (by decide)]
    exact h5
  · unfold G6 at h6 ⊢
    rw [A 99 (by decide), A 100 (by decide), A 101 (by decide), A 102 (by decide), A 103 (by decide), A 104 (by decide), A 163 (by decide), A 164 (by decide), A 165 (by decide), A 166 (by decide), A 171 (by decide), A 172 (by decide)]
    exact h6
  · unfold G7 at h7 ⊢
    rw [F 139 13 (by decide), F 139 14 (by decide), F 89 0 (by decide), F 89 1 (by decide), A 90 (by decide), A 155 (by decide)]
    exact h7
  · unfold G8 at h8 ⊢
    rw [F 20 8 (by decide), F 139 23 (by decide), F 20 5 (by decide), F 139 25 (by decide), F 139 26 (by decide), A 148 (by decide), A 88 (by decide), A 87 (by decide), A 149 (by decide), A 86 (by decide), A 142 (by decide), A 150 (by decide), A 152 (by decide), A 153 (by decide), A 154 (by decide)]
    exact h8
  · unfold G10 at h9 ⊢
    rw [F 8 2 (by decide), F 8 4 (by decide), F 139 10 (by decide), F 139 11 (by decide), F 139 12 (by decide), A 142 (by decide), A 143 (by decide), r8, r12, r13]
    exact h9
  · unfold G9 at h10 ⊢
    rw [F 122 1 (by decide), F 139 7 (by decide), A 123 (by decide), A 141 (by decide)]
    exact h10
  · unfold G11 at h11 ⊢
    rw [A 182 (by decide), A 183 (by decide), A 184 (by decide), A 185 (by decide), A 186 (by decide)]
    exact h11
/-- the clean state behind an EDIT: the class's part of it done, and the reference's -/
def edS (s : e_S) (a b st pc : Nat) (N : Nat → Int32) : e_S := fg12 (edM (sA (fgC (rmC s a b pc)) 142 N) st pc)
theorem rel_edit {s : e_S} {g g2 : ps_G} {w h a b st pc uc : Nat} {N' : Nat → Int32} (hR : Rel s g) (h7 : G7 s w h) (f1 : st < 25) (f2 : pc + uc ≤ 24) (f9 : StN g a w h (s.2.1 142)) (f10 : ∀ k, k < 35071 → s.2.1 143 (35071 * ((st + pc) % 25) + k) = s.2.1 142 k) (f11 : ∀ i, i < pc → ∃ b, s.2.2.1 12 i = some b ∧ StN g b w h (kp (s.2.1 143) st i)) (hE : Ext g g2) (hN : StN g2 b w h N') : Rel (edS s a b st pc N') g2 := by
  obtain ⟨h1, h2, h3, h4, h5, h6, ⟨w0, h0, h70, h8, -⟩, h10, h11⟩ := id hR
  have hk8 := h8.1
  have hwh := wh_le h7.2.1 h7.2.2.2.1
  have h12 := G11_ext hE h11
  unfold edS fg12 edM fgC rmC
  refine ⟨?_, ?_, ?_, ?_, ?_, ?_, ⟨w, h, ?_, G8_forget h7.2.1 h7.2.2.2.1 ?_ ?_ ?_ ?_, G10_edit hwh hE f1 f2 f9 f10 f11 (b := b) ?_ ?_ ?_ ?_ ?_ ?_ ?_ ?_ ?_⟩, ?_, ?_⟩
  · unfold G1 at h1 ⊢; simp (decide := true) only [ob_s, b2_s, tc_r, tc_l, F_sF, A_sF, R_sF, L_sF, F_sA, A_sA, R_sA, L_sA, F_sR, A_sR, R_sR, L_sR, F_sL, A_sL, R_sL, L_sL, and_true, true_and, and_false, false_and, and_self, reduceIte, sF_sF, sA_sA, false_or, or_false, true_or, or_true, not_false_eq_true, not_true_eq_false, decide_true, decide_false, Bool.true_or, Bool.or_true, Bool.false_and, Bool.true_and, Bool.false_or, Bool.or_false, Bool.and_true, Bool.and_false, F_sRr, A_sRr]; exact h1
  · unfold G2 at h2 ⊢; simp (decide := true) only [ob_s, b2_s, tc_r, tc_l, F_sF, A_sF, R_sF, L_sF, F_sA, A_sA, R_sA, L_sA, F_sR, A_sR, R_sR, L_sR, F_sL, A_sL, R_sL, L_sL, and_true, true_and, and_false, false_and, and_self, reduceIte, sF_sF, sA_sA, false_or, or_false, true_or, or_true, not_false_eq_true, not_true_eq_false, decide_true, decide_false, Bool.true_or, Bool.or_true, Bool.false_and, Bool.true_and, Bool.false_or, Bool.or_false, Bool.and_true, Bool.and_false, F_sRr, A_sRr]; exact h2
  · unfold G3 at h3 ⊢; simp (decide := true) only [ob_s, b2_s, tc_r, tc_l, F_sF, A_sF, R_sF, L_sF, F_sA, A_sA, R_sA, L_sA, F_sR, A_sR, R_sR, L_sR, F_sL, A_sL, R_sL, L_sL, and_true, true_and, and_false, false_and, and_self, reduceIte, sF_sF, sA_sA, false_or, or_false, true_or, or_true, not_false_eq_true, not_true_eq_false, decide_true, decide_false, Bool.true_or, Bool.or_true, Bool.false_and, Bool.true_and, Bool.false_or, Bool.or_false, Bool.and_true, Bool.and_false, F_sRr, A_sRr]; exact h3
  · unfold G4 at h4 ⊢; simp (decide := true) only [ob_s, b2_s, tc_r, tc_l, F_sF, A_sF, R_sF, L_sF, F_sA, A_sA, R_sA, L_sA, F_sR, A_sR, R_sR, L_sR, F_sL, A_sL, R_sL, L_sL, and_true, true_and, and_false, false_and, and_self, reduceIte, sF_sF, sA_sA, false_or, or_false, true_or, or_true, not_false_eq_true, not_true_eq_false, decide_true, decide_false, Bool.true_or, Bool.or_true, Bool.false_and, Bool.true_and, Bool.false_or, Bool.or_false, Bool.and_true, Bool.and_false, F_sRr, A_sRr]; exact h4
  · unfold G5 at h5 ⊢; simp (decide := true) only [ob_s, b2_s, tc_r, tc_l, F_sF, A_sF, R_sF, L_sF, F_sA, A_sA, R_sA, L_sA, F_sR, A_sR, R_sR, L_sR, F_sL, A_sL, R_sL, L_sL, and_true, true_and, and_false, false_and, and_self, reduceIte, sF_sF, sA_sA, false_or, or_false, true_or, or_true, not_false_eq_true, not_true_eq_false, decide_true, decide_false, Bool.true_or, Bool.or_true, Bool.false_and, Bool.true_and, Bool.false_or, Bool.or_false, Bool.and_true, Bool.and_false, F_sRr, A_sRr]; exact h5
  · unfold G6 at h6 ⊢; simp (decide := true) only [ob_s, b2_s, tc_r, tc_l, F_sF, A_sF, R_sF, L_sF, F_sA, A_sA, R_sA, L_sA, F_sR, A_sR, R_sR, L_sR, F_sL, A_sL, R_sL, L_sL, and_true, true_and, and_false, false_and, and_self, reduceIte, sF_sF, sA_sA, false_or, or_false, true_or, or_true, not_false_eq_true, not_true_eq_false, decide_true, decide_false, Bool.true_or, Bool.or_true, Bool.false_and, Bool.true_and, Bool.false_or, Bool.or_false, Bool.and_true, Bool.and_false, F_sRr, A_sRr]; exact h6
  · unfold G7 at h7 ⊢; simp (decide := true) only [ob_s, b2_s, tc_r, tc_l, F_sF, A_sF, R_sF, L_sF, F_sA, A_sA, R_sA, L_sA, F_sR, A_sR, R_sR, L_sR, F_sL, A_sL, R_sL, L_sL, and_true, true_and, and_false, false_and, and_self, reduceIte, sF_sF, sA_sA, false_or, or_false, true_or, or_true, not_false_eq_true, not_true_eq_false, decide_true, decide_false, Bool.true_or, Bool.or_true, Bool.false_and, Bool.true_and, Bool.false_or, Bool.or_false, Bool.and_true, Bool.and_false, F_sRr, A_sRr]; exact h7
  · simp (decide := true) only [ob_s, b2_s, tc_r, tc_l, F_sF, A_sF, R_sF, L_sF, F_sA, A_sA, R_sA, L_sA, F_sR, A_sR, R_sR, L_sR, F_sL, A_sL, R_sL, L_sL, and_true, true_and, and_false, false_and, and_self, reduceIte, sF_sF, sA_sA, false_or, or_false, true_or, or_true, not_false_eq_true, not_true_eq_false, decide_true, decide_false, Bool.true_or, Bool.or_true, Bool.false_and, Bool.true_and, Bool.false_or, Bool.or_false, Bool.and_true, Bool.and_false, F_sRr, A_sRr]; exact hk8
  · intro t ht; simp (decide := true) only [ob_s, b2_s, tc_r, tc_l, F_sF, A_sF, R_sF, L_sF, F_sA, A_sA, R_sA, L_sA, F_sR, A_sR, R_sR, L_sR, F_sL, A_sL, R_sL, L_sL, and_true, true_and, and_false, false_and, and_self, reduceIte, sF_sF, sA_sA, false_or, or_false, true_or, or_true, not_false_eq_true, not_true_eq_false, decide_true, decide_false, Bool.true_or, Bool.or_true, Bool.false_and, Bool.true_and, Bool.false_or, Bool.or_false, Bool.and_true, Bool.and_false, F_sRr, A_sRr]; exact fl_lt ht
  · intro t ht; simp (decide := true) only [ob_s, b2_s, tc_r, tc_l, F_sF, A_sF, R_sF, L_sF, F_sA, A_sA, R_sA, L_sA, F_sR, A_sR, R_sR, L_sR, F_sL, A_sL, R_sL, L_sL, and_true, true_and, and_false, false_and, and_self, reduceIte, sF_sF, sA_sA, false_or, or_false, true_or, or_true, not_false_eq_true, not_true_eq_false, decide_true, decide_false, Bool.true_or, Bool.or_true, Bool.false_and, Bool.true_and, Bool.false_or, Bool.or_false, Bool.and_true, Bool.and_false, F_sRr, A_sRr]; exact fl_lt ht
  · simp (decide := true) only [ob_s, b2_s, tc_r, tc_l, F_sF, A_sF, R_sF, L_sF, F_sA, A_sA, R_sA, L_sA, F_sR, A_sR, R_sR, L_sR, F_sL, A_sL, R_sL, L_sL, and_true, true_and, and_false, false_and, and_self, reduceIte, sF_sF, sA_sA, false_or, or_false, true_or, or_true, not_false_eq_true, not_true_eq_false, decide_true, decide_false, Bool.true_or, Bool.or_true, Bool.false_and, Bool.true_and, Bool.false_or, Bool.or_false, Bool.and_true, Bool.and_false, F_sRr, A_sRr]
  · simp (decide := true) only [ob_s, b2_s, tc_r, tc_l, F_sF, A_sF, R_sF, L_sF, F_sA, A_sA, R_sA, L_sA, F_sR, A_sR, R_sR, L_sR, F_sL, A_sL, R_sL, L_sL, and_true, true_and, and_false, false_and, and_self, reduceIte, sF_sF, sA_sA, false_or, or_false, true_or, or_true, not_false_eq_true, not_true_eq_false, decide_true, decide_false, Bool.true_or, Bool.or_true, Bool.false_and, Bool.true_and, Bool.false_or, Bool.or_false, Bool.and_true, Bool.and_false, F_sRr, A_sRr]; exact hN
  · simp (decide := true) only [ob_s, b2_s, tc_r, tc_l, F_sF, A_sF, R_sF, L_sF, F_sA, A_sA, R_sA, L_sA, F_sR, A_sR, R_sR, L_sR, F_sL, A_sL, R_sL, L_sL, and_true, true_and, and_false, false_and, and_self, reduceIte, sF_sF, sA_sA, false_or, or_false, true_or, or_true, not_false_eq_true, not_true_eq_false, decide_true, decide_false, Bool.true_or, Bool.or_true, Bool.false_and, Bool.true_and, Bool.false_or, Bool.or_false, Bool.and_true, Bool.and_false, R_sRr]
  · funext i; simp (decide := true) only [ob_s, b2_s, tc_r, tc_l, F_sF, A_sF, R_sF, L_sF, F_sA, A_sA, R_sA, L_sA, F_sR, A_sR, R_sR, L_sR, F_sL, A_sL, R_sL, L_sL, and_true, true_and, and_false, false_and, and_self, reduceIte, sF_sF, sA_sA, false_or, or_false, true_or, or_true, not_false_eq_true, not_true_eq_false, decide_true, decide_false, Bool.true_or, Bool.or_true, Bool.false_and, Bool.true_and, Bool.false_or, Bool.or_false, Bool.and_true, Bool.and_false, R_sRr]
  · simp (decide := true) only [ob_s, b2_s, tc_r, tc_l, F_sF, A_sF, R_sF, L_sF, F_sA, A_sA, R_sA, L_sA, F_sR, A_sR, R_sR, L_sR, F_sL, A_sL, R_sL, L_sL, and_true, true_and, and_false, false_and, and_self, reduceIte, sF_sF, sA_sA, false_or, or_false, true_or, or_true, not_false_eq_true, not_true_eq_false, decide_true, decide_false, Bool.true_or, Bool.or_true, Bool.false_and, Bool.true_and, Bool.false_or, Bool.or_false, Bool.and_true, Bool.and_false, F_sRr]
  · simp (decide := true) only [ob_s, b2_s, tc_r, tc_l, F_sF, A_sF, R_sF, L_sF, F_sA, A_sA, R_sA, L_sA, F_sR, A_sR, R_sR, L_sR, F_sL, A_sL, R_sL, L_sL, and_true, true_and, and_false, false_and, and_self, reduceIte, sF_sF, sA_sA, false_or, or_false, true_or, or_true, not_false_eq_true, not_true_eq_false, decide_true, decide_false, Bool.true_or, Bool.or_true, Bool.false_and, Bool.true_and, Bool.false_or, Bool.or_false, Bool.and_true, Bool.and_false, F_sRr]
  · simp (decide := true) only [ob_s, b2_s, tc_r, tc_l, F_sF, A_sF, R_sF, L_sF, F_sA, A_sA, R_sA, L_sA, F_sR, A_sR, R_sR, L_sR, F_sL, A_sL, R_sL, L_sL, and_true, true_and, and_false, false_and, and_self, reduceIte, sF_sF, sA_sA, false_or, or_false, true_or, or_true, not_false_eq_true, not_true_eq_false, decide_true, decide_false, Bool.true_or, Bool.or_true, Bool.false_and, Bool.true_and, Bool.false_or, Bool.or_false, Bool.and_true, Bool.and_false, F_sRr]
  · simp (decide := true) only [ob_s, b2_s, tc_r, tc_l, F_sF, A_sF, R_sF, L_sF, F_sA, A_sA, R_sA, L_sA, F_sR, A_sR, R_sR, L_sR, F_sL, A_sL, R_sL, L_sL, and_true, true_and, and_false, false_and, and_self, reduceIte, sF_sF, sA_sA, false_or, or_false, true_or, or_true, not_false_eq_true, not_true_eq_false, decide_true, decide_false, Bool.true_or, Bool.or_true, Bool.false_and, Bool.true_and, Bool.false_or, Bool.or_false, Bool.and_true, Bool.and_false, F_sRr]
  · simp (decide := true) only [ob_s, b2_s, tc_r, tc_l, F_sF, A_sF, R_sF, L_sF, F_sA, A_sA, R_sA, L_sA, F_sR, A_sR, R_sR, L_sR, F_sL, A_sL, R_sL, L_sL, and_true, true_and, and_false, false_and, and_self, reduceIte, sF_sF, sA_sA, false_or, or_false, true_or, or_true, not_false_eq_true, not_true_eq_false, decide_true, decide_false, Bool.true_or, Bool.or_true, Bool.false_and, Bool.true_and, Bool.false_or, Bool.or_false, Bool.and_true, Bool.and_false, F_sRr]
  · simp (decide := true) only [ob_s, b2_s, tc_r, tc_l, F_sF, A_sF, R_sF, L_sF, F_sA, A_sA, R_sA, L_sA, F_sR, A_sR, R_sR, L_sR, F_sL, A_sL, R_sL, L_sL, and_true, true_and, and_false, false_and, and_self, reduceIte, sF_sF, sA_sA, false_or, or_false, true_or, or_true, not_false_eq_true, not_true_eq_false, decide_true, decide_false, Bool.true_or, Bool.or_true, Bool.false_and, Bool.true_and, Bool.false_or, Bool.or_false, Bool.and_true, Bool.and_false, A_sRr]
  · unfold G9 at h10 ⊢; simp (decide := true) only [ob_s, b2_s, tc_r, tc_l, F_sF, A_sF, R_sF, L_sF, F_sA, A_sA, R_sA, L_sA, F_sR, A_sR, R_sR, L_sR, F_sL, A_sL, R_sL, L_sL, and_true, true_and, and_false, false_and, and_self, reduceIte, sF_sF, sA_sA, false_or, or_false, true_or, or_true, not_false_eq_true, not_true_eq_false, decide_true, decide_false, Bool.true_or, Bool.or_true, Bool.false_and, Bool.true_and, Bool.false_or, Bool.or_false, Bool.and_true, Bool.and_false, F_sRr, A_sRr]; exact h10
  · unfold G11 at h12 ⊢; simp (decide := true) only [ob_s, b2_s, tc_r, tc_l, F_sF, A_sF, R_sF, L_sF, F_sA, A_sA, R_sA, L_sA, F_sR, A_sR, R_sR, L_sR, F_sL, A_sL, R_sL, L_sL, and_true, true_and, and_false, false_and, and_self, reduceIte, sF_sF, sA_sA, false_or, or_false, true_or, or_true, not_false_eq_true, not_true_eq_false, decide_true, decide_false, Bool.true_or, Bool.or_true, Bool.false_and, Bool.true_and, Bool.false_or, Bool.or_false, Bool.and_true, Bool.and_false, F_sRr, A_sRr]; exact h12
theorem sm_A2 {s s' : e_S} {j : Nat} {r : Nat → Int32} (h : Sm s s') : Sm (sA s j r) (sA s' j r) := by
  refine ⟨fun i hi => ?_, fun p hp => ?_, fun i hi => ?_⟩
  · rw [A_sA, A_sA, h.1 i hi]
  · rw [F_sA, F_sA]; exact h.2.1 p hp
  · rw [R_sA, R_sA]; exact h.2.2 i hi
theorem sm_F2 {s s' : e_S} {j k : Nat} {v : Int32} (h : Sm s s') : Sm (sF s j k v) (sF s' j k v) := by
  refine ⟨fun i hi => ?_, fun p hp => ?_, fun i hi => ?_⟩
  · rw [A_sF, A_sF]; exact h.1 i hi
  · rw [F_sF, F_sF, h.2.1 p hp]
  · rw [R_sF, R_sF]; exact h.2.2 i hi
theorem sm_fg {s s' : e_S} (h : Sm s s') : Sm (fg12 s) (fg12 s') := by
  unfold fg12
  rw [h.1 148 (by decide)]
  exact sm_A2 h
theorem sm_edM {s s' : e_S} {st pc : Nat} (h : Sm s s') : Sm (edM s st pc) (edM s' st pc) := by
  unfold edM
  rw [h.1 142 (by decide), h.1 143 (by decide)]
  exact sm_A2 (sm_F2 (sm_F2 (sm_F2 h)))
theorem KV_ed {hs : List ps_H} {c : Option ((String ⊕ Unit) × ps_G)} {m : ps_G → Option ps_G} {s s2 : e_S} {g g2 : ps_G} {w h a b st pc uc : Nat} {N' : Nat → Int32} (hR : Rel s g) (h7 : G7 s w h) (f1 : st < 25) (f2 : pc + uc ≤ 24) (f9 : StN g a w h (s.2.1 142)) (f10 : ∀ k, k < 35071 → s.2.1 143 (35071 * ((st + pc) % 25) + k) = s.2.1 142 k) (f11 : ∀ i, i < pc → ∃ b, s.2.2.1 12 i = some b ∧ StN g b w h (kp (s.2.1 143) st i)) (hc : c = some (.inr (), e_g (fgC (rmC s a b pc)) g2)) (hm : m (e_g (fgC (rmC s a b pc)) g2) = some (e_g s2 g2)) (h0 : s2.1 139 0 = 0) (hsm : Sm (edS s a b st pc N') s2) (hE : Ext g g2) (hN : StN g2 b w h N') : KV (Option.bind (q_ob 11 (e_g s g) 8) fun _ => q_wr hs c (fun v g1 => some ((0 : Int32), g1))) m g :=
  KV_r hc hm h0 (rel_sm (rel_edit hR h7 f1 f2 f9 f10 f11 hE hN) hsm) hE
theorem KI_ed {hs : List ps_H} {c : Option ((String ⊕ Int32) × ps_G)} {m : ps_G → Option (Int32 × ps_G)} {s s2 : e_S} {g g2 : ps_G} {w h a b st pc uc : Nat} {N' : Nat → Int32} {v : Int32} (hR : Rel s g) (h7 : G7 s w h) (f1 : st < 25) (f2 : pc + uc ≤ 24) (f9 : StN g a w h (s.2.1 142)) (f10 : ∀ k, k < 35071 → s.2.1 143 (35071 * ((st + pc) % 25) + k) = s.2.1 142 k) (f11 : ∀ i, i < pc → ∃ b, s.2.2.1 12 i = some b ∧ StN g b w h (kp (s.2.1 143) st i)) (hc : c = some (.inr v, e_g (fgC (rmC s a b pc)) g2)) (hm : m (e_g (pO (fgC (rmC s a b pc)) v.toInt64) g2) = some (v, e_g s2 g2)) (h0 : s2.1 139 0 = 0) (hL : s2.2.2.2 = (pO (fgC (rmC s a b pc)) v.toInt64).2.2.2) (hsm : Sm (edS s a b st pc N') s2) (hE : Ext g g2) (hN : StN g2 b w h N') : KI (Option.bind (q_ob 11 (e_g s g) 8) fun _ => q_wr hs c (fun v g1 => Option.bind (q_wL g1 194 (0 : Int32) (Int32.toInt64 v)) fun g2 => some ((0 : Int32), g2))) m g :=
  KI_r hc hm h0 hL (rel_sm (rel_edit hR h7 f1 f2 f9 f10 f11 hE hN) hsm) hE
