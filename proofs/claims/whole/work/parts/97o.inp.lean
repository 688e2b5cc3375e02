-- needs: 07 10 13 14 20 21 22 23 24 25 26 27 32 33 34 36 38 39 40 41 42 43 97l
/-! ===== INPUT was taken: what else stays ===== -/
def reI : List (Nat × Nat) := reF.filter fun p => !(p == (8, 14) || p == (8, 15) || p == (8, 16) || p == (139, 2) || p == (139, 4) || p == (139, 5))
def SmI (s s' : e_S) : Prop := (∀ j, j ∈ reA → s'.2.1 j = s.2.1 j) ∧ (∀ p, p ∈ reI → s'.1 p.1 p.2 = s.1 p.1 p.2) ∧ (∀ j, j = 8 ∨ j = 12 ∨ j = 13 → s'.2.2.1 j = s.2.2.1 j)
theorem smI_rf {s : e_S} : SmI s s := ⟨fun _ _ => rfl, fun _ _ => rfl, fun _ _ => rfl⟩
theorem smI_sm {s s' s'' : e_S} (h : SmI s s') (q : Sm s' s'') : SmI s s'' := ⟨fun j hj => (q.1 j hj).trans (h.1 j hj), fun p hp => (q.2.1 p (List.mem_filter.mp hp).1).trans (h.2.1 p hp), fun j hj => (q.2.2 j hj).trans (h.2.2 j hj)⟩
theorem smI_A {s s' : e_S} {j : Nat} {r : Nat → Int32} (h : SmI s s') (hj : reA.contains j = false) : SmI s (sA s' j r) := by
  refine ⟨fun i hi => ?_, fun p hp => ?_, fun i hi => ?_⟩
  · rw [A_sA, if_neg]
    · exact h.1 i hi
    · intro e
      rw [e] at hi
      rw [List.contains_iff_mem.mpr hi] at hj
      cases hj
  · rw [F_sA]; exact h.2.1 p hp
  · rw [R_sA]; exact h.2.2 i hi
theorem smI_F {s s' : e_S} {j k : Nat} {v : Int32} (h : SmI s s') (hj : reI.contains (j, k) = false) : SmI s (sF s' j k v) := by
  refine ⟨fun i hi => ?_, fun p hp => ?_, fun i hi => ?_⟩
  · rw [A_sF]; exact h.1 i hi
  · rw [F_sF, if_neg]
    · exact h.2.1 p hp
    · intro e
      have : p = (j, k) := by rw [← e.1, ← e.2]
      rw [this] at hp
      rw [List.contains_iff_mem.mpr hp] at hj
      cases hj
  · rw [R_sF]; exact h.2.2 i hi
theorem smI_R {s s' : e_S} {j k : Nat} {v : Option Nat} (h : SmI s s') (hj : ¬ (j = 8 ∨ j = 12 ∨ j = 13)) : SmI s (sR s' j k v) := by
  refine ⟨fun i hi => ?_, fun p hp => ?_, fun i hi => ?_⟩
  · rw [A_sR]; exact h.1 i hi
  · rw [F_sR]; exact h.2.1 p hp
  · have e : (sR s' j k v).2.2.1 i = s'.2.2.1 i := by
      funext b
      rw [R_sR, if_neg]
      intro e
      rw [e.1] at hi
      exact hj hi
    rw [e]; exact h.2.2 i hi
theorem smI_L {s s' : e_S} {j : Nat} {r : Nat → Int64} (h : SmI s s') : SmI s (sL s' j r) := by
  refine ⟨fun i hi => ?_, fun p hp => ?_, fun i hi => ?_⟩
  · rw [A_sL]; exact h.1 i hi
  · rw [F_sL]; exact h.2.1 p hp
  · rw [R_sL]; exact h.2.2 i hi
theorem rel_in {s s' : e_S} {g : ps_G} (h : Rel s g) (q : SmI s s') (z1 : s'.1 8 14 = 0) (z2 : s'.1 139 2 = 0) (z3 : s'.1 8 15 = s'.1 139 4) (z4 : s'.1 8 16 = s'.1 139 5) : Rel s' g := by
  obtain ⟨h1, h2, h3, h4, h5, h6, ⟨w, h, h7, h8, h9⟩, h10, h11⟩ := h
  obtain ⟨qa, qf, qr⟩ := q
  have A := fun j (hj : reA.contains j = true) => qa j (List.contains_iff_mem.mp hj)
  have F := fun j k (hj : reI.contains (j, k) = true) => qf (j, k) (List.contains_iff_mem.mp hj)
  dsimp only at F
  have r8 := qr 8 (Or.inl rfl)
  have r12 := qr 12 (Or.inr (Or.inl rfl))
  have r13 := qr 13 (Or.inr (Or.inr rfl))
  refine ⟨?_, ?_, ?_, ?_, ?_, ?_, ⟨w, h, ?_, ?_, ?_⟩, ?_, ?_⟩
  · exact ⟨0, by omega, z1, z2, fun k hk => absurd hk (by omega), z3, z4⟩
  · unfold G2 at h2 ⊢
    rw [F 93 0 (by decide), F 93 1 (by decide), F 93 2 (by decide), F 93 3 (by decide), F 93 4 (by decide), F 93 5 (by decide), F 93 6 (by decide), F 93 7 (by decide), F 93 8 (by decide), F 139 34 (by decide), F 139 36 (by decide), F 139 37 (by decide), F 139 38 (by decide), F 139 39 (by decide), F 139 40 (by decide), F 139 41 (by decide), F 139 42 (by decide), F 139 43 (by decide), A 94 (by decide), A 95 (by decide), A 96 (by decide), A 159 (by decide), A 160 (by decide), A 161 (by decide)]
    exact h2
  · unfold G3 at h3 ⊢
    rw [F 14 4 (by decide), F 14 5 (by decide), F 139 25 (by decide), F 139 26 (by decide), A 18 (by decide), A 150 (by decide)]
    exact h3
  · unfold G4 at h4 ⊢
    rw [A 15 (by decide), A 16 (by decide), A 17 (by decide), A 152 (by decide), A 153 (by decide), A 154 (by decide)]
    exact h4
  · unfold G5 at h5 ⊢
    rw [A 112 (by decide), A 113 (by decide), A 173 (by decide), A 180 (by decide)]
    exact h5
  · unfold G6 at h6 ⊢
    rw [A 99 (by decide), A 100 (by decide), A 101 (by decide), A 102 (by decide), A 103 (by decide), A 104 (by decide), A 163 (by decide), A 164 (by decide), A 165 (by decide), A 166 (by decide), A 171 (by decide), A 172 (by decide)]
    exact h6
  · unfold G7 at h7 ⊢
    rw [F 139 13 (by decide), F 139 14 (by decide), F 89 0 (by decide), F 89 1 (by decide), A 90 (by decide), A 155 (by decide)]
    exact h7
  · unfold G8 at h8 ⊢
    rw [F 20 8 (by decide), F 139 23 (by decide), F 20 5 (by decide), F 139 25 (by decide), F 139 26 (by decide), A 148 (by decide), A 88 (by decide), A 87 (by decide), A 149 (by decide), A 86 (by decide), A 142 (by decide), A 150 (by decide), A 152 (by decide), A 153 (by decide), A 154 (by decide)]
    exact h8
  · unfold G10 at h9 ⊢
    rw [F 8 2 (by decide), F 8 4 (by decide), F 139 10 (by decide), F 139 11 (by decide), F 139 12 (by decide), A 142 (by decide), A 143 (by decide), r8, r12, r13]
    exact h9
  · unfold G9 at h10 ⊢
    rw [F 122 1 (by decide), F 139 7 (by decide), A 123 (by decide), A 141 (by decide)]
    exact h10
  · unfold G11 at h11 ⊢
    rw [A 182 (by decide), A 183 (by decide), A 184 (by decide), A 185 (by decide), A 186 (by decide)]
    exact h11
theorem sF_cm {s : e_S} {i j i' j' : Nat} {v v' : Int32} (h : ¬ (i = i' ∧ j = j')) : sF (sF s i j v) i' j' v' = sF (sF s i' j' v') i j v := by
  have e : (sF (sF s i j v) i' j' v').1 = (sF (sF s i' j' v') i j v).1 := by
    funext a b
    rw [F_sF, F_sF, F_sF, F_sF]
    by_cases q1 : a = i' ∧ b = j'
    · rw [if_pos q1, if_neg (fun z => h ⟨z.1.symm.trans q1.1, z.2.symm.trans q1.2⟩), if_pos q1]
    · rw [if_neg q1, if_neg q1]
  exact Prod.ext e rfl
theorem sF_rm {s : e_S} {k a b pc : Nat} {v : Int32} : sF (fgC (rmC s a b pc)) 139 k v = fgC (rmC (sF s 139 k v) a b pc) := by
  have e : (sF (fgC (rmC s a b pc)) 139 k v).1 = (fgC (rmC (sF s 139 k v) a b pc)).1 := by
    unfold fgC rmC
    funext x y
    simp only [F_sF, F_sA, F_sR, F_sRr]
    by_cases q : x = 139 ∧ y = k
    · rw [if_pos q, if_neg (by omega), if_neg (by omega), if_neg (by omega), if_pos q]
    · rw [if_neg q, if_neg q]
  exact Prod.ext e rfl
theorem tkM_rm {s : e_S} {a b pc : Nat} {v : Int64} : tkM (pO (fgC (rmC s a b pc)) v) = pO (fgC (rmC (tkM s) a b pc)) v := by
  have e : (fgC (rmC s a b pc)).1 139 2 = s.1 139 2 := by unfold fgC rmC; simp (decide := true) only [ob_n, b2_n, tc_rn, tc_ln, F_sF, A_sF, R_sF, L_sF, F_sA, A_sA, R_sA, L_sA, F_sR, A_sR, R_sR, L_sR, F_sL, A_sL, R_sL, L_sL, and_true, true_and, and_false, false_and, and_self, reduceIte, sF_sF, sA_sA, false_or, or_false, true_or, or_true, not_false_eq_true, not_true_eq_false, decide_true, decide_false, Bool.true_or, Bool.or_true, Bool.false_and, Bool.true_and, Bool.false_or, Bool.or_false, Bool.and_true, Bool.and_false, F_sRr]
  have e2 : tkM (pO (fgC (rmC s a b pc)) v) = pO (tkM (fgC (rmC s a b pc))) v := rfl
  rw [e2]
  unfold tkM
  rw [e, sF_rm, sF_rm, sF_rm, sF_rm]
theorem rel_tk {s : e_S} {g : ps_G} (h : Rel s g) : Rel (tkM (tkC s)) g := by
  refine rel_in h (smI_F (smI_F (smI_F (smI_F (smI_F (smI_F (smI_F smI_rf (by decide)) (by decide)) (by decide)) (by decide)) (by decide)) (by decide)) (by decide)) ?_ ?_ ?_ ?_ <;> unfold tkM tkC <;> simp (decide := true) only [ob_n, b2_n, tc_rn, tc_ln, F_sF, A_sF, R_sF, L_sF, F_sA, A_sA, R_sA, L_sA, F_sR, A_sR, R_sR, L_sR, F_sL, A_sL, R_sL, L_sL, and_true, true_and, and_false, false_and, and_self, reduceIte, sF_sF, sA_sA, false_or, or_false, true_or, or_true, not_false_eq_true, not_true_eq_false, decide_true, decide_false, Bool.true_or, Bool.or_true, Bool.false_and, Bool.true_and, Bool.false_or, Bool.or_false, Bool.and_true, Bool.and_false]
/-- the input was refused -/
theorem rel_fl {s s2 : e_S} {g : ps_G} (h : Rel s g) (q : SmI s s2) (z1 : s2.1 8 14 = 0) (z2 : s2.1 139 2 = 0) (z3 : s2.1 8 15 = s2.1 139 4) (z4 : s2.1 8 16 = s2.1 139 5) : Rel s2 (nx g) := rel_ext ext_nx (rel_in h q z1 z2 z3 z4)
theorem failInput11 {s : e_S} {g : ps_G} {e p : Int32} (hg : 195 ≤ g.1) : fX11_failInput (e_g s g) 8 e p = some (.inl "java/lang/UnsupportedOperationException", e_g (sF (sF s 8 15 e) 8 16 p) (nx g)) := by
  unfold fX11_failInput
  rw [w8_15, ob_n, w8_16, ob_n, e_nw hg]
  rfl
theorem wrong12 {s : e_S} {g : ps_G} {e p : Int32} (h : s.1 139 4 = 0) : fX12_wrong (e_g s g) 139 e p = some (e_g (sF (sF s 139 4 e) 139 5 p) g) := by
  unfold fX12_wrong
  rw [f139_4, ob_n, h, if_pos (by decide), w139_4, ob_n, w139_5, ob_n]
theorem full12 {s : e_S} {g : ps_G} {n : Nat} (hn : n ≤ 30) (e : s.2.1 142 35070 = Int32.ofNat n) : fX12_full (e_g s g) 139 = if n = 30 then some (1, e_g (sF (sF (sF s 139 0 1) 139 4 0) 139 5 0) g) else some (0, e_g (sF s 139 0 0) g) := by
  have rd : q_aI (e_g s g) 142 35070 = some (s.2.1 142 35070) := by
    rw [a142]
    exact if_neg (by decide)
  unfold fX12_full
  rw [f139_8, ob_n, ob_n, rd, ob_n, e]
  by_cases q : n = 30
  · rw [if_pos q, q, if_neg (fun z => z rfl), w139_0, ob_n, f139_0, F_sF, if_pos ⟨rfl, rfl⟩, ob_n, if_pos (by decide), w139_4, ob_n, w139_5, ob_n]
  · have q' : ¬ Int32.ofNat n = 30 := fun z => q ((n_eq (b := 30) (by omega) (by omega)).mp z)
    rw [if_neg q, if_pos q', w139_0, ob_n, f139_0, F_sF, if_pos ⟨rfl, rfl⟩, ob_n, if_neg (fun z => z rfl)]
theorem needNumber11 {s : e_S} {g : ps_G} {a w h n : Nat} {N : Nat → Int32} (hg : 195 ≤ g.1) (e0 : s.2.2.1 8 0 = some a) (hs : StN g a w h N) (hn : n ≤ 30) (e : N 35070 = Int32.ofNat n) : fX11_needNumber (e_g s g) 8 = if n = 30 then some (.inl "java/lang/IndexOutOfBoundsException", e_g s (nx g)) else some (.inr (), e_g s g) := by
  unfold fX11_needNumber
  rw [f8_0, e0, ob_n, ob_n, (stW hs).2.2.1, ob_n, e, e_nw hg]
  by_cases q : n = 30
  · rw [if_pos q, q, if_neg (by decide)]; rfl
  · have lt : Int32.ofNat n < 30 := (n_lt (n := n) (m := 30) (by omega) (by omega)).mpr (by omega)
    rw [if_neg q, if_pos lt]
