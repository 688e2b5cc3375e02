-- needs: 07 10 13 14 20 21 22 23 24 25 26 27 32 33 34 36 38 39 40 41 42 43 44 46 47 48 49 53 54 60 61
/-! ===== layer ===== -/
/-- the places from fr on within P moved by b, for the first n LAYERS -/
def shN (N : Nat → Int32) (P fr b : Int32) (n : Nat) : Nat → Int32 := fun k => if k < 1169 * n ∧ k % 1169 = 3 ∧ N (k - 3) = 1 ∧ N (k - 1) = P ∧ ¬ N k < fr then N k + b else N k
theorem shN_0 {N : Nat → Int32} {P fr b : Int32} : shN N P fr b 0 = N := by
  funext k; unfold shN; rw [if_neg (fun z => by omega)]
theorem shN_i {N : Nat → Int32} {P fr b : Int32} {n m i : Nat} (hi : i < 1169) (h3 : ¬ i = 3) : shN N P fr b n (1169 * m + i) = N (1169 * m + i) := by
  unfold shN; rw [if_neg (fun z => by omega)]
theorem shN_z {N : Nat → Int32} {P fr b : Int32} {n m : Nat} : shN N P fr b n (1169 * m) = N (1169 * m) := shN_i (i := 0) (by omega) (by omega)
theorem shN_n {N : Nat → Int32} {P fr b : Int32} {n m : Nat} (h : n ≤ m) : shN N P fr b n (1169 * m + 3) = N (1169 * m + 3) := by
  unfold shN; rw [if_neg (fun z => by omega)]
theorem shN_3 {N : Nat → Int32} {P fr b : Int32} {n m : Nat} (h : m < n) : shN N P fr b n (1169 * m + 3) = if N (1169 * m) = 1 ∧ N (1169 * m + 2) = P ∧ ¬ N (1169 * m + 3) < fr then N (1169 * m + 3) + b else N (1169 * m + 3) := by
  unfold shN
  rw [show 1169 * m + 3 - 3 = 1169 * m by omega, show 1169 * m + 3 - 1 = 1169 * m + 2 by omega]
  by_cases z : N (1169 * m) = 1 ∧ N (1169 * m + 2) = P ∧ ¬ N (1169 * m + 3) < fr
  · rw [if_pos z, if_pos ⟨by omega, by omega, z⟩]
  · rw [if_neg z, if_neg (fun y => z y.2.2)]
theorem shN_hi {N : Nat → Int32} {P fr b : Int32} {n k : Nat} (h : 1169 * n ≤ k) : shN N P fr b n k = N k := by
  unfold shN; rw [if_neg (fun z => by omega)]
theorem shN_t {N : Nat → Int32} {P fr b : Int32} {m : Nat} (z : N (1169 * m) = 1 ∧ N (1169 * m + 2) = P ∧ ¬ N (1169 * m + 3) < fr) : upd (shN N P fr b m) (1169 * m + 3) (N (1169 * m + 3) + b) = shN N P fr b (m + 1) := by
  funext k
  rw [upd_r]
  by_cases e : k = 1169 * m + 3
  · rw [if_pos e, e, shN_3 (by omega), if_pos z]
  · rw [if_neg e]
    unfold shN
    by_cases q : k < 1169 * m ∧ k % 1169 = 3 ∧ N (k - 3) = 1 ∧ N (k - 1) = P ∧ ¬ N k < fr
    · rw [if_pos q, if_pos ⟨by omega, q.2⟩]
    · rw [if_neg q, if_neg (fun y => q ⟨by omega, y.2⟩)]
theorem shN_f {N : Nat → Int32} {P fr b : Int32} {m : Nat} (z : ¬ (N (1169 * m) = 1 ∧ N (1169 * m + 2) = P ∧ ¬ N (1169 * m + 3) < fr)) : shN N P fr b m = shN N P fr b (m + 1) := by
  funext k
  unfold shN
  by_cases q : k < 1169 * m ∧ k % 1169 = 3 ∧ N (k - 3) = 1 ∧ N (k - 1) = P ∧ ¬ N k < fr
  · rw [if_pos q, if_pos ⟨by omega, q.2⟩]
  · rw [if_neg q, if_neg]
    intro y
    apply q
    refine ⟨?_, y.2⟩
    apply Nat.lt_of_not_le
    intro h
    have e : k = 1169 * m + 3 := by omega
    apply z
    have y2 := y.2.2
    rw [e, show 1169 * m + 3 - 3 = 1169 * m by omega, show 1169 * m + 3 - 1 = 1169 * m + 2 by omega] at y2
    exact y2
theorem shift12 {s : e_S} {g : ps_G} {P fr b : Int32} : fX12_shift (e_g s g) 139 P fr b = some (e_g (sA s 142 (shN (s.2.1 142) P fr b 30)) g) := by
  have hl : q_lp (fun t => bX12_shift_3 139 P fr b t.1 t.2) ((0 : Int32), e_g s g) = some (e_g (sA s 142 (shN (s.2.1 142) P fr b 30)) g) := by
    refine lp_0 (fun i => (Int32.ofNat i, e_g (sA s 142 (shN (s.2.1 142) P fr b i)) g)) 30 (by rw [shN_0, sA_id]; rfl) (fun i hi => ?_) ?_
    · have q1 : ¬ (30 : Int32) ≤ Int32.ofNat i := nle (b := 30) hi (by decide)
      generalize hF : shN (s.2.1 142) P fr b i = F
      have g2 := get12 (s := sA s 142 F) (g := g) (n := 2) hi (by omega)
      have g3 := get12 (s := sA s 142 F) (g := g) (n := 3) hi (by omega)
      have p3 := fun v => put12 (s := sA s 142 F) (g := g) (n := 3) (v := v) hi (by omega)
      have is := isLayer12 (s := sA s 142 F) (g := g) (x := Int32.ofNat i)
      have e9 : (sA s 142 F).2.1 142 = F := by simp (decide := true) only [ob_n, b2_n, tc_rn, tc_ln, F_sF, A_sF, R_sF, L_sF, F_sA, A_sA, R_sA, L_sA, F_sR, A_sR, R_sR, L_sR, F_sL, A_sL, R_sL, L_sL, and_true, true_and, and_false, false_and, and_self, reduceIte, sF_sF, sA_sA, false_or, or_false, true_or, or_true, not_false_eq_true, not_true_eq_false, decide_true, decide_false, Bool.true_or, Bool.or_true, Bool.false_and, Bool.true_and, Bool.false_or, Bool.or_false, Bool.and_true, Bool.and_false]
      have F0 : F (1169 * i) = s.2.1 142 (1169 * i) := by rw [← hF]; exact shN_z
      have F2 : F (1169 * i + 2) = s.2.1 142 (1169 * i + 2) := by rw [← hF]; exact shN_i (by omega) (by omega)
      have F3 : F (1169 * i + 3) = s.2.1 142 (1169 * i + 3) := by rw [← hF]; exact shN_n (Nat.le_refl _)
      rw [e9, isL_o hi, F0] at is
      rw [e9, F2] at g2
      rw [e9, F3] at g3
      rw [e9] at p3
      by_cases z : s.2.1 142 (1169 * i) = 1 ∧ s.2.1 142 (1169 * i + 2) = P ∧ ¬ s.2.1 142 (1169 * i + 3) < fr
      · rw [decide_eq_true z.1] at is
        have st := shN_t (b := b) z
        rw [hF] at st
        simp (decide := true) only [bX12_shift_3, jX12_shift_57_3, q1, ob139, is, g2, g3, z.2.1, z.2.2, p3, n_suc, st, ob_n, b2_n, tc_rn, tc_ln, F_sF, A_sF, R_sF, L_sF, F_sA, A_sA, R_sA, L_sA, F_sR, A_sR, R_sR, L_sR, F_sL, A_sL, R_sL, L_sL, and_true, true_and, and_false, false_and, and_self, reduceIte, sF_sF, sA_sA, false_or, or_false, true_or, or_true, not_false_eq_true, not_true_eq_false, decide_true, decide_false, Bool.true_or, Bool.or_true, Bool.false_and, Bool.true_and, Bool.false_or, Bool.or_false, Bool.and_true, Bool.and_false]
      · have st := shN_f (b := b) z
        rw [hF] at st
        rw [← st]
        by_cases z1 : s.2.1 142 (1169 * i) = 1
        · rw [decide_eq_true z1] at is
          by_cases z2 : s.2.1 142 (1169 * i + 2) = P
          · have z3 : s.2.1 142 (1169 * i + 3) < fr := Decidable.byContradiction fun y => z ⟨z1, z2, y⟩
            simp (decide := true) only [bX12_shift_3, jX12_shift_57_3, q1, ob139, is, g2, g3, z2, z3, n_suc, ob_n, b2_n, tc_rn, tc_ln, F_sF, A_sF, R_sF, L_sF, F_sA, A_sA, R_sA, L_sA, F_sR, A_sR, R_sR, L_sR, F_sL, A_sL, R_sL, L_sL, and_true, true_and, and_false, false_and, and_self, reduceIte, sF_sF, sA_sA, false_or, or_false, true_or, or_true, not_false_eq_true, not_true_eq_false, decide_true, decide_false, Bool.true_or, Bool.or_true, Bool.false_and, Bool.true_and, Bool.false_or, Bool.or_false, Bool.and_true, Bool.and_false]
          · simp (decide := true) only [bX12_shift_3, jX12_shift_57_3, q1, ob139, is, g2, z2, n_suc, ob_n, b2_n, tc_rn, tc_ln, F_sF, A_sF, R_sF, L_sF, F_sA, A_sA, R_sA, L_sA, F_sR, A_sR, R_sR, L_sR, F_sL, A_sL, R_sL, L_sL, and_true, true_and, and_false, false_and, and_self, reduceIte, sF_sF, sA_sA, false_or, or_false, true_or, or_true, not_false_eq_true, not_true_eq_false, decide_true, decide_false, Bool.true_or, Bool.or_true, Bool.false_and, Bool.true_and, Bool.false_or, Bool.or_false, Bool.and_true, Bool.and_false]
        · rw [decide_eq_false z1] at is
          simp (decide := true) only [bX12_shift_3, jX12_shift_57_3, q1, ob139, is, n_suc, ob_n, b2_n, tc_rn, tc_ln, F_sF, A_sF, R_sF, L_sF, F_sA, A_sA, R_sA, L_sA, F_sR, A_sR, R_sR, L_sR, F_sL, A_sL, R_sL, L_sL, and_true, true_and, and_false, false_and, and_self, reduceIte, sF_sF, sA_sA, false_or, or_false, true_or, or_true, not_false_eq_true, not_true_eq_false, decide_true, decide_false, Bool.true_or, Bool.or_true, Bool.false_and, Bool.true_and, Bool.false_or, Bool.or_false, Bool.and_true, Bool.and_false]
    · simp (decide := true) only [bX12_shift_3, ob_n, b2_n, tc_rn, tc_ln, F_sF, A_sF, R_sF, L_sF, F_sA, A_sA, R_sA, L_sA, F_sR, A_sR, R_sR, L_sR, F_sL, A_sL, R_sL, L_sL, and_true, true_and, and_false, false_and, and_self, reduceIte, sF_sF, sA_sA, false_or, or_false, true_or, or_true, not_false_eq_true, not_true_eq_false, decide_true, decide_false, Bool.true_or, Bool.or_true, Bool.false_and, Bool.true_and, Bool.false_or, Bool.or_false, Bool.and_true, Bool.and_false]
  simp (decide := true) only [fX12_shift, hl, ob_n, b2_n, tc_rn, tc_ln, F_sF, A_sF, R_sF, L_sF, F_sA, A_sA, R_sA, L_sA, F_sR, A_sR, R_sR, L_sR, F_sL, A_sL, R_sL, L_sL, and_true, true_and, and_false, false_and, and_self, reduceIte, sF_sF, sA_sA, false_or, or_false, true_or, or_true, not_false_eq_true, not_true_eq_false, decide_true, decide_false, Bool.true_or, Bool.or_true, Bool.false_and, Bool.true_and, Bool.false_or, Bool.or_false, Bool.and_true, Bool.and_false]
theorem cpT_upd {A φ : Nat → Int32} {b n j : Nat} {v : Int32} (hj : j < n) : upd (cpT A φ b n) (b + j) v = cpT A (upd φ j v) b n := by
  funext k
  rw [upd_r]
  by_cases e : k = b + j
  · rw [if_pos e, cpT_ge (by omega) (by omega), upd_r, if_pos (by omega)]
  · rw [if_neg e]
    by_cases q : b ≤ k ∧ k < b + n
    · rw [cpT_ge q.1 q.2, cpT_ge q.1 q.2, upd_r, if_neg (by omega)]
    · rw [cpT_out q, cpT_out q]
/-- the row of a new LAYER -/
def nlR (kind P k : Int32) : Nat → Int32 := fun j => if j = 0 then 1 else if j = 1 then kind else if j = 2 then P else if j = 3 then k else if j = 4 then 255 else if j = 6 then 1 else if j = 11 ∧ kind = 5 then 8 else 0
/-- the reference's row with a new LAYER l in it -/
def nlN (N : Nat → Int32) (kind P k : Int32) (l : Nat) : Nat → Int32 := cpT (shN (upd N 35070 (N 35070 + 1)) P k 1 30) (nlR kind P k) (1169 * l) 1169
theorem newLayer12 {s : e_S} {g : ps_G} {kind P k : Int32} {l : Nat} (hl : l < 30) (e : s.2.1 142 35070 = Int32.ofNat l) : fX12_newLayer (e_g s g) 139 kind P k = some (Int32.ofNat l, e_g (sA s 142 (nlN (s.2.1 142) kind P k l)) g) := by
  have i70 : (35070 : Int32).toNatClampNeg = 35070 := by decide
  have n70 : ¬ ((35070 : Int32) < 0 ∨ 35071 ≤ 35070) := by decide
  generalize hM : shN (upd (s.2.1 142) 35070 (Int32.ofNat l + 1)) P k 1 30 = M
  have sh := shift12 (s := sA s 142 (upd (s.2.1 142) 35070 (Int32.ofNat l + 1))) (g := g) (P := P) (fr := k) (b := 1)
  have e9 : ∀ F, (sA s 142 F).2.1 142 = F := fun F => by simp (decide := true) only [ob_n, b2_n, tc_rn, tc_ln, F_sF, A_sF, R_sF, L_sF, F_sA, A_sA, R_sA, L_sA, F_sR, A_sR, R_sR, L_sR, F_sL, A_sL, R_sL, L_sL, and_true, true_and, and_false, false_and, and_self, reduceIte, sF_sF, sA_sA, false_or, or_false, true_or, or_true, not_false_eq_true, not_true_eq_false, decide_true, decide_false, Bool.true_or, Bool.or_true, Bool.false_and, Bool.true_and, Bool.false_or, Bool.or_false, Bool.and_true, Bool.and_false]
  rw [e9, hM, sA_sA] at sh
  have lp : q_lp (fun t => bX12_newLayer_32 139 kind P k (Int32.ofNat l) t.1 t.2) ((0 : Int32), e_g (sA s 142 M) g) = some (e_g (sA s 142 (cpT M (fun _ => 0) (1169 * l) 1169)) g) := by
    refine fillN (fun f => e_g (sA s 142 f) g) (1169 * l) 1169 (fun _ => 0) M (fun f i hi _ => ?_) (fun f => ?_)
    · have q1 : ¬ (1169 : Int32) ≤ Int32.ofNat i := nle (b := 1169) hi (by decide)
      have pp := put12 (s := sA s 142 f) (g := g) (n := i) (v := 0) hl hi
      rw [e9, sA_sA] at pp
      have pp' : fX12_put (e_g (sA s 142 f) g) 139 (Int32.ofNat l) (Int32.ofNat i) 0 = some (e_g (sA s 142 (upd f (1169 * l + i) 0)) g) := pp
      simp (decide := true) only [bX12_newLayer_32, q1, ob139, pp', n_suc, ob_n, b2_n, tc_rn, tc_ln, F_sF, A_sF, R_sF, L_sF, F_sA, A_sA, R_sA, L_sA, F_sR, A_sR, R_sR, L_sR, F_sL, A_sL, R_sL, L_sL, and_true, true_and, and_false, false_and, and_self, reduceIte, sF_sF, sA_sA, false_or, or_false, true_or, or_true, not_false_eq_true, not_true_eq_false, decide_true, decide_false, Bool.true_or, Bool.or_true, Bool.false_and, Bool.true_and, Bool.false_or, Bool.or_false, Bool.and_true, Bool.and_false]
    · simp (decide := true) only [bX12_newLayer_32, ob_n, b2_n, tc_rn, tc_ln, F_sF, A_sF, R_sF, L_sF, F_sA, A_sA, R_sA, L_sA, F_sR, A_sR, R_sR, L_sR, F_sL, A_sL, R_sL, L_sL, and_true, true_and, and_false, false_and, and_self, reduceIte, sF_sF, sA_sA, false_or, or_false, true_or, or_true, not_false_eq_true, not_true_eq_false, decide_true, decide_false, Bool.true_or, Bool.or_true, Bool.false_and, Bool.true_and, Bool.false_or, Bool.or_false, Bool.and_true, Bool.and_false]
  have pp : ∀ (F : Nat → Int32) (n : Nat) (v : Int32), n < 1169 → fX12_put (e_g (sA s 142 F) g) 139 (Int32.ofNat l) (OfNat.ofNat n) v = some (e_g (sA s 142 (upd F (1169 * l + n) v)) g) := by
    intro F n v hn
    have := put12 (s := sA s 142 F) (g := g) (n := n) (v := v) hl hn
    rw [e9, sA_sA] at this
    exact this
  have c : ∀ (φ : Nat → Int32) j v, j < 1169 → upd (cpT M φ (1169 * l) 1169) (1169 * l + j) v = cpT M (upd φ j v) (1169 * l) 1169 := fun φ j v hj => cpT_upd hj
  have p0 := fun F v => pp F 0 v (by omega)
  have p1 := fun F v => pp F 1 v (by omega)
  have p2 := fun F v => pp F 2 v (by omega)
  have p3 := fun F v => pp F 3 v (by omega)
  have p4 := fun F v => pp F 4 v (by omega)
  have p6 := fun F v => pp F 6 v (by omega)
  have p11 := fun F v => pp F 11 v (by omega)
  have c0 := fun φ v => c φ 0 v (by omega)
  have c1 := fun φ v => c φ 1 v (by omega)
  have c2 := fun φ v => c φ 2 v (by omega)
  have c3 := fun φ v => c φ 3 v (by omega)
  have c4 := fun φ v => c φ 4 v (by omega)
  have c6 := fun φ v => c φ 6 v (by omega)
  have c11 := fun φ v => c φ 11 v (by omega)
  have eN : nlN (s.2.1 142) kind P k l = cpT M (nlR kind P k) (1169 * l) 1169 := by unfold nlN; rw [e, hM]
  rw [eN]
  by_cases h5 : kind = 5
  · subst h5
    have eR : upd (upd (upd (upd (upd (upd (upd (fun _ => (0 : Int32)) 0 1) 1 5) 2 P) 3 k) 4 255) 6 1) 11 8 = nlR 5 P k := by
      funext j
      unfold nlR
      simp only [upd_r, and_true]
      by_cases j0 : j = 0
      · subst j0; rfl
      · by_cases j1 : j = 1
        · subst j1; rfl
        · by_cases j2 : j = 2
          · subst j2; rfl
          · by_cases j3 : j = 3
            · subst j3; rfl
            · by_cases j4 : j = 4
              · subst j4; rfl
              · by_cases j6 : j = 6
                · subst j6; rfl
                · simp only [j0, j1, j2, j3, j4, j6, if_false]
    simp (decide := true) only [fX12_newLayer, jX12_newLayer_121, f139_8, a142, u142, i70, n70, e, ob139, sh, lp, p0, p1, p2, p3, p4, p6, p11, c0, c1, c2, c3, c4, c6, c11, ob_n, b2_n, tc_rn, tc_ln, F_sF, A_sF, R_sF, L_sF, F_sA, A_sA, R_sA, L_sA, F_sR, A_sR, R_sR, L_sR, F_sL, A_sL, R_sL, L_sL, and_true, true_and, and_false, false_and, and_self, reduceIte, sF_sF, sA_sA, false_or, or_false, true_or, or_true, not_false_eq_true, not_true_eq_false, decide_true, decide_false, Bool.true_or, Bool.or_true, Bool.false_and, Bool.true_and, Bool.false_or, Bool.or_false, Bool.and_true, Bool.and_false]
    rw [eR]
  · have eR : upd (upd (upd (upd (upd (upd (fun _ => (0 : Int32)) 0 1) 1 kind) 2 P) 3 k) 4 255) 6 1 = nlR kind P k := by
      funext j
      unfold nlR
      simp only [upd_r, h5, and_false, if_false]
      by_cases j0 : j = 0
      · subst j0; rfl
      · by_cases j1 : j = 1
        · subst j1; rfl
        · by_cases j2 : j = 2
          · subst j2; rfl
          · by_cases j3 : j = 3
            · subst j3; rfl
            · by_cases j4 : j = 4
              · subst j4; rfl
              · by_cases j6 : j = 6
                · subst j6; rfl
                · simp only [j0, j1, j2, j3, j4, j6, if_false]
    simp (decide := true) only [fX12_newLayer, jX12_newLayer_121, f139_8, a142, u142, i70, n70, e, ob139, sh, lp, p0, p1, p2, p3, p4, p6, c0, c1, c2, c3, c4, c6, h5, ob_n, b2_n, tc_rn, tc_ln, F_sF, A_sF, R_sF, L_sF, F_sA, A_sA, R_sA, L_sA, F_sR, A_sR, R_sR, L_sR, F_sL, A_sL, R_sL, L_sL, and_true, true_and, and_false, false_and, and_self, reduceIte, sF_sF, sA_sA, false_or, or_false, true_or, or_true, not_false_eq_true, not_true_eq_false, decide_true, decide_false, Bool.true_or, Bool.or_true, Bool.false_and, Bool.true_and, Bool.false_or, Bool.or_false, Bool.and_true, Bool.and_false]
    rw [eR]
/-- what a new LAYER's row says -/
theorem nlN_l {N : Nat → Int32} {kind P k : Int32} {l j : Nat} (hj : j < 1169) : nlN N kind P k l (1169 * l + j) = nlR kind P k j := cpT_in hj
theorem nlN_m {N : Nat → Int32} {kind P k : Int32} {l m j : Nat} (hm : m < 30) (hne : ¬ m = l) (hj : j < 1169) (h3 : ¬ j = 3) : nlN N kind P k l (1169 * m + j) = N (1169 * m + j) := by
  unfold nlN
  rw [cpT_out (by omega), shN_i hj h3, upd_r, if_neg (by omega)]
theorem nlN_3 {N : Nat → Int32} {kind P k : Int32} {l m : Nat} (hm : m < 30) (hne : ¬ m = l) : nlN N kind P k l (1169 * m + 3) = if N (1169 * m) = 1 ∧ N (1169 * m + 2) = P ∧ ¬ N (1169 * m + 3) < k then N (1169 * m + 3) + 1 else N (1169 * m + 3) := by
  have u : ∀ j, j < 35070 → upd N 35070 (N 35070 + 1) j = N j := fun j hj => upd_n (by omega)
  unfold nlN
  rw [cpT_out (by omega), shN_3 hm, u _ (by omega), u _ (by omega), u _ (by omega)]
theorem nlN_70 {N : Nat → Int32} {kind P k : Int32} {l : Nat} (hl : l < 30) : nlN N kind P k l 35070 = N 35070 + 1 := by
  unfold nlN
  rw [cpT_out (by omega), shN_hi (by omega), upd_r, if_pos rfl]
/-- a parent that may be named -/
def isP (N : Nat → Int32) (P : Int32) : Bool := decide (P = -1) || (isL N P && decide (N (1169 * P.toInt.toNat + 1) = 1))
theorem isP_n {N : Nat → Int32} {P : Int32} (h : isP N P = true) : P = -1 ∨ ∃ p : Nat, p < 30 ∧ P = Int32.ofNat p ∧ N (1169 * p) = 1 ∧ N (1169 * p + 1) = 1 := by
  unfold isP at h
  rw [Bool.or_eq_true, Bool.and_eq_true] at h
  rcases h with h | ⟨h1, h2⟩
  · exact Or.inl (of_decide_eq_true h)
  · obtain ⟨p, rfl, p1, p2⟩ := isL_n h1
    have h2 := of_decide_eq_true h2
    rw [n_int (by omega), Int.toNat_natCast] at h2
    exact Or.inr ⟨p, p1, rfl, p2, h2⟩
theorem isParent12 {s : e_S} {g : ps_G} {P : Int32} : fX12_isParent (e_g s g) 139 P = some (if isP (s.2.1 142) P then 1 else 0) := by
  have b0 : q_bl 0 = some 0 := by decide
  have b1 : q_bl 1 = some 1 := by decide
  have i1 := is12 (s := s) (g := g) (x := P) (k := 1)
  unfold isP
  by_cases h : P = -1
  · simp (decide := true) only [fX12_isParent, jX12_isParent_14, jX12_isParent_19, h, b1, ob_n, b2_n, tc_rn, tc_ln, F_sF, A_sF, R_sF, L_sF, F_sA, A_sA, R_sA, L_sA, F_sR, A_sR, R_sR, L_sR, F_sL, A_sL, R_sL, L_sL, and_true, true_and, and_false, false_and, and_self, reduceIte, sF_sF, sA_sA, false_or, or_false, true_or, or_true, not_false_eq_true, not_true_eq_false, decide_true, decide_false, Bool.true_or, Bool.or_true, Bool.false_and, Bool.true_and, Bool.false_or, Bool.or_false, Bool.and_true, Bool.and_false]
  · by_cases h1 : isL (s.2.1 142) P = true
    · by_cases h2 : s.2.1 142 (1169 * P.toInt.toNat + 1) = 1
      · have q : isL (s.2.1 142) P = true ∧ s.2.1 142 (1169 * P.toInt.toNat + 1) = OfNat.ofNat 1 := ⟨h1, h2⟩
        rw [if_pos q] at i1
        have i1' : fX12_is (e_g s g) 139 P 1 = some 1 := i1
        simp (decide := true) only [fX12_isParent, jX12_isParent_14, jX12_isParent_19, h, ob139, i1', h1, h2, b1, ob_n, b2_n, tc_rn, tc_ln, F_sF, A_sF, R_sF, L_sF, F_sA, A_sA, R_sA, L_sA, F_sR, A_sR, R_sR, L_sR, F_sL, A_sL, R_sL, L_sL, and_true, true_and, and_false, false_and, and_self, reduceIte, sF_sF, sA_sA, false_or, or_false, true_or, or_true, not_false_eq_true, not_true_eq_false, decide_true, decide_false, Bool.true_or, Bool.or_true, Bool.false_and, Bool.true_and, Bool.false_or, Bool.or_false, Bool.and_true, Bool.and_false]
      · have q : ¬ (isL (s.2.1 142) P = true ∧ s.2.1 142 (1169 * P.toInt.toNat + 1) = OfNat.ofNat 1) := fun z => h2 z.2
        rw [if_neg q] at i1
        have i1' : fX12_is (e_g s g) 139 P 1 = some 0 := i1
        simp (decide := true) only [fX12_isParent, jX12_isParent_14, jX12_isParent_19, h, ob139, i1', h1, h2, b0, ob_n, b2_n, tc_rn, tc_ln, F_sF, A_sF, R_sF, L_sF, F_sA, A_sA, R_sA, L_sA, F_sR, A_sR, R_sR, L_sR, F_sL, A_sL, R_sL, L_sL, and_true, true_and, and_false, false_and, and_self, reduceIte, sF_sF, sA_sA, false_or, or_false, true_or, or_true, not_false_eq_true, not_true_eq_false, decide_true, decide_false, Bool.true_or, Bool.or_true, Bool.false_and, Bool.true_and, Bool.false_or, Bool.or_false, Bool.and_true, Bool.and_false]
    · have q : ¬ (isL (s.2.1 142) P = true ∧ s.2.1 142 (1169 * P.toInt.toNat + 1) = OfNat.ofNat 1) := fun z => h1 z.1
      rw [if_neg q] at i1
      have i1' : fX12_is (e_g s g) 139 P 1 = some 0 := i1
      simp (decide := true) only [fX12_isParent, jX12_isParent_14, jX12_isParent_19, h, ob139, i1', h1, b0, ob_n, b2_n, tc_rn, tc_ln, F_sF, A_sF, R_sF, L_sF, F_sA, A_sA, R_sA, L_sA, F_sR, A_sR, R_sR, L_sR, F_sL, A_sL, R_sL, L_sL, and_true, true_and, and_false, false_and, and_self, reduceIte, sF_sF, sA_sA, false_or, or_false, true_or, or_true, not_false_eq_true, not_true_eq_false, decide_true, decide_false, Bool.true_or, Bool.or_true, Bool.false_and, Bool.true_and, Bool.false_or, Bool.or_false, Bool.and_true, Bool.and_false]
theorem holds9 {s : e_S} {g : ps_G} {a w h : Nat} {N : Nat → Int32} {P : Int32} (hs : StN g a w h N) : fX9_holds (e_g s g) a P = some (if isP N P then 1 else 0) := by
  have b0 : q_bl 0 = some 0 := by decide
  have b1 : q_bl 1 = some 1 := by decide
  have hob := (stW (s := s) hs).2.2.2
  obtain ⟨t, h1, h2', la, oa, sz, ly, od, c1, c0, c2, c3, c9, c4, c5, c6, c7, c8, c10⟩ := hs
  have fd := find9 (s := s) (x := P) h1 c1 c5 c6
  unfold isP
  by_cases h : P = -1
  · rw [h, if_neg (by decide)] at fd
    simp (decide := true) only [fX9_holds, jX9_holds_23, jX9_holds_28, hob, fd, h, b1, ob_n, b2_n, tc_rn, tc_ln, F_sF, A_sF, R_sF, L_sF, F_sA, A_sA, R_sA, L_sA, F_sR, A_sR, R_sR, L_sR, F_sL, A_sL, R_sL, L_sL, and_true, true_and, and_false, false_and, and_self, reduceIte, sF_sF, sA_sA, false_or, or_false, true_or, or_true, not_false_eq_true, not_true_eq_false, decide_true, decide_false, Bool.true_or, Bool.or_true, Bool.false_and, Bool.true_and, Bool.false_or, Bool.or_false, Bool.and_true, Bool.and_false]
  · by_cases q : 0 ≤ P.toInt ∧ P.toInt < 30
    · obtain ⟨p, rfl, hp⟩ : ∃ p : Nat, P = Int32.ofNat p ∧ p < 30 := ⟨P.toInt.toNat, n_of (by omega), by omega⟩
      rw [if_pos q, n_int (by omega), Int.toNat_natCast] at fd
      have hc := c10 p hp
      rw [isL_o hp, n_int (by omega), Int.toNat_natCast]
      by_cases hN : N (1169 * p) = 1
      · rw [if_pos hN] at hc
        obtain ⟨b, b1', b2⟩ := hc
        have n0 : ¬ (some b = none) := nofun
        obtain ⟨y1, y2, p', q', x0, y0, x1, yy1, pa, ma, y3, -⟩ := id b2
        have fk : q_fI 4 1 (e_g s g) b = some (N (1169 * p + 1)) := d_fI y1 y3 rfl
        by_cases hk : N (1169 * p + 1) = 1
        · simp (decide := true) only [fX9_holds, jX9_holds_23, jX9_holds_28, hob, fd, h, b1', n0, fk, hk, hN, b1, ob_n, b2_n, tc_rn, tc_ln, F_sF, A_sF, R_sF, L_sF, F_sA, A_sA, R_sA, L_sA, F_sR, A_sR, R_sR, L_sR, F_sL, A_sL, R_sL, L_sL, and_true, true_and, and_false, false_and, and_self, reduceIte, sF_sF, sA_sA, false_or, or_false, true_or, or_true, not_false_eq_true, not_true_eq_false, decide_true, decide_false, Bool.true_or, Bool.or_true, Bool.false_and, Bool.true_and, Bool.false_or, Bool.or_false, Bool.and_true, Bool.and_false]
        · simp (decide := true) only [fX9_holds, jX9_holds_27, jX9_holds_28, hob, fd, h, b1', n0, fk, hk, hN, b0, ob_n, b2_n, tc_rn, tc_ln, F_sF, A_sF, R_sF, L_sF, F_sA, A_sA, R_sA, L_sA, F_sR, A_sR, R_sR, L_sR, F_sL, A_sL, R_sL, L_sL, and_true, true_and, and_false, false_and, and_self, reduceIte, sF_sF, sA_sA, false_or, or_false, true_or, or_true, not_false_eq_true, not_true_eq_false, decide_true, decide_false, Bool.true_or, Bool.or_true, Bool.false_and, Bool.true_and, Bool.false_or, Bool.or_false, Bool.and_true, Bool.and_false]
      · rw [if_neg hN] at hc
        simp (decide := true) only [fX9_holds, jX9_holds_27, jX9_holds_28, hob, fd, h, hc, hN, b0, ob_n, b2_n, tc_rn, tc_ln, F_sF, A_sF, R_sF, L_sF, F_sA, A_sA, R_sA, L_sA, F_sR, A_sR, R_sR, L_sR, F_sL, A_sL, R_sL, L_sL, and_true, true_and, and_false, false_and, and_self, reduceIte, sF_sF, sA_sA, false_or, or_false, true_or, or_true, not_false_eq_true, not_true_eq_false, decide_true, decide_false, Bool.true_or, Bool.or_true, Bool.false_and, Bool.true_and, Bool.false_or, Bool.or_false, Bool.and_true, Bool.and_false]
    · rw [if_neg q] at fd
      have hL : isL N P = false := decide_eq_false (fun z => q ⟨z.1, z.2.1⟩)
      simp (decide := true) only [fX9_holds, jX9_holds_27, jX9_holds_28, hob, fd, h, hL, b0, ob_n, b2_n, tc_rn, tc_ln, F_sF, A_sF, R_sF, L_sF, F_sA, A_sA, R_sA, L_sA, F_sR, A_sR, R_sR, L_sR, F_sL, A_sL, R_sL, L_sL, and_true, true_and, and_false, false_and, and_self, reduceIte, sF_sF, sA_sA, false_or, or_false, true_or, or_true, not_false_eq_true, not_true_eq_false, decide_true, decide_false, Bool.true_or, Bool.or_true, Bool.false_and, Bool.true_and, Bool.false_or, Bool.or_false, Bool.and_true, Bool.and_false]
