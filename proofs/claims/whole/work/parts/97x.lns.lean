-- needs: 97w
/-! ===== the lines of a PATH in the reference ===== -/
def tM (s : e_S) (t : TrS) : e_S := sF (sA (sA (sA (sA s 167 (lw (s.2.1 167) t.ax)) 168 (lw (s.2.1 168) t.ay)) 169 (lw (s.2.1 169) t.ex)) 170 (lw (s.2.1 170) t.ey)) 139 52 (Int32.ofNat t.ax.length)
theorem tM_A {s : e_S} {t : TrS} {j : Nat} (h : ¬ j = 167 ∧ ¬ j = 168 ∧ ¬ j = 169 ∧ ¬ j = 170) : (tM s t).2.1 j = s.2.1 j := by
  unfold tM
  rw [A_sF, A_sA, if_neg h.2.2.2, A_sA, if_neg h.2.2.1, A_sA, if_neg h.2.1, A_sA, if_neg h.1]
theorem tM_r {s : e_S} {t : TrS} : (tM s t).2.1 167 = lw (s.2.1 167) t.ax ∧ (tM s t).2.1 168 = lw (s.2.1 168) t.ay ∧ (tM s t).2.1 169 = lw (s.2.1 169) t.ex ∧ (tM s t).2.1 170 = lw (s.2.1 170) t.ey := by
  unfold tM
  refine ⟨?_, ?_, ?_, ?_⟩ <;> simp (decide := true) only [ob_n, b2_n, tc_rn, tc_ln, F_sF, A_sF, R_sF, L_sF, F_sA, A_sA, R_sA, L_sA, F_sR, A_sR, R_sR, L_sR, F_sL, A_sL, R_sL, L_sL, and_true, true_and, and_false, false_and, and_self, reduceIte, sF_sF, sA_sA, false_or, or_false, true_or, or_true, not_false_eq_true, not_true_eq_false, decide_true, decide_false, Bool.true_or, Bool.or_true, Bool.false_and, Bool.true_and, Bool.false_or, Bool.or_false, Bool.and_true, Bool.and_false]
theorem tM_F {s : e_S} {t : TrS} : (tM s t).1 139 52 = Int32.ofNat t.ax.length := by
  unfold tM
  simp (decide := true) only [ob_n, b2_n, tc_rn, tc_ln, F_sF, A_sF, R_sF, L_sF, F_sA, A_sA, R_sA, L_sA, F_sR, A_sR, R_sR, L_sR, F_sL, A_sL, R_sL, L_sL, and_true, true_and, and_false, false_and, and_self, reduceIte, sF_sF, sA_sA, false_or, or_false, true_or, or_true, not_false_eq_true, not_true_eq_false, decide_true, decide_false, Bool.true_or, Bool.or_true, Bool.false_and, Bool.true_and, Bool.false_or, Bool.or_false, Bool.and_true, Bool.and_false]
theorem line12 {s : e_S} {g : ps_G} {t : TrS} {x y : Int32} (ht : t.ok) (hn : t.ax.length < 420) : fX12_line (e_g (tM s t) g) 139 t.px t.py x y = some (e_g (tM s (t.to x y)) g) := by
  obtain ⟨h1, h2, h3⟩ := ht
  have wr : ∀ (S : e_S) j (f : Nat → Int32) (v : Int32), (j = 167 ∨ j = 168 ∨ j = 169 ∨ j = 170) → q_wI (e_g S g) j (Int32.ofNat t.ax.length) v = some (e_g (sA S j (upd (S.2.1 j) t.ax.length v)) g) := by
    intro S j f v hj
    rcases hj with rfl | rfl | rfl | rfl
    · rw [u167, n_idx (by omega), if_neg (n_in2 (N := 420) hn (by decide))]
    · rw [u168, n_idx (by omega), if_neg (n_in2 (N := 420) hn (by decide))]
    · rw [u169, n_idx (by omega), if_neg (n_in2 (N := 420) hn (by decide))]
    · rw [u170, n_idx (by omega), if_neg (n_in2 (N := 420) hn (by decide))]
  have e10 := tM_F (s := s) (t := t)
  have up : ∀ (f : Nat → Int32) (l : List Int32) (v : Int32), l.length = t.ax.length → upd (lw f l) t.ax.length v = lw f (l ++ [v]) := fun f l v e => by rw [← e]; exact lw_up
  unfold fX12_line
  rw [f139_53, ob_n, ob_n, f139_52, e10, ob_n, wr _ 167 (fun _ => 0) _ (Or.inl rfl), ob_n]
  rw [f139_54, ob_n, ob_n, f139_52, F_sA, e10, ob_n, wr _ 168 (fun _ => 0) _ (Or.inr (Or.inl rfl)), ob_n]
  rw [f139_55, ob_n, ob_n, f139_52, F_sA, F_sA, e10, ob_n, wr _ 169 (fun _ => 0) _ (Or.inr (Or.inr (Or.inl rfl))), ob_n]
  rw [f139_56, ob_n, ob_n, f139_52, F_sA, F_sA, F_sA, e10, ob_n, wr _ 170 (fun _ => 0) _ (Or.inr (Or.inr (Or.inr rfl))), ob_n]
  rw [f139_52, F_sA, F_sA, F_sA, F_sA, e10, ob_n, w139_52, ob_n]
  refine congrArg some (congrArg (fun z => e_g z g) ?_)
  rw [A_sA, if_neg (by decide), A_sA, if_neg (by decide), A_sA, if_neg (by decide), A_sA, if_neg (by decide), A_sA, if_neg (by decide), A_sA, if_neg (by decide), (tM_r).1, (tM_r).2.1, (tM_r).2.2.1, (tM_r).2.2.2, up _ _ _ rfl, up _ _ _ h1, up _ _ _ h2, up _ _ _ h3, n_suc]
  show _ = sF (sA (sA (sA (sA s 167 (lw (s.2.1 167) (t.ax ++ [t.px]))) 168 (lw (s.2.1 168) (t.ay ++ [t.py]))) 169 (lw (s.2.1 169) (t.ex ++ [x]))) 170 (lw (s.2.1 170) (t.ey ++ [y]))) 139 52 (Int32.ofNat (t.ax ++ [t.px]).length)
  unfold tM
  rw [List.length_append, List.length_singleton]
  have e : ∀ (S : e_S) a b c d (p : Int32), sA (sA (sA (sA (sF S 139 52 p) 167 a) 168 b) 169 c) 170 d = sF (sA (sA (sA (sA S 167 a) 168 b) 169 c) 170 d) 139 52 p := fun S a b c d p => by
    simp only [sA_sF]
  rw [e]
  have cA : ∀ (S : e_S) a b c d a' b' c' d', sA (sA (sA (sA (sA (sA (sA (sA S 167 a) 168 b) 169 c) 170 d) 167 a') 168 b') 169 c') 170 d' = sA (sA (sA (sA S 167 a') 168 b') 169 c') 170 d' := fun S a b c d a' b' c' d' => by
    rw [sA_cm (i := 170) (j := 167) (by decide), sA_cm (i := 169) (j := 167) (by decide), sA_cm (i := 168) (j := 167) (by decide), sA_sA, sA_cm (i := 170) (j := 168) (by decide), sA_cm (i := 169) (j := 168) (by decide), sA_sA, sA_cm (i := 170) (j := 169) (by decide), sA_sA, sA_sA]
  rw [cA, sF_sF]
theorem curve12 {s : e_S} {g : ps_G} {t : TrS} {x4 x5 x8 x9 p dx dy qx qy ex ey : Int32} (ht : t.ok) (hn : t.ax.length < 412) : q_lp (fun u => bX12_linesOf_204 139 p dx dy x4 x5 x8 x9 qx qy ex ey t.px t.py u.1 u.2.1 u.2.2.1 u.2.2.2) (t.px, t.py, (1 : Int32), e_g (tM s t) g) = some ((t.cv qx qy ex ey 8).px, (t.cv qx qy ex ey 8).py, e_g (tM s (t.cv qx qy ex ey 8)) g) := by
  refine lp_0 (fun j => ((t.cv qx qy ex ey j).px, (t.cv qx qy ex ey j).py, Int32.ofNat (j + 1), e_g (tM s (t.cv qx qy ex ey j)) g)) 8 rfl (fun j hj => ?_) ?_
  · have ok := TrS.ok_cv (qx := qx) (qy := qy) (ex := ex) (ey := ey) ht j
    show bX12_linesOf_204 _ _ _ _ _ _ _ _ _ _ _ _ _ _ _ _ _ _ = _
    unfold bX12_linesOf_204
    dsimp only
    rw [if_neg (fun q => by
      have := (n_lt (n := 8) (m := j + 1) (by omega) (by omega)).mp q
      omega), ob139, ob_n, line12 ok.1 (by omega), ob_n, n_suc]
    rfl
  · show bX12_linesOf_204 _ _ _ _ _ _ _ _ _ _ _ _ _ _ _ _ _ _ = _
    unfold bX12_linesOf_204
    dsimp only
    rw [if_pos (by decide)]
theorem lines12 {s : e_S} {g : ps_G} {p n : Nat} {dx dy : Int32} {K X Y : Nat → Int32} (hp : p < 8) (hn : n ≤ 40) (e163 : s.2.1 163 p = Int32.ofNat n) (eK : ∀ i, i < n → s.2.1 164 (40 * p + i) = K i) (rK : ∀ i, i < n → rg (K i) 0 2) (eX : ∀ i, i < n → s.2.1 165 (40 * p + i) = X i) (eY : ∀ i, i < n → s.2.1 166 (40 * p + i) = Y i) : fX12_linesOf (e_g s g) 139 (Int32.ofNat p) dx dy = some (e_g (tM s (trE n (trG K X Y dx dy n 41 0 (tS 0 0 0 0 [] [] [] [])))) g) := by
  have s0 : sF s 139 52 0 = tM s (tS 0 0 0 0 [] [] [] []) := by
    show _ = sF (sA (sA (sA (sA s 167 (lw (s.2.1 167) [])) 168 (lw (s.2.1 168) [])) 169 (lw (s.2.1 169) [])) 170 (lw (s.2.1 170) [])) 139 52 0
    rw [lw_0, lw_0, lw_0, lw_0, sA_id, sA_id, sA_id, sA_id]
  generalize ht0 : tS 0 0 0 0 [] [] [] [] = t0 at s0
  have ok0 : t0.sm 0 := by rw [← ht0]; exact ⟨⟨rfl, rfl, rfl⟩, Nat.le_refl 0⟩
  have b0 : t0.bx = 0 ∧ t0.by' = 0 ∧ t0.px = 0 ∧ t0.py = 0 := by rw [← ht0]; exact ⟨rfl, rfl, rfl, rfl⟩
  have rd : ∀ t j, (j = 164 ∨ j = 165 ∨ j = 166) → ∀ i, i < 40 → q_aI (e_g (tM s t) g) j (Int32.ofNat (40 * p + i)) = some (s.2.1 j (40 * p + i)) := by
    intro t j hj i hi
    rcases hj with rfl | rfl | rfl
    · rw [a164, n_idx (by omega), if_neg (n_in2 (N := 320) (by omega) (by decide)), tM_A (by decide)]
    · rw [a165, n_idx (by omega), if_neg (n_in2 (N := 320) (by omega) (by decide)), tM_A (by decide)]
    · rw [a166, n_idx (by omega), if_neg (n_in2 (N := 320) (by omega) (by decide)), tM_A (by decide)]
  obtain ⟨j, j1, j2, j3⟩ := trG_sm (K := K) (X := X) (Y := Y) (dx := dx) (dy := dy) hn 41 0 t0 ok0 (by omega)
  generalize hFN : trG K X Y dx dy n 41 0 t0 = FN at j2 j3
  have i40 : ∀ i : Nat, (40 : Int32) * Int32.ofNat p + Int32.ofNat i = Int32.ofNat (40 * p + i) := fun i => by
    rw [show (40 : Int32) = Int32.ofNat 40 from rfl, n_mul, n_add]
  have lp : ∃ r, q_lp (fun u => bX12_linesOf_28 139 (Int32.ofNat p) dx dy (Int32.ofNat n) u.1 u.2.1 u.2.2.1 u.2.2.2.1 u.2.2.2.2.1 u.2.2.2.2.2) ((0 : Int32), (0 : Int32), (0 : Int32), (0 : Int32), (0 : Int32), e_g (tM s t0) g) = some r ∧ r = (FN.bx, FN.by', FN.px, FN.py, e_g (tM s FN) g) := by
    refine lp_inv (b := fun u => bX12_linesOf_28 139 (Int32.ofNat p) dx dy (Int32.ofNat n) u.1 u.2.1 u.2.2.1 u.2.2.2.1 u.2.2.2.2.1 u.2.2.2.2.2) (fun m u => ∃ i t, u = (t.bx, t.by', t.px, t.py, Int32.ofNat i, e_g (tM s t) g) ∧ n ≤ i + m ∧ i ≤ n ∧ t.sm i ∧ trG K X Y dx dy n m i t = FN) _ (fun m u hu => ?_) 41 _ ⟨0, t0, by rw [b0.1, b0.2.1, b0.2.2.1, b0.2.2.2]; rfl, by omega, by omega, ok0, hFN⟩
    obtain ⟨i, t, rfl, hm, hi, hs, ht⟩ := hu
    obtain ⟨hok, hlen⟩ := id hs
    by_cases q0 : n ≤ i
    · right
      refine ⟨_, ?_, rfl⟩
      have : trG K X Y dx dy n m i t = t := by
        cases m with
        | zero => rfl
        | succ m => exact if_pos q0
      rw [this] at ht
      rw [← ht]
      show bX12_linesOf_28 _ _ _ _ _ _ _ _ _ _ _ = _
      unfold bX12_linesOf_28
      dsimp only
      rw [if_pos ((n_le (by omega) (by omega)).mpr q0)]
    · obtain ⟨m, rfl⟩ : ∃ m', m = m' + 1 := ⟨m - 1, by omega⟩
      unfold trG at ht
      rw [if_neg q0] at ht
      have x1 := rd t 165 (by omega) i (by omega)
      have x2 := rd t 166 (by omega) i (by omega)
      have x3 := rd t 164 (by omega) i (by omega)
      rw [eX i (by omega)] at x1
      rw [eY i (by omega)] at x2
      rw [eK i (by omega)] at x3
      have beg : ∀ t' : TrS, jX12_linesOf_104_28 (e_g (tM s t') g) 139 (Int32.ofNat p) dx dy (Int32.ofNat n) (Int32.ofNat i) (X i + dx) (Y i + dy) = some (.inl (X i + dx, Y i + dy, X i + dx, Y i + dy, Int32.ofNat (i + 1), e_g (tM s (t'.at (X i + dx) (Y i + dy))) g)) := fun t' => by
        unfold jX12_linesOf_104_28 jX12_linesOf_313_28 jX12_linesOf_321_28
        rw [n_suc]
        rfl
      have i0 : Int32.ofNat i = 0 ↔ i = 0 := n_eq (b := 0) (by omega) (by omega)
      have il : Int32.ofNat i ≤ 0 ↔ i = 0 := by
        rw [show (0 : Int32) = Int32.ofNat 0 from rfl, n_le (by omega) (by omega)]; omega
      have j87 : jX12_linesOf_87_28 (e_g (tM s t) g) 139 (Int32.ofNat p) dx dy t.bx t.by' t.px t.py (Int32.ofNat n) (Int32.ofNat i) (X i + dx) (Y i + dy) = some (.inl (X i + dx, Y i + dy, X i + dx, Y i + dy, Int32.ofNat (i + 1), e_g (tM s ((if i = 0 then t else t.to t.bx t.by').at (X i + dx) (Y i + dy))) g)) := by
        unfold jX12_linesOf_87_28
        by_cases z : i = 0
        · rw [if_pos (il.mpr z), beg, if_pos z]
        · rw [if_neg (fun y => z (il.mp y)), ob139, ob_n, line12 hok (by omega), ob_n, beg, if_neg z]
      have head : bX12_linesOf_28 139 (Int32.ofNat p) dx dy (Int32.ofNat n) t.bx t.by' t.px t.py (Int32.ofNat i) (e_g (tM s t) g) = if i = 0 ∨ K i = 0 then jX12_linesOf_87_28 (e_g (tM s t) g) 139 (Int32.ofNat p) dx dy t.bx t.by' t.px t.py (Int32.ofNat n) (Int32.ofNat i) (X i + dx) (Y i + dy) else (if ¬ K i = (1 : Int32) then (if ¬ (Int32.ofNat i + (1 : Int32)) = Int32.ofNat n then (Option.bind (q_fR 12 50 (e_g (tM s t) g) 139) fun v33 => Option.bind (v33) fun a34 => Option.bind (q_aI (e_g (tM s t) g) a34 (((40 : Int32) * Int32.ofNat p) + (Int32.ofNat i + (1 : Int32)))) fun v35 => Option.bind (q_fR 12 51 (e_g (tM s t) g) 139) fun v36 => Option.bind (v36) fun a37 => Option.bind (q_aI (e_g (tM s t) g) a37 (((40 : Int32) * Int32.ofNat p) + (Int32.ofNat i + (1 : Int32)))) fun v38 => Option.bind (q_lp (fun s' => bX12_linesOf_204 139 (Int32.ofNat p) dx dy t.bx t.by' (Int32.ofNat n) (Int32.ofNat i + (1 : Int32)) (X i + dx) (Y i + dy) (v35 + dx) (v38 + dy) t.px t.py s'.1 s'.2.1 s'.2.2.1 s'.2.2.2) (t.px, t.py, (1 : Int32), e_g (tM s t) g)) fun s45 => jX12_linesOf_321_28 s45.2.2 139 (Int32.ofNat p) dx dy t.bx t.by' s45.1 s45.2.1 (Int32.ofNat n) (Int32.ofNat i + (1 : Int32))) else (some (.inr (t.bx, t.by', t.px, t.py, e_g (tM s t) g)))) else (Option.bind (q_ob 12 (e_g (tM s t) g) 139) fun u48 => Option.bind (fX12_line (e_g (tM s t) g) 139 t.px t.py (X i + dx) (Y i + dy)) fun v49 => jX12_linesOf_313_28 v49 139 (Int32.ofNat p) dx dy t.bx t.by' (Int32.ofNat n) (Int32.ofNat i) (X i + dx) (Y i + dy))) := by
        unfold bX12_linesOf_28
        rw [if_neg (nle (by omega) (by omega)), f139_50, ob_n, ob_n, i40, x1, ob_n, f139_51, ob_n, ob_n, x2, ob_n]
        by_cases z : i = 0
        · rw [if_pos (i0.mpr z), if_pos (Or.inl z)]
        · rw [if_neg (fun y => z (i0.mp y)), f139_49, ob_n, ob_n, x3, ob_n]
          by_cases z2 : K i = 0
          · rw [if_neg (fun y => y z2), if_pos (Or.inr z2)]
          · have nz : ¬ (i = 0 ∨ K i = 0) := fun y => y.elim z z2
            rw [if_pos z2, ob_n, ob_n, x3, ob_n, if_neg nz]
      by_cases q1 : i = 0 ∨ K i = 0
      · left
        rw [if_pos q1] at ht
        rw [if_pos q1, j87] at head
        refine ⟨_, m, head, by omega, i + 1, (if i = 0 then t else t.to t.bx t.by').at (X i + dx) (Y i + dy), rfl, by omega, by omega, ?_, ht⟩
        by_cases z : i = 0
        · rw [if_pos z]; exact TrS.sm_mo (by omega) (TrS.sm_at hs)
        · rw [if_neg z]; exact TrS.sm_at (TrS.sm_to hs)
      · rw [if_neg q1] at ht head
        by_cases q2 : K i = 2
        · rw [if_pos q2] at ht
          rw [if_pos (by rw [q2]; decide)] at head
          by_cases q3 : n ≤ i + 1
          · right
            rw [if_pos q3] at ht
            rw [if_neg (fun y => y (by rw [n_suc]; congr 1; omega))] at head
            rw [← ht]
            exact ⟨_, head, rfl⟩
          · left
            rw [if_neg q3] at ht
            have y1 := rd t 165 (by omega) (i + 1) (by omega)
            have y2 := rd t 166 (by omega) (i + 1) (by omega)
            rw [eX (i + 1) (by omega)] at y1
            rw [eY (i + 1) (by omega)] at y2
            rw [if_pos (fun y => q3 (by rw [n_suc] at y; have := (n_eq (by omega) (by omega)).mp y; omega)), f139_50, ob_n, ob_n, n_suc, i40, y1, ob_n, f139_51, ob_n, ob_n, y2, ob_n, curve12 hok (by omega), ob_n] at head
            unfold jX12_linesOf_321_28 at head
            rw [n_suc] at head
            have eb : ∀ j, (t.cv (X i + dx) (Y i + dy) (X (i + 1) + dx) (Y (i + 1) + dy) j).bx = t.bx ∧ (t.cv (X i + dx) (Y i + dy) (X (i + 1) + dx) (Y (i + 1) + dy) j).by' = t.by' := fun j => by
              induction j with
              | zero => exact ⟨rfl, rfl⟩
              | succ j ih => exact ih
            refine ⟨_, m, head, by omega, i + 2, t.cv (X i + dx) (Y i + dy) (X (i + 1) + dx) (Y (i + 1) + dy) 8, ?_, by omega, by omega, TrS.sm_cv hs, ht⟩
            rw [(eb 8).1, (eb 8).2]
        · left
          have k1 : K i = 1 := by
            rcases rg02 (rK i (by omega)) with z | z | z
            · exact absurd (Or.inr z) q1
            · exact z
            · exact absurd z q2
          rw [if_neg q2] at ht
          rw [if_neg (fun y => y k1), ob139, ob_n, line12 hok (by omega), ob_n] at head
          unfold jX12_linesOf_313_28 jX12_linesOf_321_28 at head
          rw [n_suc] at head
          exact ⟨_, m, head, by omega, i + 1, t.to (X i + dx) (Y i + dy), rfl, by omega, by omega, TrS.sm_to hs, ht⟩
  obtain ⟨r, lp1, lp2⟩ := lp
  have rd0 : q_aI (e_g (sF s 139 52 0) g) 163 (Int32.ofNat p) = some (Int32.ofNat n) := by
    rw [a163, n_idx (by omega), if_neg (n_in2 (N := 8) (by omega) (by decide)), A_sF, e163]
  unfold fX12_linesOf jX12_linesOf_327 jX12_linesOf_344
  rw [w139_52, ob_n, f139_48, ob_n, ob_n, rd0, ob_n, s0, lp1, ob_n, lp2]
  dsimp only
  unfold trE
  by_cases z : n = 0
  · rw [if_pos (by rw [z]; decide), if_pos z]
  · rw [if_neg (fun y => z (by
      have := (n_le (m := 0) (by omega) (by omega)).mp y
      omega)), if_neg z, ob139, ob_n, line12 j2 (by omega), ob_n]
/-- where the pen stood ahead of it doesn't matter -/
theorem trG_0 {K X Y : Nat → Int32} {dx dy a b : Int32} {n : Nat} : (trE n (trG K X Y dx dy n 41 0 (tS 0 0 a b [] [] [] []))).ax = (trE n (trG K X Y dx dy n 41 0 (tS 0 0 0 0 [] [] [] []))).ax ∧ (trE n (trG K X Y dx dy n 41 0 (tS 0 0 a b [] [] [] []))).ay = (trE n (trG K X Y dx dy n 41 0 (tS 0 0 0 0 [] [] [] []))).ay ∧ (trE n (trG K X Y dx dy n 41 0 (tS 0 0 a b [] [] [] []))).ex = (trE n (trG K X Y dx dy n 41 0 (tS 0 0 0 0 [] [] [] []))).ex ∧ (trE n (trG K X Y dx dy n 41 0 (tS 0 0 a b [] [] [] []))).ey = (trE n (trG K X Y dx dy n 41 0 (tS 0 0 0 0 [] [] [] []))).ey := by
  have st : ∀ a b, trG K X Y dx dy n 41 0 (tS 0 0 a b [] [] [] []) = if n ≤ 0 then tS 0 0 a b [] [] [] [] else trG K X Y dx dy n 40 1 (tS (X 0 + dx) (Y 0 + dy) (X 0 + dx) (Y 0 + dy) [] [] [] []) := fun a b => by
    show (if n ≤ 0 then _ else if (0 : Nat) = 0 ∨ K 0 = 0 then _ else _) = _
    by_cases q : n ≤ 0
    · rw [if_pos q, if_pos q]
    · rw [if_neg q, if_neg q, if_pos (Or.inl rfl)]
      rfl
  rw [st, st]
  by_cases q : n ≤ 0
  · rw [if_pos q, if_pos q]
    have : n = 0 := by omega
    subst this
    exact ⟨rfl, rfl, rfl, rfl⟩
  · rw [if_neg q, if_neg q]
    exact ⟨rfl, rfl, rfl, rfl⟩
