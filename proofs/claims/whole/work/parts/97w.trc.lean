-- needs: 07 10 13 14 20 21 22 23 24 25 26 27 32 33 34 36 38 39 40 41 42 43 44 46 47 48 49 50 52 53 54 57
/-! ===== the lines of a PATH ===== -/
def lw (f : Nat → Int32) (l : List Int32) : Nat → Int32 := fun k => l.getD k (f k)
theorem lw_up {f : Nat → Int32} {l : List Int32} {v : Int32} : upd (lw f l) l.length v = lw f (l ++ [v]) := by
  funext k
  rw [upd_r]
  unfold lw
  by_cases h : k = l.length
  · rw [if_pos h, h]
    simp
  · rw [if_neg h]
    by_cases h2 : k < l.length
    · simp [List.getD_eq_getElem?_getD, List.getElem?_append_left h2]
    · rw [List.getD_eq_getElem?_getD, List.getD_eq_getElem?_getD, List.getElem?_eq_none (by omega), List.getElem?_eq_none (by simp; omega)]
theorem lw_0 {f : Nat → Int32} : lw f [] = f := by funext k; rfl
/-- begin, pen, lines -/
def TrS : Type := Int32 × Int32 × Int32 × Int32 × List Int32 × List Int32 × List Int32 × List Int32
def tS (a b c d : Int32) (e f g h : List Int32) : TrS := (a, b, c, d, e, f, g, h)
def TrS.bx (t : TrS) : Int32 := t.1
def TrS.by' (t : TrS) : Int32 := t.2.1
def TrS.px (t : TrS) : Int32 := t.2.2.1
def TrS.py (t : TrS) : Int32 := t.2.2.2.1
def TrS.ax (t : TrS) : List Int32 := t.2.2.2.2.1
def TrS.ay (t : TrS) : List Int32 := t.2.2.2.2.2.1
def TrS.ex (t : TrS) : List Int32 := t.2.2.2.2.2.2.1
def TrS.ey (t : TrS) : List Int32 := t.2.2.2.2.2.2.2
/-- a line to x, y -/
def TrS.to (t : TrS) (x y : Int32) : TrS := tS t.bx t.by' x y (t.ax ++ [t.px]) (t.ay ++ [t.py]) (t.ex ++ [x]) (t.ey ++ [y])
def TrS.at (t : TrS) (x y : Int32) : TrS := tS x y x y t.ax t.ay t.ex t.ey
def bzP (p q e j : Int32) : Int32 := q_shr ((((p * (8 - j)) * (8 - j)) + (((2 * q) * j) * (8 - j))) + ((e * j) * j)) 6
/-- the first j lines of a curve -/
def TrS.cv (t : TrS) (qx qy ex ey : Int32) : Nat → TrS
  | 0 => t
  | j + 1 => (t.cv qx qy ex ey j).to (bzP t.px qx ex (Int32.ofNat (j + 1))) (bzP t.py qy ey (Int32.ofNat (j + 1)))
def TrS.ok (t : TrS) : Prop := t.ay.length = t.ax.length ∧ t.ex.length = t.ax.length ∧ t.ey.length = t.ax.length
theorem TrS.ok_to {t : TrS} {x y : Int32} (h : t.ok) : (t.to x y).ok ∧ (t.to x y).ax.length = t.ax.length + 1 := by
  obtain ⟨h1, h2, h3⟩ := h
  have l : ∀ (a : List Int32) (v : Int32), (a ++ [v]).length = a.length + 1 := fun a v => by simp
  show ((t.ay ++ [t.py]).length = (t.ax ++ [t.px]).length ∧ (t.ex ++ [x]).length = (t.ax ++ [t.px]).length ∧ (t.ey ++ [y]).length = (t.ax ++ [t.px]).length) ∧ (t.ax ++ [t.px]).length = t.ax.length + 1
  rw [l, l, l, l, h1, h2, h3]
  exact ⟨⟨rfl, rfl, rfl⟩, rfl⟩
theorem TrS.ok_cv {t : TrS} {qx qy ex ey : Int32} (h : t.ok) : ∀ j, (t.cv qx qy ex ey j).ok ∧ (t.cv qx qy ex ey j).ax.length = t.ax.length + j
  | 0 => ⟨h, rfl⟩
  | j + 1 => by
    have ih := TrS.ok_cv (qx := qx) (qy := qy) (ex := ex) (ey := ey) h j
    have := TrS.ok_to (x := bzP t.px qx ex (Int32.ofNat (j + 1))) (y := bzP t.py qy ey (Int32.ofNat (j + 1))) ih.1
    refine ⟨this.1, ?_⟩
    show ((t.cv qx qy ex ey j).to _ _).ax.length = _
    rw [this.2, ih.2]; rfl
/-- STEPS from i on -/
def trG (K X Y : Nat → Int32) (dx dy : Int32) (n : Nat) : Nat → Nat → TrS → TrS
  | 0, _, t => t
  | m + 1, i, t => if n ≤ i then t else if i = 0 ∨ K i = 0 then trG K X Y dx dy n m (i + 1) ((if i = 0 then t else t.to t.bx t.by').at (X i + dx) (Y i + dy)) else if K i = 2 then (if n ≤ i + 1 then t else trG K X Y dx dy n m (i + 2) (t.cv (X i + dx) (Y i + dy) (X (i + 1) + dx) (Y (i + 1) + dy) 8)) else trG K X Y dx dy n m (i + 1) (t.to (X i + dx) (Y i + dy))
def trE (n : Nat) (t : TrS) : TrS := if n = 0 then t else t.to t.bx t.by'
/-- the class's state -/
def tC (s : e_S) (t : TrS) : e_S := sF (sF (sF (sA (sA (sA (sA s 105 (lw (s.2.1 105) t.ax)) 106 (lw (s.2.1 106) t.ay)) 107 (lw (s.2.1 107) t.ex)) 108 (lw (s.2.1 108) t.ey)) 98 10 (Int32.ofNat t.ax.length)) 98 11 t.px) 98 12 t.py
theorem tC_A {s : e_S} {t : TrS} {j : Nat} (h : ¬ j = 105 ∧ ¬ j = 106 ∧ ¬ j = 107 ∧ ¬ j = 108) : (tC s t).2.1 j = s.2.1 j := by
  unfold tC
  rw [A_sF, A_sF, A_sF, A_sA, if_neg h.2.2.2, A_sA, if_neg h.2.2.1, A_sA, if_neg h.2.1, A_sA, if_neg h.1]
theorem tC_105 {s : e_S} {t : TrS} : (tC s t).2.1 105 = lw (s.2.1 105) t.ax ∧ (tC s t).2.1 106 = lw (s.2.1 106) t.ay ∧ (tC s t).2.1 107 = lw (s.2.1 107) t.ex ∧ (tC s t).2.1 108 = lw (s.2.1 108) t.ey := by
  unfold tC
  refine ⟨?_, ?_, ?_, ?_⟩ <;> simp (decide := true) only [ob_n, b2_n, tc_rn, tc_ln, F_sF, A_sF, R_sF, L_sF, F_sA, A_sA, R_sA, L_sA, F_sR, A_sR, R_sR, L_sR, F_sL, A_sL, R_sL, L_sL, and_true, true_and, and_false, false_and, and_self, reduceIte, sF_sF, sA_sA, false_or, or_false, true_or, or_true, not_false_eq_true, not_true_eq_false, decide_true, decide_false, Bool.true_or, Bool.or_true, Bool.false_and, Bool.true_and, Bool.false_or, Bool.or_false, Bool.and_true, Bool.and_false]
theorem tC_F {s : e_S} {t : TrS} : (tC s t).1 98 10 = Int32.ofNat t.ax.length ∧ (tC s t).1 98 11 = t.px ∧ (tC s t).1 98 12 = t.py := by
  unfold tC
  refine ⟨?_, ?_, ?_⟩ <;> simp (decide := true) only [ob_n, b2_n, tc_rn, tc_ln, F_sF, A_sF, R_sF, L_sF, F_sA, A_sA, R_sA, L_sA, F_sR, A_sR, R_sR, L_sR, F_sL, A_sL, R_sL, L_sL, and_true, true_and, and_false, false_and, and_self, reduceIte, sF_sF, sA_sA, false_or, or_false, true_or, or_true, not_false_eq_true, not_true_eq_false, decide_true, decide_false, Bool.true_or, Bool.or_true, Bool.false_and, Bool.true_and, Bool.false_or, Bool.or_false, Bool.and_true, Bool.and_false]
theorem lineTo6 {s : e_S} {g : ps_G} {t : TrS} {x y : Int32} (ht : t.ok) (hn : t.ax.length < 400) : fX6_lineTo (e_g (tC s t) g) 98 x y = some (e_g (tC s (t.to x y)) g) := by
  obtain ⟨h1, h2, h3⟩ := ht
  have wr : ∀ (S : e_S) j (f : Nat → Int32) (v : Int32), (j = 105 ∨ j = 106 ∨ j = 107 ∨ j = 108) → q_wI (e_g S g) j (Int32.ofNat t.ax.length) v = some (e_g (sA S j (upd (S.2.1 j) t.ax.length v)) g) := by
    intro S j f v hj
    rcases hj with rfl | rfl | rfl | rfl
    · rw [u105, n_idx (by omega), if_neg (n_in2 (N := 400) hn (by decide))]
    · rw [u106, n_idx (by omega), if_neg (n_in2 (N := 400) hn (by decide))]
    · rw [u107, n_idx (by omega), if_neg (n_in2 (N := 400) hn (by decide))]
    · rw [u108, n_idx (by omega), if_neg (n_in2 (N := 400) hn (by decide))]
  have e10 := (tC_F (s := s) (t := t)).1
  have e11 := (tC_F (s := s) (t := t)).2.1
  have e12 := (tC_F (s := s) (t := t)).2.2
  have up : ∀ (f : Nat → Int32) (l : List Int32) (v : Int32), l.length = t.ax.length → upd (lw f l) t.ax.length v = lw f (l ++ [v]) := fun f l v e => by rw [← e]; exact lw_up
  unfold fX6_lineTo jX6_lineTo_66
  rw [f98_10, e10, ob_n, if_neg (show ¬ (400 : Int32) ≤ Int32.ofNat _ from nle (b := 400) hn (by omega)), f98_6, ob_n, ob_n, ob_n, f98_11, e11, ob_n, wr _ 105 (fun _ => 0) _ (Or.inl rfl), ob_n]
  rw [f98_7, ob_n, ob_n, f98_10, F_sA, e10, ob_n, f98_12, F_sA, e12, ob_n, wr _ 106 (fun _ => 0) _ (Or.inr (Or.inl rfl)), ob_n]
  rw [f98_8, ob_n, ob_n, f98_10, F_sA, F_sA, e10, ob_n, wr _ 107 (fun _ => 0) _ (Or.inr (Or.inr (Or.inl rfl))), ob_n]
  rw [f98_9, ob_n, ob_n, f98_10, F_sA, F_sA, F_sA, e10, ob_n, wr _ 108 (fun _ => 0) _ (Or.inr (Or.inr (Or.inr rfl))), ob_n]
  rw [f98_10, F_sA, F_sA, F_sA, F_sA, e10, ob_n, w98_10, ob_n, w98_11, ob_n, w98_12, ob_n]
  refine congrArg some (congrArg (fun z => e_g z g) ?_)
  rw [A_sA, if_neg (by decide), A_sA, if_neg (by decide), A_sA, if_neg (by decide), A_sA, if_neg (by decide), A_sA, if_neg (by decide), A_sA, if_neg (by decide), (tC_105).1, (tC_105).2.1, (tC_105).2.2.1, (tC_105).2.2.2, up _ _ _ rfl, up _ _ _ h1, up _ _ _ h2, up _ _ _ h3, n_suc]
  show _ = sF (sF (sF (sA (sA (sA (sA s 105 (lw (s.2.1 105) (t.ax ++ [t.px]))) 106 (lw (s.2.1 106) (t.ay ++ [t.py]))) 107 (lw (s.2.1 107) (t.ex ++ [x]))) 108 (lw (s.2.1 108) (t.ey ++ [y]))) 98 10 (Int32.ofNat (t.ax ++ [t.px]).length)) 98 11 x) 98 12 y
  unfold tC
  rw [List.length_append, List.length_singleton]
  have e : ∀ (S : e_S) a b c d (p q r : Int32), sA (sA (sA (sA (sF (sF (sF S 98 10 p) 98 11 q) 98 12 r) 105 a) 106 b) 107 c) 108 d = sF (sF (sF (sA (sA (sA (sA S 105 a) 106 b) 107 c) 108 d) 98 10 p) 98 11 q) 98 12 r := fun S a b c d p q r => by
    simp only [sA_sF]
  rw [e]
  have cA : ∀ (S : e_S) a b c d a' b' c' d', sA (sA (sA (sA (sA (sA (sA (sA S 105 a) 106 b) 107 c) 108 d) 105 a') 106 b') 107 c') 108 d' = sA (sA (sA (sA S 105 a') 106 b') 107 c') 108 d' := fun S a b c d a' b' c' d' => by
    rw [sA_cm (i := 108) (j := 105) (by decide), sA_cm (i := 107) (j := 105) (by decide), sA_cm (i := 106) (j := 105) (by decide), sA_sA, sA_cm (i := 108) (j := 106) (by decide), sA_cm (i := 107) (j := 106) (by decide), sA_sA, sA_cm (i := 108) (j := 107) (by decide), sA_sA, sA_sA]
  rw [cA]
  have cF : ∀ (S : e_S) (p q r p' q' r' : Int32), sF (sF (sF (sF (sF (sF S 98 10 p) 98 11 q) 98 12 r) 98 10 p') 98 11 q') 98 12 r' = sF (sF (sF S 98 10 p') 98 11 q') 98 12 r' := fun S p q r p' q' r' => by
    rw [sF_cm (i := 98) (j := 12) (i' := 98) (j' := 10) (by omega), sF_cm (i := 98) (j := 11) (i' := 98) (j' := 10) (by omega), sF_sF, sF_cm (i := 98) (j := 12) (i' := 98) (j' := 11) (by omega), sF_sF, sF_sF]
  rw [cF]
theorem curveTo6 {s : e_S} {g : ps_G} {t : TrS} {qx qy ex ey : Int32} (ht : t.ok) (hn : t.ax.length < 392) : fX6_curveTo (e_g (tC s t) g) 98 qx qy ex ey = some (e_g (tC s (t.cv qx qy ex ey 8)) g) := by
  have lp : q_lp (fun u => bX6_curveTo_15 98 qx qy ex ey t.px t.py u.1 u.2) ((1 : Int32), e_g (tC s t) g) = some (e_g (tC s (t.cv qx qy ex ey 8)) g) := by
    refine lp_0 (fun j => (Int32.ofNat (j + 1), e_g (tC s (t.cv qx qy ex ey j)) g)) 8 rfl (fun j hj => ?_) ?_
    · have ok := TrS.ok_cv (qx := qx) (qy := qy) (ex := ex) (ey := ey) ht j
      show bX6_curveTo_15 _ _ _ _ _ _ _ _ _ = _
      unfold bX6_curveTo_15
      dsimp only
      rw [if_neg (fun q => by
        have := (n_lt (n := 8) (m := j + 1) (by omega) (by omega)).mp q
        omega), ob98, ob_n, lineTo6 ok.1 (by omega), ob_n, n_suc]
      rfl
    · show bX6_curveTo_15 _ _ _ _ _ _ _ _ _ = _
      unfold bX6_curveTo_15
      dsimp only
      rw [if_pos (by decide)]
  unfold fX6_curveTo
  rw [f98_11, (tC_F).2.1, ob_n, f98_12, (tC_F).2.2, ob_n, lp, ob_n]
/-- the numbers of lines -/
def TrS.sm (t : TrS) (i : Nat) : Prop := t.ok ∧ t.ax.length ≤ 8 * i
theorem TrS.sm_to {t : TrS} {i : Nat} {x y : Int32} (h : t.sm i) : (t.to x y).sm (i + 1) := by
  obtain ⟨h1, h2⟩ := h
  have := TrS.ok_to (x := x) (y := y) h1
  exact ⟨this.1, by omega⟩
theorem TrS.sm_at {t : TrS} {i : Nat} {x y : Int32} (h : t.sm i) : (t.at x y).sm i := h
theorem TrS.sm_mo {t : TrS} {i j : Nat} (hij : i ≤ j) (h : t.sm i) : t.sm j := ⟨h.1, by have := h.2; omega⟩
theorem TrS.sm_cv {t : TrS} {i : Nat} {qx qy ex ey : Int32} (h : t.sm i) : (t.cv qx qy ex ey 8).sm (i + 2) := by
  obtain ⟨h1, h2⟩ := h
  have := TrS.ok_cv (qx := qx) (qy := qy) (ex := ex) (ey := ey) h1 8
  exact ⟨this.1, by omega⟩
theorem trG_sm {K X Y : Nat → Int32} {dx dy : Int32} {n : Nat} (hn : n ≤ 40) : ∀ m i t, t.sm i → i ≤ n → ∃ j, j ≤ n ∧ (trG K X Y dx dy n m i t).sm j
  | 0, i, t, h, hi => ⟨i, hi, h⟩
  | m + 1, i, t, h, hi => by
    unfold trG
    by_cases q0 : n ≤ i
    · rw [if_pos q0]; exact ⟨i, hi, h⟩
    · rw [if_neg q0]
      by_cases q1 : i = 0 ∨ K i = 0
      · rw [if_pos q1]
        refine trG_sm hn m (i + 1) _ (TrS.sm_at ?_) (by omega)
        by_cases z : i = 0
        · rw [if_pos z]; exact TrS.sm_mo (by omega) h
        · rw [if_neg z]; exact TrS.sm_to h
      · rw [if_neg q1]
        by_cases q2 : K i = 2
        · rw [if_pos q2]
          by_cases q3 : n ≤ i + 1
          · rw [if_pos q3]; exact ⟨i, hi, h⟩
          · rw [if_neg q3]
            exact trG_sm hn m (i + 2) _ (TrS.sm_cv h) (by omega)
        · rw [if_neg q2]
          exact trG_sm hn m (i + 1) _ (TrS.sm_to h) (by omega)
/-- the class traces -/
theorem trace6 {s : e_S} {g : ps_G} {p n : Nat} {dx dy : Int32} {K X Y : Nat → Int32} (hp : p < 8) (hn : n ≤ 40) (e99 : s.2.1 99 p = Int32.ofNat n) (eK : ∀ i, i < n → s.2.1 100 (40 * p + i) = K i) (eX : ∀ i, i < n → s.2.1 101 (40 * p + i) = X i) (eY : ∀ i, i < n → s.2.1 102 (40 * p + i) = Y i) : fX6_trace (e_g s g) 98 (Int32.ofNat p) dx dy = some (e_g (tC s (trE n (trG K X Y dx dy n 41 0 (tS 0 0 (s.1 98 11) (s.1 98 12) [] [] [] [])))) g) := by
  have wi : fX11_within (Int32.ofNat p) 0 7 = Int32.ofNat p := by
    have : ∀ p : Fin 8, fX11_within (Int32.ofNat p.1) 0 7 = Int32.ofNat p.1 := by decide +kernel
    exact this ⟨p, hp⟩
  have mi : fJ9_min_7cf53 (Int32.ofNat n) 40 = Int32.ofNat n := by
    unfold fJ9_min_7cf53
    by_cases q : (40 : Int32) < Int32.ofNat n
    · exfalso
      have := (n_lt (n := 40) (by omega) (by omega)).mp q
      omega
    · rw [if_neg q]
  have w40 : Int32.ofNat p * 40 = Int32.ofNat (40 * p) := by
    rw [show (40 : Int32) = Int32.ofNat 40 from rfl, n_mul, Nat.mul_comm]
  have s0 : sF s 98 10 0 = tC s (tS 0 0 (s.1 98 11) (s.1 98 12) [] [] [] []) := by
    show sF s 98 10 0 = sF (sF (sF (sA (sA (sA (sA s 105 (lw (s.2.1 105) [])) 106 (lw (s.2.1 106) [])) 107 (lw (s.2.1 107) [])) 108 (lw (s.2.1 108) [])) 98 10 0) 98 11 (s.1 98 11)) 98 12 (s.1 98 12)
    rw [lw_0, lw_0, lw_0, lw_0, sA_id, sA_id, sA_id, sA_id]
    show sF s 98 10 0 = sF (sF (sF s 98 10 0) 98 11 (s.1 98 11)) 98 12 (s.1 98 12)
    have a1 : (sF s 98 10 0).1 98 11 = s.1 98 11 := by simp (decide := true) only [ob_n, b2_n, tc_rn, tc_ln, F_sF, A_sF, R_sF, L_sF, F_sA, A_sA, R_sA, L_sA, F_sR, A_sR, R_sR, L_sR, F_sL, A_sL, R_sL, L_sL, and_true, true_and, and_false, false_and, and_self, reduceIte, sF_sF, sA_sA, false_or, or_false, true_or, or_true, not_false_eq_true, not_true_eq_false, decide_true, decide_false, Bool.true_or, Bool.or_true, Bool.false_and, Bool.true_and, Bool.false_or, Bool.or_false, Bool.and_true, Bool.and_false]
    have a2 : (sF s 98 10 0).1 98 12 = s.1 98 12 := by simp (decide := true) only [ob_n, b2_n, tc_rn, tc_ln, F_sF, A_sF, R_sF, L_sF, F_sA, A_sA, R_sA, L_sA, F_sR, A_sR, R_sR, L_sR, F_sL, A_sL, R_sL, L_sL, and_true, true_and, and_false, false_and, and_self, reduceIte, sF_sF, sA_sA, false_or, or_false, true_or, or_true, not_false_eq_true, not_true_eq_false, decide_true, decide_false, Bool.true_or, Bool.or_true, Bool.false_and, Bool.true_and, Bool.false_or, Bool.or_false, Bool.and_true, Bool.and_false]
    rw [← a1, sF_id, ← a2, sF_id]
  generalize ht0 : tS 0 0 (s.1 98 11) (s.1 98 12) [] [] [] [] = t0 at s0
  have ok0 : t0.sm 0 := by rw [← ht0]; exact ⟨⟨rfl, rfl, rfl⟩, Nat.le_refl 0⟩
  have b0 : t0.bx = 0 ∧ t0.by' = 0 := by rw [← ht0]; exact ⟨rfl, rfl⟩
  have rd : ∀ t j, (j = 100 ∨ j = 101 ∨ j = 102) → ∀ i, i < 40 → q_aI (e_g (tC s t) g) j (Int32.ofNat (40 * p + i)) = some (s.2.1 j (40 * p + i)) := by
    intro t j hj i hi
    rcases hj with rfl | rfl | rfl
    · rw [a100, n_idx (by omega), if_neg (n_in2 (N := 320) (by omega) (by decide)), tC_A (by decide)]
    · rw [a101, n_idx (by omega), if_neg (n_in2 (N := 320) (by omega) (by decide)), tC_A (by decide)]
    · rw [a102, n_idx (by omega), if_neg (n_in2 (N := 320) (by omega) (by decide)), tC_A (by decide)]
  obtain ⟨j, j1, j2, j3⟩ := trG_sm (K := K) (X := X) (Y := Y) (dx := dx) (dy := dy) hn 41 0 t0 ok0 (by omega)
  generalize hFN : trG K X Y dx dy n 41 0 t0 = FN at j2 j3
  have lp : ∃ r, q_lp (fun u => bX6_trace_45 98 dx dy (Int32.ofNat (40 * p)) (Int32.ofNat n) u.1 u.2.1 u.2.2.1 u.2.2.2) ((0 : Int32), (0 : Int32), (0 : Int32), e_g (tC s t0) g) = some r ∧ r = (FN.bx, FN.by', e_g (tC s FN) g) := by
    refine lp_inv (b := fun u => bX6_trace_45 98 dx dy (Int32.ofNat (40 * p)) (Int32.ofNat n) u.1 u.2.1 u.2.2.1 u.2.2.2) (fun m u => ∃ i t, u = (t.bx, t.by', Int32.ofNat i, e_g (tC s t) g) ∧ n ≤ i + m ∧ i ≤ n ∧ t.sm i ∧ trG K X Y dx dy n m i t = FN) _ (fun m u hu => ?_) 41 _ ⟨0, t0, by rw [b0.1, b0.2]; rfl, by omega, by omega, ok0, hFN⟩
    obtain ⟨i, t, rfl, hm, hi, hs, ht⟩ := hu
    obtain ⟨hok, hlen⟩ := id hs
    by_cases q0 : n ≤ i
    · right
      refine ⟨_, ?_, rfl⟩
      have : trG K X Y dx dy n m i t = t := by
        cases m with
        | zero => rfl
        | succ m => exact if_pos q0
      rw [this] at ht
      rw [← ht]
      show bX6_trace_45 _ _ _ _ _ _ _ _ _ = _
      unfold bX6_trace_45
      dsimp only
      rw [if_pos ((n_le (by omega) (by omega)).mpr q0)]
    · left
      obtain ⟨m, rfl⟩ : ∃ m', m = m' + 1 := ⟨m - 1, by omega⟩
      unfold trG at ht
      rw [if_neg q0] at ht
      have x1 := rd t 101 (by omega) i (by omega)
      have x2 := rd t 102 (by omega) i (by omega)
      have x3 := rd t 100 (by omega) i (by omega)
      rw [eX i (by omega)] at x1
      rw [eY i (by omega)] at x2
      rw [eK i (by omega)] at x3
      have head : bX6_trace_45 98 dx dy (Int32.ofNat (40 * p)) (Int32.ofNat n) t.bx t.by' (Int32.ofNat i) (e_g (tC s t) g) = if ¬ (Int32.ofNat i = 0) ∧ (¬ K i = 0) then (if K i = (2 : Int32) then (if Int32.ofNat n ≤ (Int32.ofNat i + (1 : Int32)) then (jX6_trace_203_45 (e_g (tC s t) g) 98 dx dy (Int32.ofNat (40 * p)) (Int32.ofNat n) t.bx t.by' (Int32.ofNat i)) else (Option.bind (q_fR 6 2 (e_g (tC s t) g) 98) fun v26 => Option.bind (v26) fun a27 => Option.bind (q_aI (e_g (tC s t) g) a27 ((Int32.ofNat (40 * p) + Int32.ofNat i) + (1 : Int32))) fun v28 => Option.bind (q_fR 6 3 (e_g (tC s t) g) 98) fun v29 => Option.bind (v29) fun a30 => Option.bind (q_aI (e_g (tC s t) g) a30 ((Int32.ofNat (40 * p) + Int32.ofNat i) + (1 : Int32))) fun v31 => Option.bind (q_ob 6 (e_g (tC s t) g) 98) fun u32 => Option.bind (fX6_curveTo (e_g (tC s t) g) 98 (X i + dx) (Y i + dy) (v28 + dx) (v31 + dy)) fun v33 => jX6_trace_203_45 v33 98 dx dy (Int32.ofNat (40 * p)) (Int32.ofNat n) t.bx t.by' (Int32.ofNat i + (1 : Int32)))) else (Option.bind (q_ob 6 (e_g (tC s t) g) 98) fun u36 => Option.bind (fX6_lineTo (e_g (tC s t) g) 98 (X i + dx) (Y i + dy)) fun v37 => jX6_trace_203_45 v37 98 dx dy (Int32.ofNat (40 * p)) (Int32.ofNat n) t.bx t.by' (Int32.ofNat i))) else (if Int32.ofNat i ≤ 0 then (jX6_trace_115_45 (e_g (tC s t) g) 98 dx dy (Int32.ofNat (40 * p)) (Int32.ofNat n) (Int32.ofNat i) (X i + dx) (Y i + dy)) else (Option.bind (q_ob 6 (e_g (tC s t) g) 98) fun u44 => Option.bind (fX6_lineTo (e_g (tC s t) g) 98 t.bx t.by') fun v45 => jX6_trace_115_45 v45 98 dx dy (Int32.ofNat (40 * p)) (Int32.ofNat n) (Int32.ofNat i) (X i + dx) (Y i + dy))) := by
        unfold bX6_trace_45
        rw [if_neg (nle (by omega) (by omega)), f98_2, ob_n, ob_n, n_add, x1, ob_n, f98_3, ob_n, ob_n, x2, ob_n, f98_1, ob_n, ob_n, x3, ob_n]
      -- a figure begins
      have beg : ∀ t' : TrS, jX6_trace_115_45 (e_g (tC s t') g) 98 dx dy (Int32.ofNat (40 * p)) (Int32.ofNat n) (Int32.ofNat i) (X i + dx) (Y i + dy) = some (.inl (X i + dx, Y i + dy, Int32.ofNat (i + 1), e_g (tC s (t'.at (X i + dx) (Y i + dy))) g)) := fun t' => by
        have e : sF (sF (tC s t') 98 11 (X i + dx)) 98 12 (Y i + dy) = tC s (t'.at (X i + dx) (Y i + dy)) := by
          show _ = sF (sF (sF (sA (sA (sA (sA s 105 (lw (s.2.1 105) t'.ax)) 106 (lw (s.2.1 106) t'.ay)) 107 (lw (s.2.1 107) t'.ex)) 108 (lw (s.2.1 108) t'.ey)) 98 10 (Int32.ofNat t'.ax.length)) 98 11 (X i + dx)) 98 12 (Y i + dy)
          unfold tC
          rw [sF_cm (i := 98) (j := 12) (i' := 98) (j' := 11) (by omega), sF_sF, sF_sF]
        unfold jX6_trace_115_45 jX6_trace_203_45
        rw [w98_11, ob_n, w98_12, ob_n, n_suc, e]
      have i0 : Int32.ofNat i = 0 ↔ i = 0 := n_eq (b := 0) (by omega) (by omega)
      have il : Int32.ofNat i ≤ 0 ↔ i = 0 := by
        rw [show (0 : Int32) = Int32.ofNat 0 from rfl, n_le (by omega) (by omega)]; omega
      by_cases q1 : i = 0 ∨ K i = 0
      · rw [if_pos q1] at ht
        rw [if_neg (fun z => by rcases q1 with y | y; exact z.1 (i0.mpr y); exact z.2 y)] at head
        by_cases z : i = 0
        · rw [if_pos z] at ht
          rw [if_pos (il.mpr z), beg] at head
          exact ⟨_, m, head, by omega, i + 1, t.at (X i + dx) (Y i + dy), rfl, by omega, by omega, TrS.sm_mo (by omega) (TrS.sm_at hs), ht⟩
        · rw [if_neg z] at ht
          rw [if_neg (fun y => z (il.mp y)), ob98, ob_n, lineTo6 hok (by omega), ob_n, beg] at head
          exact ⟨_, m, head, by omega, i + 1, (t.to t.bx t.by').at (X i + dx) (Y i + dy), rfl, by omega, by omega, TrS.sm_at (TrS.sm_to hs), ht⟩
      · rw [if_neg q1] at ht
        rw [if_pos ⟨fun y => q1 (Or.inl (i0.mp y)), fun y => q1 (Or.inr y)⟩] at head
        by_cases q2 : K i = 2
        · rw [if_pos q2] at ht head
          by_cases q3 : n ≤ i + 1
          · rw [if_pos q3] at ht
            rw [if_pos (by rw [n_suc, n_le (by omega) (by omega)]; exact q3)] at head
            unfold jX6_trace_203_45 at head
            rw [n_suc] at head
            refine ⟨_, m, head, by omega, i + 1, t, rfl, by omega, by omega, TrS.sm_mo (by omega) hs, ?_⟩
            rw [← ht]
            cases m with
            | zero => rfl
            | succ m => exact if_pos q3
          · rw [if_neg q3] at ht
            have y1 := rd t 101 (by omega) (i + 1) (by omega)
            have y2 := rd t 102 (by omega) (i + 1) (by omega)
            rw [eX (i + 1) (by omega)] at y1
            rw [eY (i + 1) (by omega)] at y2
            rw [if_neg (by rw [n_suc, n_le (by omega) (by omega)]; exact q3), f98_2, ob_n, ob_n, n_add, n_suc, Nat.add_assoc, y1, ob_n, f98_3, ob_n, ob_n, y2, ob_n, ob98, ob_n, curveTo6 hok (by omega), ob_n] at head
            unfold jX6_trace_203_45 at head
            rw [n_suc, n_suc] at head
            have eb : ∀ j, (t.cv (X i + dx) (Y i + dy) (X (i + 1) + dx) (Y (i + 1) + dy) j).bx = t.bx ∧ (t.cv (X i + dx) (Y i + dy) (X (i + 1) + dx) (Y (i + 1) + dy) j).by' = t.by' := fun j => by
              induction j with
              | zero => exact ⟨rfl, rfl⟩
              | succ j ih => exact ih
            refine ⟨_, m, head, by omega, i + 2, t.cv (X i + dx) (Y i + dy) (X (i + 1) + dx) (Y (i + 1) + dy) 8, ?_, by omega, by omega, TrS.sm_cv hs, ht⟩
            rw [(eb 8).1, (eb 8).2]
        · rw [if_neg q2] at ht head
          rw [ob98, ob_n, lineTo6 hok (by omega), ob_n] at head
          unfold jX6_trace_203_45 at head
          rw [n_suc] at head
          exact ⟨_, m, head, by omega, i + 1, t.to (X i + dx) (Y i + dy), rfl, by omega, by omega, TrS.sm_to hs, ht⟩
  obtain ⟨r, lp1, lp2⟩ := lp
  have rd0 : q_aI (e_g (sF s 98 10 0) g) 99 (Int32.ofNat p) = some (Int32.ofNat n) := by
    rw [a99, n_idx (by omega), if_neg (n_in2 (N := 8) (by omega) (by decide)), A_sF, e99]
  unfold fX6_trace jX6_trace_222
  rw [w98_10, ob_n, f98_0, ob_n, ob_n, wi, rd0, ob_n, mi, w40, s0, lp1, ob_n, lp2]
  dsimp only
  unfold trE
  by_cases z : n = 0
  · rw [if_pos (by rw [z]; decide), if_pos z]
  · rw [if_neg (fun y => z (by
      have := (n_le (m := 0) (by omega) (by omega)).mp y
      omega)), if_neg z, ob98, ob_n, lineTo6 j2 (by omega), ob_n]
