-- needs: 97zi
def okS (w h : Nat) (sh a b c d : Int32) : Bool := if sh = 3 ∨ sh = 4 then plc w h a b && (rg c 0 255 && rg d (-100) 100) else if sh = 1 ∨ sh = 2 then rg a (-100) 100 && (rg b (-100) 100 && (rg c 0 100 && rg d 0 100)) else if sh = 6 then rg a 0 7 && (rg b 0 1 && (rg c (-100) 100 && rg d (-100) 100)) else rg a (-100) 100 && (rg b (-100) 100 && (rg c (-100) 100 && rg d (-100) 100))
theorem sh_7 {sh : Int32} (h : rg sh 0 6) : sh = 0 ∨ sh = 1 ∨ sh = 2 ∨ sh = 3 ∨ sh = 4 ∨ sh = 5 ∨ sh = 6 := by
  have a := rg_i.mp h
  rw [show (0 : Int32).toInt = 0 from rfl, show (6 : Int32).toInt = 6 from rfl] at a
  rw [i_eq, i_eq, i_eq, i_eq, i_eq, i_eq, i_eq, show (0 : Int32).toInt = 0 from rfl, show (1 : Int32).toInt = 1 from rfl, show (2 : Int32).toInt = 2 from rfl, show (3 : Int32).toInt = 3 from rfl, show (4 : Int32).toInt = 4 from rfl, show (5 : Int32).toInt = 5 from rfl, show (6 : Int32).toInt = 6 from rfl]
  omega
theorem tcr {s : e_S} {g : ps_G} {v A B : Int32} {K : Unit → ps_G → Option ((String ⊕ Unit) × ps_G)} (hg : 195 ≤ g.1) : q_tc (fX11_range (e_g s g) v A B) K = if rg v A B then K () (e_g s g) else some (.inl "java/lang/IllegalArgumentException", e_g s (nx g)) := by
  rw [rng hg]
  by_cases q : rg v A B = true
  · rw [if_pos q, if_pos q, tc_rn]
  · rw [if_neg q, if_neg q, tc_ln]
theorem plc_rg {w h : Nat} {a b : Int32} (hw1 : 1 ≤ w) (hw : w ≤ 24) (hh1 : 1 ≤ h) (hh : h ≤ 24) : plc w h a b = (rg a 0 (Int32.ofNat w - 1) && rg b 0 (Int32.ofNat h - 1)) := by
  have e1 : Int32.ofNat w - 1 = Int32.ofNat (w - 1) := n_sub (b := 1) hw1 (by omega)
  have e2 : Int32.ofNat h - 1 = Int32.ofNat (h - 1) := n_sub (b := 1) hh1 (by omega)
  rw [e1, e2, Bool.eq_iff_iff, Bool.and_eq_true, rg_i, rg_i, n_int (by omega), n_int (by omega)]
  unfold plc
  rw [decide_eq_true_iff, show (0 : Int32).toInt = 0 from rfl]
  omega
theorem needShape11 {s : e_S} {g : ps_G} {q w h : Nat} {N : Nat → Int32} {sh way a b c d : Int32} (hg : 195 ≤ g.1) (hw1 : 1 ≤ w) (hw : w ≤ 24) (hh1 : 1 ≤ h) (hh : h ≤ 24) (e0 : s.2.2.1 8 0 = some q) (hs : StN g q w h N) : fX11_needShape (e_g s g) 8 sh way a b c d = if (rg sh 0 6 && (rg way 0 3 && okS w h sh a b c d)) then some (.inr (), e_g s g) else some (.inl "java/lang/IllegalArgumentException", e_g s (nx g)) := by
  obtain ⟨sw, s1, -, -⟩ := stW (s := s) hs
  have pl := plc_rg (a := a) (b := b) hw1 hw hh1 hh
  by_cases q1 : rg sh 0 6 = true
  · by_cases q2 : rg way 0 3 = true
    · have tail : ∀ A0 A1 B0 B1 C0 C1 D0 : Int32, (if rg a A0 A1 then (if rg b B0 B1 then (if rg c C0 C1 then (if rg d D0 100 then some ((.inr () : String ⊕ Unit), e_g s g) else some (.inl "java/lang/IllegalArgumentException", e_g s (nx g))) else some (.inl "java/lang/IllegalArgumentException", e_g s (nx g))) else some (.inl "java/lang/IllegalArgumentException", e_g s (nx g))) else some (.inl "java/lang/IllegalArgumentException", e_g s (nx g))) = if (rg a A0 A1 && (rg b B0 B1 && (rg c C0 C1 && rg d D0 100))) then some (.inr (), e_g s g) else some (.inl "java/lang/IllegalArgumentException", e_g s (nx g)) := by
        intro A0 A1 B0 B1 C0 C1 D0
        cases rg a A0 A1 <;> cases rg b B0 B1 <;> cases rg c C0 C1 <;> cases rg d D0 100 <;> rfl
      have hh' : (rg sh 0 6 && (rg way 0 3 && okS w h sh a b c d)) = okS w h sh a b c d := by rw [q1, q2]; rfl
      rw [hh']
      unfold fX11_needShape jX11_needShape_95 jX11_needShape_146 okS
      simp only [tcr hg, q1, q2, reduceIte]
      rcases sh_7 q1 with rfl | rfl | rfl | rfl | rfl | rfl | rfl
      · simp (decide := true) only [reduceIte, tail]
      · simp (decide := true) only [reduceIte, tail]
      · simp (decide := true) only [reduceIte, tail]
      · simp (decide := true) only [reduceIte, f8_0, e0, ob_n, sw, s1, tail, pl, Bool.and_assoc]
      · simp (decide := true) only [reduceIte, f8_0, e0, ob_n, sw, s1, tail, pl, Bool.and_assoc]
      · simp (decide := true) only [reduceIte, tail]
      · simp (decide := true) only [reduceIte, tail]
    · have q2' : rg way 0 3 = false := by simpa using q2
      unfold fX11_needShape
      rw [tcr hg, if_pos q1, tcr hg, if_neg q2, q2', q1]
      rfl
  · have q1' : rg sh 0 6 = false := by simpa using q1
    unfold fX11_needShape
    rw [tcr hg, if_neg q1, q1']
    rfl
theorem isRight12 {s : e_S} {g : ps_G} {w h : Nat} {sh a b c d : Int32} (hw : w ≤ 24) (hh : h ≤ 24) (e13 : s.1 139 13 = Int32.ofNat w) (e14 : s.1 139 14 = Int32.ofNat h) (q1 : rg sh 0 6) : fX12_isRight (e_g s g) 139 sh a b c d = some (if okS w h sh a b c d then 1 else 0) := by
  have bl : ∀ v : Int32, v = 0 ∨ v = 1 → q_bl v = some v := fun v hv => by
    unfold q_bl
    rcases hv with rfl | rfl <;> rfl
  have b0 := bl 0 (Or.inl rfl)
  have b1 := bl 1 (Or.inr rfl)
  have pl := place12 (s := s) (g := g) (x := a) (y := b) hw hh e13 e14
  have sub : ∀ (v A B A' B' : Int32), A.toInt ≤ A'.toInt → B'.toInt ≤ B.toInt → rg v A' B' = true → rg v A B = true := fun v A B A' B' h1 h2 h3 => by
    rw [rg_i] at h3 ⊢
    omega
  have c0 : rg c (-100) 100 = true → (c < 0 ↔ ¬ rg c 0 100 = true) := fun hc => by
    rw [rg_i] at hc ⊢
    rw [i_lt, show (0 : Int32).toInt = 0 from rfl]
    omega
  have d0 : rg d (-100) 100 = true → (d < 0 ↔ ¬ rg d 0 100 = true) := fun hc => by
    rw [rg_i] at hc ⊢
    rw [i_lt, show (0 : Int32).toInt = 0 from rfl]
    omega
  have g1 : rg c 0 100 = true → rg c (-100) 100 = true := sub c (-100) 100 0 100 (by decide) (by decide)
  have g2 : rg d 0 100 = true → rg d (-100) 100 = true := sub d (-100) 100 0 100 (by decide) (by decide)
  have g3 : rg a 0 7 = true → rg a (-100) 100 = true := sub a (-100) 100 0 7 (by decide) (by decide)
  have g4 : rg b 0 1 = true → rg b (-100) 100 = true := sub b (-100) 100 0 1 (by decide) (by decide)
  unfold fX12_isRight jX12_isRight_47 jX12_isRight_48 jX12_isRight_99 jX12_isRight_100 jX12_isRight_167 jX12_isRight_168 okS
  simp only [rin]
  rcases sh_7 q1 with rfl | rfl | rfl | rfl | rfl | rfl | rfl
  · by_cases x1 : rg a (-100) 100 = true <;> by_cases x2 : rg b (-100) 100 = true <;> by_cases x3 : rg c (-100) 100 = true <;> by_cases x4 : rg d (-100) 100 = true <;> simp (decide := true) only [reduceIte, x1, x2, x3, x4, b0, b1, ob_n, true_or, or_true, false_or, or_false, Bool.and_true, Bool.and_false, Bool.true_and, Bool.false_and]
  · by_cases x1 : rg a (-100) 100 = true <;> by_cases x2 : rg b (-100) 100 = true <;> by_cases x3 : rg c (-100) 100 = true <;> by_cases x4 : rg d (-100) 100 = true <;> by_cases x5 : rg c 0 100 = true <;> by_cases x6 : rg d 0 100 = true <;> first | exact absurd (g1 x5) x3 | exact absurd (g2 x6) x4 | (have y5 := c0; have y6 := d0; simp only [x3, x4, x5, x6, true_implies, not_true_eq_false, not_false_eq_true, iff_false, iff_true] at y5 y6; simp (decide := true) only [reduceIte, x1, x2, x3, x4, x5, x6, y5, y6, b0, b1, ob_n, true_or, or_true, false_or, or_false, Bool.and_true, Bool.and_false, Bool.true_and, Bool.false_and]) | simp (decide := true) only [reduceIte, x1, x2, x3, x4, x5, x6, b0, b1, ob_n, true_or, or_true, false_or, or_false, Bool.and_true, Bool.and_false, Bool.true_and, Bool.false_and]
  · by_cases x1 : rg a (-100) 100 = true <;> by_cases x2 : rg b (-100) 100 = true <;> by_cases x3 : rg c (-100) 100 = true <;> by_cases x4 : rg d (-100) 100 = true <;> by_cases x5 : rg c 0 100 = true <;> by_cases x6 : rg d 0 100 = true <;> first | exact absurd (g1 x5) x3 | exact absurd (g2 x6) x4 | (have y5 := c0; have y6 := d0; simp only [x3, x4, x5, x6, true_implies, not_true_eq_false, not_false_eq_true, iff_false, iff_true] at y5 y6; simp (decide := true) only [reduceIte, x1, x2, x3, x4, x5, x6, y5, y6, b0, b1, ob_n, true_or, or_true, false_or, or_false, Bool.and_true, Bool.and_false, Bool.true_and, Bool.false_and]) | simp (decide := true) only [reduceIte, x1, x2, x3, x4, x5, x6, b0, b1, ob_n, true_or, or_true, false_or, or_false, Bool.and_true, Bool.and_false, Bool.true_and, Bool.false_and]
  · by_cases x1 : plc w h a b = true <;> by_cases x3 : rg c 0 255 = true <;> by_cases x4 : rg d (-100) 100 = true <;> simp (decide := true) only [reduceIte, ob139, pl, x1, x3, x4, b0, b1, ob_n, true_or, or_true, false_or, or_false, Bool.and_true, Bool.and_false, Bool.true_and, Bool.false_and]
  · by_cases x1 : plc w h a b = true <;> by_cases x3 : rg c 0 255 = true <;> by_cases x4 : rg d (-100) 100 = true <;> simp (decide := true) only [reduceIte, ob139, pl, x1, x3, x4, b0, b1, ob_n, true_or, or_true, false_or, or_false, Bool.and_true, Bool.and_false, Bool.true_and, Bool.false_and]
  · by_cases x1 : rg a (-100) 100 = true <;> by_cases x2 : rg b (-100) 100 = true <;> by_cases x3 : rg c (-100) 100 = true <;> by_cases x4 : rg d (-100) 100 = true <;> simp (decide := true) only [reduceIte, x1, x2, x3, x4, b0, b1, ob_n, true_or, or_true, false_or, or_false, Bool.and_true, Bool.and_false, Bool.true_and, Bool.false_and]
  · by_cases x1 : rg a (-100) 100 = true <;> by_cases x2 : rg b (-100) 100 = true <;> by_cases x3 : rg c (-100) 100 = true <;> by_cases x4 : rg d (-100) 100 = true <;> by_cases x5 : rg a 0 7 = true <;> by_cases x6 : rg b 0 1 = true <;> first | exact absurd (g3 x5) x1 | exact absurd (g4 x6) x2 | simp (decide := true) only [reduceIte, x1, x2, x3, x4, x5, x6, b0, b1, ob_n, true_or, or_true, false_or, or_false, Bool.and_true, Bool.and_false, Bool.true_and, Bool.false_and]
