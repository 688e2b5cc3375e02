-- needs: 07 10 13 14 20 21 22 23 24 25 26 27 32 33 34 38 39 40 41 42 43 44
/-! ===== colours ===== -/
/-- a filter's kind and amount -/
def fOk (p q : Int32) : Bool := rg p 0 13 && rg q (fX5_leastAmount p) (fX5_greatestAmount p)
theorem rg_cases {p : Int32} {n : Nat} (h : rg p 0 (Int32.ofNat n) = true) (hn : n < 2147483648) : ∃ k : Nat, p = Int32.ofNat k ∧ k ≤ n := by
  have q := rg_i.mp h
  rw [n_int hn] at q
  have q1 : 0 ≤ p.toInt := q.1
  exact ⟨p.toInt.toNat, n_of (by omega), by omega⟩
theorem rg_00 {q : Int32} : rg q 0 0 = decide (q = 0) := by
  rw [Bool.eq_iff_iff, rg_i, decide_eq_true_iff, i_eq]
  show (0 ≤ q.toInt ∧ q.toInt ≤ 0) ↔ q.toInt = 0
  omega
theorem flt12 {p q : Int32} : fX12_isFilter p q = if fOk p q then 1 else 0 := by
  by_cases hp : rg p 0 13
  · obtain ⟨k, rfl, hk⟩ := rg_cases (n := 13) hp (by omega)
    have hk2 : k = 0 ∨ k = 1 ∨ k = 2 ∨ k = 3 ∨ k = 4 ∨ k = 5 ∨ k = 6 ∨ k = 7 ∨ k = 8 ∨ k = 9 ∨ k = 10 ∨ k = 11 ∨ k = 12 ∨ k = 13 := by omega
    unfold fOk
    rw [hp, Bool.true_and]
    rcases hk2 with rfl | rfl | rfl | rfl | rfl | rfl | rfl | rfl | rfl | rfl | rfl | rfl | rfl | rfl
    · show fX12_in q 1 4 = if rg q 1 4 = true then 1 else 0
      exact rin
    · show fX12_in q 0 255 = if rg q 0 255 = true then 1 else 0
      exact rin
    · show (if ¬ q = 0 then (0 : Int32) else 1) = if rg q 0 0 = true then 1 else 0
      rw [rg_00]; by_cases z : q = 0 <;> simp (decide := true) only [ob_s, b2_s, tc_r, tc_l, F_sF, A_sF, R_sF, L_sF, F_sA, A_sA, R_sA, L_sA, F_sR, A_sR, R_sR, L_sR, F_sL, A_sL, R_sL, L_sL, and_true, true_and, and_false, false_and, and_self, reduceIte, sF_sF, sA_sA, false_or, or_false, true_or, or_true, not_false_eq_true, not_true_eq_false, decide_true, decide_false, Bool.true_or, Bool.or_true, Bool.false_and, Bool.true_and, Bool.false_or, Bool.or_false, Bool.and_true, Bool.and_false, z]
    · show (if ¬ q = 0 then (0 : Int32) else 1) = if rg q 0 0 = true then 1 else 0
      rw [rg_00]; by_cases z : q = 0 <;> simp (decide := true) only [ob_s, b2_s, tc_r, tc_l, F_sF, A_sF, R_sF, L_sF, F_sA, A_sA, R_sA, L_sA, F_sR, A_sR, R_sR, L_sR, F_sL, A_sL, R_sL, L_sL, and_true, true_and, and_false, false_and, and_self, reduceIte, sF_sF, sA_sA, false_or, or_false, true_or, or_true, not_false_eq_true, not_true_eq_false, decide_true, decide_false, Bool.true_or, Bool.or_true, Bool.false_and, Bool.true_and, Bool.false_or, Bool.or_false, Bool.and_true, Bool.and_false, z]
    · show (if ¬ q = 0 then (0 : Int32) else 1) = if rg q 0 0 = true then 1 else 0
      rw [rg_00]; by_cases z : q = 0 <;> simp (decide := true) only [ob_s, b2_s, tc_r, tc_l, F_sF, A_sF, R_sF, L_sF, F_sA, A_sA, R_sA, L_sA, F_sR, A_sR, R_sR, L_sR, F_sL, A_sL, R_sL, L_sL, and_true, true_and, and_false, false_and, and_self, reduceIte, sF_sF, sA_sA, false_or, or_false, true_or, or_true, not_false_eq_true, not_true_eq_false, decide_true, decide_false, Bool.true_or, Bool.or_true, Bool.false_and, Bool.true_and, Bool.false_or, Bool.or_false, Bool.and_true, Bool.and_false, z]
    · show fX12_in q 2 8 = if rg q 2 8 = true then 1 else 0
      exact rin
    · show fX12_in q 0 255 = if rg q 0 255 = true then 1 else 0
      exact rin
    · show fX12_in q 2 64 = if rg q 2 64 = true then 1 else 0
      exact rin
    · show (if ¬ q = 0 then (0 : Int32) else 1) = if rg q 0 0 = true then 1 else 0
      rw [rg_00]; by_cases z : q = 0 <;> simp (decide := true) only [ob_s, b2_s, tc_r, tc_l, F_sF, A_sF, R_sF, L_sF, F_sA, A_sA, R_sA, L_sA, F_sR, A_sR, R_sR, L_sR, F_sL, A_sL, R_sL, L_sL, and_true, true_and, and_false, false_and, and_self, reduceIte, sF_sF, sA_sA, false_or, or_false, true_or, or_true, not_false_eq_true, not_true_eq_false, decide_true, decide_false, Bool.true_or, Bool.or_true, Bool.false_and, Bool.true_and, Bool.false_or, Bool.or_false, Bool.and_true, Bool.and_false, z]
    · show fX12_in q 0 255 = if rg q 0 255 = true then 1 else 0
      exact rin
    · show (if ¬ q = 0 then (0 : Int32) else 1) = if rg q 0 0 = true then 1 else 0
      rw [rg_00]; by_cases z : q = 0 <;> simp (decide := true) only [ob_s, b2_s, tc_r, tc_l, F_sF, A_sF, R_sF, L_sF, F_sA, A_sA, R_sA, L_sA, F_sR, A_sR, R_sR, L_sR, F_sL, A_sL, R_sL, L_sL, and_true, true_and, and_false, false_and, and_self, reduceIte, sF_sF, sA_sA, false_or, or_false, true_or, or_true, not_false_eq_true, not_true_eq_false, decide_true, decide_false, Bool.true_or, Bool.or_true, Bool.false_and, Bool.true_and, Bool.false_or, Bool.or_false, Bool.and_true, Bool.and_false, z]
    · show (if ¬ q = 0 then (0 : Int32) else 1) = if rg q 0 0 = true then 1 else 0
      rw [rg_00]; by_cases z : q = 0 <;> simp (decide := true) only [ob_s, b2_s, tc_r, tc_l, F_sF, A_sF, R_sF, L_sF, F_sA, A_sA, R_sA, L_sA, F_sR, A_sR, R_sR, L_sR, F_sL, A_sL, R_sL, L_sL, and_true, true_and, and_false, false_and, and_self, reduceIte, sF_sF, sA_sA, false_or, or_false, true_or, or_true, not_false_eq_true, not_true_eq_false, decide_true, decide_false, Bool.true_or, Bool.or_true, Bool.false_and, Bool.true_and, Bool.false_or, Bool.or_false, Bool.and_true, Bool.and_false, z]
    · show fX12_in q 0 255 = if rg q 0 255 = true then 1 else 0
      exact rin
    · show fX12_in q 0 255 = if rg q 0 255 = true then 1 else 0
      exact rin
  · have n := fun (k : Nat) (hk : k ≤ 13) (e : p = Int32.ofNat k) => hp (by
      rw [e, rg_i, n_int (by omega)]
      show (0 : Int) ≤ k ∧ (k : Int) ≤ 13
      omega)
    have z0 : ¬ p = 0 := n 0 (by omega)
    have z1 : ¬ p = 1 := n 1 (by omega)
    have z2 : ¬ p = 2 := n 2 (by omega)
    have z3 : ¬ p = 3 := n 3 (by omega)
    have z4 : ¬ p = 4 := n 4 (by omega)
    have z5 : ¬ p = 5 := n 5 (by omega)
    have z6 : ¬ p = 6 := n 6 (by omega)
    have z7 : ¬ p = 7 := n 7 (by omega)
    have z8 : ¬ p = 8 := n 8 (by omega)
    have z9 : ¬ p = 9 := n 9 (by omega)
    have z10 : ¬ p = 10 := n 10 (by omega)
    have z11 : ¬ p = 11 := n 11 (by omega)
    have z12 : ¬ p = 12 := n 12 (by omega)
    have z13 : ¬ p = 13 := n 13 (by omega)
    simp (decide := true) only [fX12_isFilter, fOk, hp, z0, z1, z2, z3, z4, z5, z6, z7, z8, z9, z10, z11, z12, z13, ob_s, b2_s, tc_r, tc_l, F_sF, A_sF, R_sF, L_sF, F_sA, A_sA, R_sA, L_sA, F_sR, A_sR, R_sR, L_sR, F_sL, A_sL, R_sL, L_sL, and_true, true_and, and_false, false_and, and_self, reduceIte, sF_sF, sA_sA, false_or, or_false, true_or, or_true, not_false_eq_true, not_true_eq_false, decide_true, decide_false, Bool.true_or, Bool.or_true, Bool.false_and, Bool.true_and, Bool.false_or, Bool.or_false, Bool.and_true, Bool.and_false]
theorem needFilter11 {s : e_S} {g : ps_G} {p q : Int32} (hg : 195 ≤ g.1) : fX11_needFilter (e_g s g) p q = if fOk p q then some (.inr (), e_g s g) else some (.inl "java/lang/IllegalArgumentException", e_g s (nx g)) := by
  by_cases h1 : rg p 0 13
  · by_cases h2 : rg q (fX5_leastAmount p) (fX5_greatestAmount p) <;> simp (decide := true) only [fX11_needFilter, rng hg, fOk, h1, h2, ob_s, b2_s, tc_r, tc_l, F_sF, A_sF, R_sF, L_sF, F_sA, A_sA, R_sA, L_sA, F_sR, A_sR, R_sR, L_sR, F_sL, A_sL, R_sL, L_sL, and_true, true_and, and_false, false_and, and_self, reduceIte, sF_sF, sA_sA, false_or, or_false, true_or, or_true, not_false_eq_true, not_true_eq_false, decide_true, decide_false, Bool.true_or, Bool.or_true, Bool.false_and, Bool.true_and, Bool.false_or, Bool.or_false, Bool.and_true, Bool.and_false]
  · simp (decide := true) only [fX11_needFilter, rng hg, fOk, h1, ob_s, b2_s, tc_r, tc_l, F_sF, A_sF, R_sF, L_sF, F_sA, A_sA, R_sA, L_sA, F_sR, A_sR, R_sR, L_sR, F_sL, A_sL, R_sL, L_sL, and_true, true_and, and_false, false_and, and_self, reduceIte, sF_sF, sA_sA, false_or, or_false, true_or, or_true, not_false_eq_true, not_true_eq_false, decide_true, decide_false, Bool.true_or, Bool.or_true, Bool.false_and, Bool.true_and, Bool.false_or, Bool.or_false, Bool.and_true, Bool.and_false]
/-- colours are refused -/
def cBad (k p q : Int32) : Bool := decide (k = 0) || decide (k = 1) || (decide (k = 4) && !rg p 0 7) || (decide (k = 5) && !fOk p q)
def cN (N : Nat → Int32) (l : Nat) (k p q : Int32) : Nat → Int32 := if k = 3 ∨ k = 5 then upd (upd N (1169 * l + 11) p) (1169 * l + 12) q else upd N (1169 * l + 11) p
theorem colours12 {s : e_S} {g : ps_G} {x p q : Int32} {st pc : Nat} (h1 : st < 25) (h2 : pc ≤ 24) (e1 : s.1 139 10 = Int32.ofNat st) (e2 : s.1 139 11 = Int32.ofNat pc) (hkk : ∀ l, l < 30 → s.2.1 142 (1169 * l) = 1 → 0 ≤ (s.2.1 142 (1169 * l + 1)).toInt) : fX12_colours (e_g s g) 139 x p q = if isL (s.2.1 142) x then (if cBad (s.2.1 142 (1169 * x.toInt.toNat + 1)) p q then some (e_g (sF s 139 0 1) g) else some (e_g (fg12 (edM (sA (sF s 139 0 0) 142 (cN (s.2.1 142) x.toInt.toNat (s.2.1 142 (1169 * x.toInt.toNat + 1)) p q)) st pc)) g)) else some (e_g (sF s 139 0 2) g) := by
  by_cases hx : isL (s.2.1 142) x
  · obtain ⟨l, rfl, hl, hl1⟩ := isL_n hx
    rw [if_pos hx, n_int (by omega), Int.toNat_natCast]
    have g1 := get12 (s := s) (g := g) (n := 1) hl (by omega)
    have hk0 : (0 : Int32) ≤ s.2.1 142 (1169 * l + 1) := by rw [i_le, i_0]; exact hkk l hl hl1
    generalize hk : s.2.1 142 (1169 * l + 1) = k at *
    have k0 : fX12_colours (e_g s g) 139 (Int32.ofNat l) p q = jX12_colours_18 (e_g s g) 139 (Int32.ofNat l) p q k := by
      simp (decide := true) only [fX12_colours, ob139, isLayer12, hx, g1, hk, ob_s, b2_s, tc_r, tc_l, F_sF, A_sF, R_sF, L_sF, F_sA, A_sA, R_sA, L_sA, F_sR, A_sR, R_sR, L_sR, F_sL, A_sL, R_sL, L_sL, and_true, true_and, and_false, false_and, and_self, reduceIte, sF_sF, sA_sA, false_or, or_false, true_or, or_true, not_false_eq_true, not_true_eq_false, decide_true, decide_false, Bool.true_or, Bool.or_true, Bool.false_and, Bool.true_and, Bool.false_or, Bool.or_false, Bool.and_true, Bool.and_false]
    rw [k0]
    have b61 : jX12_colours_66 (e_g s g) 139 (Int32.ofNat l) p q k 1 = some (e_g (sF s 139 0 1) g) := by
      simp (decide := true) only [jX12_colours_66, w139_0, f139_0, ob_s, b2_s, tc_r, tc_l, F_sF, A_sF, R_sF, L_sF, F_sA, A_sA, R_sA, L_sA, F_sR, A_sR, R_sR, L_sR, F_sL, A_sL, R_sL, L_sL, and_true, true_and, and_false, false_and, and_self, reduceIte, sF_sF, sA_sA, false_or, or_false, true_or, or_true, not_false_eq_true, not_true_eq_false, decide_true, decide_false, Bool.true_or, Bool.or_true, Bool.false_and, Bool.true_and, Bool.false_or, Bool.or_false, Bool.and_true, Bool.and_false]
    have pp := fun (s' : e_S) n v (hn : n < 1169) => put12 (s := s') (g := g) (n := n) (v := v) hl hn
    have ed := fun s' q1 q2 => edited12 (s := s') (g := g) h1 h2 q1 q2
    have b65 : jX12_colours_66 (e_g s g) 139 (Int32.ofNat l) p q k 0 = some (e_g (fg12 (edM (sA (sF s 139 0 0) 142 (cN (s.2.1 142) l k p q)) st pc)) g) := by
      by_cases z : k = 3 ∨ k = 5
      · have z2 : ¬ (¬ k = 3 ∧ ¬ k = 5) := by rintro ⟨a, b⟩; rcases z with c | c; exact a c; exact b c
        have cn : cN (s.2.1 142) l k p q = upd (upd (s.2.1 142) (1169 * l + 11) p) (1169 * l + 12) q := if_pos z
        simp (decide := true) only [jX12_colours_66, jX12_colours_127, w139_0, f139_0, hk0, ob139, pp _ 11 _ (by omega), pp _ 12 _ (by omega), z2, cn, ob_s, b2_s, tc_r, tc_l, F_sF, A_sF, R_sF, L_sF, F_sA, A_sA, R_sA, L_sA, F_sR, A_sR, R_sR, L_sR, F_sL, A_sL, R_sL, L_sL, and_true, true_and, and_false, false_and, and_self, reduceIte, sF_sF, sA_sA, false_or, or_false, true_or, or_true, not_false_eq_true, not_true_eq_false, decide_true, decide_false, Bool.true_or, Bool.or_true, Bool.false_and, Bool.true_and, Bool.false_or, Bool.or_false, Bool.and_true, Bool.and_false]
        rw [ed _ (by simp (decide := true) only [ob_s, b2_s, tc_r, tc_l, F_sF, A_sF, R_sF, L_sF, F_sA, A_sA, R_sA, L_sA, F_sR, A_sR, R_sR, L_sR, F_sL, A_sL, R_sL, L_sL, and_true, true_and, and_false, false_and, and_self, reduceIte, sF_sF, sA_sA, false_or, or_false, true_or, or_true, not_false_eq_true, not_true_eq_false, decide_true, decide_false, Bool.true_or, Bool.or_true, Bool.false_and, Bool.true_and, Bool.false_or, Bool.or_false, Bool.and_true, Bool.and_false, e1]) (by simp (decide := true) only [ob_s, b2_s, tc_r, tc_l, F_sF, A_sF, R_sF, L_sF, F_sA, A_sA, R_sA, L_sA, F_sR, A_sR, R_sR, L_sR, F_sL, A_sL, R_sL, L_sL, and_true, true_and, and_false, false_and, and_self, reduceIte, sF_sF, sA_sA, false_or, or_false, true_or, or_true, not_false_eq_true, not_true_eq_false, decide_true, decide_false, Bool.true_or, Bool.or_true, Bool.false_and, Bool.true_and, Bool.false_or, Bool.or_false, Bool.and_true, Bool.and_false, e2])]
        simp (decide := true) only [ob_s, b2_s, tc_r, tc_l, F_sF, A_sF, R_sF, L_sF, F_sA, A_sA, R_sA, L_sA, F_sR, A_sR, R_sR, L_sR, F_sL, A_sL, R_sL, L_sL, and_true, true_and, and_false, false_and, and_self, reduceIte, sF_sF, sA_sA, false_or, or_false, true_or, or_true, not_false_eq_true, not_true_eq_false, decide_true, decide_false, Bool.true_or, Bool.or_true, Bool.false_and, Bool.true_and, Bool.false_or, Bool.or_false, Bool.and_true, Bool.and_false, ob139, forget12, fg12]
      · have z2 : ¬ k = 3 ∧ ¬ k = 5 := ⟨fun c => z (Or.inl c), fun c => z (Or.inr c)⟩
        have cn : cN (s.2.1 142) l k p q = upd (s.2.1 142) (1169 * l + 11) p := if_neg z
        simp (decide := true) only [jX12_colours_66, jX12_colours_127, w139_0, f139_0, hk0, ob139, pp _ 11 _ (by omega), z2, cn, ob_s, b2_s, tc_r, tc_l, F_sF, A_sF, R_sF, L_sF, F_sA, A_sA, R_sA, L_sA, F_sR, A_sR, R_sR, L_sR, F_sL, A_sL, R_sL, L_sL, and_true, true_and, and_false, false_and, and_self, reduceIte, sF_sF, sA_sA, false_or, or_false, true_or, or_true, not_false_eq_true, not_true_eq_false, decide_true, decide_false, Bool.true_or, Bool.or_true, Bool.false_and, Bool.true_and, Bool.false_or, Bool.or_false, Bool.and_true, Bool.and_false]
        rw [ed _ (by simp (decide := true) only [ob_s, b2_s, tc_r, tc_l, F_sF, A_sF, R_sF, L_sF, F_sA, A_sA, R_sA, L_sA, F_sR, A_sR, R_sR, L_sR, F_sL, A_sL, R_sL, L_sL, and_true, true_and, and_false, false_and, and_self, reduceIte, sF_sF, sA_sA, false_or, or_false, true_or, or_true, not_false_eq_true, not_true_eq_false, decide_true, decide_false, Bool.true_or, Bool.or_true, Bool.false_and, Bool.true_and, Bool.false_or, Bool.or_false, Bool.and_true, Bool.and_false, e1]) (by simp (decide := true) only [ob_s, b2_s, tc_r, tc_l, F_sF, A_sF, R_sF, L_sF, F_sA, A_sA, R_sA, L_sA, F_sR, A_sR, R_sR, L_sR, F_sL, A_sL, R_sL, L_sL, and_true, true_and, and_false, false_and, and_self, reduceIte, sF_sF, sA_sA, false_or, or_false, true_or, or_true, not_false_eq_true, not_true_eq_false, decide_true, decide_false, Bool.true_or, Bool.or_true, Bool.false_and, Bool.true_and, Bool.false_or, Bool.or_false, Bool.and_true, Bool.and_false, e2])]
        simp (decide := true) only [ob_s, b2_s, tc_r, tc_l, F_sF, A_sF, R_sF, L_sF, F_sA, A_sA, R_sA, L_sA, F_sR, A_sR, R_sR, L_sR, F_sL, A_sL, R_sL, L_sL, and_true, true_and, and_false, false_and, and_self, reduceIte, sF_sF, sA_sA, false_or, or_false, true_or, or_true, not_false_eq_true, not_true_eq_false, decide_true, decide_false, Bool.true_or, Bool.or_true, Bool.false_and, Bool.true_and, Bool.false_or, Bool.or_false, Bool.and_true, Bool.and_false, ob139, forget12, fg12]
    by_cases a0 : k = 0
    · simp (decide := true) only [jX12_colours_18, jX12_colours_61, a0, cBad, ob_s, b2_s, tc_r, tc_l, F_sF, A_sF, R_sF, L_sF, F_sA, A_sA, R_sA, L_sA, F_sR, A_sR, R_sR, L_sR, F_sL, A_sL, R_sL, L_sL, and_true, true_and, and_false, false_and, and_self, reduceIte, sF_sF, sA_sA, false_or, or_false, true_or, or_true, not_false_eq_true, not_true_eq_false, decide_true, decide_false, Bool.true_or, Bool.or_true, Bool.false_and, Bool.true_and, Bool.false_or, Bool.or_false, Bool.and_true, Bool.and_false]
      rw [a0] at b61
      exact b61
    · by_cases a1 : k = 1
      · simp (decide := true) only [jX12_colours_18, jX12_colours_61, a1, cBad, ob_s, b2_s, tc_r, tc_l, F_sF, A_sF, R_sF, L_sF, F_sA, A_sA, R_sA, L_sA, F_sR, A_sR, R_sR, L_sR, F_sL, A_sL, R_sL, L_sL, and_true, true_and, and_false, false_and, and_self, reduceIte, sF_sF, sA_sA, false_or, or_false, true_or, or_true, not_false_eq_true, not_true_eq_false, decide_true, decide_false, Bool.true_or, Bool.or_true, Bool.false_and, Bool.true_and, Bool.false_or, Bool.or_false, Bool.and_true, Bool.and_false]
        rw [a1] at b61
        exact b61
      · by_cases a4 : k = 4
        · by_cases a7 : rg p 0 7
          · simp (decide := true) only [jX12_colours_18, jX12_colours_47, jX12_colours_65, a4, a7, rin, cBad, Bool.not_true, ob_s, b2_s, tc_r, tc_l, F_sF, A_sF, R_sF, L_sF, F_sA, A_sA, R_sA, L_sA, F_sR, A_sR, R_sR, L_sR, F_sL, A_sL, R_sL, L_sL, and_true, true_and, and_false, false_and, and_self, reduceIte, sF_sF, sA_sA, false_or, or_false, true_or, or_true, not_false_eq_true, not_true_eq_false, decide_true, decide_false, Bool.true_or, Bool.or_true, Bool.false_and, Bool.true_and, Bool.false_or, Bool.or_false, Bool.and_true, Bool.and_false]
            rw [a4] at b65
            exact b65
          · simp (decide := true) only [jX12_colours_18, jX12_colours_61, a4, a7, rin, cBad, Bool.not_false, ob_s, b2_s, tc_r, tc_l, F_sF, A_sF, R_sF, L_sF, F_sA, A_sA, R_sA, L_sA, F_sR, A_sR, R_sR, L_sR, F_sL, A_sL, R_sL, L_sL, and_true, true_and, and_false, false_and, and_self, reduceIte, sF_sF, sA_sA, false_or, or_false, true_or, or_true, not_false_eq_true, not_true_eq_false, decide_true, decide_false, Bool.true_or, Bool.or_true, Bool.false_and, Bool.true_and, Bool.false_or, Bool.or_false, Bool.and_true, Bool.and_false]
            rw [a4] at b61
            exact b61
        · by_cases a5 : k = 5
          · by_cases a7 : fOk p q
            · simp (decide := true) only [jX12_colours_18, jX12_colours_47, jX12_colours_65, a5, flt12, a7, cBad, Bool.not_true, ob_s, b2_s, tc_r, tc_l, F_sF, A_sF, R_sF, L_sF, F_sA, A_sA, R_sA, L_sA, F_sR, A_sR, R_sR, L_sR, F_sL, A_sL, R_sL, L_sL, and_true, true_and, and_false, false_and, and_self, reduceIte, sF_sF, sA_sA, false_or, or_false, true_or, or_true, not_false_eq_true, not_true_eq_false, decide_true, decide_false, Bool.true_or, Bool.or_true, Bool.false_and, Bool.true_and, Bool.false_or, Bool.or_false, Bool.and_true, Bool.and_false]
              rw [a5] at b65
              exact b65
            · simp (decide := true) only [jX12_colours_18, jX12_colours_47, jX12_colours_61, a5, flt12, a7, cBad, Bool.not_false, ob_s, b2_s, tc_r, tc_l, F_sF, A_sF, R_sF, L_sF, F_sA, A_sA, R_sA, L_sA, F_sR, A_sR, R_sR, L_sR, F_sL, A_sL, R_sL, L_sL, and_true, true_and, and_false, false_and, and_self, reduceIte, sF_sF, sA_sA, false_or, or_false, true_or, or_true, not_false_eq_true, not_true_eq_false, decide_true, decide_false, Bool.true_or, Bool.or_true, Bool.false_and, Bool.true_and, Bool.false_or, Bool.or_false, Bool.and_true, Bool.and_false]
              rw [a5] at b61
              exact b61
          · simp (decide := true) only [jX12_colours_18, jX12_colours_47, jX12_colours_65, a0, a1, a4, a5, cBad, b65, ob_s, b2_s, tc_r, tc_l, F_sF, A_sF, R_sF, L_sF, F_sA, A_sA, R_sA, L_sA, F_sR, A_sR, R_sR, L_sR, F_sL, A_sL, R_sL, L_sL, and_true, true_and, and_false, false_and, and_self, reduceIte, sF_sF, sA_sA, false_or, or_false, true_or, or_true, not_false_eq_true, not_true_eq_false, decide_true, decide_false, Bool.true_or, Bool.or_true, Bool.false_and, Bool.true_and, Bool.false_or, Bool.or_false, Bool.and_true, Bool.and_false]
  · have z1 : ¬ (0 : Int32) ≤ -1 := by decide
    have z2 : ¬ ((2 : Int32) ≤ 0) := by decide
    rw [if_neg hx]
    simp (decide := true) only [fX12_colours, jX12_colours_18, jX12_colours_47, jX12_colours_65, jX12_colours_66, ob139, isLayer12, hx, w139_0, f139_0, z1, z2, ob_s, b2_s, tc_r, tc_l, F_sF, A_sF, R_sF, L_sF, F_sA, A_sA, R_sA, L_sA, F_sR, A_sR, R_sR, L_sR, F_sL, A_sL, R_sL, L_sL, and_true, true_and, and_false, false_and, and_self, reduceIte, sF_sF, sA_sA, false_or, or_false, true_or, or_true, not_false_eq_true, not_true_eq_false, decide_true, decide_false, Bool.true_or, Bool.or_true, Bool.false_and, Bool.true_and, Bool.false_or, Bool.or_false, Bool.and_true, Bool.and_false]
theorem kind_c {k : Int32} (h : rg k 0 5 = true) : k = 0 ∨ k = 1 ∨ k = 2 ∨ k = 3 ∨ k = 4 ∨ k = 5 := by
  obtain ⟨n, rfl, hn⟩ := rg_cases (n := 5) h (by omega)
  have : n = 0 ∨ n = 1 ∨ n = 2 ∨ n = 3 ∨ n = 4 ∨ n = 5 := by omega
  rcases this with rfl | rfl | rfl | rfl | rfl | rfl
  · exact Or.inl rfl
  · exact Or.inr (Or.inl rfl)
  · exact Or.inr (Or.inr (Or.inl rfl))
  · exact Or.inr (Or.inr (Or.inr (Or.inl rfl)))
  · exact Or.inr (Or.inr (Or.inr (Or.inr (Or.inl rfl))))
  · exact Or.inr (Or.inr (Or.inr (Or.inr (Or.inr rfl))))
theorem lR_cN {N : Nat → Int32} {l : Nat} {k p q : Int32} : lR (cN N l k p q) l = if k = 3 ∨ k = 5 then upd (upd (lR N l) 11 p) 12 q else upd (lR N l) 11 p := by
  unfold cN
  by_cases h : k = 3 ∨ k = 5
  · rw [if_pos h, if_pos h, lR_upd, lR_upd]
  · rw [if_neg h, if_neg h, lR_upd]
theorem kind_ge {g : ps_G} {a w h : Nat} {N : Nat → Int32} (hs : StN g a w h N) : ∀ l, l < 30 → N (1169 * l) = 1 → 0 ≤ (N (1169 * l + 1)).toInt := by
  intro l hl h1
  obtain ⟨t, h1', h2, la, oa, sz, ly, od, c1, c0, c2, c3, c9, c4, c5, c6, c7, c8, c10⟩ := hs
  have := c10 l hl
  rw [if_pos h1] at this
  obtain ⟨b, -, b2⟩ := this
  obtain ⟨y1, y2, p, q', x0, y0, x1, yy1, pa, ma, y3, z1, -⟩ := b2
  exact (rg_i.mp z1).1
theorem K_colours {s : e_S} {g : ps_G} {x p q : Int32} (hR : Rel s g) : KV (fL_colours (e_g s g) 8 x p q) (fun G => fX12_colours G 139 x p q) g := by
  have hg := rel_g hR
  obtain ⟨h1, h2, h3, h4, h5, h6, ⟨w, h, h7, h8, h9⟩, h10, h11⟩ := id hR
  obtain ⟨a, st, pc, uc, f1, f2, f3, f4, f5, f6, f7, f8, f9, f10, f11, f12⟩ := h9
  have hwh := wh_le h7.2.1 h7.2.2.2.1
  have hm0 := fun g => colours12 (s := s) (g := g) (x := x) (p := p) (q := q) f1 (show pc ≤ 24 by omega) f6 f7 (kind_ge f9)
  rcases known11 (x := x) hg f3 f9 with ⟨k1, k2⟩ | ⟨l, b, rfl, hl, k1, k3, k2, hLy⟩
  · refine KV_no (E := "java/util/NoSuchElementException") (y := 2) hR ?_ (by decide +kernel) ((hm0 _).trans (if_neg (by rw [k1]; decide)))
    simp (decide := true) only [fX11_colours, ob8, k2, ob_s, b2_s, tc_r, tc_l, F_sF, A_sF, R_sF, L_sF, F_sA, A_sA, R_sA, L_sA, F_sR, A_sR, R_sR, L_sR, F_sL, A_sL, R_sL, L_sL, and_true, true_and, and_false, false_and, and_self, reduceIte, sF_sF, sA_sA, false_or, or_false, true_or, or_true, not_false_eq_true, not_true_eq_false, decide_true, decide_false, Bool.true_or, Bool.or_true, Bool.false_and, Bool.true_and, Bool.false_or, Bool.or_false, Bool.and_true, Bool.and_false]
  · obtain ⟨y1, y2, p0, q0, x0, y0, x1, yy1, pa, ma, y3, z1, z2, z3, z4, z5, z6, z7, z8, z9, z10, z11, z12, z13, z14⟩ := id hLy
    have fk : q_fI 4 1 (e_g s g) b = some (lR (s.2.1 142) l 1) := d_fI y1 y3 rfl
    have eK : s.2.1 142 (1169 * l + 1) = lR (s.2.1 142) l 1 := rfl
    have kc := kind_c z1
    have hcl : fX11_colours (e_g s g) 8 (Int32.ofNat l) p q = if cBad (lR (s.2.1 142) l 1) p q then some (.inl "java/lang/IllegalArgumentException", e_g s (nx g)) else jX11_colours_47 (e_g s g) 8 p q (some b) := by
      rcases kc with e | e | e | e | e | e
      · have r : rg 0 2 5 = false := by decide
        simp (decide := true) only [fX11_colours, ob8, k2, fk, e, rng hg, r, cBad, ob_s, b2_s, tc_r, tc_l, F_sF, A_sF, R_sF, L_sF, F_sA, A_sA, R_sA, L_sA, F_sR, A_sR, R_sR, L_sR, F_sL, A_sL, R_sL, L_sL, and_true, true_and, and_false, false_and, and_self, reduceIte, sF_sF, sA_sA, false_or, or_false, true_or, or_true, not_false_eq_true, not_true_eq_false, decide_true, decide_false, Bool.true_or, Bool.or_true, Bool.false_and, Bool.true_and, Bool.false_or, Bool.or_false, Bool.and_true, Bool.and_false]
      · have r : rg 1 2 5 = false := by decide
        simp (decide := true) only [fX11_colours, ob8, k2, fk, e, rng hg, r, cBad, ob_s, b2_s, tc_r, tc_l, F_sF, A_sF, R_sF, L_sF, F_sA, A_sA, R_sA, L_sA, F_sR, A_sR, R_sR, L_sR, F_sL, A_sL, R_sL, L_sL, and_true, true_and, and_false, false_and, and_self, reduceIte, sF_sF, sA_sA, false_or, or_false, true_or, or_true, not_false_eq_true, not_true_eq_false, decide_true, decide_false, Bool.true_or, Bool.or_true, Bool.false_and, Bool.true_and, Bool.false_or, Bool.or_false, Bool.and_true, Bool.and_false]
      · have r : rg 2 2 5 = true := by decide
        simp (decide := true) only [fX11_colours, jX11_colours_33, ob8, k2, fk, e, rng hg, r, cBad, ob_s, b2_s, tc_r, tc_l, F_sF, A_sF, R_sF, L_sF, F_sA, A_sA, R_sA, L_sA, F_sR, A_sR, R_sR, L_sR, F_sL, A_sL, R_sL, L_sL, and_true, true_and, and_false, false_and, and_self, reduceIte, sF_sF, sA_sA, false_or, or_false, true_or, or_true, not_false_eq_true, not_true_eq_false, decide_true, decide_false, Bool.true_or, Bool.or_true, Bool.false_and, Bool.true_and, Bool.false_or, Bool.or_false, Bool.and_true, Bool.and_false]
      · have r : rg 3 2 5 = true := by decide
        simp (decide := true) only [fX11_colours, jX11_colours_33, ob8, k2, fk, e, rng hg, r, cBad, ob_s, b2_s, tc_r, tc_l, F_sF, A_sF, R_sF, L_sF, F_sA, A_sA, R_sA, L_sA, F_sR, A_sR, R_sR, L_sR, F_sL, A_sL, R_sL, L_sL, and_true, true_and, and_false, false_and, and_self, reduceIte, sF_sF, sA_sA, false_or, or_false, true_or, or_true, not_false_eq_true, not_true_eq_false, decide_true, decide_false, Bool.true_or, Bool.or_true, Bool.false_and, Bool.true_and, Bool.false_or, Bool.or_false, Bool.and_true, Bool.and_false]
      · have r : rg 4 2 5 = true := by decide
        by_cases a7 : rg p 0 7 <;> simp (decide := true) only [fX11_colours, jX11_colours_33, ob8, k2, fk, e, rng hg, r, cBad, a7, Bool.not_true, Bool.not_false, ob_s, b2_s, tc_r, tc_l, F_sF, A_sF, R_sF, L_sF, F_sA, A_sA, R_sA, L_sA, F_sR, A_sR, R_sR, L_sR, F_sL, A_sL, R_sL, L_sL, and_true, true_and, and_false, false_and, and_self, reduceIte, sF_sF, sA_sA, false_or, or_false, true_or, or_true, not_false_eq_true, not_true_eq_false, decide_true, decide_false, Bool.true_or, Bool.or_true, Bool.false_and, Bool.true_and, Bool.false_or, Bool.or_false, Bool.and_true, Bool.and_false]
      · have r : rg 5 2 5 = true := by decide
        by_cases a7 : fOk p q <;> simp (decide := true) only [fX11_colours, jX11_colours_33, ob8, k2, fk, e, rng hg, needFilter11 hg, r, cBad, a7, Bool.not_true, Bool.not_false, ob_s, b2_s, tc_r, tc_l, F_sF, A_sF, R_sF, L_sF, F_sA, A_sA, R_sA, L_sA, F_sR, A_sR, R_sR, L_sR, F_sL, A_sL, R_sL, L_sL, and_true, true_and, and_false, false_and, and_self, reduceIte, sF_sF, sA_sA, false_or, or_false, true_or, or_true, not_false_eq_true, not_true_eq_false, decide_true, decide_false, Bool.true_or, Bool.or_true, Bool.false_and, Bool.true_and, Bool.false_or, Bool.or_false, Bool.and_true, Bool.and_false]
    by_cases hb : cBad (lR (s.2.1 142) l 1) p q
    · exact KV_no hR (hcl.trans (if_pos hb)) (by decide +kernel) ((hm0 _).trans ((if_pos k1).trans (if_pos (by rw [n_int (by omega), Int.toNat_natCast, eK]; exact hb))))
    · have ag := again4 (s := s) hg y1 y2 (rg01 z4) (rg01 z5) y3
      have ob4 : q_ob 4 (e_g s g) b = some () := d_ob y1 y3
      have fk2 : ∀ e', q_fI 4 1 (e_g s (ps_nw g 17 e')) b = some (lR (s.2.1 142) l 1) := fun e' => m_fI y1 y2 y3 rfl
      have hbad : ¬ (lR (s.2.1 142) l 1 = 0) ∧ ¬ (lR (s.2.1 142) l 1 = 1) ∧ (lR (s.2.1 142) l 1 = 4 → rg p 0 7 = true) ∧ (lR (s.2.1 142) l 1 = 5 → fOk p q = true) := by
        unfold cBad at hb
        simp (decide := true) only [Bool.or_eq_true, Bool.and_eq_true, decide_eq_true_eq, Bool.not_eq_true', not_or, not_and] at hb
        refine ⟨hb.1.1.1, hb.1.1.2, fun e => ?_, fun e => ?_⟩
        · have := hb.1.2 e
          cases z : rg p 0 7 with
          | true => rfl
          | false => exact absurd z this
        · have := hb.2 e
          cases z : fOk p q with
          | true => rfl
          | false => exact absurd z this
      have n2 : ¬ lR (s.2.1 142) l 1 < 2 := by
        rcases kc with e | e | e | e | e | e
        · exact absurd e hbad.1
        · exact absurd e hbad.2.1
        · rw [e]; decide
        · rw [e]; decide
        · rw [e]; decide
        · rw [e]; decide
      rw [if_neg n2] at z8
      have hLy' : LyN (mkL g [.int (Int32.ofNat l), .int (lR (s.2.1 142) l 1), .int (lR (s.2.1 142) l 2), .int (lR (s.2.1 142) l 4), .int (lR (s.2.1 142) l 5), .int (lR (s.2.1 142) l 6), .int (lR (s.2.1 142) l 7), .int (lR (s.2.1 142) l 8), .int (lR (s.2.1 142) l 9), .int p, .int (if lR (s.2.1 142) l 1 = 3 ∨ lR (s.2.1 142) l 1 = 5 then q else 0), .int x0, .int y0, .int x1, .int yy1, .ref pa, .ref ma]) g.1 w h l (lR (cN (s.2.1 142) l (lR (s.2.1 142) l 1) p q) l) := by
        have u : ∀ j, ¬ j = 11 → ¬ j = 12 → lR (cN (s.2.1 142) l (lR (s.2.1 142) l 1) p q) l j = lR (s.2.1 142) l j := by
          intro j h11 h12
          rw [lR_cN]
          by_cases z : lR (s.2.1 142) l 1 = 3 ∨ lR (s.2.1 142) l 1 = 5
          · rw [if_pos z, upd_n h12, upd_n h11]
          · rw [if_neg z, upd_n h11]
        have u11 : lR (cN (s.2.1 142) l (lR (s.2.1 142) l 1) p q) l 11 = p := by
          rw [lR_cN]
          by_cases z : lR (s.2.1 142) l 1 = 3 ∨ lR (s.2.1 142) l 1 = 5
          · rw [if_pos z, upd_n (by decide), upd_s]
          · rw [if_neg z, upd_s]
        have u12 : lR (cN (s.2.1 142) l (lR (s.2.1 142) l 1) p q) l 12 = if lR (s.2.1 142) l 1 = 3 ∨ lR (s.2.1 142) l 1 = 5 then q else 0 := by
          rw [lR_cN]
          by_cases z : lR (s.2.1 142) l 1 = 3 ∨ lR (s.2.1 142) l 1 = 5
          · rw [if_pos z, if_pos z, upd_s]
          · rw [if_neg z, if_neg z, upd_n (by decide), z8.2.1, z8.2.2 z]
        generalize lR (cN (s.2.1 142) l (lR (s.2.1 142) l 1) p q) l = r' at u u11 u12
        refine ⟨Or.inl hg, Nat.lt_succ_self _, p, (if lR (s.2.1 142) l 1 = 3 ∨ lR (s.2.1 142) l 1 = 5 then q else 0), x0, y0, x1, yy1, pa, ma, ?_, ?_, ?_, ?_, ?_, ?_, ?_, ?_, ?_, ?_, ?_, ?_, ?_, ?_, ?_⟩
        · unfold mkL
          rw [nw_at, u 1 (by omega) (by omega), u 2 (by omega) (by omega), u 4 (by omega) (by omega), u 5 (by omega) (by omega), u 6 (by omega) (by omega), u 7 (by omega) (by omega), u 8 (by omega) (by omega), u 9 (by omega) (by omega)]
        · rw [u 1 (by omega) (by omega)]; exact z1
        · rw [u 4 (by omega) (by omega)]; exact z2
        · rw [u 5 (by omega) (by omega)]; exact z3
        · rw [u 6 (by omega) (by omega)]; exact z4
        · rw [u 7 (by omega) (by omega)]; exact z5
        · rw [u 8 (by omega) (by omega)]; exact z6
        · rw [u 9 (by omega) (by omega)]; exact z7
        · rw [u 1 (by omega) (by omega), if_neg n2, u11, u12]
          exact ⟨rfl, rfl, fun z => if_neg z⟩
        · rw [u 1 (by omega) (by omega), u 13 (by omega) (by omega), u 14 (by omega) (by omega), u 15 (by omega) (by omega), u 16 (by omega) (by omega)]; exact z9
        · rw [u 1 (by omega) (by omega)]; exact hbad.2.2.1
        · rw [u 1 (by omega) (by omega)]
          intro z
          have := hbad.2.2.2 z
          unfold fOk at this
          rw [Bool.and_eq_true] at this
          rw [if_pos (Or.inr z)]; exact this
        · rw [u 1 (by omega) (by omega)]; exact fun z => absurd z hbad.1
        · rw [u 1 (by omega) (by omega)]; exact ⟨z13.1, Nat.le_trans (by decide) hg⟩
        · rw [u 10 (by omega) (by omega)]
          rcases z14 with c | ⟨d1, d2, d0, d3, f, d4, d5⟩
          · exact Or.inl c
          · exact Or.inr ⟨d1, d2, d0, Nat.lt_succ_of_lt d3, f, by unfold mkL; rw [nw_lo d3]; exact d4, fun i hi => by rw [u _ (by omega) (by omega)]; exact d5 i hi⟩
      have cn : ∀ j, ¬ j = 1169 * l + 11 → ¬ j = 1169 * l + 12 → s.2.1 142 j = cN (s.2.1 142) l (lR (s.2.1 142) l 1) p q j := by
        intro j h11 h12
        unfold cN
        by_cases z : lR (s.2.1 142) l 1 = 3 ∨ lR (s.2.1 142) l 1 = 5
        · rw [if_pos z, upd_n h12, upd_n h11]
        · rw [if_neg z, upd_n h11]
      obtain ⟨g2, w1, w2, w3⟩ := replace11 (s := s) (N' := cN (s.2.1 142) l (lR (s.2.1 142) l 1) p q) hwh hg (ext_mkL (fs := _)) ⟨by show g.1 + 1 + 3 ≤ _; omega, by show g.2.1 + 17 + 66 ≤ _; omega⟩ f3 f4 (by omega) (fun i hi => by obtain ⟨b, z1, z2⟩ := f11 i hi; exact ⟨b, _, z1, z2⟩) f9 hl k3 hLy' (fun j hj hj2 => cn j (by omega) (by omega)) (fun i hi => cn _ (by omega) (by omega))
      have hcc : jX11_colours_47 (e_g s g) 8 p q (some b) = some (.inr (), e_g (fgC (rmC s a (g.1 + 1) pc)) g2) := by
        unfold mkL at ag w1
        by_cases c3 : lR (s.2.1 142) l 1 = 3
        · rw [if_pos (Or.inl c3)] at w1
          simp (decide := true) only [jX11_colours_47, jX11_colours_80, jX11_colours_85, ob8, ob4, ag, m_sI hg, fk2, c3, List.length_cons, List.length_nil, List.set_cons_zero, List.set_cons_succ, ob_s, b2_s, tc_r, tc_l, F_sF, A_sF, R_sF, L_sF, F_sA, A_sA, R_sA, L_sA, F_sR, A_sR, R_sR, L_sR, F_sL, A_sL, R_sL, L_sL, and_true, true_and, and_false, false_and, and_self, reduceIte, sF_sF, sA_sA, false_or, or_false, true_or, or_true, not_false_eq_true, not_true_eq_false, decide_true, decide_false, Bool.true_or, Bool.or_true, Bool.false_and, Bool.true_and, Bool.false_or, Bool.or_false, Bool.and_true, Bool.and_false]
          rw [c3] at w1
          rw [w1]
          rfl
        · by_cases c5 : lR (s.2.1 142) l 1 = 5
          · rw [if_pos (Or.inr c5)] at w1
            simp (decide := true) only [jX11_colours_47, jX11_colours_80, jX11_colours_85, ob8, ob4, ag, m_sI hg, fk2, c5, List.length_cons, List.length_nil, List.set_cons_zero, List.set_cons_succ, ob_s, b2_s, tc_r, tc_l, F_sF, A_sF, R_sF, L_sF, F_sA, A_sA, R_sA, L_sA, F_sR, A_sR, R_sR, L_sR, F_sL, A_sL, R_sL, L_sL, and_true, true_and, and_false, false_and, and_self, reduceIte, sF_sF, sA_sA, false_or, or_false, true_or, or_true, not_false_eq_true, not_true_eq_false, decide_true, decide_false, Bool.true_or, Bool.or_true, Bool.false_and, Bool.true_and, Bool.false_or, Bool.or_false, Bool.and_true, Bool.and_false]
            rw [c5] at w1
            rw [w1]
            rfl
          · rw [if_neg (fun z => z.elim c3 c5)] at w1
            simp (decide := true) only [jX11_colours_47, jX11_colours_80, jX11_colours_85, ob8, ob4, ag, m_sI hg, fk2, c3, c5, List.length_cons, List.length_nil, List.set_cons_zero, List.set_cons_succ, w1, ob_s, b2_s, tc_r, tc_l, F_sF, A_sF, R_sF, L_sF, F_sA, A_sA, R_sA, L_sA, F_sR, A_sR, R_sR, L_sR, F_sL, A_sL, R_sL, L_sL, and_true, true_and, and_false, false_and, and_self, reduceIte, sF_sF, sA_sA, false_or, or_false, true_or, or_true, not_false_eq_true, not_true_eq_false, decide_true, decide_false, Bool.true_or, Bool.or_true, Bool.false_and, Bool.true_and, Bool.false_or, Bool.or_false, Bool.and_true, Bool.and_false]
            rfl
      have hm := colours12 (s := fgC (rmC s a (g.1 + 1) pc)) (g := g2) (x := Int32.ofNat l) (p := p) (q := q) f1 (show pc ≤ 24 by omega) (by simp (decide := true) only [ob_s, b2_s, tc_r, tc_l, F_sF, A_sF, R_sF, L_sF, F_sA, A_sA, R_sA, L_sA, F_sR, A_sR, R_sR, L_sR, F_sL, A_sL, R_sL, L_sL, and_true, true_and, and_false, false_and, and_self, reduceIte, sF_sF, sA_sA, false_or, or_false, true_or, or_true, not_false_eq_true, not_true_eq_false, decide_true, decide_false, Bool.true_or, Bool.or_true, Bool.false_and, Bool.true_and, Bool.false_or, Bool.or_false, Bool.and_true, Bool.and_false, fgC, rmC, F_sRr, f6]) (by simp (decide := true) only [ob_s, b2_s, tc_r, tc_l, F_sF, A_sF, R_sF, L_sF, F_sA, A_sA, R_sA, L_sA, F_sR, A_sR, R_sR, L_sR, F_sL, A_sL, R_sL, L_sL, and_true, true_and, and_false, false_and, and_self, reduceIte, sF_sF, sA_sA, false_or, or_false, true_or, or_true, not_false_eq_true, not_true_eq_false, decide_true, decide_false, Bool.true_or, Bool.or_true, Bool.false_and, Bool.true_and, Bool.false_or, Bool.or_false, Bool.and_true, Bool.and_false, fgC, rmC, F_sRr, f7]) (by simp (decide := true) only [ob_s, b2_s, tc_r, tc_l, F_sF, A_sF, R_sF, L_sF, F_sA, A_sA, R_sA, L_sA, F_sR, A_sR, R_sR, L_sR, F_sL, A_sL, R_sL, L_sL, and_true, true_and, and_false, false_and, and_self, reduceIte, sF_sF, sA_sA, false_or, or_false, true_or, or_true, not_false_eq_true, not_true_eq_false, decide_true, decide_false, Bool.true_or, Bool.or_true, Bool.false_and, Bool.true_and, Bool.false_or, Bool.or_false, Bool.and_true, Bool.and_false, fgC, rmC, A_sRr]; exact kind_ge f9)
      have hN0 : (fgC (rmC s a (g.1 + 1) pc)).2.1 142 = s.2.1 142 := by simp (decide := true) only [ob_s, b2_s, tc_r, tc_l, F_sF, A_sF, R_sF, L_sF, F_sA, A_sA, R_sA, L_sA, F_sR, A_sR, R_sR, L_sR, F_sL, A_sL, R_sL, L_sL, and_true, true_and, and_false, false_and, and_self, reduceIte, sF_sF, sA_sA, false_or, or_false, true_or, or_true, not_false_eq_true, not_true_eq_false, decide_true, decide_false, Bool.true_or, Bool.or_true, Bool.false_and, Bool.true_and, Bool.false_or, Bool.or_false, Bool.and_true, Bool.and_false, fgC, rmC, A_sRr]
      rw [hN0, n_int (by omega), Int.toNat_natCast, if_pos k1, eK, if_neg hb] at hm
      exact KV_ed hR h7 f1 f2 f9 f10 f11 ((hcl.trans (if_neg hb)).trans hcc) hm (by simp (decide := true) only [ob_s, b2_s, tc_r, tc_l, F_sF, A_sF, R_sF, L_sF, F_sA, A_sA, R_sA, L_sA, F_sR, A_sR, R_sR, L_sR, F_sL, A_sL, R_sL, L_sL, and_true, true_and, and_false, false_and, and_self, reduceIte, sF_sF, sA_sA, false_or, or_false, true_or, or_true, not_false_eq_true, not_true_eq_false, decide_true, decide_false, Bool.true_or, Bool.or_true, Bool.false_and, Bool.true_and, Bool.false_or, Bool.or_false, Bool.and_true, Bool.and_false, fg12, edM]) (sm_fg (sm_edM (sm_A2 (sm_F sm_rf (by decide))))) w2 w3
