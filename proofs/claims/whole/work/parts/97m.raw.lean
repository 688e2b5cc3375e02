-- needs: 07 10 13 14 20 21 22 23 24 25 26 27 32 38 41 43 46 47 48 50 52 53 54 55 57 60 61 70 71 72 73 74 80 81 82 83 84 85 86 87 88 97l
/-! ===== raw: the frame's cells ===== -/
def fpN (x y : Nat) : Nat := if x % 2 = 0 ∧ y % 2 = 0 then 0 else if x % 2 = 1 ∧ y % 2 = 1 then 2 else 1
theorem fp_b {x : Nat} (hx : x < 26) : Int32.ofNat x &&& 1 = Int32.ofNat (x % 2) ∧ q_rem (Int32.ofNat x) 2 = Int32.ofNat (x % 2) := by
  have : ∀ x : Fin 26, Int32.ofNat x.1 &&& 1 = Int32.ofNat (x.1 % 2) ∧ q_rem (Int32.ofNat x.1) 2 = Int32.ofNat (x.1 % 2) := by decide +kernel
  exact this ⟨x, hx⟩
theorem fp_c {x y : Nat} (hx : x < 26) (hy : y < 26) : fX3_filterOf (Int32.ofNat x) (Int32.ofNat y) = Int32.ofNat (fpN x y) ∧ fX12_rawPart (Int32.ofNat x) (Int32.ofNat y) = Int32.ofNat (fpN x y) := by
  obtain ⟨a1, a2⟩ := fp_b hx
  obtain ⟨b1, b2⟩ := fp_b hy
  have n01 : ¬ (Int32.ofNat 0 = 1) := by decide
  have n10 : ¬ (Int32.ofNat 1 = 0) := by decide
  unfold fX3_filterOf jX3_filterOf_16 jX3_filterOf_34 jX3_filterOf_35 fX12_rawPart jX12_rawPart_16 jX12_rawPart_34 jX12_rawPart_35 fpN
  rw [a1, a2, b1, b2]
  rcases (by omega : x % 2 = 0 ∨ x % 2 = 1) with z | z <;> rcases (by omega : y % 2 = 0 ∨ y % 2 = 1) with z' | z' <;> rw [z, z'] <;> decide
def rwI (w x : Nat) (q : Nat → Bool) (v : Nat → Int32) (z : Int32 × Nat) : Nat → Int32 × Nat
  | 0 => z
  | i + 1 => if 1 ≤ x + i ∧ x + i ≤ w ∧ q (x + i - 1) = true then ((rwI w x q v z i).1 + v (x + i - 1), (rwI w x q v z i).2 + 1) else rwI w x q v z i
theorem rwI_t {w x i : Nat} {q : Nat → Bool} {v : Nat → Int32} {z : Int32 × Nat} (h : 1 ≤ x + i ∧ x + i ≤ w ∧ q (x + i - 1) = true) : rwI w x q v z (i + 1) = ((rwI w x q v z i).1 + v (x + i - 1), (rwI w x q v z i).2 + 1) := if_pos h
theorem rwI_e {w x i : Nat} {q : Nat → Bool} {v : Nat → Int32} {z : Int32 × Nat} (h : ¬ (1 ≤ x + i ∧ x + i ≤ w ∧ q (x + i - 1) = true)) : rwI w x q v z (i + 1) = rwI w x q v z i := if_neg h
theorem rwI_f {w x : Nat} {q : Nat → Bool} {v : Nat → Int32} {z : Int32 × Nat} (h : ∀ c, q c = false) : ∀ i, rwI w x q v z i = z
  | 0 => rfl
  | i + 1 => by
    rw [rwI_e (fun y => by rw [h] at y; cases y.2.2)]
    exact rwI_f h i
theorem rwI_c {w x : Nat} {q : Nat → Bool} {v : Nat → Int32} {z : Int32 × Nat} : ∀ i, (rwI w x q v z i).2 ≤ z.2 + i
  | 0 => Nat.le_refl _
  | i + 1 => by
    have ih := rwI_c (w := w) (x := x) (q := q) (v := v) (z := z) i
    by_cases h : 1 ≤ x + i ∧ x + i ≤ w ∧ q (x + i - 1) = true
    · rw [rwI_t h]; show _ + 1 ≤ _; omega
    · rw [rwI_e h]; omega
def rwQ (h y j ch c : Nat) : Bool := decide (1 ≤ y + j ∧ y + j ≤ h) && decide (fpN c (y + j - 1) = ch)
def rwO (V : Nat → Int32) (w h x y ch : Nat) : Nat → Int32 × Nat
  | 0 => (0, 0)
  | j + 1 => rwI w x (rwQ h y j ch) (fun c => V ((y + j - 1) * w + c)) (rwO V w h x y ch j) 3
theorem rwO_s {V : Nat → Int32} {w h x y ch j : Nat} : rwO V w h x y ch (j + 1) = rwI w x (rwQ h y j ch) (fun c => V ((y + j - 1) * w + c)) (rwO V w h x y ch j) 3 := rfl
theorem rwO_c {V : Nat → Int32} {w h x y ch : Nat} : ∀ j, (rwO V w h x y ch j).2 ≤ 3 * j
  | 0 => Nat.le_refl _
  | j + 1 => by
    have ih := rwO_c (V := V) (w := w) (h := h) (x := x) (y := y) (ch := ch) j
    have := rwI_c (w := w) (x := x) (q := rwQ h y j ch) (v := fun c => V ((y + j - 1) * w + c)) (z := rwO V w h x y ch j) 3
    show (rwI w x (rwQ h y j ch) (fun c => V ((y + j - 1) * w + c)) (rwO V w h x y ch j) 3).2 ≤ _
    omega
theorem rwO_e {V : Nat → Int32} {w h x y ch j : Nat} (hj : ¬ (1 ≤ y + j ∧ y + j ≤ h)) : rwO V w h x y ch (j + 1) = rwO V w h x y ch j := rwI_f (fun c => by unfold rwQ; rw [decide_eq_false hj]; rfl) 3
def rwA (a : Int32 × Nat) : Int32 := if a.2 = 0 then 0 else (a.1 + Int32.ofNat a.2 / 2) / Int32.ofNat a.2
def rwV (V : Nat → Int32) (w h x y ch : Nat) : Int32 := if fpN x y = ch then V (y * w + x) else rwA (rwO V w h x y ch 3)
theorem fpN_l {x y : Nat} : fpN x y < 3 := by
  unfold fpN
  split
  · omega
  · split <;> omega
theorem max0 {x : Nat} (hx : x ≤ 24) : fJ9_max_7cf53 0 (Int32.ofNat x - 1) = Int32.ofNat (x - 1) := by
  have : ∀ x : Fin 25, fJ9_max_7cf53 0 (Int32.ofNat x.1 - 1) = Int32.ofNat (x.1 - 1) := by decide +kernel
  exact this ⟨x, by omega⟩
theorem lightAt3 {s : e_S} {g : ps_G} {w h x y ch : Nat} (hw : w ≤ 24) (hh : h ≤ 24) (hx : x < w) (hy : y < h) (hc : ch < 3) : fX3_lightAt (e_g s g) 111 (Int32.ofNat x) (Int32.ofNat y) (Int32.ofNat w) (Int32.ofNat h) (Int32.ofNat ch) = some (rwV (s.2.1 121) w h x y ch) := by
  have cell : ∀ r c, r < h → c < w → r * w + c < 576 := fun r c h1 h2 => by
    have : r * w + c < h * w := by
      have : (r + 1) * w ≤ h * w := Nat.mul_le_mul_right _ h1
      rw [Nat.add_mul] at this
      omega
    have : h * w ≤ 24 * 24 := Nat.mul_le_mul hh hw
    omega
  have inner : ∀ j z, 1 ≤ y + j ∧ y + j ≤ h → z.2 ≤ 6 → q_lp (fun t => bX3_lightAt_60 (e_g s g) 111 (Int32.ofNat x) (Int32.ofNat y) (Int32.ofNat w) (Int32.ofNat h) (Int32.ofNat ch) (Int32.ofNat (y + j - 1)) t.1 t.2.1 t.2.2) (Int32.ofNat z.2, z.1, Int32.ofNat (x - 1)) = some (Int32.ofNat (rwI w x (rwQ h y j ch) (fun c => s.2.1 121 ((y + j - 1) * w + c)) z 3).2, (rwI w x (rwQ h y j ch) (fun c => s.2.1 121 ((y + j - 1) * w + c)) z 3).1) := by
    intro j z hj hz
    generalize hq : rwQ h y j ch = q
    generalize hv : (fun c => s.2.1 121 ((y + j - 1) * w + c)) = v
    refine lp_0 (fun t => (Int32.ofNat (rwI w x q v z ((if x = 0 then 1 else 0) + t)).2, (rwI w x q v z ((if x = 0 then 1 else 0) + t)).1, Int32.ofNat (x - 1 + t))) (min (x + 2) w - (x - 1)) ?_ (fun t ht => ?_) ?_
    · by_cases x0 : x = 0
      · rw [if_pos x0, rwI_e (by omega)]; rfl
      · rw [if_neg x0]; rfl
    · have tc : x + ((if x = 0 then 1 else 0) + t) - 1 = x - 1 + t := by split <;> omega
      have t1 : 1 ≤ x + ((if x = 0 then 1 else 0) + t) ∧ x + ((if x = 0 then 1 else 0) + t) ≤ w := by split <;> omega
      have g1 : ¬ (Int32.ofNat x + 1 < Int32.ofNat (x - 1 + t) ∨ Int32.ofNat w ≤ Int32.ofNat (x - 1 + t)) := by
        rw [n_suc, n_lt (by omega) (by omega), n_le (by omega) (by omega)]; omega
      have fo := (fp_c (x := x - 1 + t) (y := y + j - 1) (by omega) (by omega)).1
      show bX3_lightAt_60 _ _ _ _ _ _ _ _ _ _ _ = _
      unfold bX3_lightAt_60 jX3_lightAt_106_60
      dsimp only
      rw [if_neg g1, fo, n_suc]
      by_cases p : fpN (x - 1 + t) (y + j - 1) = ch
      · have qq : q (x + ((if x = 0 then 1 else 0) + t) - 1) = true := by
          rw [tc, ← hq]; unfold rwQ; rw [decide_eq_true hj, decide_eq_true p]; rfl
        have st := rwI_t (w := w) (x := x) (i := (if x = 0 then 1 else 0) + t) (q := q) (v := v) (z := z) ⟨t1.1, t1.2, qq⟩
        rw [show (if x = 0 then 1 else 0) + (t + 1) = (if x = 0 then 1 else 0) + t + 1 from rfl, st, tc]
        have ev : v (x - 1 + t) = s.2.1 121 ((y + j - 1) * w + (x - 1 + t)) := by rw [← hv]
        rw [if_neg (fun z => z (by rw [p])), f111_12, ob_n, ob_n, n_mul, n_add, rdI t121 (cell _ _ (by omega) (by omega)), ob_n, n_suc, ev]
        rfl
      · have st := rwI_e (w := w) (x := x) (i := (if x = 0 then 1 else 0) + t) (q := q) (v := v) (z := z) (fun y9 => by
          have := y9.2.2
          rw [tc, ← hq] at this
          unfold rwQ at this
          rw [decide_eq_false p, Bool.and_false] at this
          cases this)
        rw [show (if x = 0 then 1 else 0) + (t + 1) = (if x = 0 then 1 else 0) + t + 1 from rfl, st]
        have := fpN_l (x := x - 1 + t) (y := y + j - 1)
        rw [if_pos (fun z => p ((n_eq (by omega) (by omega)).mp z))]
        rfl
    · have ge : (Int32.ofNat x + 1 < Int32.ofNat (x - 1 + (min (x + 2) w - (x - 1))) ∨ Int32.ofNat w ≤ Int32.ofNat (x - 1 + (min (x + 2) w - (x - 1)))) := by
        rw [n_suc, n_lt (by omega) (by omega), n_le (by omega) (by omega)]; omega
      have fin : rwI w x q v z ((if x = 0 then 1 else 0) + (min (x + 2) w - (x - 1))) = rwI w x q v z 3 := by
        by_cases xw : x + 2 ≤ w
        · rw [show (if x = 0 then 1 else 0) + (min (x + 2) w - (x - 1)) = 3 by split <;> omega]
        · rw [show (if x = 0 then 1 else 0) + (min (x + 2) w - (x - 1)) = 2 by split <;> omega]
          exact (rwI_e (by omega)).symm
      show bX3_lightAt_60 _ _ _ _ _ _ _ _ _ _ _ = _
      unfold bX3_lightAt_60
      dsimp only
      rw [if_pos ge, fin]
  unfold fX3_lightAt rwV
  have fo := (fp_c (x := x) (y := y) (by omega) (by omega)).1
  have := fpN_l (x := x) (y := y)
  rw [fo]
  by_cases p : fpN x y = ch
  · rw [if_neg (fun z => z (by rw [p])), if_pos p, f111_12, ob_n, ob_n, n_mul, n_add, rdI t121 (cell _ _ hy hx), ob_n]
  · have outer : q_lp (fun t => bX3_lightAt_36 (e_g s g) 111 (Int32.ofNat x) (Int32.ofNat y) (Int32.ofNat w) (Int32.ofNat h) (Int32.ofNat ch) t.1 t.2.1 t.2.2) ((0 : Int32), (0 : Int32), Int32.ofNat (y - 1)) = some (Int32.ofNat (rwO (s.2.1 121) w h x y ch 3).2, (rwO (s.2.1 121) w h x y ch 3).1) := by
      refine lp_0 (fun t => (Int32.ofNat (rwO (s.2.1 121) w h x y ch ((if y = 0 then 1 else 0) + t)).2, (rwO (s.2.1 121) w h x y ch ((if y = 0 then 1 else 0) + t)).1, Int32.ofNat (y - 1 + t))) (min (y + 2) h - (y - 1)) ?_ (fun t ht => ?_) ?_
      · by_cases y0 : y = 0
        · rw [if_pos y0, rwO_e (by omega)]; rfl
        · rw [if_neg y0]; rfl
      · have tc : y + ((if y = 0 then 1 else 0) + t) - 1 = y - 1 + t := by split <;> omega
        have t1 : 1 ≤ y + ((if y = 0 then 1 else 0) + t) ∧ y + ((if y = 0 then 1 else 0) + t) ≤ h := by split <;> omega
        have t2 : (if y = 0 then 1 else 0) + t ≤ 2 := by split <;> omega
        have g1 : ¬ (Int32.ofNat y + 1 < Int32.ofNat (y - 1 + t) ∨ Int32.ofNat h ≤ Int32.ofNat (y - 1 + t)) := by
          rw [n_suc, n_lt (by omega) (by omega), n_le (by omega) (by omega)]; omega
        have bd := rwO_c (V := s.2.1 121) (w := w) (h := h) (x := x) (y := y) (ch := ch) ((if y = 0 then 1 else 0) + t)
        have li := inner ((if y = 0 then 1 else 0) + t) (rwO (s.2.1 121) w h x y ch ((if y = 0 then 1 else 0) + t)) t1 (by omega)
        rw [tc] at li
        show bX3_lightAt_36 _ _ _ _ _ _ _ _ _ _ = _
        unfold bX3_lightAt_36 jX3_lightAt_112_36
        dsimp only
        rw [if_neg g1, max0 (by omega), li, ob_n, n_suc]
        show some (Sum.inl _) = some (Sum.inl _)
        rw [show (if y = 0 then 1 else 0) + (t + 1) = (if y = 0 then 1 else 0) + t + 1 from rfl, rwO_s, tc]
        rfl
      · have ge : (Int32.ofNat y + 1 < Int32.ofNat (y - 1 + (min (y + 2) h - (y - 1))) ∨ Int32.ofNat h ≤ Int32.ofNat (y - 1 + (min (y + 2) h - (y - 1)))) := by
          rw [n_suc, n_lt (by omega) (by omega), n_le (by omega) (by omega)]; omega
        have fin : rwO (s.2.1 121) w h x y ch ((if y = 0 then 1 else 0) + (min (y + 2) h - (y - 1))) = rwO (s.2.1 121) w h x y ch 3 := by
          by_cases xw : y + 2 ≤ h
          · rw [show (if y = 0 then 1 else 0) + (min (y + 2) h - (y - 1)) = 3 by split <;> omega]
          · rw [show (if y = 0 then 1 else 0) + (min (y + 2) h - (y - 1)) = 2 by split <;> omega]
            exact (rwO_e (by omega)).symm
        show bX3_lightAt_36 _ _ _ _ _ _ _ _ _ _ = _
        unfold bX3_lightAt_36
        dsimp only
        rw [if_pos ge, fin]
    have bd := rwO_c (V := s.2.1 121) (w := w) (h := h) (x := x) (y := y) (ch := ch) 3
    rw [if_pos (fun z => p ((n_eq (by omega) (by omega)).mp z)), if_neg p, max0 (by omega), outer, ob_n]
    unfold jX3_lightAt_118 jX3_lightAt_137 rwA
    dsimp only
    by_cases z0 : (rwO (s.2.1 121) w h x y ch 3).2 = 0
    · rw [if_pos z0, z0, if_pos (by decide)]
    · have n0 : ¬ Int32.ofNat (rwO (s.2.1 121) w h x y ch 3).2 = 0 := fun z => z0 ((n_eq (b := 0) (by omega) (by omega)).mp z)
      have n1 : ¬ Int32.ofNat (rwO (s.2.1 121) w h x y ch 3).2 ≤ 0 := fun z => z0 (by
        have := (n_le (m := 0) (by omega) (by omega)).mp z
        omega)
      rw [if_neg z0, if_neg n1]
      unfold q_div
      rw [if_neg n0, ob_n]
