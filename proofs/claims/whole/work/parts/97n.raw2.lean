-- needs: 07 10 13 14 20 21 22 23 24 25 26 27 32 38 41 43 46 47 48 50 52 53 54 55 57 60 61 70 71 72 73 74 80 81 82 83 84 85 86 87 88 97l 97m
def jj (y t : Nat) : Int32 := if y + t = 0 then -1 else Int32.ofNat (y + t - 1)
theorem jj_a {y t : Nat} (hy : y ≤ 24) (ht : t ≤ 3) : jj y t + 1 = jj y (t + 1) ∧ (Int32.ofNat y + 1 < jj y t ↔ 3 ≤ t) ∧ Int32.ofNat y - 1 = jj y 0 := by
  have : ∀ y : Fin 25, ∀ t : Fin 4, jj y.1 t.1 + 1 = jj y.1 (t.1 + 1) ∧ (Int32.ofNat y.1 + 1 < jj y.1 t.1 ↔ 3 ≤ t.1) ∧ Int32.ofNat y.1 - 1 = jj y.1 0 := by decide +kernel
  exact this ⟨y, by omega⟩ ⟨t, by omega⟩
theorem jj_i {y t : Nat} (hy : y ≤ 24) (ht : t ≤ 3) : (jj y t).toInt = (y : Int) + t - 1 := by
  unfold jj
  by_cases q : y + t = 0
  · rw [if_pos q]
    have : (-1 : Int32).toInt = -1 := by decide
    rw [this]; omega
  · rw [if_neg q, n_int (by omega)]; omega
theorem jj_p {w h x y i j : Nat} (hw : w ≤ 24) (hh : h ≤ 24) (hx : x < w) (hy : y < h) (hi : i ≤ 3) (hj : j ≤ 3) : plc w h (jj x i) (jj y j) = decide ((1 ≤ y + j ∧ y + j ≤ h) ∧ (1 ≤ x + i ∧ x + i ≤ w)) := by
  unfold plc
  rw [jj_i (by omega) hi, jj_i (by omega) hj]
  apply decide_eq_decide.mpr
  omega
theorem rawAt12 {s : e_S} {g : ps_G} {w h x y ch : Nat} (hw : w ≤ 24) (hh : h ≤ 24) (e1 : s.1 139 13 = Int32.ofNat w) (e2 : s.1 139 14 = Int32.ofNat h) (hx : x < w) (hy : y < h) (hc : ch < 3) : fX12_rawAt (e_g s g) 139 (Int32.ofNat (y * w + x)) (Int32.ofNat ch) = some (rwV (s.2.1 181) w h x y ch) := by
  have cell : ∀ r c, r < h → c < w → r * w + c < 576 := fun r c h1 h2 => by
    have : r * w + c < h * w := by
      have : (r + 1) * w ≤ h * w := Nat.mul_le_mul_right _ h1
      rw [Nat.add_mul] at this
      omega
    have : h * w ≤ 24 * 24 := Nat.mul_le_mul hh hw
    omega
  have inner : ∀ j z, j ≤ 2 → z.2 ≤ 6 → q_lp (fun t => bX12_rawAt_58 (e_g s g) 139 (Int32.ofNat ch) (Int32.ofNat x) (Int32.ofNat y) (jj y j) t.1 t.2.1 t.2.2) (z.1, Int32.ofNat z.2, jj x 0) = some ((rwI w x (rwQ h y j ch) (fun c => s.2.1 181 ((y + j - 1) * w + c)) z 3).1, Int32.ofNat (rwI w x (rwQ h y j ch) (fun c => s.2.1 181 ((y + j - 1) * w + c)) z 3).2) := by
    intro j z hj hz
    generalize hq : rwQ h y j ch = q
    generalize hv : (fun c => s.2.1 181 ((y + j - 1) * w + c)) = v
    refine lp_0 (fun t => ((rwI w x q v z t).1, Int32.ofNat (rwI w x q v z t).2, jj x t)) 3 rfl (fun t ht => ?_) ?_
    · have ja := jj_a (y := x) (t := t) (by omega) (by omega)
      have pl := place12 (s := s) (g := g) (x := jj x t) (y := jj y j) hw hh e1 e2
      rw [jj_p hw hh hx hy (by omega) (by omega)] at pl
      show bX12_rawAt_58 _ _ _ _ _ _ _ _ _ = _
      unfold bX12_rawAt_58 jX12_rawAt_112_58
      dsimp only
      rw [if_neg (fun z => absurd (ja.2.1.mp z) (by omega)), ob139, ob_n, pl, ob_n, ja.1]
      by_cases p : (1 ≤ y + j ∧ y + j ≤ h) ∧ (1 ≤ x + t ∧ x + t ≤ w)
      · have ex : jj x t = Int32.ofNat (x + t - 1) := if_neg (by omega)
        have ey : jj y j = Int32.ofNat (y + j - 1) := if_neg (by omega)
        have fo := (fp_c (x := x + t - 1) (y := y + j - 1) (by omega) (by omega)).2
        have fl := fpN_l (x := x + t - 1) (y := y + j - 1)
        rw [decide_eq_true p, if_neg (by decide), ex, ey, fo]
        by_cases p2 : fpN (x + t - 1) (y + j - 1) = ch
        · have st := rwI_t (w := w) (x := x) (i := t) (q := q) (v := v) (z := z) ⟨p.2.1, p.2.2, by rw [← hq]; unfold rwQ; rw [decide_eq_true p.1, decide_eq_true p2]; rfl⟩
          have ev : v (x + t - 1) = s.2.1 181 ((y + j - 1) * w + (x + t - 1)) := by rw [← hv]
          rw [if_pos (by rw [p2]), f139_67, ob_n, ob_n, ob_n, at12n e1, ob_n, rdI t181 (cell _ _ (by omega) (by omega)), ob_n, st, ev, n_suc]
        · have st := rwI_e (w := w) (x := x) (i := t) (q := q) (v := v) (z := z) (fun y9 => by
            have := y9.2.2
            rw [← hq] at this
            unfold rwQ at this
            rw [decide_eq_false p2, Bool.and_false] at this
            cases this)
          rw [if_neg (fun z => p2 ((n_eq (by omega) (by omega)).mp z)), st]
      · have st := rwI_e (w := w) (x := x) (i := t) (q := q) (v := v) (z := z) (fun y9 => by
          have := y9.2.2
          rw [← hq] at this
          unfold rwQ at this
          rw [Bool.and_eq_true] at this
          exact p ⟨of_decide_eq_true this.1, y9.1, y9.2.1⟩)
        rw [decide_eq_false p, if_pos (show (if false = true then (1 : Int32) else 0) = 0 from rfl), st]
    · have ja := jj_a (y := x) (t := 3) (by omega) (by omega)
      show bX12_rawAt_58 _ _ _ _ _ _ _ _ _ = _
      unfold bX12_rawAt_58
      dsimp only
      rw [if_pos (ja.2.1.mpr (by omega))]
  have outer : q_lp (fun t => bX12_rawAt_44 (e_g s g) 139 (Int32.ofNat ch) (Int32.ofNat x) (Int32.ofNat y) t.1 t.2.1 t.2.2) ((0 : Int32), (0 : Int32), jj y 0) = some ((rwO (s.2.1 181) w h x y ch 3).1, Int32.ofNat (rwO (s.2.1 181) w h x y ch 3).2) := by
    refine lp_0 (fun t => ((rwO (s.2.1 181) w h x y ch t).1, Int32.ofNat (rwO (s.2.1 181) w h x y ch t).2, jj y t)) 3 rfl (fun t ht => ?_) ?_
    · have ja := jj_a (y := y) (t := t) (by omega) (by omega)
      have jx := jj_a (y := x) (t := 0) (by omega) (by omega)
      have bd := rwO_c (V := s.2.1 181) (w := w) (h := h) (x := x) (y := y) (ch := ch) t
      show bX12_rawAt_44 _ _ _ _ _ _ _ _ = _
      unfold bX12_rawAt_44
      dsimp only
      rw [if_neg (fun z => absurd (ja.2.1.mp z) (by omega)), jx.2.2, inner t _ (by omega) (by omega), ob_n, ja.1]
      rfl
    · have ja := jj_a (y := y) (t := 3) (by omega) (by omega)
      show bX12_rawAt_44 _ _ _ _ _ _ _ _ = _
      unfold bX12_rawAt_44
      dsimp only
      rw [if_pos (ja.2.1.mpr (by omega))]
  have lt := cell y x hy hx
  have wd : ¬ Int32.ofNat w = 0 := fun z => by
    have := (n_eq (b := 0) (by omega) (by omega)).mp z
    omega
  have dm := md (w := w) (x := x) (y := y) hx
  have fo := (fp_c (x := x) (y := y) (by omega) (by omega)).2
  have fl := fpN_l (x := x) (y := y)
  have jy := jj_a (y := y) (t := 0) (by omega) (by omega)
  unfold fX12_rawAt rwV q_mod q_div
  rw [f139_13, e1, ob_n, if_neg wd, ob_n, ob_n, if_neg wd, ob_n, n_rem (by omega) (by omega), n_div (by omega) (by omega), dm.1, dm.2, fo]
  by_cases p : fpN x y = ch
  · rw [if_neg (fun z => z (by rw [p])), if_pos p, f139_67, ob_n, ob_n, rdI t181 lt, ob_n]
  · have bd := rwO_c (V := s.2.1 181) (w := w) (h := h) (x := x) (y := y) (ch := ch) 3
    rw [if_pos (fun z => p ((n_eq (by omega) (by omega)).mp z)), if_neg p, jy.2.2, outer, ob_n]
    unfold jX12_rawAt_143 rwA
    dsimp only
    by_cases z0 : (rwO (s.2.1 181) w h x y ch 3).2 = 0
    · rw [if_pos z0, z0, if_neg (fun z => z rfl)]
    · have n0 : ¬ Int32.ofNat (rwO (s.2.1 181) w h x y ch 3).2 = 0 := fun z => z0 ((n_eq (b := 0) (by omega) (by omega)).mp z)
      rw [if_neg z0, if_pos n0, if_neg n0, ob_n]
theorem rwI_v {w x : Nat} {q : Nat → Bool} {v v' : Nat → Int32} {z : Int32 × Nat} (h : ∀ c, c < w → q c = true → v c = v' c) : ∀ i, rwI w x q v z i = rwI w x q v' z i
  | 0 => rfl
  | i + 1 => by
    have ih := rwI_v (x := x) (z := z) h i
    by_cases p : 1 ≤ x + i ∧ x + i ≤ w ∧ q (x + i - 1) = true
    · rw [rwI_t p, rwI_t p, ih, h _ (by omega) p.2.2]
    · rw [rwI_e p, rwI_e p, ih]
theorem rwO_v {V V' : Nat → Int32} {w h x y ch : Nat} (e : ∀ k, k < w * h → V k = V' k) : ∀ j, rwO V w h x y ch j = rwO V' w h x y ch j
  | 0 => rfl
  | j + 1 => by
    show rwI _ _ _ _ _ _ = rwI _ _ _ _ _ _
    rw [rwO_v e j]
    refine rwI_v (fun c hc hq => e _ ?_) 3
    unfold rwQ at hq
    rw [Bool.and_eq_true] at hq
    have h1 := of_decide_eq_true hq.1
    have : (y + j - 1 + 1) * w ≤ h * w := Nat.mul_le_mul_right _ (by omega)
    rw [Nat.add_mul] at this
    rw [Nat.mul_comm w h]
    omega
theorem rwV_v {V V' : Nat → Int32} {w h x y ch : Nat} (hx : x < w) (hy : y < h) (e : ∀ k, k < w * h → V k = V' k) : rwV V w h x y ch = rwV V' w h x y ch := by
  unfold rwV
  have : (y + 1) * w ≤ h * w := Nat.mul_le_mul_right _ (by omega)
  rw [Nat.add_mul] at this
  rw [e _ (by rw [Nat.mul_comm w h]; omega), rwO_v e]
