-- needs: 97x
/-! ===== how often lines turn around a point ===== -/
def tcV (x0 y0 x1 y1 : Int32) (x y : Int) : Int32 := if (y0.toInt ≤ y ↔ y1.toInt ≤ y) then 0 else if y0.toInt < y1.toInt then (if (x - x0.toInt) * (y1.toInt - y0.toInt) < (y - y0.toInt) * (x1.toInt - x0.toInt) then 1 else 0) else (if (y - y0.toInt) * (x1.toInt - x0.toInt) < (x - x0.toInt) * (y1.toInt - y0.toInt) then -1 else 0)
def tnS (A B C D : Nat → Int32) (x y : Int) : Nat → Int32
  | 0 => 0
  | k + 1 => tnS A B C D x y k + tcV (A k) (B k) (C k) (D k) x y
def Bd (v : Int32) : Prop := v.toInt.natAbs ≤ 40000
theorem pbd {u v : Int} {a b : Nat} (hu : u.natAbs ≤ a) (hv : v.natAbs ≤ b) : (u * v).natAbs ≤ a * b := by
  rw [Int.natAbs_mul]; exact Nat.mul_le_mul hu hv
theorem i64_mul {a b : Int64} (h : (a.toInt * b.toInt).natAbs ≤ 4000000000) : (a * b).toInt = a.toInt * b.toInt := by
  rw [Int64.toInt_mul]
  apply Int.bmod_eq_of_le <;> omega
theorem i64_sub {a b : Int64} (h : (a.toInt - b.toInt).natAbs ≤ 4000000000) : (a - b).toInt = a.toInt - b.toInt := by
  rw [Int64.toInt_sub]
  apply Int.bmod_eq_of_le <;> omega
theorem cr_e {y y0 y1 : Int32} : ((if y < y0 then (0 : Int32) else 1) = (if y < y1 then 0 else 1)) ↔ (y0.toInt ≤ y.toInt ↔ y1.toInt ≤ y.toInt) := by
  have n01 : ¬ (0 : Int32) = 1 := by decide
  have n10 : ¬ (1 : Int32) = 0 := by decide
  by_cases q0 : y < y0
  · by_cases q1 : y < y1
    · rw [if_pos q0, if_pos q1]
      rw [i_lt] at q0 q1
      exact ⟨fun _ => by omega, fun _ => rfl⟩
    · rw [if_pos q0, if_neg q1]
      rw [i_lt] at q0 q1
      exact ⟨fun z => absurd z n01, fun z => by omega⟩
  · by_cases q1 : y < y1
    · rw [if_neg q0, if_pos q1]
      rw [i_lt] at q0 q1
      exact ⟨fun z => absurd z n10, fun z => by omega⟩
    · rw [if_neg q0, if_neg q1]
      rw [i_lt] at q0 q1
      exact ⟨fun _ => by omega, fun _ => rfl⟩
theorem turnsAt12 {s : e_S} {g : ps_G} {n x y : Nat} (hn : n ≤ 420) (hx : x ≤ 400) (hy : y ≤ 400) (e52 : s.1 139 52 = Int32.ofNat n) (hB : ∀ k, k < n → Bd (s.2.1 167 k) ∧ Bd (s.2.1 168 k) ∧ Bd (s.2.1 169 k) ∧ Bd (s.2.1 170 k)) : fX12_turnsAt (e_g s g) 139 (Int32.ofNat x) (Int32.ofNat y) = some (tnS (s.2.1 167) (s.2.1 168) (s.2.1 169) (s.2.1 170) x y n) := by
  have rd : ∀ j, (j = 167 ∨ j = 168 ∨ j = 169 ∨ j = 170) → ∀ k, k < n → q_aI (e_g s g) j (Int32.ofNat k) = some (s.2.1 j k) := by
    intro j hj k hk
    rcases hj with rfl | rfl | rfl | rfl
    · rw [a167, n_idx (by omega), if_neg (n_in2 (N := 420) (by omega) (by decide))]
    · rw [a168, n_idx (by omega), if_neg (n_in2 (N := 420) (by omega) (by decide))]
    · rw [a169, n_idx (by omega), if_neg (n_in2 (N := 420) (by omega) (by decide))]
    · rw [a170, n_idx (by omega), if_neg (n_in2 (N := 420) (by omega) (by decide))]
  have lp : q_lp (fun t => bX12_turnsAt_5 (e_g s g) 139 (Int32.ofNat x) (Int32.ofNat y) t.1 t.2) ((0 : Int32), (0 : Int32)) = some (tnS (s.2.1 167) (s.2.1 168) (s.2.1 169) (s.2.1 170) x y n) := by
    refine lp_0 (fun k => (tnS (s.2.1 167) (s.2.1 168) (s.2.1 169) (s.2.1 170) x y k, Int32.ofNat k)) n rfl (fun k hk => ?_) ?_
    · obtain ⟨b1, b2, b3, b4⟩ := hB k hk
      have r1 := rd 167 (by omega) k hk
      have r2 := rd 168 (by omega) k hk
      have r3 := rd 169 (by omega) k hk
      have r4 := rd 170 (by omega) k hk
      have st : tnS (s.2.1 167) (s.2.1 168) (s.2.1 169) (s.2.1 170) x y (k + 1) = tnS (s.2.1 167) (s.2.1 168) (s.2.1 169) (s.2.1 170) x y k + tcV (s.2.1 167 k) (s.2.1 168 k) (s.2.1 169 k) (s.2.1 170 k) x y := rfl
      rw [st]
      generalize s.2.1 167 k = x0 at b1 r1
      generalize s.2.1 168 k = y0 at b2 r2
      generalize s.2.1 169 k = x1 at b3 r3
      generalize s.2.1 170 k = y1 at b4 r4
      generalize tnS (s.2.1 167) (s.2.1 168) (s.2.1 169) (s.2.1 170) x y k = T
      unfold Bd at b1 b2 b3 b4
      have ex : (Int32.ofNat x).toInt = x := n_int (by omega)
      have ey : (Int32.ofNat y).toInt = y := n_int (by omega)
      have ce := cr_e (y := Int32.ofNat y) (y0 := y0) (y1 := y1)
      rw [ey] at ce
      show bX12_turnsAt_5 _ _ _ _ _ _ = _
      unfold bX12_turnsAt_5 jX12_turnsAt_141_5
      dsimp only
      rw [f139_52, e52, ob_n, if_neg (nle hk (by omega)), f139_54, ob_n, ob_n, r2, ob_n, f139_56, ob_n, ob_n, r4, ob_n, n_suc]
      by_cases q : (y0.toInt ≤ y ↔ y1.toInt ≤ y)
      · have tz : tcV x0 y0 x1 y1 x y = 0 := if_pos q
        rw [if_neg (fun z => z (ce.mpr q)), tz, Int32.add_zero]
      · have s1 : (Int32.toInt64 (Int32.ofNat x) - Int32.toInt64 x0).toInt = x - x0.toInt := by
          rw [i64_sub (by rw [i64_of, i64_of, ex]; omega), i64_of, i64_of, ex]
        have s2 : (Int32.toInt64 (Int32.ofNat y) - Int32.toInt64 y0).toInt = y - y0.toInt := by
          rw [i64_sub (by rw [i64_of, i64_of, ey]; omega), i64_of, i64_of, ey]
        have s3 : (Int32.toInt64 (y1 - y0)).toInt = y1.toInt - y0.toInt := by
          rw [i64_of, i_sub (by omega) (by omega)]
        have s4 : (Int32.toInt64 (x1 - x0)).toInt = x1.toInt - x0.toInt := by
          rw [i64_of, i_sub (by omega) (by omega)]
        have p1 := pbd (u := x - x0.toInt) (v := y1.toInt - y0.toInt) (a := 41000) (b := 80000) (by omega) (by omega)
        have p2 := pbd (u := y - y0.toInt) (v := x1.toInt - x0.toInt) (a := 41000) (b := 80000) (by omega) (by omega)
        have m1 : ((Int32.toInt64 (Int32.ofNat x) - Int32.toInt64 x0) * Int32.toInt64 (y1 - y0)).toInt = (x - x0.toInt) * (y1.toInt - y0.toInt) := by
          rw [i64_mul (by rw [s1, s3]; omega), s1, s3]
        have m2 : ((Int32.toInt64 (Int32.ofNat y) - Int32.toInt64 y0) * Int32.toInt64 (x1 - x0)).toInt = (y - y0.toInt) * (x1.toInt - x0.toInt) := by
          rw [i64_mul (by rw [s2, s4]; omega), s2, s4]
        rw [if_pos (fun z => q (ce.mp z)), f139_53, ob_n, ob_n, r1, ob_n, f139_55, ob_n, ob_n, r3, ob_n, ob_n, ob_n, r1, ob_n]
        generalize (Int32.toInt64 (Int32.ofNat x) - Int32.toInt64 x0) * Int32.toInt64 (y1 - y0) = a at m1
        generalize (Int32.toInt64 (Int32.ofNat y) - Int32.toInt64 y0) * Int32.toInt64 (x1 - x0) = b at m2
        have cge : 0 ≤ lg_cmp a b ↔ (y - y0.toInt) * (x1.toInt - x0.toInt) ≤ (x - x0.toInt) * (y1.toInt - y0.toInt) := by rw [lg_cmp_ge, i64_le, m1, m2]
        have cle : lg_cmp a b ≤ 0 ↔ (x - x0.toInt) * (y1.toInt - y0.toInt) ≤ (y - y0.toInt) * (x1.toInt - x0.toInt) := by rw [lg_cmp_le, i64_le, m1, m2]
        by_cases q2 : y0.toInt < y1.toInt
        · have tv : tcV x0 y0 x1 y1 x y = if (x - x0.toInt) * (y1.toInt - y0.toInt) < (y - y0.toInt) * (x1.toInt - x0.toInt) then 1 else 0 := by
            unfold tcV
            rw [if_neg q, if_pos q2]
          rw [if_pos (i_le.mpr (by omega)), if_neg (fun z => by rw [i_le] at z; omega), tv]
          by_cases q3 : (x - x0.toInt) * (y1.toInt - y0.toInt) < (y - y0.toInt) * (x1.toInt - x0.toInt)
          · rw [if_pos q3, if_neg (fun z => by have := cge.mp z; omega)]
          · rw [if_neg q3, if_pos (cge.mpr (by omega)), Int32.add_zero]
        · have tv : tcV x0 y0 x1 y1 x y = if (y - y0.toInt) * (x1.toInt - x0.toInt) < (x - x0.toInt) * (y1.toInt - y0.toInt) then -1 else 0 := by
            unfold tcV
            rw [if_neg q, if_neg q2]
          rw [if_neg (fun z => by rw [i_le] at z; omega), tv]
          by_cases q3 : (y - y0.toInt) * (x1.toInt - x0.toInt) < (x - x0.toInt) * (y1.toInt - y0.toInt)
          · rw [if_pos q3, if_neg (fun z => by have := cle.mp z; omega), if_pos (i_le.mpr (by omega))]
          · rw [if_neg q3, if_pos (cle.mpr (by omega)), if_pos (i_le.mpr (by omega)), Int32.add_zero]
    · show bX12_turnsAt_5 _ _ _ _ _ _ = _
      unfold bX12_turnsAt_5
      dsimp only
      rw [f139_52, e52, ob_n, if_pos (nlr (by omega))]
  unfold fX12_turnsAt
  rw [lp, ob_n]
/-- one line, for a row of points -/
theorem inner6 {s : e_S} {g : ps_G} {c yy : Nat} {x1' x2' x3' x0 y0 x1 y1 : Int32} {T : Nat → Int32} (hc : c ≤ 96) (hy : yy ≤ 400) (b1 : Bd x0) (b2 : Bd y0) (b3 : Bd x1) (b4 : Bd y1) (hq : ¬ (y0.toInt ≤ yy ↔ y1.toInt ≤ yy)) : ∃ T', q_lp (fun t => bX6_countTurns_109 98 x1' (Int32.ofNat c) x3' x0 y0 y1 (if y1 ≤ y0 then (0 : Int32) else 1) (Int32.toInt64 (Int32.ofNat yy - y0) * Int32.toInt64 (x1 - x0)) t.1 t.2) ((0 : Int32), e_g (sA s 109 T) g) = some (e_g (sA s 109 T') g) ∧ ∀ i, i < c → T' i = T i + tcV x0 y0 x1 y1 (4 * i + 2 : Nat) yy := by
  unfold Bd at b1 b2 b3 b4
  have ey : (Int32.ofNat yy).toInt = yy := n_int (by omega)
  have s2 : (Int32.toInt64 (Int32.ofNat yy - y0)).toInt = yy - y0.toInt := by
    rw [i64_of, i_sub (by rw [ey]; omega) (by rw [ey]; omega), ey]
  have s3 : (Int32.toInt64 (y1 - y0)).toInt = y1.toInt - y0.toInt := by
    rw [i64_of, i_sub (by omega) (by omega)]
  have s4 : (Int32.toInt64 (x1 - x0)).toInt = x1.toInt - x0.toInt := by
    rw [i64_of, i_sub (by omega) (by omega)]
  have p2 := pbd (u := yy - y0.toInt) (v := x1.toInt - x0.toInt) (a := 41000) (b := 80000) (by omega) (by omega)
  have m2 : (Int32.toInt64 (Int32.ofNat yy - y0) * Int32.toInt64 (x1 - x0)).toInt = (yy - y0.toInt) * (x1.toInt - x0.toInt) := by
    rw [i64_mul (by rw [s2, s4]; omega), s2, s4]
  generalize Int32.toInt64 (Int32.ofNat yy - y0) * Int32.toInt64 (x1 - x0) = th at m2
  generalize hth : ((yy : Int) - y0.toInt) * (x1.toInt - x0.toInt) = TH at m2
  have m1 : ∀ i, i < c → (Int32.toInt64 ((4 * Int32.ofNat i + 2) - x0) * Int32.toInt64 (y1 - y0)).toInt = ((4 * i + 2 : Nat) - x0.toInt) * (y1.toInt - y0.toInt) := fun i hi => by
    have i4 : (4 : Int32) * Int32.ofNat i + 2 = Int32.ofNat (4 * i + 2) := by
      rw [show (4 : Int32) = Int32.ofNat 4 from rfl, show (2 : Int32) = Int32.ofNat 2 from rfl, n_mul, n_add]
    have ei : (Int32.ofNat (4 * i + 2)).toInt = (4 * i + 2 : Nat) := n_int (by omega)
    have s1 : (Int32.toInt64 (Int32.ofNat (4 * i + 2) - x0)).toInt = (4 * i + 2 : Nat) - x0.toInt := by
      rw [i64_of, i_sub (by rw [ei]; omega) (by rw [ei]; omega), ei]
    have p1 := pbd (u := (4 * i + 2 : Nat) - x0.toInt) (v := y1.toInt - y0.toInt) (a := 41000) (b := 80000) (by omega) (by omega)
    rw [i4, i64_mul (by rw [s1, s3]; omega), s1, s3]
  have dn : (if y1 ≤ y0 then (0 : Int32) else 1) = 0 ↔ y1.toInt < y0.toInt := by
    by_cases q : y1 ≤ y0
    · rw [if_pos q]
      rw [i_le] at q
      exact ⟨fun _ => by omega, fun _ => rfl⟩
    · rw [if_neg q]
      rw [i_le] at q
      exact ⟨fun z => absurd z (by decide), fun z => by omega⟩
  generalize (if y1 ≤ y0 then (0 : Int32) else 1) = dw at dn
  -- the points left of the crossing
  generalize hd : (if dw = 0 then (-1 : Int32) else 1) = d
  have goOn : ∀ b, b ≤ c → (∀ i, i < b → (if y1.toInt < y0.toInt then TH < ((4 * i + 2 : Nat) - x0.toInt) * (y1.toInt - y0.toInt) else ((4 * i + 2 : Nat) - x0.toInt) * (y1.toInt - y0.toInt) < TH)) → (b = c ∨ ¬ (if y1.toInt < y0.toInt then TH < ((4 * b + 2 : Nat) - x0.toInt) * (y1.toInt - y0.toInt) else ((4 * b + 2 : Nat) - x0.toInt) * (y1.toInt - y0.toInt) < TH)) → q_lp (fun t => bX6_countTurns_109 98 x1' (Int32.ofNat c) x3' x0 y0 y1 dw th t.1 t.2) ((0 : Int32), e_g (sA s 109 T) g) = some (e_g (sA s 109 (fun j => if j < b then T j + d else T j)) g) := by
    intro b hb hok hend
    have gl : ∀ i, i < 96 → ¬ (96 : Int32) ≤ Int32.ofNat i := fun i hi => nle (b := 96) hi (by omega)
    have go : ∀ i, i < c → ∀ F : Nat → Int32, bX6_countTurns_109 98 x1' (Int32.ofNat c) x3' x0 y0 y1 dw th (Int32.ofNat i) (e_g (sA s 109 F) g) = if (if y1.toInt < y0.toInt then TH < ((4 * i + 2 : Nat) - x0.toInt) * (y1.toInt - y0.toInt) else ((4 * i + 2 : Nat) - x0.toInt) * (y1.toInt - y0.toInt) < TH) then some (.inl (Int32.ofNat (i + 1), e_g (sA s 109 (upd F i (F i + d))) g)) else some (.inr (e_g (sA s 109 F) g)) := by
      intro i hi F
      have wr : ∀ x1'', jX6_countTurns_171_109 (e_g (sA s 109 F) g) 98 x1'' (Int32.ofNat c) x3' x0 y0 y1 dw th (Int32.ofNat i) = some (.inl (Int32.ofNat (i + 1), e_g (sA s 109 (upd F i (F i + d))) g)) := fun x1'' => by
        unfold jX6_countTurns_171_109
        rw [f98_13, ob_n, ob_n, a109, n_idx (by omega), if_neg (n_in2 (N := 96) (by omega) (by decide)), ob_n, A_sA, if_pos rfl, u109, n_idx (by omega), if_neg (n_in2 (N := 96) (by omega) (by decide)), ob_n, A_sA, if_pos rfl, sA_sA, hd, n_suc]
      have mi := m1 i hi
      unfold bX6_countTurns_109
      rw [if_neg (nle hi (by omega)), f98_13, ob_n, ob_n, l109, ob_n, if_neg (gl i (by omega)), wr]
      by_cases q : dw = 0
      · have q1 := dn.mp q
        rw [if_pos q]
        simp only [if_pos q1]
        by_cases z : TH < ((4 * i + 2 : Nat) - x0.toInt) * (y1.toInt - y0.toInt)
        · rw [if_pos z, if_pos (by rw [lg_cmp_gt, i64_lt, mi, m2]; exact z)]
        · rw [if_neg z, if_neg (by rw [lg_cmp_gt, i64_lt, mi, m2]; exact z)]
      · have q1 : ¬ y1.toInt < y0.toInt := fun z => q (dn.mpr z)
        rw [if_neg q]
        simp only [if_neg q1]
        by_cases z : ((4 * i + 2 : Nat) - x0.toInt) * (y1.toInt - y0.toInt) < TH
        · rw [if_pos z, if_pos (by rw [lg_cmp_lt, i64_lt, mi, m2]; exact z)]
        · rw [if_neg z, if_neg (by rw [lg_cmp_lt, i64_lt, mi, m2]; exact z)]
    refine lp_0 (fun i => (Int32.ofNat i, e_g (sA s 109 (fun j => if j < i then T j + d else T j)) g)) b ?_ (fun i hi => ?_) ?_
    · have : (fun j => if j < 0 then T j + d else T j) = T := by
        funext j
        rw [if_neg (by omega)]
      rw [this]; rfl
    · have e : upd (fun j => if j < i then T j + d else T j) i ((fun j => if j < i then T j + d else T j) i + d) = fun j => if j < i + 1 then T j + d else T j := by
        funext j
        rw [upd_r]
        dsimp only
        by_cases z : j = i
        · rw [if_pos z, if_neg (by omega), if_pos (by omega), z]
        · rw [if_neg z]
          by_cases z2 : j < i
          · rw [if_pos z2, if_pos (by omega)]
          · rw [if_neg z2, if_neg (by omega)]
      show bX6_countTurns_109 _ _ _ _ _ _ _ _ _ _ _ = _
      rw [go i (by omega), if_pos (hok i hi), e]
    · show bX6_countTurns_109 _ _ _ _ _ _ _ _ _ _ _ = _
      rcases hend with z | z
      · unfold bX6_countTurns_109
        rw [if_pos (by rw [z]; exact nlr (by omega))]
      · by_cases z2 : b = c
        · unfold bX6_countTurns_109
          rw [if_pos (by rw [z2]; exact nlr (by omega))]
        · rw [go b (by omega), if_neg z]
  have dd : d = if y1.toInt < y0.toInt then -1 else 1 := by
    rw [← hd]
    by_cases q : dw = 0
    · rw [if_pos q, if_pos (dn.mp q)]
    · rw [if_neg q, if_neg (fun z => q (dn.mpr z))]
  have tv : ∀ i : Nat, tcV x0 y0 x1 y1 (4 * i + 2 : Nat) yy = if (if y1.toInt < y0.toInt then TH < ((4 * i + 2 : Nat) - x0.toInt) * (y1.toInt - y0.toInt) else ((4 * i + 2 : Nat) - x0.toInt) * (y1.toInt - y0.toInt) < TH) then d else 0 := fun i => by
    unfold tcV
    rw [if_neg hq, hth, dd]
    by_cases q : y1.toInt < y0.toInt
    · rw [if_neg (show ¬ y0.toInt < y1.toInt by omega)]
      simp only [if_pos q]
    · rw [if_pos (show y0.toInt < y1.toInt by omega)]
      simp only [if_neg q]
  rcases fr_first (P := fun i => (if y1.toInt < y0.toInt then TH < ((4 * i + 2 : Nat) - x0.toInt) * (y1.toInt - y0.toInt) else ((4 * i + 2 : Nat) - x0.toInt) * (y1.toInt - y0.toInt) < TH)) (fun i => Decidable.em _) c with z | ⟨b, z1, z2, z3⟩
  · refine ⟨_, goOn c (Nat.le_refl _) z (Or.inl rfl), fun i hi => ?_⟩
    rw [if_pos hi, tv, if_pos (z i hi)]
  · refine ⟨_, goOn b (by omega) z3 (Or.inr z2), fun i hi => ?_⟩
    by_cases q : i < b
    · rw [if_pos q, tv, if_pos (z3 i q)]
    · rw [if_neg q, tv, if_neg, Int32.add_zero]
      intro y
      apply z2
      by_cases q1 : y1.toInt < y0.toInt
      · simp only [if_pos q1] at y ⊢
        have : ((4 * i + 2 : Nat) - x0.toInt) * (y1.toInt - y0.toInt) ≤ ((4 * b + 2 : Nat) - x0.toInt) * (y1.toInt - y0.toInt) := Int.mul_le_mul_of_nonpos_right (by omega) (by omega)
        omega
      · simp only [if_neg q1] at y ⊢
        have : ((4 * b + 2 : Nat) - x0.toInt) * (y1.toInt - y0.toInt) ≤ ((4 * i + 2 : Nat) - x0.toInt) * (y1.toInt - y0.toInt) := Int.mul_le_mul_of_nonneg_right (by omega) (by omega)
        omega
