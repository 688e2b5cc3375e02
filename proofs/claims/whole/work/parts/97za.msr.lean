-- needs: 97y
/-! ===== which points of a pixel lie in a PATH ===== -/
theorem countTurns6 {s : e_S} {g : ps_G} {n c yy : Nat} (hn : n ≤ 400) (hc : c ≤ 96) (hy : yy ≤ 400) (e10 : s.1 98 10 = Int32.ofNat n) (hB : ∀ k, k < n → Bd (s.2.1 105 k) ∧ Bd (s.2.1 106 k) ∧ Bd (s.2.1 107 k) ∧ Bd (s.2.1 108 k)) : ∃ T, fX6_countTurns (e_g s g) 98 (Int32.ofNat yy) (Int32.ofNat c) = some (e_g (sA s 109 T) g) ∧ ∀ i, i < c → T i = tnS (s.2.1 105) (s.2.1 106) (s.2.1 107) (s.2.1 108) (4 * i + 2 : Nat) yy n := by
  have rd : ∀ T j, (j = 105 ∨ j = 106 ∨ j = 107 ∨ j = 108) → ∀ k, k < n → q_aI (e_g (sA s 109 T) g) j (Int32.ofNat k) = some (s.2.1 j k) := by
    intro T j hj k hk
    rcases hj with rfl | rfl | rfl | rfl
    · rw [a105, n_idx (by omega), if_neg (n_in2 (N := 400) (by omega) (by decide)), A_sA, if_neg (by decide)]
    · rw [a106, n_idx (by omega), if_neg (n_in2 (N := 400) (by omega) (by decide)), A_sA, if_neg (by decide)]
    · rw [a107, n_idx (by omega), if_neg (n_in2 (N := 400) (by omega) (by decide)), A_sA, if_neg (by decide)]
    · rw [a108, n_idx (by omega), if_neg (n_in2 (N := 400) (by omega) (by decide)), A_sA, if_neg (by decide)]
  have lp := lp_n (b := fun t => bX6_countTurns_10 98 (Int32.ofNat yy) (Int32.ofNat c) t.1 t.2) (fun k t => ∃ T, t = (Int32.ofNat k, e_g (sA s 109 T) g) ∧ ∀ i, i < c → T i = tnS (s.2.1 105) (s.2.1 106) (s.2.1 107) (s.2.1 108) (4 * i + 2 : Nat) yy k) (fun r => ∃ T, r = e_g (sA s 109 T) g ∧ ∀ i, i < c → T i = tnS (s.2.1 105) (s.2.1 106) (s.2.1 107) (s.2.1 108) (4 * i + 2 : Nat) yy n) n (s := ((0 : Int32), e_g (sA s 109 (fl (s.2.1 109) 96 0)) g)) (fun k t hk ht => ?_) (fun t ht => ?_) ⟨_, rfl, fun i hi => fl_lt (by omega)⟩
  · obtain ⟨r, l1, T, l2, l3⟩ := lp
    refine ⟨T, ?_, l3⟩
    unfold fX6_countTurns jX6_countTurns_203
    rw [f98_13, ob_n, ob_n, fillI t109 (by omega) (by omega), ob_n, l1, ob_n, l2]
  · obtain ⟨T, rfl, hT⟩ := ht
    obtain ⟨b1, b2, b3, b4⟩ := hB k hk
    have r1 := rd T 105 (by omega) k hk
    have r2 := rd T 106 (by omega) k hk
    have r3 := rd T 107 (by omega) k hk
    have r4 := rd T 108 (by omega) k hk
    have ey : (Int32.ofNat yy).toInt = yy := n_int (by omega)
    have ce := cr_e (y := Int32.ofNat yy) (y0 := s.2.1 106 k) (y1 := s.2.1 108 k)
    rw [ey] at ce
    have g4 : ¬ (Int32.ofNat n ≤ Int32.ofNat k ∨ (400 : Int32) ≤ Int32.ofNat k) := by
      rintro (z | z)
      · exact nle hk (by omega) z
      · exact nle (b := 400) (show k < 400 by omega) (by omega) z
    have head : bX6_countTurns_10 98 (Int32.ofNat yy) (Int32.ofNat c) (Int32.ofNat k) (e_g (sA s 109 T) g) = if (if Int32.ofNat yy < s.2.1 106 k then (0 : Int32) else (1 : Int32)) = (if Int32.ofNat yy < s.2.1 108 k then (0 : Int32) else (1 : Int32)) then some (.inl (Int32.ofNat (k + 1), e_g (sA s 109 T) g)) else Option.bind (q_lp (fun t => bX6_countTurns_109 98 (Int32.ofNat yy) (Int32.ofNat c) (Int32.ofNat k) (s.2.1 105 k) (s.2.1 106 k) (s.2.1 108 k) (if s.2.1 108 k ≤ s.2.1 106 k then (0 : Int32) else (1 : Int32)) ((Int32.toInt64 (Int32.ofNat yy - s.2.1 106 k)) * (Int32.toInt64 (s.2.1 107 k - s.2.1 105 k))) t.1 t.2) ((0 : Int32), e_g (sA s 109 T) g)) fun s63 => some (.inl (Int32.ofNat (k + 1), s63)) := by
      unfold bX6_countTurns_10 jX6_countTurns_197_10
      rw [f98_10, F_sA, e10, ob_n, if_neg g4, f98_6, ob_n, ob_n, r1, ob_n, f98_7, ob_n, ob_n, r2, ob_n, f98_9, ob_n, ob_n, r4, ob_n, f98_8, ob_n, ob_n, r3, ob_n, n_suc]
    have st : ∀ i : Nat, tnS (s.2.1 105) (s.2.1 106) (s.2.1 107) (s.2.1 108) (4 * i + 2 : Nat) yy (k + 1) = tnS (s.2.1 105) (s.2.1 106) (s.2.1 107) (s.2.1 108) (4 * i + 2 : Nat) yy k + tcV (s.2.1 105 k) (s.2.1 106 k) (s.2.1 107 k) (s.2.1 108 k) (4 * i + 2 : Nat) yy := fun i => rfl
    by_cases q : ((s.2.1 106 k).toInt ≤ yy ↔ (s.2.1 108 k).toInt ≤ yy)
    · rw [if_pos (ce.mpr q)] at head
      refine ⟨_, head, T, rfl, fun i hi => ?_⟩
      rw [st, hT i hi, show tcV (s.2.1 105 k) (s.2.1 106 k) (s.2.1 107 k) (s.2.1 108 k) (4 * i + 2 : Nat) yy = 0 from if_pos q, Int32.add_zero]
    · obtain ⟨T', l1, l2⟩ := inner6 (s := s) (g := g) (c := c) (yy := yy) (x1' := Int32.ofNat yy) (x2' := 0) (x3' := Int32.ofNat k) (T := T) hc hy b1 b2 b3 b4 q
      rw [if_neg (fun z => q (ce.mp z)), l1, ob_n] at head
      refine ⟨_, head, T', rfl, fun i hi => ?_⟩
      rw [l2 i hi, hT i hi, st]
  · obtain ⟨T, rfl, hT⟩ := ht
    refine ⟨_, ?_, T, rfl, hT⟩
    show bX6_countTurns_10 _ _ _ _ _ = _
    unfold bX6_countTurns_10
    dsimp only
    rw [f98_10, F_sA, e10, ob_n, if_pos (Or.inl (nlr (by omega)))]
/-- the point i of the row r is in -/
def inV (rule : Int32) (A B C D : Nat → Int32) (n r i : Nat) : Bool := if rule = 0 then decide (¬ tnS A B C D (4 * i + 2 : Nat) (4 * r + 2 : Nat) n = 0) else decide (¬ tnS A B C D (4 * i + 2 : Nat) (4 * r + 2 : Nat) n &&& 1 = 0)
def mI (b : Nat → Nat → Bool) (w : Nat) (F : Nat → Nat) (R : Nat) : Nat → Nat → Nat
  | 0, k => F k
  | i + 1, k => if k = R / 4 * w + i / 4 then mI b w F R i k + (if b R i then 1 else 0) else mI b w F R i k
def mO (b : Nat → Nat → Bool) (w : Nat) : Nat → Nat → Nat
  | 0, _ => 0
  | R + 1, k => mI b w (mO b w R) R (4 * w) k
def bsV (b : Nat → Nat → Bool) (R x : Nat) : Nat → Nat
  | 0 => 0
  | m + 1 => bsV b R x m + (if b R (4 * x + m) then 1 else 0)
def psV (b : Nat → Nat → Bool) (y x : Nat) : Nat → Nat
  | 0 => 0
  | m + 1 => psV b y x m + bsV b (4 * y + m) x 4
theorem bsV_l {b : Nat → Nat → Bool} {R x : Nat} : ∀ m, bsV b R x m ≤ m
  | 0 => Nat.le_refl _
  | m + 1 => by
    have := bsV_l (b := b) (R := R) (x := x) m
    show bsV b R x m + (if b R (4 * x + m) then 1 else 0) ≤ m + 1
    split <;> omega
theorem psV_l {b : Nat → Nat → Bool} {y x : Nat} : ∀ m, psV b y x m ≤ 4 * m
  | 0 => Nat.le_refl _
  | m + 1 => by
    have := psV_l (b := b) (y := y) (x := x) m
    have := bsV_l (b := b) (R := 4 * y + m) (x := x) 4
    show psV b y x m + bsV b (4 * y + m) x 4 ≤ 4 * (m + 1)
    omega
theorem cell_ne {w y y' x x' : Nat} (hx : x < w) (hx' : x' < w) (h : y * w + x = y' * w + x') : y = y' ∧ x = x' := by
  have a := md (w := w) (x := x) (y := y) hx
  have b := md (w := w) (x := x') (y := y') hx'
  rw [h] at a
  exact ⟨a.2.symm.trans b.2, a.1.symm.trans b.1⟩
theorem mI_v {b : Nat → Nat → Bool} {w R y x : Nat} {F : Nat → Nat} (hx : x < w) : ∀ i, i ≤ 4 * w → mI b w F R i (y * w + x) = F (y * w + x) + (if y = R / 4 then bsV b R x (min 4 (i - 4 * x)) else 0)
  | 0, _ => by
    rw [show min 4 (0 - 4 * x) = 0 by omega]
    show F (y * w + x) = F (y * w + x) + (if y = R / 4 then 0 else 0)
    split <;> omega
  | i + 1, hi => by
    have ih := mI_v (b := b) (R := R) (y := y) (F := F) hx i (by omega)
    have hix : i / 4 < w := by omega
    by_cases q : y * w + x = R / 4 * w + i / 4
    · have e := cell_ne hx hix q
      have st : mI b w F R (i + 1) (y * w + x) = mI b w F R i (y * w + x) + (if b R i then 1 else 0) := if_pos q
      rw [st, ih, if_pos e.1, if_pos e.1, show min 4 (i + 1 - 4 * x) = (i - 4 * x) + 1 by omega, show min 4 (i - 4 * x) = i - 4 * x by omega]
      show _ = F (y * w + x) + (bsV b R x (i - 4 * x) + (if b R (4 * x + (i - 4 * x)) then 1 else 0))
      rw [show 4 * x + (i - 4 * x) = i by omega]
      omega
    · have st : mI b w F R (i + 1) (y * w + x) = mI b w F R i (y * w + x) := if_neg q
      rw [st, ih]
      by_cases e : y = R / 4
      · have ne : ¬ x = i / 4 := fun z => q (by rw [e, z])
        rw [if_pos e, if_pos e, show min 4 (i + 1 - 4 * x) = min 4 (i - 4 * x) by omega]
      · rw [if_neg e, if_neg e]
theorem mO_v {b : Nat → Nat → Bool} {w y x : Nat} (hx : x < w) : ∀ R, mO b w R (y * w + x) = psV b y x (min 4 (R - 4 * y))
  | 0 => by
    rw [show min 4 (0 - 4 * y) = 0 by omega]
    rfl
  | R + 1 => by
    have ih := mO_v (b := b) (y := y) hx R
    show mI b w (mO b w R) R (4 * w) (y * w + x) = _
    rw [mI_v hx _ (Nat.le_refl _), ih, show min 4 (4 * w - 4 * x) = 4 by omega]
    by_cases e : y = R / 4
    · rw [if_pos e, show min 4 (R + 1 - 4 * y) = (R - 4 * y) + 1 by omega, show min 4 (R - 4 * y) = R - 4 * y by omega]
      show _ = psV b y x (R - 4 * y) + bsV b (4 * y + (R - 4 * y)) x 4
      rw [show 4 * y + (R - 4 * y) = R by omega]
    · rw [if_neg e, show min 4 (R + 1 - 4 * y) = min 4 (R - 4 * y) by omega]
      rfl
/-- the reference's count -/
def nkV (b : Nat → Nat → Bool) (y x : Nat) : Nat → Nat
  | 0 => 0
  | k + 1 => nkV b y x k + (if b (4 * y + k / 4) (4 * x + k % 4) then 1 else 0)
theorem nkV_j {b : Nat → Nat → Bool} {y x m : Nat} (h : nkV b y x (4 * m) = psV b y x m) : ∀ j, j ≤ 4 → nkV b y x (4 * m + j) = psV b y x m + bsV b (4 * y + m) x j
  | 0, _ => h
  | j + 1, hj => by
    have ih := nkV_j h j (by omega)
    show nkV b y x (4 * m + j) + (if b (4 * y + (4 * m + j) / 4) (4 * x + (4 * m + j) % 4) then 1 else 0) = psV b y x m + (bsV b (4 * y + m) x j + (if b (4 * y + m) (4 * x + j) then 1 else 0))
    rw [ih, show (4 * m + j) / 4 = m by omega, show (4 * m + j) % 4 = j by omega]
    omega
theorem nkV_r {b : Nat → Nat → Bool} {y x : Nat} : ∀ m, nkV b y x (4 * m) = psV b y x m
  | 0 => rfl
  | m + 1 => nkV_j (nkV_r m) 4 (Nat.le_refl _)
theorem tc_b {x0 y0 x1 y1 : Int32} {x y : Int} : (tcV x0 y0 x1 y1 x y).toInt.natAbs ≤ 1 := by
  unfold tcV
  split
  · decide
  · split <;> split <;> decide
theorem tn_b {A B C D : Nat → Int32} {x y : Int} : ∀ n, n ≤ 420 → (tnS A B C D x y n).toInt.natAbs ≤ n
  | 0, _ => Nat.le_refl _
  | n + 1, hn => by
    have ih := tn_b (A := A) (B := B) (C := C) (D := D) (x := x) (y := y) n (by omega)
    have := tc_b (x0 := A n) (y0 := B n) (x1 := C n) (y1 := D n) (x := x) (y := y)
    show (tnS A B C D x y n + tcV (A n) (B n) (C n) (D n) x y).toInt.natAbs ≤ n + 1
    rw [i_add (by omega) (by omega)]
    omega
theorem par2 {v : Int32} (h : v.toInt.natAbs ≤ 420) : q_rem v 2 = 0 ↔ v &&& 1 = 0 := by
  have : ∀ m : Fin 841, (q_rem (Int32.ofNat m.1 - 420) 2 = 0 ↔ (Int32.ofNat m.1 - 420) &&& 1 = 0) := by decide +kernel
  have e : v = Int32.ofNat (v.toInt + 420).toNat - 420 := by
    rw [i_eq, i_sub, n_int (by omega)]
    · have : (420 : Int32).toInt = 420 := by decide
      omega
    · have : (420 : Int32).toInt = 420 := by decide
      rw [n_int (by omega)]; omega
    · have : (420 : Int32).toInt = 420 := by decide
      rw [n_int (by omega)]; omega
  have := this ⟨(v.toInt + 420).toNat, by omega⟩
  dsimp only at this
  rw [← e] at this
  exact this
theorem sh12 {s : e_S} {g : ps_G} {n w h : Nat} {rule : Int32} (hn : n ≤ 420) (hw : w ≤ 24) (hh : h ≤ 24) (e13 : s.1 139 13 = Int32.ofNat w) (e14 : s.1 139 14 = Int32.ofNat h) (e52 : s.1 139 52 = Int32.ofNat n) (hB : ∀ k, k < n → Bd (s.2.1 167 k) ∧ Bd (s.2.1 168 k) ∧ Bd (s.2.1 169 k) ∧ Bd (s.2.1 170 k)) : q_lp (fun t => bX12_shapeOfPath_11 139 rule t.1 t.2) ((0 : Int32), e_g s g) = some (e_g (sA s 156 (cpT (s.2.1 156) (fun k => (255 * Int32.ofNat (psV (inV rule (s.2.1 167) (s.2.1 168) (s.2.1 169) (s.2.1 170) n) (k / w) (k % w) 4) + 8) / 16) 0 (h * w))) g) := by
  have hwh := wh_le hw hh
  have lp := fill1 (fun F => e_g (sA s 156 F) g) 0 w h (fun k => (255 * Int32.ofNat (psV (inV rule (s.2.1 167) (s.2.1 168) (s.2.1 169) (s.2.1 170) n) (k / w) (k % w) 4) + 8) / 16) (s.2.1 156) (bI := fun y t => bX12_shapeOfPath_23 139 rule y t.1 t.2) (bO := fun t => bX12_shapeOfPath_11 139 rule t.1 t.2) (fun F y x hy hx _ => ?_) (fun F y hy => ?_) (fun F y hy => ?_) (fun F => ?_)
  · rw [sA_id] at lp
    exact lp
  · have hlt := at_lt hx hy
    have dm := md (w := w) (x := x) (y := y) hx
    generalize hb : inV rule (s.2.1 167) (s.2.1 168) (s.2.1 169) (s.2.1 170) n = b
    have inn : q_lp (fun t => bX12_shapeOfPath_38 (e_g (sA s 156 F) g) 139 rule (Int32.ofNat y) (Int32.ofNat x) t.1 t.2) ((0 : Int32), (0 : Int32)) = some (Int32.ofNat (psV b y x 4)) := by
      rw [← nkV_r]
      refine lp_0 (fun k => (Int32.ofNat (nkV b y x k), Int32.ofNat k)) (4 * 4) rfl (fun k hk => ?_) ?_
      · have ix : ((16 : Int32) * Int32.ofNat x + 4 * q_rem (Int32.ofNat k) 4) + 2 = Int32.ofNat (4 * (4 * x + k % 4) + 2) := by
          rw [show (16 : Int32) = Int32.ofNat 16 from rfl, show (4 : Int32) = Int32.ofNat 4 from rfl, show (2 : Int32) = Int32.ofNat 2 from rfl, n_rem (by omega) (by omega), n_mul, n_mul, n_add, n_add]
          congr 1
          omega
        have iy : ((16 : Int32) * Int32.ofNat y + 4 * (Int32.ofNat k / 4)) + 2 = Int32.ofNat (4 * (4 * y + k / 4) + 2) := by
          rw [show (16 : Int32) = Int32.ofNat 16 from rfl, show (4 : Int32) = Int32.ofNat 4 from rfl, show (2 : Int32) = Int32.ofNat 2 from rfl, n_div (by omega) (by omega), n_mul, n_mul, n_add, n_add]
          congr 1
          omega
        have eA : ∀ j, ¬ j = 156 → (sA s 156 F).2.1 j = s.2.1 j := fun j hj => by rw [A_sA, if_neg hj]
        have ta := turnsAt12 (s := sA s 156 F) (g := g) (n := n) (x := 4 * (4 * x + k % 4) + 2) (y := 4 * (4 * y + k / 4) + 2) hn (by omega) (by omega) (by rw [F_sA]; exact e52) (by rw [eA 167 (by decide), eA 168 (by decide), eA 169 (by decide), eA 170 (by decide)]; exact hB)
        rw [eA 167 (by decide), eA 168 (by decide), eA 169 (by decide), eA 170 (by decide)] at ta
        have st : nkV b y x (k + 1) = nkV b y x k + (if b (4 * y + k / 4) (4 * x + k % 4) then 1 else 0) := rfl
        have bv : b (4 * y + k / 4) (4 * x + k % 4) = inV rule (s.2.1 167) (s.2.1 168) (s.2.1 169) (s.2.1 170) n (4 * y + k / 4) (4 * x + k % 4) := by rw [hb]
        have bd := tn_b (A := s.2.1 167) (B := s.2.1 168) (C := s.2.1 169) (D := s.2.1 170) (x := (4 * (4 * x + k % 4) + 2 : Nat)) (y := (4 * (4 * y + k / 4) + 2 : Nat)) n hn
        rw [st, bv]
        unfold inV
        generalize tnS (s.2.1 167) (s.2.1 168) (s.2.1 169) (s.2.1 170) (4 * (4 * x + k % 4) + 2 : Nat) (4 * (4 * y + k / 4) + 2 : Nat) n = tv at ta bd
        have p2 := par2 (v := tv) (by omega)
        have g16 : ¬ (16 : Int32) ≤ Int32.ofNat k := nle (b := 16) (by omega) (by omega)
        show bX12_shapeOfPath_38 _ _ _ _ _ _ _ = _
        unfold bX12_shapeOfPath_38 jX12_shapeOfPath_98_38 jX12_shapeOfPath_101_38
        dsimp only
        rw [if_neg g16, ob139, ob_n, ix, iy, ta, ob_n, n_suc, n_suc]
        by_cases r0 : rule = 0
        · rw [if_neg (fun z => z r0), if_pos r0]
          by_cases z : tv = 0
          · rw [if_pos z, decide_eq_false (fun y => y z)]
            rfl
          · rw [if_neg z, decide_eq_true z]
            rfl
        · rw [if_pos r0, if_neg r0]
          by_cases z : q_rem tv 2 = 0
          · rw [if_pos z, decide_eq_false (fun y => y (p2.mp z))]
            rfl
          · rw [if_neg z, decide_eq_true (show ¬ (tv &&& 1 = 0) from fun y => z (p2.mpr y))]
            rfl
      · show bX12_shapeOfPath_38 _ _ _ _ _ _ _ = _
        unfold bX12_shapeOfPath_38
        dsimp only
        rw [if_pos (by decide)]
    show bX12_shapeOfPath_23 _ _ _ _ _ = _
    unfold bX12_shapeOfPath_23
    dsimp only
    rw [f139_13, F_sA, e13, ob_n, if_neg (nle hx (by omega)), inn, ob_n, f139_32, ob_n, ob_n, ob139, ob_n, at12n (by rw [F_sA]; exact e13), ob_n, u156, n_idx (by omega), if_neg (n_in2 (show y * w + x < 576 by omega) (by decide)), ob_n, A_sA, if_pos rfl, sA_sA, n_suc, Nat.zero_add, dm.1, dm.2]
  · show bX12_shapeOfPath_23 _ _ _ _ _ = _
    unfold bX12_shapeOfPath_23
    dsimp only
    rw [f139_13, F_sA, e13, ob_n, if_pos (nlr (by omega))]
  · show bX12_shapeOfPath_11 _ _ _ _ = _
    unfold bX12_shapeOfPath_11
    dsimp only
    rw [f139_14, F_sA, e14, ob_n, if_neg (nle hy (by omega))]
  · show bX12_shapeOfPath_11 _ _ _ _ = _
    unfold bX12_shapeOfPath_11
    dsimp only
    rw [f139_14, F_sA, e14, ob_n, if_pos (nlr (by omega))]
