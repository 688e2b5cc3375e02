-- needs: 97zj
/-! ===== the shapes ===== -/
def bxV (a b c d : Int32) (w k : Nat) : Int32 := if (Int32.ofNat (k % w) < a) ∨ (((a + c) ≤ Int32.ofNat (k % w)) ∨ ((Int32.ofNat (k / w) < b) ∨ ((b + d) ≤ Int32.ofNat (k / w)))) then 0 else 255
theorem shp0 {s : e_S} {g : ps_G} {w h : Nat} {V : Nat → Int32} {bI : Int32 → Int32 → ps_G → Option ((Int32 × ps_G) ⊕ ps_G)} {bO : Int32 → ps_G → Option ((Int32 × ps_G) ⊕ ps_G)} (hw : w ≤ 24) (hh : h ≤ 24) (e0 : s.1 89 0 = Int32.ofNat w) (e1 : s.1 89 1 = Int32.ofNat h) (hI : ∀ F y x, y < h → x < w → bI (Int32.ofNat y) (Int32.ofNat x) (e_g (sA s 91 F) g) = Option.bind (q_wI (e_g (sA s 91 F) g) 91 (Int32.ofNat (y * w + x)) (V (y * w + x))) fun g15 => some (.inl (Int32.ofNat x + (1 : Int32), g15))) (hIe : ∀ F y, y < h → bI (Int32.ofNat y) (Int32.ofNat w) (e_g (sA s 91 F) g) = some (.inr (e_g (sA s 91 F) g))) (hO : ∀ F y, bO y (e_g (sA s 91 F) g) = Option.bind (q_fI 0 1 (e_g (sA s 91 F) g) 89) fun v1 => if v1 ≤ y then (some (.inr (e_g (sA s 91 F) g))) else (Option.bind (q_lp (fun t => bI y t.1 t.2) ((0 : Int32), e_g (sA s 91 F) g)) fun s18 => some (.inl (y + (1 : Int32), s18)))) : q_lp (fun t => bO t.1 t.2) ((0 : Int32), e_g s g) = some (e_g (sA s 91 (cpT (s.2.1 91) V 0 (h * w))) g) := by
  have hwh := wh_le hw hh
  have lp := fill1 (fun F => e_g (sA s 91 F) g) 0 w h V (s.2.1 91) (bI := fun y t => bI y t.1 t.2) (bO := fun t => bO t.1 t.2) (fun F y x hy hx hF => ?_) (fun F y hy => ?_) (fun F y hy => ?_) (fun F => ?_)
  · rw [sA_id] at lp
    exact lp
  · have hlt := at_lt hx hy
    show bI _ _ _ = _
    rw [hI F y x hy hx, wrI t91 (by omega) (by omega), ob_n, A_sA, if_pos rfl, sA_sA, n_suc, Nat.zero_add]
  · exact hIe F y hy
  · show bO _ _ = _
    rw [hO, f89_1, F_sA, e1, ob_n, if_neg (nle hy (by omega))]
  · show bO _ _ = _
    rw [hO, f89_1, F_sA, e1, ob_n, if_pos (nlr (by omega))]
theorem box0 {s : e_S} {g : ps_G} {w h : Nat} {a b c d : Int32} (hw : w ≤ 24) (hh : h ≤ 24) (e0 : s.1 89 0 = Int32.ofNat w) (e1 : s.1 89 1 = Int32.ofNat h) : fX0_box (e_g s g) 89 a b c d = some (e_g (sA s 91 (cpT (s.2.1 91) (bxV a b c d w) 0 (h * w))) g) := by
  have lp := shp0 (s := s) (g := g) (w := w) (h := h) (V := bxV a b c d w) (bI := fun y x G => bX0_box_15 89 a b c d y x G) (bO := fun y G => bX0_box_3 89 a b c d y G) hw hh e0 e1 (fun F y x hy hx => ?_) (fun F y hy => ?_) (fun F y => rfl)
  · unfold fX0_box
    rw [lp, ob_n]
  · have dm := md (w := w) (x := x) (y := y) hx
    show bX0_box_15 _ _ _ _ _ _ _ _ = _
    unfold bX0_box_15 bxV
    rw [f89_0, F_sA, e0, ob_n, if_neg (nle hx (by omega)), f89_3, ob_n, ob_n, ob_n, n_mul, n_add, dm.1, dm.2]
  · show bX0_box_15 _ _ _ _ _ _ _ _ = _
    unfold bX0_box_15
    rw [f89_0, F_sA, e0, ob_n, if_pos (nlr (by omega))]
theorem bxV_r {a b c d : Int32} {w k : Nat} : rg (bxV a b c d w k) 0 255 := by
  unfold bxV
  split <;> decide
def elU (x i a c : Int32) : Int64 := Int32.toInt64 ((((8 * x + 2 * i) + 1) - 8 * a) - 4 * c)
def elB (a b c d : Int32) (x y : Int32) (j i : Nat) : Bool := decide (¬ 0 < lg_cmp ((elU x (Int32.ofNat i) a c * elU x (Int32.ofNat i) a c) * ((16 * Int32.toInt64 d) * Int32.toInt64 d) + (elU y (Int32.ofNat j) b d * elU y (Int32.ofNat j) b d) * ((16 * Int32.toInt64 c) * Int32.toInt64 c)) (((16 * Int32.toInt64 c) * Int32.toInt64 c) * ((16 * Int32.toInt64 d) * Int32.toInt64 d)))
def elV (a b c d : Int32) (w k : Nat) : Int32 := if c ≤ 0 ∨ d ≤ 0 then 0 else (255 * Int32.ofNat (psV (elB a b c d (Int32.ofNat (k % w)) (Int32.ofNat (k / w))) 0 0 4) + 8) / 16
theorem elV_r {a b c d : Int32} {w k : Nat} : rg (elV a b c d w k) 0 255 := by
  unfold elV
  split
  · decide
  · have h := psV_l (b := elB a b c d (Int32.ofNat (k % w)) (Int32.ofNat (k / w))) (y := 0) (x := 0) 4
    generalize psV (elB a b c d (Int32.ofNat (k % w)) (Int32.ofNat (k / w))) 0 0 4 = m at h
    have : ∀ m : Fin 17, rg ((255 * Int32.ofNat m.1 + 8) / 16) 0 255 = true := by decide +kernel
    exact this ⟨m, by omega⟩
theorem and3 {k : Nat} (hk : k < 16) : Int32.ofNat k &&& 3 = Int32.ofNat (k % 4) ∧ q_shr (Int32.ofNat k) 2 = Int32.ofNat (k / 4) := by
  have : ∀ k : Fin 16, Int32.ofNat k.1 &&& 3 = Int32.ofNat (k.1 % 4) ∧ q_shr (Int32.ofNat k.1) 2 = Int32.ofNat (k.1 / 4) := by decide +kernel
  exact this ⟨k, hk⟩
theorem ell0 {s : e_S} {g : ps_G} {w h : Nat} {a b c d : Int32} (hw : w ≤ 24) (hh : h ≤ 24) (e0 : s.1 89 0 = Int32.ofNat w) (e1 : s.1 89 1 = Int32.ofNat h) : fX0_ellipse (e_g s g) 89 a b c d = some (e_g (sA s 91 (cpT (s.2.1 91) (elV a b c d w) 0 (h * w))) g) := by
  have lp := shp0 (s := s) (g := g) (w := w) (h := h) (V := elV a b c d w) (bI := fun y x G => bX0_ellipse_15 89 a b c d y x G) (bO := fun y G => bX0_ellipse_3 89 a b c d y G) hw hh e0 e1 (fun F y x hy hx => ?_) (fun F y hy => ?_) (fun F y => rfl)
  · unfold fX0_ellipse
    rw [lp, ob_n]
  · have dm := md (w := w) (x := x) (y := y) hx
    have inn : q_lp (fun t => bX0_ellipse_30 (e_g (sA s 91 F) g) 89 a b c d (Int32.ofNat y) (Int32.ofNat x) t.1 t.2) ((0 : Int32), (0 : Int32)) = some (if c ≤ 0 ∨ d ≤ 0 then 0 else Int32.ofNat (psV (elB a b c d (Int32.ofNat x) (Int32.ofNat y)) 0 0 4)) := by
      rw [← nkV_r]
      refine lp_0 (fun k => (if c ≤ 0 ∨ d ≤ 0 then 0 else Int32.ofNat (nkV (elB a b c d (Int32.ofNat x) (Int32.ofNat y)) 0 0 k), Int32.ofNat k)) (4 * 4) ?_ (fun k hk => ?_) ?_
      · by_cases q : c ≤ 0 ∨ d ≤ 0
        · rw [if_pos q]; rfl
        · rw [if_neg q]; rfl
      · have an := and3 (show k < 16 by omega)
        have g16 : ¬ (16 : Int32) ≤ Int32.ofNat k := nle (b := 16) (by omega) (by omega)
        show bX0_ellipse_30 _ _ _ _ _ _ _ _ _ _ = _
        unfold bX0_ellipse_30 jX0_ellipse_155_30 jX0_ellipse_156_30
        dsimp only
        rw [if_neg g16, an.1, an.2, n_suc]
        by_cases q : c ≤ 0 ∨ d ≤ 0
        · rw [if_pos q, if_pos q, if_pos q, Int32.add_zero]
        · have st : nkV (elB a b c d (Int32.ofNat x) (Int32.ofNat y)) 0 0 (k + 1) = nkV (elB a b c d (Int32.ofNat x) (Int32.ofNat y)) 0 0 k + (if elB a b c d (Int32.ofNat x) (Int32.ofNat y) (k / 4) (k % 4) then 1 else 0) := by
            show nkV _ 0 0 k + (if elB a b c d (Int32.ofNat x) (Int32.ofNat y) (4 * 0 + k / 4) (4 * 0 + k % 4) then 1 else 0) = _
            rw [Nat.mul_zero, Nat.zero_add, Nat.zero_add]
          rw [if_neg q, if_neg q, if_neg q, st]
          unfold elB elU
          by_cases z : 0 < (lg_cmp ((((Int32.toInt64 ((((((8 : Int32) * Int32.ofNat x) + ((2 : Int32) * Int32.ofNat (k % 4))) + (1 : Int32)) - ((8 : Int32) * a)) - ((4 : Int32) * c))) * (Int32.toInt64 ((((((8 : Int32) * Int32.ofNat x) + ((2 : Int32) * Int32.ofNat (k % 4))) + (1 : Int32)) - ((8 : Int32) * a)) - ((4 : Int32) * c)))) * (((16 : Int64) * (Int32.toInt64 d)) * (Int32.toInt64 d))) + (((Int32.toInt64 ((((((8 : Int32) * Int32.ofNat y) + ((2 : Int32) * Int32.ofNat (k / 4))) + (1 : Int32)) - ((8 : Int32) * b)) - ((4 : Int32) * d))) * (Int32.toInt64 ((((((8 : Int32) * Int32.ofNat y) + ((2 : Int32) * Int32.ofNat (k / 4))) + (1 : Int32)) - ((8 : Int32) * b)) - ((4 : Int32) * d)))) * (((16 : Int64) * (Int32.toInt64 c)) * (Int32.toInt64 c)))) ((((16 : Int64) * (Int32.toInt64 c)) * (Int32.toInt64 c)) * (((16 : Int64) * (Int32.toInt64 d)) * (Int32.toInt64 d))))
          · rw [if_pos z, decide_eq_false (fun y => y z), Int32.add_zero]
            rfl
          · rw [if_neg z, decide_eq_true z, n_suc]
            rfl
      · show bX0_ellipse_30 _ _ _ _ _ _ _ _ _ _ = _
        unfold bX0_ellipse_30
        dsimp only
        rw [if_pos (by decide)]
    have ev : elV a b c d w (y * w + x) = (255 * (if c ≤ 0 ∨ d ≤ 0 then 0 else Int32.ofNat (psV (elB a b c d (Int32.ofNat x) (Int32.ofNat y)) 0 0 4)) + 8) / 16 := by
      unfold elV
      rw [dm.1, dm.2]
      by_cases q : c ≤ 0 ∨ d ≤ 0
      · rw [if_pos q, if_pos q]; decide
      · rw [if_neg q, if_neg q]
    show bX0_ellipse_15 _ _ _ _ _ _ _ _ = _
    unfold bX0_ellipse_15
    rw [f89_0, F_sA, e0, ob_n, if_neg (nle hx (by omega)), inn, ob_n, f89_3, ob_n, ob_n, ob_n, n_mul, n_add, ev]
  · show bX0_ellipse_15 _ _ _ _ _ _ _ _ = _
    unfold bX0_ellipse_15
    rw [f89_0, F_sA, e0, ob_n, if_pos (nlr (by omega))]
theorem q16 {d : Int64} : (16 * d) * d = (4 * d) * (4 * d) := by
  rw [show (16 : Int64) = 4 * 4 by decide]
  have l : 4 * 4 * d * d = 4 * (4 * (d * d)) := by rw [Int64.mul_assoc, Int64.mul_assoc]
  have r : (4 * d) * (4 * d) = 4 * (4 * (d * d)) := by rw [Int64.mul_assoc, Int64.mul_comm d (4 * d), Int64.mul_assoc]
  rw [l, r]
theorem elU_e {x i a c : Int32} (hx : x.toInt.natAbs ≤ 24) (hi : i.toInt.natAbs ≤ 4) (ha : a.toInt.natAbs ≤ 100) (hc : c.toInt.natAbs ≤ 100) : elU x i a c = Int32.toInt64 (((8 * x + 2 * i) + 1) - 8 * a) - 4 * Int32.toInt64 c := by
  have e8 : (8 : Int32).toInt = 8 := by decide
  have e2 : (2 : Int32).toInt = 2 := by decide
  have e1 : (1 : Int32).toInt = 1 := by decide
  have e4 : (4 : Int32).toInt = 4 := by decide
  have f4 : (4 : Int64).toInt = 4 := by decide
  have m1 := i_mul (a := 8) (b := x) (by rw [e8]; omega) (by rw [e8]; omega)
  have m2 := i_mul (a := 2) (b := i) (by rw [e2]; omega) (by rw [e2]; omega)
  have m3 := i_mul (a := 8) (b := a) (by rw [e8]; omega) (by rw [e8]; omega)
  have m4 := i_mul (a := 4) (b := c) (by rw [e4]; omega) (by rw [e4]; omega)
  rw [e8] at m1 m3
  rw [e2] at m2
  rw [e4] at m4
  have s1 := i_add (a := 8 * x) (b := 2 * i) (by omega) (by omega)
  have s2 := i_add (a := 8 * x + 2 * i) (b := 1) (by omega) (by omega)
  have s3 := i_sub (a := 8 * x + 2 * i + 1) (b := 8 * a) (by omega) (by omega)
  have s4 := i_sub (a := 8 * x + 2 * i + 1 - 8 * a) (b := 4 * c) (by omega) (by omega)
  have t1 : (4 * Int32.toInt64 c).toInt = 4 * c.toInt := by rw [i64_mul (by rw [f4, i64_of]; omega), f4, i64_of]
  unfold elU
  apply Int64.toInt_inj.mp
  rw [i64_of, i64_sub (by rw [i64_of, t1]; omega), i64_of, t1, s4, m4]
theorem ell12 {g : ps_G} {x y : Nat} {a b c d : Int32} (hx : x < 24) (hy : y < 24) (ha : rg a (-100) 100) (hb : rg b (-100) 100) (hc : rg c 0 100) (hd : rg d 0 100) : fX12_ellipse g (Int32.ofNat x) (Int32.ofNat y) a b c d = some (if c ≤ 0 ∨ d ≤ 0 then 0 else (255 * Int32.ofNat (psV (elB a b c d (Int32.ofNat x) (Int32.ofNat y)) 0 0 4) + 8) / 16) := by
  have za := rg_i.mp ha
  have zb := rg_i.mp hb
  have zc := rg_i.mp hc
  have zd := rg_i.mp hd
  have e100 : (100 : Int32).toInt = 100 := by decide
  have em : (-100 : Int32).toInt = -100 := by decide
  have e0 : (0 : Int32).toInt = 0 := rfl
  have c0 : c ≤ 0 ↔ c = 0 := by rw [i_le, i_eq, e0]; omega
  have d0 : d ≤ 0 ↔ d = 0 := by rw [i_le, i_eq, e0]; omega
  unfold fX12_ellipse
  by_cases q : c ≤ 0 ∨ d ≤ 0
  · rw [if_pos q, if_neg (fun z => by rcases q with y | y; exact z.1 (c0.mp y); exact z.2 (d0.mp y))]
  · rw [if_neg q, if_pos ⟨fun z => q (Or.inl (c0.mpr z)), fun z => q (Or.inr (d0.mpr z))⟩]
    have inn : ∀ j n, j < 4 → q_lp (fun t => bX12_ellipse_45 g (Int32.ofNat x) (Int32.ofNat y) a b (4 * Int32.toInt64 c) (4 * Int32.toInt64 d) (Int32.ofNat j) t.1 t.2) (Int32.ofNat n, (0 : Int32)) = some (Int32.ofNat (n + bsV (elB a b c d (Int32.ofNat x) (Int32.ofNat y)) j 0 4)) := by
      intro j n hj
      refine lp_0 (fun i => (Int32.ofNat (n + bsV (elB a b c d (Int32.ofNat x) (Int32.ofNat y)) j 0 i), Int32.ofNat i)) 4 rfl (fun i hi => ?_) ?_
      · have g4 : ¬ (4 : Int32) ≤ Int32.ofNat i := nle (b := 4) hi (by omega)
        have st : bsV (elB a b c d (Int32.ofNat x) (Int32.ofNat y)) j 0 (i + 1) = bsV (elB a b c d (Int32.ofNat x) (Int32.ofNat y)) j 0 i + (if elB a b c d (Int32.ofNat x) (Int32.ofNat y) j i then 1 else 0) := by
          show bsV _ j 0 i + (if elB a b c d (Int32.ofNat x) (Int32.ofNat y) j (4 * 0 + i) then 1 else 0) = _
          rw [Nat.mul_zero, Nat.zero_add]
        have u1 := elU_e (x := Int32.ofNat x) (i := Int32.ofNat i) (a := a) (c := c) (by rw [n_int (by omega)]; omega) (by rw [n_int (by omega)]; omega) (by omega) (by omega)
        have u2 := elU_e (x := Int32.ofNat y) (i := Int32.ofNat j) (a := b) (c := d) (by rw [n_int (by omega)]; omega) (by rw [n_int (by omega)]; omega) (by omega) (by omega)
        show bX12_ellipse_45 _ _ _ _ _ _ _ _ _ _ = _
        unfold bX12_ellipse_45
        dsimp only
        rw [if_neg g4, n_suc (n := i), st]
        have eb : elB a b c d (Int32.ofNat x) (Int32.ofNat y) j i = decide (¬ 0 < (lg_cmp ((((((Int32.toInt64 (((((8 : Int32) * Int32.ofNat x) + ((2 : Int32) * Int32.ofNat i)) + (1 : Int32)) - ((8 : Int32) * a))) - (4 * Int32.toInt64 c)) * ((Int32.toInt64 (((((8 : Int32) * Int32.ofNat x) + ((2 : Int32) * Int32.ofNat i)) + (1 : Int32)) - ((8 : Int32) * a))) - (4 * Int32.toInt64 c))) * (4 * Int32.toInt64 d)) * (4 * Int32.toInt64 d)) + (((((Int32.toInt64 (((((8 : Int32) * Int32.ofNat y) + ((2 : Int32) * Int32.ofNat j)) + (1 : Int32)) - ((8 : Int32) * b))) - (4 * Int32.toInt64 d)) * ((Int32.toInt64 (((((8 : Int32) * Int32.ofNat y) + ((2 : Int32) * Int32.ofNat j)) + (1 : Int32)) - ((8 : Int32) * b))) - (4 * Int32.toInt64 d))) * (4 * Int32.toInt64 c)) * (4 * Int32.toInt64 c))) ((((4 * Int32.toInt64 c) * (4 * Int32.toInt64 c)) * (4 * Int32.toInt64 d)) * (4 * Int32.toInt64 d)))) := by
          unfold elB
          rw [u1, u2, q16, q16]
          simp only [Int64.mul_assoc]
        rw [eb]
        by_cases z : 0 < (lg_cmp ((((((Int32.toInt64 (((((8 : Int32) * Int32.ofNat x) + ((2 : Int32) * Int32.ofNat i)) + (1 : Int32)) - ((8 : Int32) * a))) - (4 * Int32.toInt64 c)) * ((Int32.toInt64 (((((8 : Int32) * Int32.ofNat x) + ((2 : Int32) * Int32.ofNat i)) + (1 : Int32)) - ((8 : Int32) * a))) - (4 * Int32.toInt64 c))) * (4 * Int32.toInt64 d)) * (4 * Int32.toInt64 d)) + (((((Int32.toInt64 (((((8 : Int32) * Int32.ofNat y) + ((2 : Int32) * Int32.ofNat j)) + (1 : Int32)) - ((8 : Int32) * b))) - (4 * Int32.toInt64 d)) * ((Int32.toInt64 (((((8 : Int32) * Int32.ofNat y) + ((2 : Int32) * Int32.ofNat j)) + (1 : Int32)) - ((8 : Int32) * b))) - (4 * Int32.toInt64 d))) * (4 * Int32.toInt64 c)) * (4 * Int32.toInt64 c))) ((((4 * Int32.toInt64 c) * (4 * Int32.toInt64 c)) * (4 * Int32.toInt64 d)) * (4 * Int32.toInt64 d)))
        · rw [if_pos z, decide_eq_false (fun y => y z)]
          rfl
        · rw [if_neg z, decide_eq_true z, n_suc]
          rfl
      · show bX12_ellipse_45 _ _ _ _ _ _ _ _ _ _ = _
        unfold bX12_ellipse_45
        dsimp only
        rw [if_pos (by decide)]
    have out : q_lp (fun t => bX12_ellipse_36 g (Int32.ofNat x) (Int32.ofNat y) a b (4 * Int32.toInt64 c) (4 * Int32.toInt64 d) t.1 t.2) ((0 : Int32), (0 : Int32)) = some (Int32.ofNat (psV (elB a b c d (Int32.ofNat x) (Int32.ofNat y)) 0 0 4)) := by
      refine lp_0 (fun j => (Int32.ofNat (psV (elB a b c d (Int32.ofNat x) (Int32.ofNat y)) 0 0 j), Int32.ofNat j)) 4 rfl (fun j hj => ?_) ?_
      · have g4 : ¬ (4 : Int32) ≤ Int32.ofNat j := nle (b := 4) hj (by omega)
        have st : psV (elB a b c d (Int32.ofNat x) (Int32.ofNat y)) 0 0 (j + 1) = psV (elB a b c d (Int32.ofNat x) (Int32.ofNat y)) 0 0 j + bsV (elB a b c d (Int32.ofNat x) (Int32.ofNat y)) j 0 4 := by
          show psV _ 0 0 j + bsV _ (4 * 0 + j) 0 4 = _
          rw [Nat.mul_zero, Nat.zero_add]
        show bX12_ellipse_36 _ _ _ _ _ _ _ _ _ = _
        unfold bX12_ellipse_36
        dsimp only
        rw [if_neg g4, inn j _ hj, ob_n, n_suc, st]
      · show bX12_ellipse_36 _ _ _ _ _ _ _ _ _ = _
        unfold bX12_ellipse_36
        dsimp only
        rw [if_pos (by decide)]
    rw [out, ob_n]
