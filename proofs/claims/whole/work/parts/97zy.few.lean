-- needs: 97zx
/-! ===== few: the widest box ===== -/
def vl (k : Nat) (x : Int32) : Int32 := q_shr x (16 - 8 * Int32.ofNat k) &&& 255
theorem part_v {x : Int32} {k : Nat} (hk : k < 3) : fX12_part x (Int32.ofNat k) = vl k x := by
  have c : ¬ Int32.ofNat k = 3 := fun z => by
    have := (n_eq (a := k) (b := 3) (by omega) (by omega)).mp z
    omega
  unfold fX12_part vl
  rw [if_pos c]
def loN (R : Nat → Int32) (k f : Nat) : Nat → Int32
  | 0 => 255
  | n + 1 => fJ9_min_7cf53 (loN R k f n) (vl k (R (f + n)))
def hiN (R : Nat → Int32) (k f : Nat) : Nat → Int32
  | 0 => 0
  | n + 1 => fJ9_max_7cf53 (hiN R k f n) (vl k (R (f + n)))
def sdV (R : Nat → Int32) (k f m : Nat) : Int32 := hiN R k f m - loN R k f m
/-- boxes within their row -/
def BxO (A B : Nat → Int32) (n al : Nat) (Fr Mn : Nat → Nat) : Prop := al ≤ 576 ∧ n ≤ 16 ∧ ∀ b, b < n → A b = Int32.ofNat (Fr b) ∧ B b = Int32.ofNat (Mn b) ∧ Fr b + Mn b ≤ al ∧ 1 ≤ Mn b
theorem mn_f {a b : Int32} : (if a ≤ b then a else b) = fJ9_min_7cf53 a b := by
  rw [if_le]; rfl
theorem mx_f {a b : Int32} : (if b ≤ a then a else b) = fJ9_max_7cf53 a b := by
  rw [if_le]; rfl
theorem side12 {s : e_S} {g : ps_G} {n al b k : Nat} {Fr Mn : Nat → Nat} (hB : BxO (s.2.1 176) (s.2.1 177) n al Fr Mn) (hb : b < n) (hk : k < 3) : fX12_side (e_g s g) 139 (Int32.ofNat b) (Int32.ofNat k) = some (sdV (s.2.1 175) k (Fr b) (Mn b)) := by
  obtain ⟨h1, h2, h3⟩ := hB
  obtain ⟨c1, c2, c3, c4⟩ := h3 b hb
  have rf : q_aI (e_g s g) 176 (Int32.ofNat b) = some (Int32.ofNat (Fr b)) := by
    rw [a176, n_idx (by omega), if_neg (n_in2 (show b < 16 by omega) (by decide)), c1]
  have rm : q_aI (e_g s g) 177 (Int32.ofNat b) = some (Int32.ofNat (Mn b)) := by
    rw [a177, n_idx (by omega), if_neg (n_in2 (show b < 16 by omega) (by decide)), c2]
  have lp := lp_0 (b := fun t => bX12_side_15 (e_g s g) 139 (Int32.ofNat b) (Int32.ofNat k) t.1 t.2.1 t.2.2) (s := ((255 : Int32), (0 : Int32), Int32.ofNat (Fr b))) (r := (loN (s.2.1 175) k (Fr b) (Mn b), hiN (s.2.1 175) k (Fr b) (Mn b))) (fun i => (loN (s.2.1 175) k (Fr b) i, hiN (s.2.1 175) k (Fr b) i, Int32.ofNat (Fr b + i))) (Mn b) rfl (fun i hi => ?_) ?_
  · unfold fX12_side
    rw [f139_62, ob_n, ob_n, rf, ob_n, lp, ob_n]
    rfl
  · have ri : q_aI (e_g s g) 175 (Int32.ofNat (Fr b + i)) = some (s.2.1 175 (Fr b + i)) := by
      rw [a175, n_idx (by omega), if_neg (n_in2 (show Fr b + i < 576 by omega) (by decide))]
    show bX12_side_15 _ _ _ _ _ _ _ = _
    unfold bX12_side_15
    dsimp only
    rw [f139_62, ob_n, ob_n, rf, ob_n, f139_63, ob_n, ob_n, rm, ob_n, n_add, if_neg (nle (by omega) (by omega)), f139_61, ob_n, ob_n, ri, ob_n, part_v hk, mn_f, mx_f, n_suc]
    rfl
  · show bX12_side_15 _ _ _ _ _ _ _ = _
    unfold bX12_side_15
    rw [f139_62, ob_n, ob_n, rf, ob_n, f139_63, ob_n, ob_n, rm, ob_n, n_add, if_pos (nlr (by omega))]
theorem side3 {s : e_S} {g : ps_G} {n al b k : Nat} {z : Int32} {Fr Mn : Nat → Nat} (hB : BxO (s.2.1 117) (s.2.1 118) n al Fr Mn) (hb : b < n) : q_lp (fun t => bX3_findWidest_41 (e_g s g) 111 z (Int32.ofNat b) (16 - 8 * Int32.ofNat k) t.1 t.2.1 t.2.2) ((255 : Int32), (0 : Int32), Int32.ofNat (Fr b)) = some (loN (s.2.1 116) k (Fr b) (Mn b), hiN (s.2.1 116) k (Fr b) (Mn b)) := by
  obtain ⟨h1, h2, h3⟩ := hB
  obtain ⟨c1, c2, c3, c4⟩ := h3 b hb
  have rf : q_aI (e_g s g) 117 (Int32.ofNat b) = some (Int32.ofNat (Fr b)) := by
    rw [a117, n_idx (by omega), if_neg (n_in2 (show b < 16 by omega) (by decide)), c1]
  have rm : q_aI (e_g s g) 118 (Int32.ofNat b) = some (Int32.ofNat (Mn b)) := by
    rw [a118, n_idx (by omega), if_neg (n_in2 (show b < 16 by omega) (by decide)), c2]
  refine lp_0 (fun i => (loN (s.2.1 116) k (Fr b) i, hiN (s.2.1 116) k (Fr b) i, Int32.ofNat (Fr b + i))) (Mn b) rfl (fun i hi => ?_) ?_
  · have ri : q_aI (e_g s g) 116 (Int32.ofNat (Fr b + i)) = some (s.2.1 116 (Fr b + i)) := by
      rw [a116, n_idx (by omega), if_neg (n_in2 (show Fr b + i < 576 by omega) (by decide))]
    have c : ¬ (Int32.ofNat (Fr b + Mn b) ≤ Int32.ofNat (Fr b + i) ∨ (576 : Int32) ≤ Int32.ofNat (Fr b + i)) := by
      have c5 : ¬ (576 : Int32) ≤ Int32.ofNat (Fr b + i) := show ¬ Int32.ofNat 576 ≤ Int32.ofNat (Fr b + i) from nle (by omega) (by omega)
      exact fun z => z.elim (nle (by omega) (by omega)) c5
    show bX3_findWidest_41 _ _ _ _ _ _ _ _ = _
    unfold bX3_findWidest_41
    dsimp only
    rw [f111_5, ob_n, ob_n, rf, ob_n, f111_6, ob_n, ob_n, rm, ob_n, n_add, if_neg c, f111_4, ob_n, ob_n, ri, ob_n, n_suc]
    rfl
  · show bX3_findWidest_41 _ _ _ _ _ _ _ _ = _
    unfold bX3_findWidest_41
    rw [f111_5, ob_n, ob_n, rf, ob_n, f111_6, ob_n, ob_n, rm, ob_n, n_add, if_pos (Or.inl (nlr (by omega)))]
/-- the widest so far: which box, which channel, how wide -/
def w1 (d b k : Int32) (t : Int32 × Int32 × Int32) : Int32 × Int32 × Int32 := if t.2.2 < d then (b, k, d) else t
def wk (D : Nat → Nat → Int32) (b : Nat) (t : Int32 × Int32 × Int32) : Nat → Int32 × Int32 × Int32
  | 0 => t
  | k + 1 => w1 (D b k) (Int32.ofNat b) (Int32.ofNat k) (wk D b t k)
def wb (D : Nat → Nat → Int32) : Nat → Int32 × Int32 × Int32
  | 0 => (-1, 0, 0)
  | b + 1 => wk D b (wb D b) 3
theorem widest12 {s : e_S} {g : ps_G} {n al : Nat} {Fr Mn : Nat → Nat} (hB : BxO (s.2.1 176) (s.2.1 177) n al Fr Mn) : q_lp (fun t => bX12_cutBox_10 (e_g s g) 139 (Int32.ofNat n) t.1 t.2.1 t.2.2.1 t.2.2.2) ((-1 : Int32), (0 : Int32), (0 : Int32), (0 : Int32)) = some ((wb (fun b k => sdV (s.2.1 175) k (Fr b) (Mn b)) n).1, (wb (fun b k => sdV (s.2.1 175) k (Fr b) (Mn b)) n).2.1) := by
  have hn := hB.2.1
  have sd := fun b k => side12 (s := s) (g := g) (b := b) (k := k) hB
  generalize hD : (fun b k => sdV (s.2.1 175) k (Fr b) (Mn b)) = D
  have eD : ∀ b k, sdV (s.2.1 175) k (Fr b) (Mn b) = D b k := fun b k => by rw [← hD]
  refine lp_0 (fun b => ((wb D b).1, (wb D b).2.1, (wb D b).2.2, Int32.ofNat b)) n rfl (fun b hb => ?_) ?_
  · have inn := lp_0 (b := fun t => bX12_cutBox_19 (e_g s g) 139 (Int32.ofNat n) (Int32.ofNat b) t.1 t.2.1 t.2.2.1 t.2.2.2) (s := ((wb D b).1, (wb D b).2.1, (wb D b).2.2, (0 : Int32))) (r := ((wb D (b + 1)).1, (wb D (b + 1)).2.1, (wb D (b + 1)).2.2)) (fun k => ((wk D b (wb D b) k).1, (wk D b (wb D b) k).2.1, (wk D b (wb D b) k).2.2, Int32.ofNat k)) 3 rfl (fun k hk => ?_) ?_
    · show bX12_cutBox_10 _ _ _ _ _ _ _ = _
      unfold bX12_cutBox_10
      dsimp only
      rw [if_neg (nle hb (by omega)), inn, ob_n, n_suc]
    · have c : ¬ (3 : Int32) ≤ Int32.ofNat k := show ¬ Int32.ofNat 3 ≤ Int32.ofNat k from nle hk (by omega)
      have ew : wk D b (wb D b) (k + 1) = w1 (D b k) (Int32.ofNat b) (Int32.ofNat k) (wk D b (wb D b) k) := rfl
      show bX12_cutBox_19 _ _ _ _ _ _ _ _ = _
      unfold bX12_cutBox_19
      dsimp only
      rw [if_neg c, ob139, ob_n, sd b k hb hk, ob_n, eD, n_suc, ew]
      unfold w1
      by_cases q : (wk D b (wb D b) k).2.2 < D b k
      · rw [if_pos q, if_pos q, if_pos q, if_pos q]
      · rw [if_neg q, if_neg q, if_neg q, if_neg q]
    · show bX12_cutBox_19 _ _ _ _ _ _ _ _ = _
      unfold bX12_cutBox_19
      dsimp only
      rw [if_pos (show (3 : Int32) ≤ Int32.ofNat 3 by decide)]
      rfl
  · show bX12_cutBox_10 _ _ _ _ _ _ _ = _
    unfold bX12_cutBox_10
    rw [if_pos (nlr (by omega))]
/-- the class keeps where the widest is -/
def cw (s : e_S) (t : Int32 × Int32 × Int32) : e_S := if t.1 = -1 then s else sF (sF s 111 9 t.1) 111 10 (16 - 8 * t.2.1)
theorem cw_1 {s : e_S} {d : Int32} {b k : Nat} {t : Int32 × Int32 × Int32} (hb : b < 16) (h : t.2.2 < d) : sF (sF (cw s t) 111 9 (Int32.ofNat b)) 111 10 (16 - 8 * Int32.ofNat k) = cw s (w1 d (Int32.ofNat b) (Int32.ofNat k) t) := by
  have nb : ¬ Int32.ofNat b = -1 := fun z => by
    have := congrArg Int32.toInt z
    rw [n_int (by omega)] at this
    have e : (-1 : Int32).toInt = -1 := by decide
    omega
  unfold w1
  rw [if_pos h]
  unfold cw
  dsimp only
  rw [if_neg nb]
  by_cases q : t.1 = -1
  · rw [if_pos q]
  · rw [if_neg q, sF_cm (i := 111) (j := 10) (i' := 111) (j' := 9) (by decide), sF_sF, sF_sF]
theorem cw_A {s : e_S} {t : Int32 × Int32 × Int32} : (cw s t).2.1 = s.2.1 := by
  unfold cw; split
  · rfl
  · rw [A_sF, A_sF]
theorem cw_8 {s : e_S} {t : Int32 × Int32 × Int32} : (cw s t).1 111 8 = s.1 111 8 := by
  unfold cw; split
  · rfl
  · rw [F_sF, if_neg (by decide), F_sF, if_neg (by decide)]
theorem sh_8 : ∀ k, k < 3 → (16 : Int32) - 8 * Int32.ofNat k + -8 = 16 - 8 * Int32.ofNat (k + 1) ∧ ¬ (16 : Int32) - 8 * Int32.ofNat k < 0 := by decide
theorem widest3 {s : e_S} {g : ps_G} {n al : Nat} {Fr Mn : Nat → Nat} (hB : BxO (s.2.1 117) (s.2.1 118) n al Fr Mn) (e8 : s.1 111 8 = Int32.ofNat n) : fX3_findWidest (e_g s g) 111 = some ((if (wb (fun b k => sdV (s.2.1 116) k (Fr b) (Mn b)) n).2.2 ≤ 0 then (0 : Int32) else 1), e_g (cw s (wb (fun b k => sdV (s.2.1 116) k (Fr b) (Mn b)) n)) g) := by
  have hn := hB.2.1
  have sd := fun t b k z => side3 (s := cw s t) (g := g) (b := b) (k := k) (z := z) (n := n) (al := al) (Fr := Fr) (Mn := Mn) (by rw [cw_A]; exact hB)
  simp only [cw_A] at sd
  generalize hD : (fun b k => sdV (s.2.1 116) k (Fr b) (Mn b)) = D
  have eD : ∀ b k, hiN (s.2.1 116) k (Fr b) (Mn b) - loN (s.2.1 116) k (Fr b) (Mn b) = D b k := fun b k => by rw [← hD]; rfl
  have lp := lp_0 (b := fun t => bX3_findWidest_4 111 t.1 t.2.1 t.2.2) (s := ((0 : Int32), (0 : Int32), e_g s g)) (r := ((wb D n).2.2, e_g (cw s (wb D n)) g)) (fun b => ((wb D b).2.2, Int32.ofNat b, e_g (cw s (wb D b)) g)) n rfl (fun b hb => ?_) ?_
  · unfold fX3_findWidest jX3_findWidest_143
    rw [lp, ob_n]
  · have inn := lp_0 (b := fun t => bX3_findWidest_21 111 (Int32.ofNat b) t.1 t.2.1 t.2.2) (s := ((wb D b).2.2, (16 : Int32), e_g (cw s (wb D b)) g)) (r := ((wb D (b + 1)).2.2, e_g (cw s (wb D (b + 1))) g)) (fun k => ((wk D b (wb D b) k).2.2, 16 - 8 * Int32.ofNat k, e_g (cw s (wk D b (wb D b) k)) g)) 3 rfl (fun k hk => ?_) ?_
    · have c : ¬ (Int32.ofNat n ≤ Int32.ofNat b ∨ (16 : Int32) ≤ Int32.ofNat b) := by
        have c5 : ¬ (16 : Int32) ≤ Int32.ofNat b := show ¬ Int32.ofNat 16 ≤ Int32.ofNat b from nle (by omega) (by omega)
        exact fun z => z.elim (nle (by omega) (by omega)) c5
      show bX3_findWidest_4 _ _ _ _ = _
      unfold bX3_findWidest_4
      dsimp only
      rw [f111_8, cw_8, e8, ob_n, if_neg c, inn, ob_n, n_suc]
    · have ew : wk D b (wb D b) (k + 1) = w1 (D b k) (Int32.ofNat b) (Int32.ofNat k) (wk D b (wb D b) k) := rfl
      have rf : q_aI (e_g (cw s (wk D b (wb D b) k)) g) 117 (Int32.ofNat b) = some (Int32.ofNat (Fr b)) := by
        rw [a117, n_idx (by omega), if_neg (n_in2 (show b < 16 by omega) (by decide)), cw_A, (hB.2.2 b hb).1]
      show bX3_findWidest_21 _ _ _ _ _ = _
      unfold bX3_findWidest_21 jX3_findWidest_106_21 jX3_findWidest_131_21
      dsimp only
      rw [if_neg (sh_8 k hk).2, f111_5, ob_n, ob_n, rf, ob_n, sd _ b k _ hb, ob_n]
      dsimp only
      rw [eD, (sh_8 k hk).1]
      by_cases q : (wk D b (wb D b) k).2.2 < D b k
      · have q' : ¬ D b k ≤ (wk D b (wb D b) k).2.2 := fun z => by rw [i_lt] at q; rw [i_le] at z; omega
        rw [if_neg q', w111_9, ob_n, w111_10, ob_n, cw_1 (by omega) q, ew]
        unfold w1
        rw [if_pos q]
      · have q' : D b k ≤ (wk D b (wb D b) k).2.2 := by rw [i_lt] at q; rw [i_le]; omega
        rw [if_pos q', ew]
        unfold w1
        rw [if_neg q]
    · show bX3_findWidest_21 _ _ _ _ _ = _
      unfold bX3_findWidest_21
      dsimp only
      rw [if_pos (show (16 : Int32) - 8 * Int32.ofNat 3 < 0 by decide)]
      rfl
  · show bX3_findWidest_4 _ _ _ _ = _
    unfold bX3_findWidest_4
    rw [f111_8, cw_8, e8, ob_n, if_pos (Or.inl (nlr (by omega)))]
