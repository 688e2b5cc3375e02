-- needs: 07 10 13 14 20 21 22 23 24 25 26 27 32 33 34 36 38 39 40 41 42 43 44 46 47 48 49 53 54 60 61 62 63 64 65
/-! ===== move ===== -/
def oneD (l : Nat) : Nat → Bool := fun m => decide (m = l)
theorem oneD_ok {N : Nat → Int32} {l : Nat} (hl : l < 30) (h1 : N (1169 * l) = 1) : DOk N (oneD l) l := ⟨hl, h1, decide_eq_true rfl, fun m x _ _ _ _ _ hx _ => of_decide_eq_true hx⟩
theorem lv_one {N : Nat → Int32} {l : Nat} (hl : l < 30) : upd N (1169 * l) 0 = lvN N (oneD l) 30 := by
  funext k
  rw [upd_r]
  unfold lvN oneD
  by_cases e : k = 1169 * l
  · rw [if_pos e, if_pos ⟨by omega, by omega, decide_eq_true (by omega)⟩]
  · rw [if_neg e, if_neg]
    intro z
    have := of_decide_eq_true z.2.2
    omega
/-- the reference's row with l moved -/
def mvN (N : Nat → Int32) (l : Nat) (P k : Int32) : Nat → Int32 := upd (upd (upd (shN (rmN N (oneD l) l) P k 1 30) (1169 * l) 1) (1169 * l + 2) P) (1169 * l + 3) k
theorem mvN_0 {N : Nat → Int32} {l : Nat} {P k : Int32} : mvN N l P k (1169 * l) = 1 := by
  unfold mvN; rw [upd_n (by omega), upd_n (by omega), upd_s]
theorem mvN_2 {N : Nat → Int32} {l : Nat} {P k : Int32} : mvN N l P k (1169 * l + 2) = P := by
  unfold mvN; rw [upd_n (by omega), upd_s]
theorem mvN_3 {N : Nat → Int32} {l : Nat} {P k : Int32} : mvN N l P k (1169 * l + 3) = k := by
  unfold mvN; rw [upd_s]
theorem mvN_m {N : Nat → Int32} {l m j : Nat} {P k : Int32} (hne : ¬ m = l) (hj : j < 1169) : mvN N l P k (1169 * m + j) = shN (rmN N (oneD l) l) P k 1 30 (1169 * m + j) := by
  unfold mvN; rw [upd_n (by omega), upd_n (by omega), upd_n (by omega)]
theorem mvN_l {N : Nat → Int32} {l j : Nat} {P k : Int32} (hj : j < 1169) (h0 : ¬ j = 0) (h2 : ¬ j = 2) (h3 : ¬ j = 3) : mvN N l P k (1169 * l + j) = N (1169 * l + j) := by
  unfold mvN; rw [upd_n (by omega), upd_n (by omega), upd_n (by omega), shN_i hj h3, rmN_i hj h0 h3]
theorem mvN_z {N : Nat → Int32} {l m : Nat} {P k : Int32} (hm : m < 30) (hne : ¬ m = l) : mvN N l P k (1169 * m) = N (1169 * m) := by
  have := mvN_m (N := N) (P := P) (k := k) (j := 0) hne (by omega)
  rw [Nat.add_zero] at this
  rw [this, shN_z, rmN_z hm, if_neg]
  unfold oneD
  rw [decide_eq_false hne]; decide
theorem mvN_i {N : Nat → Int32} {l m j : Nat} {P k : Int32} (hne : ¬ m = l) (hj : j < 1169) (h0 : ¬ j = 0) (h3 : ¬ j = 3) : mvN N l P k (1169 * m + j) = N (1169 * m + j) := by
  rw [mvN_m hne hj, shN_i hj h3, rmN_i hj h0 h3]
theorem mvN_70 {N : Nat → Int32} {l : Nat} {P k : Int32} (hl : l < 30) : mvN N l P k 35070 = N 35070 := by
  unfold mvN; rw [upd_n (by omega), upd_n (by omega), upd_n (by omega), shN_hi (by omega), rmN_70]
/-- move is refused -/
def mvX (N : Nat → Int32) (x P : Int32) : Bool := !decide (P < 0) && isB N x 31 P
theorem move12 {s : e_S} {g : ps_G} {x P k : Int32} {st pc : Nat} (h1 : st < 25) (h2 : pc ≤ 24) (e1 : s.1 139 10 = Int32.ofNat st) (e2 : s.1 139 11 = Int32.ofNat pc) (ht : TrN (s.2.1 142)) : fX12_move (e_g s g) 139 x P k = if isL (s.2.1 142) x = true ∧ isP (s.2.1 142) P = true then (if rg k 0 (Int32.ofNat (cnt (chL (s.2.1 142) P) 30) - (if ¬ s.2.1 142 (1169 * x.toInt.toNat + 2) = P then 0 else 1)) then (if mvX (s.2.1 142) x P then some (e_g (sF s 139 0 3) g) else some (e_g (fg12 (edM (sA (sF s 139 0 0) 142 (mvN (s.2.1 142) x.toInt.toNat P k)) st pc)) g)) else some (e_g (sF s 139 0 1) g)) else some (e_g (sF s 139 0 2) g) := by
  have ed := fun s' q1 q2 => edited12 (s := s') (g := g) h1 h2 q1 q2
  have f1 : ∀ v : Int32, ¬ v ≤ 0 → jX12_move_101 (e_g s g) 139 x P k 139 v = some (e_g (sF s 139 0 v) g) := by
    intro v hv
    simp (decide := true) only [jX12_move_101, w139_0, f139_0, hv, ob_n, b2_n, tc_rn, tc_ln, F_sF, A_sF, R_sF, L_sF, F_sA, A_sA, R_sA, L_sA, F_sR, A_sR, R_sR, L_sR, F_sL, A_sL, R_sL, L_sL, and_true, true_and, and_false, false_and, and_self, reduceIte, sF_sF, sA_sA, false_or, or_false, true_or, or_true, not_false_eq_true, not_true_eq_false, decide_true, decide_false, Bool.true_or, Bool.or_true, Bool.false_and, Bool.true_and, Bool.false_or, Bool.or_false, Bool.and_true, Bool.and_false]
  by_cases hx : isL (s.2.1 142) x = true
  · by_cases hP : isP (s.2.1 142) P = true
    · rw [if_pos ⟨hx, hP⟩]
      obtain ⟨l, rfl, hl, hl1⟩ := isL_n hx
      rw [n_int (by omega), Int.toNat_natCast]
      have g2 := get12 (s := s) (g := g) (n := 2) hl (by omega)
      by_cases q3 : rg k 0 (Int32.ofNat (cnt (chL (s.2.1 142) P) 30) - (if ¬ s.2.1 142 (1169 * l + 2) = P then 0 else 1)) = true
      · rw [if_pos q3]
        have go : jX12_move_101 (e_g s g) 139 (Int32.ofNat l) P k 139 0 = some (e_g (fg12 (edM (sA (sF s 139 0 0) 142 (mvN (s.2.1 142) l P k)) st pc)) g) := by
          generalize hN : s.2.1 142 = N at g2 hl1
          have e9 : ∀ F, (sA (sF s 139 0 0) 142 F).2.1 142 = F := fun F => by simp (decide := true) only [ob_n, b2_n, tc_rn, tc_ln, F_sF, A_sF, R_sF, L_sF, F_sA, A_sA, R_sA, L_sA, F_sR, A_sR, R_sR, L_sR, F_sL, A_sL, R_sL, L_sL, and_true, true_and, and_false, false_and, and_self, reduceIte, sF_sF, sA_sA, false_or, or_false, true_or, or_true, not_false_eq_true, not_true_eq_false, decide_true, decide_false, Bool.true_or, Bool.or_true, Bool.false_and, Bool.true_and, Bool.false_or, Bool.or_false, Bool.and_true, Bool.and_false]
          have g2' := get12 (s := sF s 139 0 0) (g := g) (n := 2) hl (by omega)
          have g3' := get12 (s := sF s 139 0 0) (g := g) (n := 3) hl (by omega)
          rw [A_sF, hN] at g2' g3'
          have p0 := put12 (s := sF s 139 0 0) (g := g) (n := 0) (v := 0) hl (by omega)
          rw [A_sF, hN, Nat.add_zero, lv_one hl] at p0
          have p0' : fX12_put (e_g (sF s 139 0 0) g) 139 (Int32.ofNat l) 0 0 = some (e_g (sA (sF s 139 0 0) 142 (lvN N (oneD l) 30)) g) := p0
          have sh1 := shift12 (s := sA (sF s 139 0 0) 142 (lvN N (oneD l) 30)) (g := g) (P := N (1169 * l + 2)) (fr := N (1169 * l + 3) + 1) (b := -1)
          rw [e9, sA_sA] at sh1
          have er : shN (lvN N (oneD l) 30) (N (1169 * l + 2)) (N (1169 * l + 3) + 1) (-1) 30 = rmN N (oneD l) l := rfl
          rw [er] at sh1
          have sh2 := shift12 (s := sA (sF s 139 0 0) 142 (rmN N (oneD l) l)) (g := g) (P := P) (fr := k) (b := 1)
          rw [e9, sA_sA] at sh2
          have pp : ∀ (F : Nat → Int32) (n : Nat) (v : Int32), n < 1169 → fX12_put (e_g (sA (sF s 139 0 0) 142 F) g) 139 (Int32.ofNat l) (OfNat.ofNat n) v = some (e_g (sA (sF s 139 0 0) 142 (upd F (1169 * l + n) v)) g) := by
            intro F n v hn
            have := put12 (s := sA (sF s 139 0 0) 142 F) (g := g) (n := n) (v := v) hl hn
            rw [e9, sA_sA] at this
            exact this
          have p1 : ∀ F v, fX12_put (e_g (sA (sF s 139 0 0) 142 F) g) 139 (Int32.ofNat l) 0 v = some (e_g (sA (sF s 139 0 0) 142 (upd F (1169 * l) v)) g) := fun F v => pp F 0 v (by omega)
          have p2 := fun F v => pp F 2 v (by omega)
          have p3 := fun F v => pp F 3 v (by omega)
          simp (decide := true) only [jX12_move_101, w139_0, f139_0, ob139, g2', g3', p0', sh1, sh2, p1, p2, p3, ob_n, b2_n, tc_rn, tc_ln, F_sF, A_sF, R_sF, L_sF, F_sA, A_sA, R_sA, L_sA, F_sR, A_sR, R_sR, L_sR, F_sL, A_sL, R_sL, L_sL, and_true, true_and, and_false, false_and, and_self, reduceIte, sF_sF, sA_sA, false_or, or_false, true_or, or_true, not_false_eq_true, not_true_eq_false, decide_true, decide_false, Bool.true_or, Bool.or_true, Bool.false_and, Bool.true_and, Bool.false_or, Bool.or_false, Bool.and_true, Bool.and_false]
          rw [ed _ (by simp (decide := true) only [ob_n, b2_n, tc_rn, tc_ln, F_sF, A_sF, R_sF, L_sF, F_sA, A_sA, R_sA, L_sA, F_sR, A_sR, R_sR, L_sR, F_sL, A_sL, R_sL, L_sL, and_true, true_and, and_false, false_and, and_self, reduceIte, sF_sF, sA_sA, false_or, or_false, true_or, or_true, not_false_eq_true, not_true_eq_false, decide_true, decide_false, Bool.true_or, Bool.or_true, Bool.false_and, Bool.true_and, Bool.false_or, Bool.or_false, Bool.and_true, Bool.and_false, e1]) (by simp (decide := true) only [ob_n, b2_n, tc_rn, tc_ln, F_sF, A_sF, R_sF, L_sF, F_sA, A_sA, R_sA, L_sA, F_sR, A_sR, R_sR, L_sR, F_sL, A_sL, R_sL, L_sL, and_true, true_and, and_false, false_and, and_self, reduceIte, sF_sF, sA_sA, false_or, or_false, true_or, or_true, not_false_eq_true, not_true_eq_false, decide_true, decide_false, Bool.true_or, Bool.or_true, Bool.false_and, Bool.true_and, Bool.false_or, Bool.or_false, Bool.and_true, Bool.and_false, e2])]
          simp (decide := true) only [ob_n, b2_n, tc_rn, tc_ln, F_sF, A_sF, R_sF, L_sF, F_sA, A_sA, R_sA, L_sA, F_sR, A_sR, R_sR, L_sR, F_sL, A_sL, R_sL, L_sL, and_true, true_and, and_false, false_and, and_self, reduceIte, sF_sF, sA_sA, false_or, or_false, true_or, or_true, not_false_eq_true, not_true_eq_false, decide_true, decide_false, Bool.true_or, Bool.or_true, Bool.false_and, Bool.true_and, Bool.false_or, Bool.or_false, Bool.and_true, Bool.and_false, ob139, forget12, fg12, mvN]
        by_cases qn : P < 0
        · have mx : mvX (s.2.1 142) (Int32.ofNat l) P = false := by unfold mvX; rw [decide_eq_true qn]; rfl
          rw [if_neg (by rw [mx]; decide)]
          simp (decide := true) only [fX12_move, jX12_move_21, jX12_move_61, jX12_move_62, jX12_move_100, ob139, isLayer12, hx, isParent12, hP, many12, g2, rin, q3, qn, go, ob_n, b2_n, tc_rn, tc_ln, F_sF, A_sF, R_sF, L_sF, F_sA, A_sA, R_sA, L_sA, F_sR, A_sR, R_sR, L_sR, F_sL, A_sL, R_sL, L_sL, and_true, true_and, and_false, false_and, and_self, reduceIte, sF_sF, sA_sA, false_or, or_false, true_or, or_true, not_false_eq_true, not_true_eq_false, decide_true, decide_false, Bool.true_or, Bool.or_true, Bool.false_and, Bool.true_and, Bool.false_or, Bool.or_false, Bool.and_true, Bool.and_false]
        · rcases isP_n hP with y | ⟨p, p1, rfl, p3, p4⟩
          · exact absurd (by rw [y]; decide) qn
          · have ii := isIn12 (s := s) (g := g) (G := Int32.ofNat l) ht p1 p3
            have mx : mvX (s.2.1 142) (Int32.ofNat l) (Int32.ofNat p) = isB (s.2.1 142) (Int32.ofNat l) 31 (Int32.ofNat p) := by unfold mvX; rw [decide_eq_false qn]; rfl
            rw [mx]
            by_cases z : isB (s.2.1 142) (Int32.ofNat l) 31 (Int32.ofNat p) = true
            · rw [if_pos z]
              simp (decide := true) only [fX12_move, jX12_move_21, jX12_move_61, jX12_move_62, ob139, isLayer12, hx, isParent12, hP, many12, g2, rin, q3, qn, ii, z, f1 3 (by decide), ob_n, b2_n, tc_rn, tc_ln, F_sF, A_sF, R_sF, L_sF, F_sA, A_sA, R_sA, L_sA, F_sR, A_sR, R_sR, L_sR, F_sL, A_sL, R_sL, L_sL, and_true, true_and, and_false, false_and, and_self, reduceIte, sF_sF, sA_sA, false_or, or_false, true_or, or_true, not_false_eq_true, not_true_eq_false, decide_true, decide_false, Bool.true_or, Bool.or_true, Bool.false_and, Bool.true_and, Bool.false_or, Bool.or_false, Bool.and_true, Bool.and_false]
            · rw [if_neg z]
              simp (decide := true) only [fX12_move, jX12_move_21, jX12_move_61, jX12_move_62, jX12_move_100, ob139, isLayer12, hx, isParent12, hP, many12, g2, rin, q3, qn, ii, z, go, ob_n, b2_n, tc_rn, tc_ln, F_sF, A_sF, R_sF, L_sF, F_sA, A_sA, R_sA, L_sA, F_sR, A_sR, R_sR, L_sR, F_sL, A_sL, R_sL, L_sL, and_true, true_and, and_false, false_and, and_self, reduceIte, sF_sF, sA_sA, false_or, or_false, true_or, or_true, not_false_eq_true, not_true_eq_false, decide_true, decide_false, Bool.true_or, Bool.or_true, Bool.false_and, Bool.true_and, Bool.false_or, Bool.or_false, Bool.and_true, Bool.and_false]
      · rw [if_neg q3]
        simp (decide := true) only [fX12_move, jX12_move_21, jX12_move_62, ob139, isLayer12, hx, isParent12, hP, many12, g2, rin, q3, f1 1 (by decide), ob_n, b2_n, tc_rn, tc_ln, F_sF, A_sF, R_sF, L_sF, F_sA, A_sA, R_sA, L_sA, F_sR, A_sR, R_sR, L_sR, F_sL, A_sL, R_sL, L_sL, and_true, true_and, and_false, false_and, and_self, reduceIte, sF_sF, sA_sA, false_or, or_false, true_or, or_true, not_false_eq_true, not_true_eq_false, decide_true, decide_false, Bool.true_or, Bool.or_true, Bool.false_and, Bool.true_and, Bool.false_or, Bool.or_false, Bool.and_true, Bool.and_false]
    · rw [if_neg (fun z => hP z.2)]
      simp (decide := true) only [fX12_move, jX12_move_20, jX12_move_21, jX12_move_61, jX12_move_62, ob139, isLayer12, hx, isParent12, hP, f1 2 (by decide), ob_n, b2_n, tc_rn, tc_ln, F_sF, A_sF, R_sF, L_sF, F_sA, A_sA, R_sA, L_sA, F_sR, A_sR, R_sR, L_sR, F_sL, A_sL, R_sL, L_sL, and_true, true_and, and_false, false_and, and_self, reduceIte, sF_sF, sA_sA, false_or, or_false, true_or, or_true, not_false_eq_true, not_true_eq_false, decide_true, decide_false, Bool.true_or, Bool.or_true, Bool.false_and, Bool.true_and, Bool.false_or, Bool.or_false, Bool.and_true, Bool.and_false]
  · rw [if_neg (fun z => hx z.1)]
    simp (decide := true) only [fX12_move, jX12_move_20, jX12_move_21, jX12_move_61, jX12_move_62, ob139, isLayer12, hx, f1 2 (by decide), ob_n, b2_n, tc_rn, tc_ln, F_sF, A_sF, R_sF, L_sF, F_sA, A_sA, R_sA, L_sA, F_sR, A_sR, R_sR, L_sR, F_sL, A_sL, R_sL, L_sL, and_true, true_and, and_false, false_and, and_self, reduceIte, sF_sF, sA_sA, false_or, or_false, true_or, or_true, not_false_eq_true, not_true_eq_false, decide_true, decide_false, Bool.true_or, Bool.or_true, Bool.false_and, Bool.true_and, Bool.false_or, Bool.or_false, Bool.and_true, Bool.and_false]
/-- a LAYER's copy with another parent -/
theorem lyN_par {g G : ps_G} {b c w h l : Nat} {r r' : Nat → Int32} {P : Int32} {p q x0 y0 x1 y1 : Int32} {pa ma : Nat} (hwh : w * h ≤ 576) (hE : Ext g G) (hL : LyN g b w h l r) (y3 : g.2.2 b = .inr (4, [.int (Int32.ofNat l), .int (r 1), .int (r 2), .int (r 4), .int (r 5), .int (r 6), .int (r 7), .int (r 8), .int (r 9), .int p, .int q, .int x0, .int y0, .int x1, .int y1, .ref pa, .ref ma])) (hc : e_fr c) (hc2 : c < G.1) (hc8 : 8 ≤ c) (hcell : G.2.2 c = .inr (4, [.int (Int32.ofNat l), .int (r 1), .int P, .int (r 4), .int (r 5), .int (r 6), .int (r 7), .int (r 8), .int (r 9), .int p, .int q, .int x0, .int y0, .int x1, .int y1, .ref pa, .ref ma])) (e2 : r' 2 = P) (er : ∀ j, j < 1169 → ¬ j = 0 → ¬ j = 2 → ¬ j = 3 → r' j = r j) : LyN G c w h l r' := by
  obtain ⟨m1, m2, p', q', x0', y0', x1', y1', pa', ma', m3, cc⟩ := lyN_ext hE hL
  rw [hE.2.2.2.2 b hL.2.1, y3] at m3
  cases m3
  have e := fun j (h : j < 1169 ∧ ¬ j = 0 ∧ ¬ j = 2 ∧ ¬ j = 3) => er j h.1 h.2.1 h.2.2.1 h.2.2.2
  refine ⟨hc, hc2, p, q, x0, y0, x1, y1, pa, ma, ?_, ?_⟩
  · rw [e 1 (by omega), e2, e 4 (by omega), e 5 (by omega), e 6 (by omega), e 7 (by omega), e 8 (by omega), e 9 (by omega)]
    exact hcell
  · obtain ⟨c1, c2, c3, c4, c5, c6, c7, c8, c9, c10, c11, c12, c13, c14⟩ := cc
    rw [e 1 (by omega), e 4 (by omega), e 5 (by omega), e 6 (by omega), e 7 (by omega), e 8 (by omega), e 9 (by omega), e 10 (by omega), e 11 (by omega), e 12 (by omega), e 13 (by omega), e 14 (by omega), e 15 (by omega), e 16 (by omega)]
    refine ⟨c1, c2, c3, c4, c5, c6, c7, c8, c9, c10, c11, fun hk => ?_, ⟨c13.1, hc8⟩, ?_⟩
    · obtain ⟨d1, d0, d2, f, d3, d4⟩ := c12 hk
      exact ⟨d1, d0, d2, f, d3, fun k hk => by rw [e _ (by omega)]; exact d4 k hk⟩
    · rcases c14 with c | ⟨d1, d2, d0, d3, f, d4, d5⟩
      · exact Or.inl c
      · exact Or.inr ⟨d1, d2, d0, d3, f, d4, fun k hk => by rw [e _ (by omega)]; exact d5 k hk⟩
/-- the children of P once l is out -/
theorem cnt_out {N : Nat → Int32} {l : Nat} {P : Int32} (hl : l < 30) (h1 : N (1169 * l) = 1) : cnt (chL (rmN N (oneD l) l) P) 30 + (if N (1169 * l + 2) = P then 1 else 0) = cnt (chL N P) 30 := by
  have e : ∀ m, m < 30 → chL (rmN N (oneD l) l) P m = (chL N P m && !decide (m = l)) := by
    intro m hm
    unfold chL
    rw [rmN_i (by omega) (by omega) (by omega)]
    by_cases z : rmN N (oneD l) l (1169 * m) = 1
    · obtain ⟨z1, z2⟩ := (rmN_1 hm).mp z
      rw [decide_eq_true z, decide_eq_true z1]
      unfold oneD at z2
      rw [z2]; simp
    · rw [decide_eq_false z]
      by_cases y : m = l
      · rw [decide_eq_true y]; simp
      · have : ¬ N (1169 * m) = 1 := fun q => z ((rmN_1 hm).mpr ⟨q, decide_eq_false y⟩)
        rw [decide_eq_false this]; simp
  rw [cnt_cong e]
  by_cases z : N (1169 * l + 2) = P
  · rw [if_pos z]
    exact (cnt_rm hl (by unfold chL; rw [decide_eq_true h1, decide_eq_true z]; rfl)).symm
  · rw [if_neg z, Nat.add_zero]
    refine cnt_cong (fun m hm => ?_)
    by_cases y : m = l
    · have : chL N P l = false := by unfold chL; rw [decide_eq_false z, Bool.and_false]
      rw [y, this]; rfl
    · rw [decide_eq_false y]; simp
theorem K_move {s : e_S} {g : ps_G} {x P k : Int32} (hR : Rel s g) : KV (fL_move (e_g s g) 8 x P k) (fun G => fX12_move G 139 x P k) g := by
  have hg := rel_g hR
  obtain ⟨h1, h2, h3, h4, h5, h6, ⟨w, h, h7, h8, h9⟩, h10, h11⟩ := id hR
  obtain ⟨a, st, pc, uc, f1, f2, f3, f4, f5, f6, f7, f8, f9, f10, f11, f12⟩ := h9
  have hwh := wh_le h7.2.1 h7.2.2.2.1
  have e3 : ps_nw (e_g s g) 6 ps_e0 = e_g s (nx g) := e_nw hg
  have hm0 := fun s' g e1 e2 e3 => move12 (s := s') (g := g) (x := x) (P := P) (k := k) f1 (show pc ≤ 24 by omega) e1 e2 e3
  rcases known11 (x := x) hg f3 f9 with ⟨k1, k2⟩ | ⟨l, b, rfl, hl, k1, k3, k2, hLy⟩
  · refine KV_no (E := "java/util/NoSuchElementException") (y := 2) hR ?_ (by decide +kernel) ((hm0 _ _ f6 f7 f9.1).trans (if_neg (by rw [k1]; exact fun z => absurd z.1 (by decide))))
    simp (decide := true) only [fX11_move, ob8, k2, ob_n, b2_n, tc_rn, tc_ln, F_sF, A_sF, R_sF, L_sF, F_sA, A_sA, R_sA, L_sA, F_sR, A_sR, R_sR, L_sR, F_sL, A_sL, R_sL, L_sL, and_true, true_and, and_false, false_and, and_self, reduceIte, sF_sF, sA_sA, false_or, or_false, true_or, or_true, not_false_eq_true, not_true_eq_false, decide_true, decide_false, Bool.true_or, Bool.or_true, Bool.false_and, Bool.true_and, Bool.false_or, Bool.or_false, Bool.and_true, Bool.and_false]
  · have hob := (stW (s := s) f9).2.2.2
    have ho9 := holds9 (s := s) (P := P) f9
    by_cases q2 : isP (s.2.1 142) P = true
    · have np : fX11_needParent (e_g s g) 8 P = some (.inr (), e_g s g) := by
        simp (decide := true) only [fX11_needParent, f8_0, f3, hob, ho9, q2, ob_n, b2_n, tc_rn, tc_ln, F_sF, A_sF, R_sF, L_sF, F_sA, A_sA, R_sA, L_sA, F_sR, A_sR, R_sR, L_sR, F_sL, A_sL, R_sL, L_sL, and_true, true_and, and_false, false_and, and_self, reduceIte, sF_sF, sA_sA, false_or, or_false, true_or, or_true, not_false_eq_true, not_true_eq_false, decide_true, decide_false, Bool.true_or, Bool.or_true, Bool.false_and, Bool.true_and, Bool.false_or, Bool.or_false, Bool.and_true, Bool.and_false]
      obtain ⟨la, oa, sz, ly, od, o, hD⟩ := stN_d f9
      have am := among9 (s := s) (P := P) hD
      obtain ⟨y1, y2, p, q, x0, y0, x1, yy1, pa, ma, y3, z1, z2, z3, z4, z5, z6, z7, z8, z9, z10, z11, z12, z13, z14⟩ := id hLy
      have fP : q_fI 4 2 (e_g s g) b = some (s.2.1 142 (1169 * l + 2)) := d_fI y1 y3 rfl
      have n1 : isL (s.2.1 142) (Int32.ofNat l) = true ∧ isP (s.2.1 142) P = true := ⟨k1, q2⟩
      by_cases q3 : rg k 0 (Int32.ofNat (cnt (chL (s.2.1 142) P) 30) - (if ¬ s.2.1 142 (1169 * l + 2) = P then 0 else 1)) = true
      · have hmx : P = Int32.ofNat l ∨ (∃ v, fX9_isIn (e_g s g) a P (Int32.ofNat l) = some v ∧ ¬ P = Int32.ofNat l ∧ (v = if mvX (s.2.1 142) (Int32.ofNat l) P then 1 else 0)) := by
          by_cases e : P = Int32.ofNat l
          · exact Or.inl e
          · refine Or.inr ?_
            rcases isP_n q2 with y | ⟨p', p1, rfl, p3, p4⟩
            · subst y
              refine ⟨0, ?_, e, ?_⟩
              · obtain ⟨t, h1', h2', c1, c0, c2, c3, c9, c4, c5, c6, c7, ho, c10⟩ := id hD
                have fd := find9 (s := s) (x := -1) h1' c1 c5 c6
                rw [if_neg (by decide)] at fd
                have lp' : q_lp (fun t => bX9_isIn_9 (e_g s g) a (Int32.ofNat l) t.1 t.2) (none, (0 : Int32)) = some (.inl ()) := lp_end (by simp (decide := true) only [bX9_isIn_9, ob_n, b2_n, tc_rn, tc_ln, F_sF, A_sF, R_sF, L_sF, F_sA, A_sA, R_sA, L_sA, F_sR, A_sR, R_sR, L_sR, F_sL, A_sL, R_sL, L_sL, and_true, true_and, and_false, false_and, and_self, reduceIte, sF_sF, sA_sA, false_or, or_false, true_or, or_true, not_false_eq_true, not_true_eq_false, decide_true, decide_false, Bool.true_or, Bool.or_true, Bool.false_and, Bool.true_and, Bool.false_or, Bool.or_false, Bool.and_true, Bool.and_false])
                simp (decide := true) only [fX9_isIn, jX9_isIn_45, hob, fd, lp', Sum.elim_inl, ob_n, b2_n, tc_rn, tc_ln, F_sF, A_sF, R_sF, L_sF, F_sA, A_sA, R_sA, L_sA, F_sR, A_sR, R_sR, L_sR, F_sL, A_sL, R_sL, L_sL, and_true, true_and, and_false, false_and, and_self, reduceIte, sF_sF, sA_sA, false_or, or_false, true_or, or_true, not_false_eq_true, not_true_eq_false, decide_true, decide_false, Bool.true_or, Bool.or_true, Bool.false_and, Bool.true_and, Bool.false_or, Bool.or_false, Bool.and_true, Bool.and_false]
              · have : mvX (s.2.1 142) (Int32.ofNat l) (-1) = false := by unfold mvX; rw [isB_neg, Bool.and_false]
                rw [this]; rfl
            · refine ⟨_, isIn9 hD hl p1, e, ?_⟩
              have : mvX (s.2.1 142) (Int32.ofNat l) (Int32.ofNat p') = inB (s.2.1 142) l p' := by
                unfold mvX
                rw [decide_eq_false (n_neg (by omega)), isB_31 hl p1 p3, decide_eq_false (fun y => e (by rw [y]))]; rfl
              rw [this]
        by_cases q4 : mvX (s.2.1 142) (Int32.ofNat l) P = true
        · refine KV_no (E := "java/lang/IllegalStateException") (y := 3) hR ?_ (by decide +kernel) ((hm0 _ _ f6 f7 f9.1).trans ((if_pos n1).trans ((if_pos (by rw [n_int (by omega), Int.toNat_natCast]; exact q3)).trans (if_pos q4))))
          rcases hmx with e | ⟨v, v1, v2, v3⟩
          · rw [e] at np am q3
            rw [e]
            simp (decide := true) only [fX11_move, jX11_move_57, jX11_move_62, ob8, k2, np, f8_0, f3, hob, am, fP, rng hg, q3, refuse11 hg, ob_n, b2_n, tc_rn, tc_ln, F_sF, A_sF, R_sF, L_sF, F_sA, A_sA, R_sA, L_sA, F_sR, A_sR, R_sR, L_sR, F_sL, A_sL, R_sL, L_sL, and_true, true_and, and_false, false_and, and_self, reduceIte, sF_sF, sA_sA, false_or, or_false, true_or, or_true, not_false_eq_true, not_true_eq_false, decide_true, decide_false, Bool.true_or, Bool.or_true, Bool.false_and, Bool.true_and, Bool.false_or, Bool.or_false, Bool.and_true, Bool.and_false]
          · rw [q4, if_pos rfl] at v3
            simp (decide := true) only [fX11_move, jX11_move_57, jX11_move_62, ob8, k2, np, f8_0, f3, hob, am, fP, rng hg, q3, v1, v2, v3, refuse11 hg, ob_n, b2_n, tc_rn, tc_ln, F_sF, A_sF, R_sF, L_sF, F_sA, A_sA, R_sA, L_sA, F_sR, A_sR, R_sR, L_sR, F_sL, A_sL, R_sL, L_sL, and_true, true_and, and_false, false_and, and_self, reduceIte, sF_sF, sA_sA, false_or, or_false, true_or, or_true, not_false_eq_true, not_true_eq_false, decide_true, decide_false, Bool.true_or, Bool.or_true, Bool.false_and, Bool.true_and, Bool.false_or, Bool.or_false, Bool.and_true, Bool.and_false]
        · have q4' : mvX (s.2.1 142) (Int32.ofNat l) P = false := by simpa using q4
          obtain ⟨v, v1, v2, v3⟩ : ∃ v, fX9_isIn (e_g s g) a P (Int32.ofNat l) = some v ∧ ¬ P = Int32.ofNat l ∧ v = 0 := by
            rcases hmx with e | ⟨v, v1, v2, v3⟩
            · exfalso
              have : mvX (s.2.1 142) (Int32.ofNat l) P = true := by
                rw [e]; unfold mvX
                rw [decide_eq_false (n_neg (by omega)), isB_31 hl hl k3, decide_eq_true rfl]; rfl
              rw [this] at q4'; cases q4'
            · rw [q4'] at v3
              exact ⟨v, v1, v2, v3⟩
          generalize hN : s.2.1 142 = N at f9 f10 q2 q3 q4' k1 k3 hLy y3 z1 z2 z3 z4 z5 z6 z7 z8 z9 z10 z11 z12 z13 z14 hD am fP n1
          have hcn : cnt (chL N P) 30 ≤ 30 := cnt_le
          have hco := cnt_out (P := P) hl k3
          have hrg : Int32.ofNat (cnt (chL N P) 30) - (if ¬ N (1169 * l + 2) = P then 0 else 1) = Int32.ofNat (cnt (chL (rmN N (oneD l) l) P) 30) := by
            by_cases z : N (1169 * l + 2) = P
            · rw [if_neg (fun y => y z)]
              rw [if_pos z] at hco
              rw [← hco]
              exact n_sub (b := 1) (by omega) (by omega)
            · rw [if_pos z, Int32.sub_zero]
              rw [if_neg z] at hco
              rw [← hco, Nat.add_zero]
          have kr := rg_i.mp (hrg ▸ q3)
          have hc1 : cnt (chL (rmN N (oneD l) l) P) 30 ≤ 30 := cnt_le
          have k0 : 0 ≤ k.toInt := kr.1
          have kk1 : k.toInt ≤ (cnt (chL (rmN N (oneD l) l) P) 30 : Nat) := by
            have := kr.2
            rw [n_int (by omega)] at this
            exact this
          obtain ⟨n, rfl, hn⟩ : ∃ n : Nat, k = Int32.ofNat n ∧ n ≤ cnt (chL (rmN N (oneD l) l) P) 30 := ⟨k.toInt.toNat, n_of (by omega), by omega⟩
          obtain ⟨t, h1', h2', c1, c0, c2, c3, c9, c4, c5, c6, c7, ho, c10⟩ := id hD
          have ag4 := again4 (s := s) hg y1 y2 (rg01 z4) (rg01 z5) y3
          have ob4 : q_ob 4 (e_g s g) b = some () := d_ob y1 y3
          generalize hgL : mkL g [.int (Int32.ofNat l), .int (lR N l 1), .int P, .int (lR N l 4), .int (lR N l 5), .int (lR N l 6), .int (lR N l 7), .int (lR N l 8), .int (lR N l 9), .int p, .int q, .int x0, .int y0, .int x1, .int yy1, .ref pa, .ref ma] = gL
          have gL1 : gL.1 = g.1 + 1 := by rw [← hgL]; rfl
          have gL2 : gL.2.1 = g.2.1 + 17 := by rw [← hgL]; rfl
          have hEL : Ext g gL := by rw [← hgL]; exact ext_mkL
          have cL : gL.2.2 g.1 = .inr (4, [.int (Int32.ofNat l), .int (lR N l 1), .int P, .int (lR N l 4), .int (lR N l 5), .int (lR N l 6), .int (lR N l 7), .int (lR N l 8), .int (lR N l 9), .int p, .int q, .int x0, .int y0, .int x1, .int yy1, .ref pa, .ref ma]) := by rw [← hgL]; exact nw_at
          have sI2 : q_sI 4 2 (e_g s (mkL g [.int (Int32.ofNat l), .int (lR N l 1), .int (lR N l 2), .int (lR N l 4), .int (lR N l 5), .int (lR N l 6), .int (lR N l 7), .int (lR N l 8), .int (lR N l 9), .int p, .int q, .int x0, .int y0, .int x1, .int yy1, .ref pa, .ref ma])) g.1 P = some (e_g s gL) := by
            rw [← hgL]
            exact (m_sI hg (Nat.le_of_ble_eq_true rfl)).trans rfl
          have hxL : LyN gL g.1 w h l (lR (mvN N l P (Int32.ofNat n)) l) := lyN_par hwh hEL hLy y3 (Or.inl hg) (by omega) (by omega) cL mvN_2 (fun j hj j0 j2 j3 => mvN_l hj j0 j2 j3)
          have hgL5 : 195 ≤ gL.1 := by omega
          have hsL := stN_ext hEL f9
          have hobL := (stW (s := s) hsL).2.2.2
          have ag9 := again9 (s := s) (g := gL) hgL5 h1' (by omega) c1 (by omega) c3 (by omega) (by rw [hEL.2.2.2.2 _ h2']; exact c5) (by rw [hEL.2.2.2.2 _ c2]; exact c6) (by rw [hEL.2.2.2.2 _ c4]; exact c7) (fun k hk => okL_ext hEL (okL_st c10 k hk))
          have hoD : OrD N sz (cI od 30) o := ⟨ho.1, fun i hi => ⟨by rw [cI_lt (by have := ho.1; omega)]; exact (ho.2.1 i hi).1, (ho.2.1 i hi).2⟩, ho.2.2.1, ho.2.2.2.1, ho.2.2.2.2⟩
          obtain ⟨L, L1, L2, L3, L4, L5, L6⟩ := orD_L hoD
          have hSC : SC (mkS gL (Int32.ofNat w) (Int32.ofNat h) (cR ly 30) (cI od 30) (Int32.ofNat sz) (N 35070)) gL.1 (gL.1 + 1) (gL.1 + 2) (Int32.ofNat w) (Int32.ofNat h) (cR ly 30) (cI od 30) (Int32.ofNat L.length) (N 35070) := ⟨Or.inl hgL5, Or.inl (by omega), by omega, Or.inl (by omega), by omega, by omega, by omega, by omega, by rw [L1]; exact mkS_0, mkS_1, mkS_2⟩
          obtain ⟨G1, od1, w1, w2, w3, w4⟩ := remove9 (s := s) (l := l) hSC (by rw [L1]; exact ho.1) L2 (fun m q => (L3 m q).1) hl
          have hor := rem_or (L := L) t.2.2.2.2 ho (oneD_ok hl k3) (by rw [L1]; exact ho.1) L3 L4 L5 L6 (show OdL od1 (L.filter (fun x => !oneD l x)) from w4)
          obtain ⟨o1, ho1⟩ := orN_d hor
          have lo1 : ∀ j, j < gL.1 → G1.2.2 j = gL.2.2 j := fun j hj => by rw [w2.2.2 j (by omega) (by omega) (by omega), mkS_lo hj]
          have G11 : G1.1 = gL.1 + 3 := by rw [w2.1]; rfl
          have G12 : G1.2.1 = gL.2.1 + 66 := by rw [w2.2.1]; rfl
          have hE1 : Ext gL G1 := ⟨by omega, by omega, by omega, by omega, lo1⟩
          have hE1g : Ext g G1 := ext_tr hEL ⟨hE1.1, by omega, hE1.2.2.1, by omega, lo1⟩
          have hSE : StE G1 gL.1 w h (rmN N (oneD l) l) (gL.1 + 1) (gL.1 + 2) (L.filter (fun x => !oneD l x)).length (rs (cR ly 30) l none) od1 o1 := by
            obtain ⟨x1, x2, x3, x4, x5, x6, x7, x8, x9, x10, x11⟩ := w3
            refine ⟨x1, by omega, x2, x3, by omega, x4, x5, by omega, by rw [rmN_70]; exact x9, x10, x11, ho1, fun m hm => ?_⟩
            have hc := c10 m hm
            by_cases ml : m = l
            · have : ¬ rmN N (oneD l) l (1169 * m) = 1 := fun y => by
                have := ((rmN_1 hm).mp y).2
                unfold oneD at this
                rw [decide_eq_true ml] at this; cases this
              rw [if_neg this, ml, rs_s]
            · have oz : ¬ oneD l m = true := by unfold oneD; rw [decide_eq_false ml]; decide
              rw [rmN_z hm, if_neg oz, rs_n ml, cR_lt hm]
              by_cases z : N (1169 * m) = 1
              · rw [if_pos z] at hc ⊢
                obtain ⟨b', b1, b2⟩ := hc
                exact ⟨b', b1, lyN_03 hwh (fun j hj j0 j3 => rmN_i hj j0 j3) (lyN_ext hE1g b2)⟩
              · rw [if_neg z] at hc ⊢; exact hc
          have hdl : ¬ rmN N (oneD l) l (1169 * l) = 1 := fun y => by
            have := ((rmN_1 hl).mp y).2
            unfold oneD at this
            rw [decide_eq_true rfl] at this; cases this
          have hsz : (L.filter (fun x => !oneD l x)).length < 30 := by
            rw [← live_sz ho1]
            have := cnt_lt (P := fun i => decide (rmN N (oneD l) l (1169 * i) = 1)) (Q := fun _ => true) (n := 30) (p := l) (fun _ _ _ => rfl) hl (decide_eq_false hdl) rfl
            rw [cnt_all] at this
            exact this
          obtain ⟨G2, od2, W, u1, u2, u3, u4, u5, u6⟩ := insert9 (s := s) (x := g.1) (P := P) (l := l) (k := n) hSE hsz (Or.inl hg) (by omega) (by rw [lo1 _ (by omega)]; exact cL) rfl rfl hl (by omega)
          have lo2 : ∀ j, j < gL.1 → G2.2.2 j = gL.2.2 j := fun j hj => by rw [u2.2.2 j (by omega) (by omega) (by omega), lo1 j hj]
          have hE2 : Ext gL G2 := ⟨by rw [u2.1]; omega, by rw [u2.1]; omega, by rw [u2.2.1]; omega, by rw [u2.2.1]; omega, lo2⟩
          have hE2g : Ext g G2 := ext_tr hEL ⟨hE2.1, by rw [u2.1]; omega, hE2.2.2.1, by rw [u2.2.1]; omega, lo2⟩
          have bc := become11 (s := s) (g := G2) (a := a) (b := gL.1) (pc := pc) h1' (by rw [lo2 _ (by omega), hEL.2.2.2.2 _ h2']; exact c5) f3 f4 (show pc ≤ 24 by omega) (fun i hi => by
            obtain ⟨b', z1, z2⟩ := f11 i hi
            obtain ⟨fs, z3, z4⟩ := stN_cell z2
            have z5 : b' < g.1 := z2.2.2.1
            exact ⟨b', fs, z1, z3, by rw [lo2 _ (by omega), hEL.2.2.2.2 _ z5]; exact z4⟩)
          have hpl1 := rem_pl t.2.2.2.2 ho (oneD_ok hl k3)
          have noz : ∀ m, m < 30 → ¬ m = l → mvN N l P (Int32.ofNat n) (1169 * m) = rmN N (oneD l) l (1169 * m) ∧ mvN N l P (Int32.ofNat n) (1169 * m + 2) = rmN N (oneD l) l (1169 * m + 2) := fun m hm hne => by
            have e1 := mvN_m (N := N) (P := P) (k := Int32.ofNat n) (j := 0) hne (by omega)
            rw [Nat.add_zero] at e1
            exact ⟨by rw [e1, shN_z], by rw [mvN_m hne (by omega), shN_i (by omega) (by omega)]⟩
          have ns : ∀ m, m < 30 → ¬ m = l → rmN N (oneD l) l (1169 * m) = 1 → mvN N l P (Int32.ofNat n) (1169 * m + 3) = if rmN N (oneD l) l (1169 * m + 2) = P ∧ ¬ rmN N (oneD l) l (1169 * m + 3) < Int32.ofNat n then rmN N (oneD l) l (1169 * m + 3) + 1 else rmN N (oneD l) l (1169 * m + 3) := fun m hm hne hm1 => by
            rw [mvN_m hne (by omega), shN_3 hm]
            by_cases z : rmN N (oneD l) l (1169 * m + 2) = P ∧ ¬ rmN N (oneD l) l (1169 * m + 3) < Int32.ofNat n
            · rw [if_pos z, if_pos ⟨hm1, z⟩]
            · rw [if_neg z, if_neg (fun y => z y.2)]
          have hStN : StN G2 gL.1 w h (mvN N l P (Int32.ofNat n)) := by
            obtain ⟨x1, x2, x3, x4, x5, x6, x7, x8, x9, x10, x11⟩ := u3
            obtain ⟨⟨nn, ta1, ta2, ta3⟩, tb, tc, ⟨d, td⟩, te⟩ := id t
            refine ⟨⟨⟨nn, ta1, by rw [mvN_70 hl]; exact ta2, fun m h1 h2 => ?_⟩, fun m hm => ?_, fun m hm hm1 => ?_, ?_, ins_pl hpl1 ho1 hsz hl hdl mvN_0 mvN_2 mvN_3 hn noz ns⟩, x1, by rw [u2.1]; omega, gL.1 + 1, gL.1 + 2, (L.filter (fun x => !oneD l x)).length + 1, _, od2, x2, x3, by rw [u2.1]; omega, x4, x5, by rw [u2.1]; omega, by rw [mvN_70 hl, ← rmN_70 (N := N) (D := oneD l) (l := l)]; exact x9, x10, x11, ins_or hpl1 ho1 hl hdl mvN_0 mvN_2 mvN_3 (by omega) noz ns hsz u4 u5 u6, fun m hm => ?_⟩
            · have ml : ¬ m = l := fun e => by
                rw [← e, ta3 m h1 h2] at k3
                exact absurd k3 (by decide)
              rw [mvN_z h2 ml]; exact ta3 m h1 h2
            · by_cases ml : m = l
              · rw [ml]; exact Or.inr mvN_0
              · rw [mvN_z hm ml]; exact tb m hm
            · have par : ∀ p', p' < 30 → N (1169 * p') = 1 → N (1169 * p' + 1) = 1 → mvN N l P (Int32.ofNat n) (1169 * p') = 1 ∧ mvN N l P (Int32.ofNat n) (1169 * p' + 1) = 1 := by
                intro p' hp' a1 a2
                by_cases e : p' = l
                · subst e
                  exact ⟨mvN_0, by rw [mvN_l (by omega) (by omega) (by omega) (by omega)]; exact a2⟩
                · exact ⟨by rw [mvN_z hp' e]; exact a1, by rw [mvN_i e (by omega) (by omega) (by omega)]; exact a2⟩
              by_cases ml : m = l
              · subst ml
                rw [mvN_2]
                rcases isP_n q2 with y | ⟨p', p1, p2, p3, p4⟩
                · exact Or.inl y
                · exact Or.inr ⟨p', p1, p2, par p' p1 p3 p4⟩
              · rw [mvN_z hm ml] at hm1
                rw [mvN_i ml (by omega) (by omega) (by omega)]
                rcases tc m hm hm1 with y | ⟨p', p1, p2, p3, p4⟩
                · exact Or.inl y
                · exact Or.inr ⟨p', p1, p2, par p' p1 p3 p4⟩
            · refine ⟨fun m => d m + if dpD N l m = true then (if P < 0 then 0 else d P.toInt.toNat + 1) else 0, fun m hm hm1 p' hp' hq => ?_⟩
              dsimp only
              by_cases ml : m = l
              · subst ml
                rw [mvN_2] at hq
                have dl : dpD N m m = true := by unfold dpD; rw [decide_eq_true rfl]; rfl
                have dp : dpD N m p' = false := by
                  rcases isP_n q2 with y | ⟨p2', p1, p2, p3, p4⟩
                  · rw [y] at hq; exact absurd hq (neg1_n (by omega))
                  · rw [hq] at q4' p2
                    have := (n_eq (by omega) (by omega)).mp p2
                    subst this
                    unfold mvX at q4'
                    rw [decide_eq_false (n_neg (by omega)), isB_31 hl hp' p3] at q4'
                    exact q4'
                rw [dl, if_pos rfl, dp, if_neg (by decide), hq, if_neg (n_neg (by omega)), n_int (by omega), Int.toNat_natCast]
                omega
              · rw [mvN_z hm ml] at hm1
                rw [mvN_i ml (by omega) (by omega) (by omega)] at hq
                have hd := td m hm hm1 p' hp' hq
                have e : dpD N l m = dpD N l p' := by
                  have ip := inB_p t hl hm hm1 hp' hq
                  unfold dpD
                  rw [decide_eq_false ml, ip]; rfl
                rw [e]; omega
            · by_cases ml : m = l
              · subst ml
                rw [if_pos mvN_0]
                exact ⟨g.1, rs_s, lyN_ext hE2 hxL⟩
              · rw [mvN_z hm ml, rs_n ml, rs_n ml, cR_lt hm]
                have hc := c10 m hm
                by_cases z : N (1169 * m) = 1
                · rw [if_pos z] at hc ⊢
                  obtain ⟨b', b1, b2⟩ := hc
                  exact ⟨b', b1, lyN_03 hwh (fun j hj j0 j3 => mvN_i ml hj j0 j3) (lyN_ext hE2g b2)⟩
                · rw [if_neg z] at hc ⊢; exact hc
          have e142 : (fgC (rmC s a gL.1 pc)).2.1 142 = N := by rw [← hN]; unfold fgC rmC; simp (decide := true) only [ob_n, b2_n, tc_rn, tc_ln, F_sF, A_sF, R_sF, L_sF, F_sA, A_sA, R_sA, L_sA, F_sR, A_sR, R_sR, L_sR, F_sL, A_sL, R_sL, L_sL, and_true, true_and, and_false, false_and, and_self, reduceIte, sF_sF, sA_sA, false_or, or_false, true_or, or_true, not_false_eq_true, not_true_eq_false, decide_true, decide_false, Bool.true_or, Bool.or_true, Bool.false_and, Bool.true_and, Bool.false_or, Bool.or_false, Bool.and_true, Bool.and_false, F_sRr, A_sRr]
          have hm := hm0 (fgC (rmC s a gL.1 pc)) G2 (by unfold fgC rmC; simp (decide := true) only [ob_n, b2_n, tc_rn, tc_ln, F_sF, A_sF, R_sF, L_sF, F_sA, A_sA, R_sA, L_sA, F_sR, A_sR, R_sR, L_sR, F_sL, A_sL, R_sL, L_sL, and_true, true_and, and_false, false_and, and_self, reduceIte, sF_sF, sA_sA, false_or, or_false, true_or, or_true, not_false_eq_true, not_true_eq_false, decide_true, decide_false, Bool.true_or, Bool.or_true, Bool.false_and, Bool.true_and, Bool.false_or, Bool.or_false, Bool.and_true, Bool.and_false, F_sRr, A_sRr]; exact f6) (by unfold fgC rmC; simp (decide := true) only [ob_n, b2_n, tc_rn, tc_ln, F_sF, A_sF, R_sF, L_sF, F_sA, A_sA, R_sA, L_sA, F_sR, A_sR, R_sR, L_sR, F_sL, A_sL, R_sL, L_sL, and_true, true_and, and_false, false_and, and_self, reduceIte, sF_sF, sA_sA, false_or, or_false, true_or, or_true, not_false_eq_true, not_true_eq_false, decide_true, decide_false, Bool.true_or, Bool.or_true, Bool.false_and, Bool.true_and, Bool.false_or, Bool.or_false, Bool.and_true, Bool.and_false, F_sRr, A_sRr]; exact f7) (by rw [e142]; exact t)
          rw [e142, if_pos n1, n_int (by omega), Int.toNat_natCast, if_pos q3, q4', if_neg (by decide)] at hm
          refine KV_ed (N' := mvN N l P (Int32.ofNat n)) (b := gL.1) hR h7 f1 f2 (by rw [hN]; exact f9) (by rw [hN]; exact f10) f11 ?_ hm ?_ ?_ hE2g hStN
          · have obG : q_ob 9 (e_g s (mkS gL (Int32.ofNat w) (Int32.ofNat h) (cR ly 30) (cI od 30) (Int32.ofNat sz) (N 35070))) gL.1 = some () := S_ob hgL5
            have ob1 : q_ob 9 (e_g s G1) gL.1 = some () := w3.ob
            simp (decide := true) only [fX11_move, jX11_move_62, jX11_move_93, ob8, k2, np, f8_0, f3, hob, am, fP, rng hg, q3, v1, v2, v3, refuse11 hg, ob4, ag4, sI2, hobL, ag9, obG, w1, ob1, u1, bc, ob_n, b2_n, tc_rn, tc_ln, F_sF, A_sF, R_sF, L_sF, F_sA, A_sA, R_sA, L_sA, F_sR, A_sR, R_sR, L_sR, F_sL, A_sL, R_sL, L_sL, and_true, true_and, and_false, false_and, and_self, reduceIte, sF_sF, sA_sA, false_or, or_false, true_or, or_true, not_false_eq_true, not_true_eq_false, decide_true, decide_false, Bool.true_or, Bool.or_true, Bool.false_and, Bool.true_and, Bool.false_or, Bool.or_false, Bool.and_true, Bool.and_false]
          · unfold fg12 edM fgC rmC; simp (decide := true) only [ob_n, b2_n, tc_rn, tc_ln, F_sF, A_sF, R_sF, L_sF, F_sA, A_sA, R_sA, L_sA, F_sR, A_sR, R_sR, L_sR, F_sL, A_sL, R_sL, L_sL, and_true, true_and, and_false, false_and, and_self, reduceIte, sF_sF, sA_sA, false_or, or_false, true_or, or_true, not_false_eq_true, not_true_eq_false, decide_true, decide_false, Bool.true_or, Bool.or_true, Bool.false_and, Bool.true_and, Bool.false_or, Bool.or_false, Bool.and_true, Bool.and_false, F_sRr, A_sRr]
          · unfold edS
            exact sm_fg (sm_edM (sm_A2 (sm_F sm_rf (by decide))))
      · refine KV_no (E := "java/lang/IllegalArgumentException") (y := 1) hR ?_ (by decide +kernel) ((hm0 _ _ f6 f7 f9.1).trans ((if_pos n1).trans (if_neg (by rw [n_int (by omega), Int.toNat_natCast]; exact q3))))
        simp (decide := true) only [fX11_move, ob8, k2, np, f8_0, f3, hob, am, fP, rng hg, q3, ob_n, b2_n, tc_rn, tc_ln, F_sF, A_sF, R_sF, L_sF, F_sA, A_sA, R_sA, L_sA, F_sR, A_sR, R_sR, L_sR, F_sL, A_sL, R_sL, L_sL, and_true, true_and, and_false, false_and, and_self, reduceIte, sF_sF, sA_sA, false_or, or_false, true_or, or_true, not_false_eq_true, not_true_eq_false, decide_true, decide_false, Bool.true_or, Bool.or_true, Bool.false_and, Bool.true_and, Bool.false_or, Bool.or_false, Bool.and_true, Bool.and_false]
    · refine KV_no (E := "java/util/NoSuchElementException") (y := 2) hR ?_ (by decide +kernel) ((hm0 _ _ f6 f7 f9.1).trans (if_neg (fun z => q2 z.2)))
      have q2' : isP (s.2.1 142) P = false := by simpa using q2
      simp (decide := true) only [fX11_move, fX11_needParent, ob8, k2, f8_0, f3, hob, ho9, q2', e3, ob_n, b2_n, tc_rn, tc_ln, F_sF, A_sF, R_sF, L_sF, F_sA, A_sA, R_sA, L_sA, F_sR, A_sR, R_sR, L_sR, F_sL, A_sL, R_sL, L_sL, and_true, true_and, and_false, false_and, and_self, reduceIte, sF_sF, sA_sA, false_or, or_false, true_or, or_true, not_false_eq_true, not_true_eq_false, decide_true, decide_false, Bool.true_or, Bool.or_true, Bool.false_and, Bool.true_and, Bool.false_or, Bool.or_false, Bool.and_true, Bool.and_false]
