-- needs: 07 10 13 14 20 21 22 23 24 25 26 27 32 33 34 38 39 40 41 42 43 44 46
/-! ===== about, pixel, masked, count ===== -/
def StD (g : ps_G) (a w h : Nat) (N : Nat → Int32) (la oa sz : Nat) (ly : Nat → Option Nat) (od : Nat → Int32) (o : Nat → Nat) : Prop := TrN N ∧ e_fr a ∧ a < g.1 ∧ e_fr la ∧ 8 ≤ la ∧ la < g.1 ∧ e_fr oa ∧ 8 ≤ oa ∧ oa < g.1 ∧ g.2.2 a = .inr (9, [.int (Int32.ofNat w), .int (Int32.ofNat h), .ref la, .ref oa, .int (Int32.ofNat sz), .int (N 35070)]) ∧ g.2.2 la = .inl (3, (30, .inr (.inr (.inr (.inr ly))))) ∧ g.2.2 oa = .inl (0, (30, .inl od)) ∧ OrD N sz od o ∧ ∀ l, l < 30 → if N (1169 * l) = 1 then ∃ b, ly l = some b ∧ LyN g b w h l (lR N l) else ly l = none
theorem stN_d {g : ps_G} {a w h : Nat} {N : Nat → Int32} (hs : StN g a w h N) : ∃ la oa sz ly od o, StD g a w h N la oa sz ly od o := by
  obtain ⟨t, h1, h2, la, oa, sz, ly, od, c1, c0, c2, c3, c9, c4, c5, c6, c7, c8, c10⟩ := hs
  obtain ⟨o, ho⟩ := orN_d c8
  exact ⟨la, oa, sz, ly, od, o, t, h1, h2, c1, c0, c2, c3, c9, c4, c5, c6, c7, ho, c10⟩
theorem StD.f4 {s : e_S} {g : ps_G} {a w h la oa sz : Nat} {N : Nat → Int32} {ly : Nat → Option Nat} {od : Nat → Int32} {o : Nat → Nat} (h : StD g a w h N la oa sz ly od o) : q_fI 9 4 (e_g s g) a = some (Int32.ofNat sz) := d_fI h.2.1 h.2.2.2.2.2.2.2.2.2.1 rfl
theorem StD.ob {s : e_S} {g : ps_G} {a w h la oa sz : Nat} {N : Nat → Int32} {ly : Nat → Option Nat} {od : Nat → Int32} {o : Nat → Nat} (h : StD g a w h N la oa sz ly od o) : q_ob 9 (e_g s g) a = some () := d_ob h.2.1 h.2.2.2.2.2.2.2.2.2.1
theorem StD.ly {g : ps_G} {a w h la oa sz : Nat} {N : Nat → Int32} {ly : Nat → Option Nat} {od : Nat → Int32} {o : Nat → Nat} (hS : StD g a w h N la oa sz ly od o) {l : Nat} (hl : l < 30) (h1 : N (1169 * l) = 1) : ∃ b, ly l = some b ∧ LyN g b w h l (lR N l) := by
  obtain ⟨-, -, -, -, -, -, -, -, -, -, -, -, -, c⟩ := hS
  have := c l hl
  rw [if_pos h1] at this
  exact this
theorem child9 {s : e_S} {g : ps_G} {a w h la oa sz i : Nat} {N : Nat → Int32} {ly : Nat → Option Nat} {od : Nat → Int32} {o : Nat → Nat} {P : Int32} (hS : StD g a w h N la oa sz ly od o) (hi : i < sz) : fX9_child (e_g s g) a (Int32.ofNat i) P = some (if chO N o P i then ly (o i) else none) := by
  have f4 := hS.f4 (s := s)
  have ob := hS.ob (s := s)
  obtain ⟨t, h1, h2, c1, c0, c2, c3, c9, c4, c5, c6, c7, ho, c10⟩ := id hS
  obtain ⟨a1, a2, a3, a4, a5⟩ := ho
  obtain ⟨b1, b2, b3⟩ := a2 i hi
  obtain ⟨b, e1, e2⟩ := hS.ly b2 b3
  have r3 : q_fR 9 3 (e_g s g) a = some (some oa) := d_fR h1 c5 rfl
  have q1 : ¬ Int32.ofNat sz ≤ Int32.ofNat i ∧ Int32.ofNat i < 30 := by
    show ¬ Int32.ofNat sz ≤ Int32.ofNat i ∧ Int32.ofNat i < Int32.ofNat 30
    rw [n_le (by omega) (by omega), n_lt (by omega) (by omega)]; omega
  have fd := find9 (s := s) (x := Int32.ofNat (o i)) h1 c1 c5 c6
  rw [n_int (by omega), if_pos (by omega), Int.toNat_natCast, e1] at fd
  obtain ⟨y1, y2, p, q', x0, y0, x1, yy1, pa, ma, y3, -⟩ := e2
  have r2 : q_fI 4 2 (e_g s g) b = some (N (1169 * o i + 2)) := d_fI y1 y3 rfl
  have n0 : ¬ (some b = none) := nofun
  by_cases hP : N (1169 * o i + 2) = P
  · have : chO N o P i = true := decide_eq_true hP
    simp (decide := true) only [fX9_child, jX9_child_32, jX9_child_50, n_neg (show i < 2147483648 by omega), f4, q1, r3, d_aI c3 c7, n_in2 (show i < 30 by omega) (by decide), n_idx (show i < 2147483648 by omega), b1, ob, fd, n0, r2, hP, this, e1, show ¬ 30 ≤ i by omega, ob_s, b2_s, tc_r, tc_l, F_sF, A_sF, R_sF, L_sF, F_sA, A_sA, R_sA, L_sA, F_sR, A_sR, R_sR, L_sR, F_sL, A_sL, R_sL, L_sL, and_true, true_and, and_false, false_and, and_self, reduceIte, sF_sF, sA_sA, false_or, or_false, true_or, or_true, not_false_eq_true, not_true_eq_false, decide_true, decide_false, Bool.true_or, Bool.or_true, Bool.false_and, Bool.true_and, Bool.false_or, Bool.or_false, Bool.and_true, Bool.and_false]
  · have : chO N o P i = false := decide_eq_false hP
    simp (decide := true) only [fX9_child, jX9_child_32, jX9_child_49, jX9_child_50, n_neg (show i < 2147483648 by omega), f4, q1, r3, d_aI c3 c7, n_in2 (show i < 30 by omega) (by decide), n_idx (show i < 2147483648 by omega), b1, ob, fd, n0, r2, hP, this, show ¬ 30 ≤ i by omega, ob_s, b2_s, tc_r, tc_l, F_sF, A_sF, R_sF, L_sF, F_sA, A_sA, R_sA, L_sA, F_sR, A_sR, R_sR, L_sR, F_sL, A_sL, R_sL, L_sL, and_true, true_and, and_false, false_and, and_self, reduceIte, sF_sF, sA_sA, false_or, or_false, true_or, or_true, not_false_eq_true, not_true_eq_false, decide_true, decide_false, Bool.true_or, Bool.or_true, Bool.false_and, Bool.true_and, Bool.false_or, Bool.or_false, Bool.and_true, Bool.and_false]
theorem among9 {s : e_S} {g : ps_G} {a w h la oa sz : Nat} {N : Nat → Int32} {ly : Nat → Option Nat} {od : Nat → Int32} {o : Nat → Nat} {P : Int32} (hS : StD g a w h N la oa sz ly od o) : fX9_among (e_g s g) a P = some (Int32.ofNat (cnt (chL N P) 30)) := by
  have ho : OrD N sz od o := hS.2.2.2.2.2.2.2.2.2.2.2.2.1
  have hsz := ho.1
  rw [← cnt_many ho]
  have hl : q_lp (fun t => bX9_among_4 (e_g s g) a P t.1 t.2) ((0 : Int32), (0 : Int32)) = some (Int32.ofNat (cnt (chO N o P) sz)) := by
    refine lp_0 (fun i => (Int32.ofNat (cnt (chO N o P) i), Int32.ofNat i)) sz rfl (fun i hi => ?_) ?_
    · have q1 : ¬ Int32.ofNat sz ≤ Int32.ofNat i := by rw [n_le (by omega) (by omega)]; omega
      obtain ⟨b1, b2, b3⟩ := ho.2.1 i hi
      obtain ⟨b, e1, e2⟩ := hS.ly b2 b3
      have n0 : ¬ (some b = none) := nofun
      have ch := child9 (s := s) (P := P) hS hi
      rw [e1] at ch
      by_cases z : chO N o P i <;> simp (decide := true) only [bX9_among_4, hS.f4, hS.ob, q1, ch, z, n0, n_suc, cnt_s, Nat.add_zero, ob_s, b2_s, tc_r, tc_l, F_sF, A_sF, R_sF, L_sF, F_sA, A_sA, R_sA, L_sA, F_sR, A_sR, R_sR, L_sR, F_sL, A_sL, R_sL, L_sL, and_true, true_and, and_false, false_and, and_self, reduceIte, sF_sF, sA_sA, false_or, or_false, true_or, or_true, not_false_eq_true, not_true_eq_false, decide_true, decide_false, Bool.true_or, Bool.or_true, Bool.false_and, Bool.true_and, Bool.false_or, Bool.or_false, Bool.and_true, Bool.and_false]
    · have q1 : Int32.ofNat sz ≤ Int32.ofNat sz := by rw [i_le]; omega
      simp (decide := true) only [bX9_among_4, hS.f4, q1, ob_s, b2_s, tc_r, tc_l, F_sF, A_sF, R_sF, L_sF, F_sA, A_sA, R_sA, L_sA, F_sR, A_sR, R_sR, L_sR, F_sL, A_sL, R_sL, L_sL, and_true, true_and, and_false, false_and, and_self, reduceIte, sF_sF, sA_sA, false_or, or_false, true_or, or_true, not_false_eq_true, not_true_eq_false, decide_true, decide_false, Bool.true_or, Bool.or_true, Bool.false_and, Bool.true_and, Bool.false_or, Bool.or_false, Bool.and_true, Bool.and_false]
  simp (decide := true) only [fX9_among, hl, ob_s, b2_s, tc_r, tc_l, F_sF, A_sF, R_sF, L_sF, F_sA, A_sA, R_sA, L_sA, F_sR, A_sR, R_sR, L_sR, F_sL, A_sL, R_sL, L_sL, and_true, true_and, and_false, false_and, and_self, reduceIte, sF_sF, sA_sA, false_or, or_false, true_or, or_true, not_false_eq_true, not_true_eq_false, decide_true, decide_false, Bool.true_or, Bool.or_true, Bool.false_and, Bool.true_and, Bool.false_or, Bool.or_false, Bool.and_true, Bool.and_false]
theorem many12 {s : e_S} {g : ps_G} {P : Int32} : fX12_many (e_g s g) 139 P = some (Int32.ofNat (cnt (chL (s.2.1 142) P) 30)) := by
  have hl : q_lp (fun t => bX12_many_4 (e_g s g) 139 P t.1 t.2) ((0 : Int32), (0 : Int32)) = some (Int32.ofNat (cnt (chL (s.2.1 142) P) 30)) := by
    refine lp_0 (fun i => (Int32.ofNat (cnt (chL (s.2.1 142) P) i), Int32.ofNat i)) 30 rfl (fun i hi => ?_) ?_
    · have q1 : ¬ (30 : Int32) ≤ Int32.ofNat i := by
        show ¬ Int32.ofNat 30 ≤ Int32.ofNat i
        rw [n_le (by omega) (by omega)]; omega
      have g2 := get12 (s := s) (g := g) (n := 2) hi (by omega)
      by_cases z : s.2.1 142 (1169 * i) = 1
      · by_cases z2 : s.2.1 142 (1169 * i + 2) = P <;> simp (decide := true) only [bX12_many_4, jX12_many_34_4, jX12_many_35_4, ob139, isLayer12, isL_o hi, q1, g2, z, z2, n_suc, cnt_s, chL, Nat.add_zero, ob_s, b2_s, tc_r, tc_l, F_sF, A_sF, R_sF, L_sF, F_sA, A_sA, R_sA, L_sA, F_sR, A_sR, R_sR, L_sR, F_sL, A_sL, R_sL, L_sL, and_true, true_and, and_false, false_and, and_self, reduceIte, sF_sF, sA_sA, false_or, or_false, true_or, or_true, not_false_eq_true, not_true_eq_false, decide_true, decide_false, Bool.true_or, Bool.or_true, Bool.false_and, Bool.true_and, Bool.false_or, Bool.or_false, Bool.and_true, Bool.and_false]
      · simp (decide := true) only [bX12_many_4, jX12_many_34_4, jX12_many_35_4, ob139, isLayer12, isL_o hi, q1, z, n_suc, cnt_s, chL, Nat.add_zero, ob_s, b2_s, tc_r, tc_l, F_sF, A_sF, R_sF, L_sF, F_sA, A_sA, R_sA, L_sA, F_sR, A_sR, R_sR, L_sR, F_sL, A_sL, R_sL, L_sL, and_true, true_and, and_false, false_and, and_self, reduceIte, sF_sF, sA_sA, false_or, or_false, true_or, or_true, not_false_eq_true, not_true_eq_false, decide_true, decide_false, Bool.true_or, Bool.or_true, Bool.false_and, Bool.true_and, Bool.false_or, Bool.or_false, Bool.and_true, Bool.and_false]
    · simp (decide := true) only [bX12_many_4, ob_s, b2_s, tc_r, tc_l, F_sF, A_sF, R_sF, L_sF, F_sA, A_sA, R_sA, L_sA, F_sR, A_sR, R_sR, L_sR, F_sL, A_sL, R_sL, L_sL, and_true, true_and, and_false, false_and, and_self, reduceIte, sF_sF, sA_sA, false_or, or_false, true_or, or_true, not_false_eq_true, not_true_eq_false, decide_true, decide_false, Bool.true_or, Bool.or_true, Bool.false_and, Bool.true_and, Bool.false_or, Bool.or_false, Bool.and_true, Bool.and_false]
  simp (decide := true) only [fX12_many, hl, ob_s, b2_s, tc_r, tc_l, F_sF, A_sF, R_sF, L_sF, F_sA, A_sA, R_sA, L_sA, F_sR, A_sR, R_sR, L_sR, F_sL, A_sL, R_sL, L_sL, and_true, true_and, and_false, false_and, and_self, reduceIte, sF_sF, sA_sA, false_or, or_false, true_or, or_true, not_false_eq_true, not_true_eq_false, decide_true, decide_false, Bool.true_or, Bool.or_true, Bool.false_and, Bool.true_and, Bool.false_or, Bool.or_false, Bool.and_true, Bool.and_false]
theorem ly_inj {g : ps_G} {a w h la oa sz : Nat} {N : Nat → Int32} {ly : Nat → Option Nat} {od : Nat → Int32} {o : Nat → Nat} (hS : StD g a w h N la oa sz ly od o) {l m b : Nat} (hl : l < 30) (hm : m < 30) (h1 : ly l = some b) (h2 : ly m = some b) : l = m := by
  obtain ⟨-, -, -, -, -, -, -, -, -, -, -, -, -, c⟩ := hS
  have k1 := c l hl
  have k2 := c m hm
  by_cases z1 : N (1169 * l) = 1
  · rw [if_pos z1, h1] at k1
    obtain ⟨b1, e1, e2⟩ := k1
    cases e1
    by_cases z2 : N (1169 * m) = 1
    · rw [if_pos z2, h2] at k2
      obtain ⟨b2, e3, e4⟩ := k2
      cases e3
      obtain ⟨-, -, p, q', x0, y0, x1, yy1, pa, ma, y3, -⟩ := e2
      obtain ⟨-, -, p', q'', x0', y0', x1', yy1', pa', ma', y3', -⟩ := e4
      rw [y3] at y3'
      have := (Sum.inr.inj y3')
      have := (Prod.mk.inj this).2
      have := (List.cons.inj this).1
      have := Value.int.inj this
      exact (n_eq (by omega) (by omega)).mp this
    · rw [if_neg z2, h2] at k2; cases k2
  · rw [if_neg z1, h1] at k1; cases k1
theorem placeOf9 {s : e_S} {g : ps_G} {a w h la oa sz l b : Nat} {N : Nat → Int32} {ly : Nat → Option Nat} {od : Nat → Int32} {o : Nat → Nat} (hS : StD g a w h N la oa sz ly od o) (hl : l < 30) (h1 : N (1169 * l) = 1) (hb : ly l = some b) : fX9_placeOf (e_g s g) a b = some (N (1169 * l + 3)) := by
  have ho : OrD N sz od o := hS.2.2.2.2.2.2.2.2.2.2.2.2.1
  have hsz := ho.1
  obtain ⟨k, k1, k2⟩ := ho.2.2.2.1 l hl h1
  have pl := place_cnt hS.1 ho k k1
  rw [k2] at pl
  obtain ⟨b', e1, e2⟩ := hS.ly hl h1
  rw [hb] at e1
  cases e1
  obtain ⟨y1, y2, p, q', x0, y0, x1, yy1, pa, ma, y3, -, -, -, -, -, -, -, -, -, -, -, -, z13, -⟩ := e2
  have r2 : q_fI 4 2 (e_g s g) b = some (N (1169 * l + 2)) := d_fI y1 y3 rfl
  have g8 : q_g8 (some b) = some () := if_neg (by omega)
  have g8n : q_g8 none = some () := rfl
  have hl9 : q_lp (fun t => bX9_placeOf_4 (e_g s g) a b t.1 t.2) ((0 : Int32), (0 : Int32)) = some (N (1169 * l + 3)) := by
    refine lp_0 (fun i => (Int32.ofNat (cnt (chO N o (N (1169 * l + 2))) i), Int32.ofNat i)) k rfl (fun i hi => ?_) ?_
    · have q1 : ¬ Int32.ofNat sz ≤ Int32.ofNat i := by rw [n_le (by omega) (by omega)]; omega
      obtain ⟨b1, b2, b3⟩ := ho.2.1 i (by omega)
      obtain ⟨c, e1, e2⟩ := hS.ly b2 b3
      have n0 : ¬ (some c = none) := nofun
      have nb : ¬ (some c = some b) := by
        intro e
        cases e
        have := ly_inj hS b2 hl e1 hb
        rw [← k2] at this
        exact ho.2.2.1 i k hi k1 this
      have nn : ¬ ((none : Option Nat) = some b) := nofun
      have c8 : q_g8 (some c) = some () := by
        obtain ⟨-, -, p, q', x0, y0, x1, yy1, pa, ma, -, -, -, -, -, -, -, -, -, -, -, -, -, z13, -⟩ := e2
        exact if_neg (by omega)
      have ch := child9 (s := s) (P := N (1169 * l + 2)) hS (show i < sz by omega)
      rw [e1] at ch
      by_cases z : chO N o (N (1169 * l + 2)) i <;> simp (decide := true) only [bX9_placeOf_4, hS.f4, hS.ob, q1, r2, ch, z, n0, nb, nn, g8, g8n, c8, n_suc, cnt_s, Nat.add_zero, ob_s, b2_s, tc_r, tc_l, F_sF, A_sF, R_sF, L_sF, F_sA, A_sA, R_sA, L_sA, F_sR, A_sR, R_sR, L_sR, F_sL, A_sL, R_sL, L_sL, and_true, true_and, and_false, false_and, and_self, reduceIte, sF_sF, sA_sA, false_or, or_false, true_or, or_true, not_false_eq_true, not_true_eq_false, decide_true, decide_false, Bool.true_or, Bool.or_true, Bool.false_and, Bool.true_and, Bool.false_or, Bool.or_false, Bool.and_true, Bool.and_false]
    · have q1 : ¬ Int32.ofNat sz ≤ Int32.ofNat k := by rw [n_le (by omega) (by omega)]; omega
      have ch := child9 (s := s) (P := N (1169 * l + 2)) hS k1
      have z : chO N o (N (1169 * l + 2)) k = true := by unfold chO; rw [k2]; exact decide_eq_true rfl
      rw [k2, hb] at ch
      simp (decide := true) only [bX9_placeOf_4, hS.f4, hS.ob, q1, r2, ch, z, g8, pl, ob_s, b2_s, tc_r, tc_l, F_sF, A_sF, R_sF, L_sF, F_sA, A_sA, R_sA, L_sA, F_sR, A_sR, R_sR, L_sR, F_sL, A_sL, R_sL, L_sL, and_true, true_and, and_false, false_and, and_self, reduceIte, sF_sF, sA_sA, false_or, or_false, true_or, or_true, not_false_eq_true, not_true_eq_false, decide_true, decide_false, Bool.true_or, Bool.or_true, Bool.false_and, Bool.true_and, Bool.false_or, Bool.or_false, Bool.and_true, Bool.and_false]
  simp (decide := true) only [fX9_placeOf, jX9_placeOf_46, hl9, ob_s, b2_s, tc_r, tc_l, F_sF, A_sF, R_sF, L_sF, F_sA, A_sA, R_sA, L_sA, F_sR, A_sR, R_sR, L_sR, F_sL, A_sL, R_sL, L_sL, and_true, true_and, and_false, false_and, and_self, reduceIte, sF_sF, sA_sA, false_or, or_false, true_or, or_true, not_false_eq_true, not_true_eq_false, decide_true, decide_false, Bool.true_or, Bool.or_true, Bool.false_and, Bool.true_and, Bool.false_or, Bool.or_false, Bool.and_true, Bool.and_false]
theorem about12 {s : e_S} {g : ps_G} {x what : Int32} : fX12_about (e_g s g) 139 x what = if rg what 0 15 then (if isL (s.2.1 142) x then some (if what = 9 then Int32.ofNat (cnt (chL (s.2.1 142) x) 30) else s.2.1 142 (1169 * x.toInt.toNat + (what.toInt.toNat + 1)), e_g (sF s 139 0 0) g) else some (0, e_g (sF s 139 0 2) g)) else some (0, e_g (sF s 139 0 1) g) := by
  by_cases q : rg what 0 15
  · obtain ⟨k, rfl, hk⟩ : ∃ k : Nat, what = Int32.ofNat k ∧ k ≤ 15 := by
      have z := rg_i.mp q
      have z1 : 0 ≤ what.toInt := z.1
      have z2 : what.toInt ≤ 15 := z.2
      exact ⟨what.toInt.toNat, n_of (by omega), by omega⟩
    by_cases hx : isL (s.2.1 142) x
    · by_cases h9 : Int32.ofNat k = 9
      · simp (decide := true) only [fX12_about, jX12_about_28, rin, q, ob139, isLayer12, hx, w139_0, f139_0, h9, many12, ob_s, b2_s, tc_r, tc_l, F_sF, A_sF, R_sF, L_sF, F_sA, A_sA, R_sA, L_sA, F_sR, A_sR, R_sR, L_sR, F_sL, A_sL, R_sL, L_sL, and_true, true_and, and_false, false_and, and_self, reduceIte, sF_sF, sA_sA, false_or, or_false, true_or, or_true, not_false_eq_true, not_true_eq_false, decide_true, decide_false, Bool.true_or, Bool.or_true, Bool.false_and, Bool.true_and, Bool.false_or, Bool.or_false, Bool.and_true, Bool.and_false]
      · obtain ⟨l, rfl, hl, hl1⟩ := isL_n hx
        have gk : ∀ s' : e_S, fX12_get (e_g s' g) 139 (Int32.ofNat l) (Int32.ofNat k + 1) = some (s'.2.1 142 (1169 * l + (k + 1))) := fun s' => by
          rw [n_suc]; exact get12 (n := k + 1) hl (by omega)
        rw [n_int (by omega), n_int (by omega), Int.toNat_natCast, Int.toNat_natCast]
        by_cases a1 : (9 : Int32) ≤ Int32.ofNat k
        · by_cases a2 : (12 : Int32) ≤ Int32.ofNat k <;> simp (decide := true) only [fX12_about, jX12_about_28, rin, q, ob139, isLayer12, hx, w139_0, f139_0, h9, a1, a2, gk, ob_s, b2_s, tc_r, tc_l, F_sF, A_sF, R_sF, L_sF, F_sA, A_sA, R_sA, L_sA, F_sR, A_sR, R_sR, L_sR, F_sL, A_sL, R_sL, L_sL, and_true, true_and, and_false, false_and, and_self, reduceIte, sF_sF, sA_sA, false_or, or_false, true_or, or_true, not_false_eq_true, not_true_eq_false, decide_true, decide_false, Bool.true_or, Bool.or_true, Bool.false_and, Bool.true_and, Bool.false_or, Bool.or_false, Bool.and_true, Bool.and_false]
        · simp (decide := true) only [fX12_about, jX12_about_28, rin, q, ob139, isLayer12, hx, w139_0, f139_0, h9, a1, gk, ob_s, b2_s, tc_r, tc_l, F_sF, A_sF, R_sF, L_sF, F_sA, A_sA, R_sA, L_sA, F_sR, A_sR, R_sR, L_sR, F_sL, A_sL, R_sL, L_sL, and_true, true_and, and_false, false_and, and_self, reduceIte, sF_sF, sA_sA, false_or, or_false, true_or, or_true, not_false_eq_true, not_true_eq_false, decide_true, decide_false, Bool.true_or, Bool.or_true, Bool.false_and, Bool.true_and, Bool.false_or, Bool.or_false, Bool.and_true, Bool.and_false]
    · simp (decide := true) only [fX12_about, jX12_about_28, rin, q, ob139, isLayer12, hx, w139_0, f139_0, ob_s, b2_s, tc_r, tc_l, F_sF, A_sF, R_sF, L_sF, F_sA, A_sA, R_sA, L_sA, F_sR, A_sR, R_sR, L_sR, F_sL, A_sL, R_sL, L_sL, and_true, true_and, and_false, false_and, and_self, reduceIte, sF_sF, sA_sA, false_or, or_false, true_or, or_true, not_false_eq_true, not_true_eq_false, decide_true, decide_false, Bool.true_or, Bool.or_true, Bool.false_and, Bool.true_and, Bool.false_or, Bool.or_false, Bool.and_true, Bool.and_false]
  · simp (decide := true) only [fX12_about, jX12_about_28, rin, q, w139_0, f139_0, ob_s, b2_s, tc_r, tc_l, F_sF, A_sF, R_sF, L_sF, F_sA, A_sA, R_sA, L_sA, F_sR, A_sR, R_sR, L_sR, F_sL, A_sL, R_sL, L_sL, and_true, true_and, and_false, false_and, and_self, reduceIte, sF_sF, sA_sA, false_or, or_false, true_or, or_true, not_false_eq_true, not_true_eq_false, decide_true, decide_false, Bool.true_or, Bool.or_true, Bool.false_and, Bool.true_and, Bool.false_or, Bool.or_false, Bool.and_true, Bool.and_false]
theorem setting4 {s : e_S} {g : ps_G} {b w h l k : Nat} {r : Nat → Int32} (hL : LyN g b w h l r) (hk : 10 ≤ k) (hk2 : k ≤ 15) : fX4_setting (e_g s g) b (Int32.ofNat k) = some (r (k + 1)) := by
  obtain ⟨y1, y2, p, q, x0, y0, x1, yy1, pa, ma, y3, z1, z2, z3, z4, z5, z6, z7, z8, z9, z10, z11, z12, z13, z14⟩ := hL
  have F := fun k x (hx : _) => d_fI (s := s) (k := k) (x := x) y1 y3 hx
  have f1 := F 1 (r 1) rfl
  have f9 := F 9 p rfl
  have f10 := F 10 q rfl
  have f11 := F 11 x0 rfl
  have f12 := F 12 y0 rfl
  have f13 := F 13 x1 rfl
  have f14 := F 14 yy1 rfl
  have hc : k = 10 ∨ k = 11 ∨ k = 12 ∨ k = 13 ∨ k = 14 ∨ k = 15 := by omega
  by_cases a2 : r 1 < 2
  · have n3 : ¬ r 1 = 3 := by intro e; rw [e] at a2; exact absurd a2 (by decide)
    rw [if_pos a2] at z8
    rw [if_neg n3] at z9
    rcases hc with rfl | rfl | rfl | rfl | rfl | rfl
    · simp (decide := true) only [fX4_setting, jX4_setting_22, f1, a2, z8.1, ob_s, b2_s, tc_r, tc_l, F_sF, A_sF, R_sF, L_sF, F_sA, A_sA, R_sA, L_sA, F_sR, A_sR, R_sR, L_sR, F_sL, A_sL, R_sL, L_sL, and_true, true_and, and_false, false_and, and_self, reduceIte, sF_sF, sA_sA, false_or, or_false, true_or, or_true, not_false_eq_true, not_true_eq_false, decide_true, decide_false, Bool.true_or, Bool.or_true, Bool.false_and, Bool.true_and, Bool.false_or, Bool.or_false, Bool.and_true, Bool.and_false]
    · simp (decide := true) only [fX4_setting, jX4_setting_22, f1, a2, z8.2, ob_s, b2_s, tc_r, tc_l, F_sF, A_sF, R_sF, L_sF, F_sA, A_sA, R_sA, L_sA, F_sR, A_sR, R_sR, L_sR, F_sL, A_sL, R_sL, L_sL, and_true, true_and, and_false, false_and, and_self, reduceIte, sF_sF, sA_sA, false_or, or_false, true_or, or_true, not_false_eq_true, not_true_eq_false, decide_true, decide_false, Bool.true_or, Bool.or_true, Bool.false_and, Bool.true_and, Bool.false_or, Bool.or_false, Bool.and_true, Bool.and_false]
    · simp (decide := true) only [fX4_setting, jX4_setting_22, f1, a2, z9.1, ob_s, b2_s, tc_r, tc_l, F_sF, A_sF, R_sF, L_sF, F_sA, A_sA, R_sA, L_sA, F_sR, A_sR, R_sR, L_sR, F_sL, A_sL, R_sL, L_sL, and_true, true_and, and_false, false_and, and_self, reduceIte, sF_sF, sA_sA, false_or, or_false, true_or, or_true, not_false_eq_true, not_true_eq_false, decide_true, decide_false, Bool.true_or, Bool.or_true, Bool.false_and, Bool.true_and, Bool.false_or, Bool.or_false, Bool.and_true, Bool.and_false]
    · simp (decide := true) only [fX4_setting, jX4_setting_22, f1, a2, z9.2.1, ob_s, b2_s, tc_r, tc_l, F_sF, A_sF, R_sF, L_sF, F_sA, A_sA, R_sA, L_sA, F_sR, A_sR, R_sR, L_sR, F_sL, A_sL, R_sL, L_sL, and_true, true_and, and_false, false_and, and_self, reduceIte, sF_sF, sA_sA, false_or, or_false, true_or, or_true, not_false_eq_true, not_true_eq_false, decide_true, decide_false, Bool.true_or, Bool.or_true, Bool.false_and, Bool.true_and, Bool.false_or, Bool.or_false, Bool.and_true, Bool.and_false]
    · simp (decide := true) only [fX4_setting, jX4_setting_22, f1, a2, z9.2.2.1, ob_s, b2_s, tc_r, tc_l, F_sF, A_sF, R_sF, L_sF, F_sA, A_sA, R_sA, L_sA, F_sR, A_sR, R_sR, L_sR, F_sL, A_sL, R_sL, L_sL, and_true, true_and, and_false, false_and, and_self, reduceIte, sF_sF, sA_sA, false_or, or_false, true_or, or_true, not_false_eq_true, not_true_eq_false, decide_true, decide_false, Bool.true_or, Bool.or_true, Bool.false_and, Bool.true_and, Bool.false_or, Bool.or_false, Bool.and_true, Bool.and_false]
    · simp (decide := true) only [fX4_setting, jX4_setting_22, f1, a2, z9.2.2.2, ob_s, b2_s, tc_r, tc_l, F_sF, A_sF, R_sF, L_sF, F_sA, A_sA, R_sA, L_sA, F_sR, A_sR, R_sR, L_sR, F_sL, A_sL, R_sL, L_sL, and_true, true_and, and_false, false_and, and_self, reduceIte, sF_sF, sA_sA, false_or, or_false, true_or, or_true, not_false_eq_true, not_true_eq_false, decide_true, decide_false, Bool.true_or, Bool.or_true, Bool.false_and, Bool.true_and, Bool.false_or, Bool.or_false, Bool.and_true, Bool.and_false]
  · rw [if_neg a2] at z8
    by_cases n3 : r 1 = 3
    · rw [if_pos n3] at z9
      have n2 : ¬ (3 : Int32) < 2 := by decide
      rcases hc with rfl | rfl | rfl | rfl | rfl | rfl
      · show fX4_setting (e_g s g) b 10 = _
        simp (decide := true) only [fX4_setting, jX4_setting_24, f1, n3, n2, f9, z8.1, ob_s, b2_s, tc_r, tc_l, F_sF, A_sF, R_sF, L_sF, F_sA, A_sA, R_sA, L_sA, F_sR, A_sR, R_sR, L_sR, F_sL, A_sL, R_sL, L_sL, and_true, true_and, and_false, false_and, and_self, reduceIte, sF_sF, sA_sA, false_or, or_false, true_or, or_true, not_false_eq_true, not_true_eq_false, decide_true, decide_false, Bool.true_or, Bool.or_true, Bool.false_and, Bool.true_and, Bool.false_or, Bool.or_false, Bool.and_true, Bool.and_false]
      · show fX4_setting (e_g s g) b 11 = _
        simp (decide := true) only [fX4_setting, jX4_setting_24, f1, n3, n2, f10, z8.2.1, ob_s, b2_s, tc_r, tc_l, F_sF, A_sF, R_sF, L_sF, F_sA, A_sA, R_sA, L_sA, F_sR, A_sR, R_sR, L_sR, F_sL, A_sL, R_sL, L_sL, and_true, true_and, and_false, false_and, and_self, reduceIte, sF_sF, sA_sA, false_or, or_false, true_or, or_true, not_false_eq_true, not_true_eq_false, decide_true, decide_false, Bool.true_or, Bool.or_true, Bool.false_and, Bool.true_and, Bool.false_or, Bool.or_false, Bool.and_true, Bool.and_false]
      · show fX4_setting (e_g s g) b 12 = _
        simp (decide := true) only [fX4_setting, jX4_setting_24, f1, n3, n2, f11, z9.1, ob_s, b2_s, tc_r, tc_l, F_sF, A_sF, R_sF, L_sF, F_sA, A_sA, R_sA, L_sA, F_sR, A_sR, R_sR, L_sR, F_sL, A_sL, R_sL, L_sL, and_true, true_and, and_false, false_and, and_self, reduceIte, sF_sF, sA_sA, false_or, or_false, true_or, or_true, not_false_eq_true, not_true_eq_false, decide_true, decide_false, Bool.true_or, Bool.or_true, Bool.false_and, Bool.true_and, Bool.false_or, Bool.or_false, Bool.and_true, Bool.and_false]
      · show fX4_setting (e_g s g) b 13 = _
        simp (decide := true) only [fX4_setting, jX4_setting_24, f1, n3, n2, f12, z9.2.1, ob_s, b2_s, tc_r, tc_l, F_sF, A_sF, R_sF, L_sF, F_sA, A_sA, R_sA, L_sA, F_sR, A_sR, R_sR, L_sR, F_sL, A_sL, R_sL, L_sL, and_true, true_and, and_false, false_and, and_self, reduceIte, sF_sF, sA_sA, false_or, or_false, true_or, or_true, not_false_eq_true, not_true_eq_false, decide_true, decide_false, Bool.true_or, Bool.or_true, Bool.false_and, Bool.true_and, Bool.false_or, Bool.or_false, Bool.and_true, Bool.and_false]
      · show fX4_setting (e_g s g) b 14 = _
        simp (decide := true) only [fX4_setting, jX4_setting_24, f1, n3, n2, f13, z9.2.2.1, ob_s, b2_s, tc_r, tc_l, F_sF, A_sF, R_sF, L_sF, F_sA, A_sA, R_sA, L_sA, F_sR, A_sR, R_sR, L_sR, F_sL, A_sL, R_sL, L_sL, and_true, true_and, and_false, false_and, and_self, reduceIte, sF_sF, sA_sA, false_or, or_false, true_or, or_true, not_false_eq_true, not_true_eq_false, decide_true, decide_false, Bool.true_or, Bool.or_true, Bool.false_and, Bool.true_and, Bool.false_or, Bool.or_false, Bool.and_true, Bool.and_false]
      · show fX4_setting (e_g s g) b 15 = _
        simp (decide := true) only [fX4_setting, jX4_setting_24, f1, n3, n2, f14, z9.2.2.2.1, ob_s, b2_s, tc_r, tc_l, F_sF, A_sF, R_sF, L_sF, F_sA, A_sA, R_sA, L_sA, F_sR, A_sR, R_sR, L_sR, F_sL, A_sL, R_sL, L_sL, and_true, true_and, and_false, false_and, and_self, reduceIte, sF_sF, sA_sA, false_or, or_false, true_or, or_true, not_false_eq_true, not_true_eq_false, decide_true, decide_false, Bool.true_or, Bool.or_true, Bool.false_and, Bool.true_and, Bool.false_or, Bool.or_false, Bool.and_true, Bool.and_false]
    · rw [if_neg n3] at z9
      rcases hc with rfl | rfl | rfl | rfl | rfl | rfl
      · show fX4_setting (e_g s g) b 10 = _
        simp (decide := true) only [fX4_setting, jX4_setting_24, f1, a2, n3, f9, z8.1, ob_s, b2_s, tc_r, tc_l, F_sF, A_sF, R_sF, L_sF, F_sA, A_sA, R_sA, L_sA, F_sR, A_sR, R_sR, L_sR, F_sL, A_sL, R_sL, L_sL, and_true, true_and, and_false, false_and, and_self, reduceIte, sF_sF, sA_sA, false_or, or_false, true_or, or_true, not_false_eq_true, not_true_eq_false, decide_true, decide_false, Bool.true_or, Bool.or_true, Bool.false_and, Bool.true_and, Bool.false_or, Bool.or_false, Bool.and_true, Bool.and_false]
      · show fX4_setting (e_g s g) b 11 = _
        simp (decide := true) only [fX4_setting, jX4_setting_24, f1, a2, n3, f10, z8.2.1, ob_s, b2_s, tc_r, tc_l, F_sF, A_sF, R_sF, L_sF, F_sA, A_sA, R_sA, L_sA, F_sR, A_sR, R_sR, L_sR, F_sL, A_sL, R_sL, L_sL, and_true, true_and, and_false, false_and, and_self, reduceIte, sF_sF, sA_sA, false_or, or_false, true_or, or_true, not_false_eq_true, not_true_eq_false, decide_true, decide_false, Bool.true_or, Bool.or_true, Bool.false_and, Bool.true_and, Bool.false_or, Bool.or_false, Bool.and_true, Bool.and_false]
      · show fX4_setting (e_g s g) b 12 = _
        simp (decide := true) only [fX4_setting, jX4_setting_22, f1, a2, n3, z9.1, ob_s, b2_s, tc_r, tc_l, F_sF, A_sF, R_sF, L_sF, F_sA, A_sA, R_sA, L_sA, F_sR, A_sR, R_sR, L_sR, F_sL, A_sL, R_sL, L_sL, and_true, true_and, and_false, false_and, and_self, reduceIte, sF_sF, sA_sA, false_or, or_false, true_or, or_true, not_false_eq_true, not_true_eq_false, decide_true, decide_false, Bool.true_or, Bool.or_true, Bool.false_and, Bool.true_and, Bool.false_or, Bool.or_false, Bool.and_true, Bool.and_false]
      · show fX4_setting (e_g s g) b 13 = _
        simp (decide := true) only [fX4_setting, jX4_setting_22, f1, a2, n3, z9.2.1, ob_s, b2_s, tc_r, tc_l, F_sF, A_sF, R_sF, L_sF, F_sA, A_sA, R_sA, L_sA, F_sR, A_sR, R_sR, L_sR, F_sL, A_sL, R_sL, L_sL, and_true, true_and, and_false, false_and, and_self, reduceIte, sF_sF, sA_sA, false_or, or_false, true_or, or_true, not_false_eq_true, not_true_eq_false, decide_true, decide_false, Bool.true_or, Bool.or_true, Bool.false_and, Bool.true_and, Bool.false_or, Bool.or_false, Bool.and_true, Bool.and_false]
      · show fX4_setting (e_g s g) b 14 = _
        simp (decide := true) only [fX4_setting, jX4_setting_22, f1, a2, n3, z9.2.2.1, ob_s, b2_s, tc_r, tc_l, F_sF, A_sF, R_sF, L_sF, F_sA, A_sA, R_sA, L_sA, F_sR, A_sR, R_sR, L_sR, F_sL, A_sL, R_sL, L_sL, and_true, true_and, and_false, false_and, and_self, reduceIte, sF_sF, sA_sA, false_or, or_false, true_or, or_true, not_false_eq_true, not_true_eq_false, decide_true, decide_false, Bool.true_or, Bool.or_true, Bool.false_and, Bool.true_and, Bool.false_or, Bool.or_false, Bool.and_true, Bool.and_false]
      · show fX4_setting (e_g s g) b 15 = _
        simp (decide := true) only [fX4_setting, jX4_setting_22, f1, a2, n3, z9.2.2.2, ob_s, b2_s, tc_r, tc_l, F_sF, A_sF, R_sF, L_sF, F_sA, A_sA, R_sA, L_sA, F_sR, A_sR, R_sR, L_sR, F_sL, A_sL, R_sL, L_sL, and_true, true_and, and_false, false_and, and_self, reduceIte, sF_sF, sA_sA, false_or, or_false, true_or, or_true, not_false_eq_true, not_true_eq_false, decide_true, decide_false, Bool.true_or, Bool.or_true, Bool.false_and, Bool.true_and, Bool.false_or, Bool.or_false, Bool.and_true, Bool.and_false]
theorem b01 {v : Int32} (h : v = 0 ∨ v = 1) : (if v = 0 then (0 : Int32) else 1) = v := by
  rcases h with e | e <;> rw [e] <;> decide
theorem K_about {s : e_S} {g : ps_G} {x what : Int32} (hR : Rel s g) : KI (fL_about (e_g s g) 8 x what 194) (fun G => fX12_about G 139 x what) g := by
  have hg := rel_g hR
  obtain ⟨h1, h2, h3, h4, h5, h6, ⟨w, h, h7, h8, h9⟩, h10, h11⟩ := id hR
  obtain ⟨a, st, pc, uc, f1, f2, f3, f4, f5, f6, f7, f8, f9, f10, f11, f12⟩ := h9
  have hm0 := fun s' g => about12 (s := s') (g := g) (x := x) (what := what)
  by_cases q : rg what 0 15
  · rcases known11 (x := x) hg f3 f9 with ⟨k1, k2⟩ | ⟨l, b, rfl, hl, k1, k3, k2, hLy⟩
    · refine KI_no (E := "java/util/NoSuchElementException") (y := 2) hR ?_ (by decide +kernel) (by decide) ((hm0 _ _).trans ((if_pos q).trans (if_neg (by rw [k1]; decide))))
      simp (decide := true) only [fX11_about, rng hg, q, ob8, k2, ob_s, b2_s, tc_r, tc_l, F_sF, A_sF, R_sF, L_sF, F_sA, A_sA, R_sA, L_sA, F_sR, A_sR, R_sR, L_sR, F_sL, A_sL, R_sL, L_sL, and_true, true_and, and_false, false_and, and_self, reduceIte, sF_sF, sA_sA, false_or, or_false, true_or, or_true, not_false_eq_true, not_true_eq_false, decide_true, decide_false, Bool.true_or, Bool.or_true, Bool.false_and, Bool.true_and, Bool.false_or, Bool.or_false, Bool.and_true, Bool.and_false]
    · obtain ⟨k, rfl, hk⟩ : ∃ k : Nat, what = Int32.ofNat k ∧ k ≤ 15 := by
        have z := rg_i.mp q
        have z1 : 0 ≤ what.toInt := z.1
        have z2 : what.toInt ≤ 15 := z.2
        exact ⟨what.toInt.toNat, n_of (by omega), by omega⟩
      obtain ⟨la, oa, sz, ly, od, o, hS⟩ := stN_d f9
      have hb : ly l = some b := by
        obtain ⟨b', e1, e2⟩ := hS.ly hl k3
        have hf := find9 (s := s) (x := Int32.ofNat l) hS.2.1 hS.2.2.2.1 hS.2.2.2.2.2.2.2.2.2.1 hS.2.2.2.2.2.2.2.2.2.2.1
        rw [n_int (by omega), if_pos (by omega), Int.toNat_natCast, e1] at hf
        have n0 : ¬ (some b' = none) := nofun
        simp (decide := true) only [fX11_known, f8_0, f3, hS.ob, hf, n0, ob_s, b2_s, tc_r, tc_l, F_sF, A_sF, R_sF, L_sF, F_sA, A_sA, R_sA, L_sA, F_sR, A_sR, R_sR, L_sR, F_sL, A_sL, R_sL, L_sL, and_true, true_and, and_false, false_and, and_self, reduceIte, sF_sF, sA_sA, false_or, or_false, true_or, or_true, not_false_eq_true, not_true_eq_false, decide_true, decide_false, Bool.true_or, Bool.or_true, Bool.false_and, Bool.true_and, Bool.false_or, Bool.or_false, Bool.and_true, Bool.and_false] at k2
        rw [e1]
        have := Option.some.inj k2
        have := (Prod.mk.inj this).1
        exact Sum.inr.inj this
      have hcl : fX11_about (e_g s g) 8 (Int32.ofNat l) (Int32.ofNat k) = some (.inr (if Int32.ofNat k = 9 then Int32.ofNat (cnt (chL (s.2.1 142) (Int32.ofNat l)) 30) else s.2.1 142 (1169 * l + (k + 1))), e_g s g) := by
        have pl := placeOf9 (s := s) hS hl k3 hb
        have st := setting4 (s := s) (k := k) hLy
        obtain ⟨y1, y2, p, q', x0, y0, x1, yy1, pa, ma, y3, z1, z2, z3, z4, z5, -⟩ := id hLy
        have F := fun k x (hx : _) => d_fI (s := s) (k := k) (x := x) y1 y3 hx
        have ob4 : q_ob 4 (e_g s g) b = some () := d_ob y1 y3
        have e : ∀ j, lR (s.2.1 142) l j = s.2.1 142 (1169 * l + j) := fun j => rfl
        by_cases hk10 : k < 10
        · have hc : k = 0 ∨ k = 1 ∨ k = 2 ∨ k = 3 ∨ k = 4 ∨ k = 5 ∨ k = 6 ∨ k = 7 ∨ k = 8 ∨ k = 9 := by omega
          rcases hc with rfl | rfl | rfl | rfl | rfl | rfl | rfl | rfl | rfl | rfl
          · have q : rg 0 0 15 = true := q
            show fX11_about (e_g s g) 8 (Int32.ofNat l) 0 = _
            simp (decide := true) only [fX11_about, rng hg, q, ob8, k2, F 1 _ rfl, e, ob_s, b2_s, tc_r, tc_l, F_sF, A_sF, R_sF, L_sF, F_sA, A_sA, R_sA, L_sA, F_sR, A_sR, R_sR, L_sR, F_sL, A_sL, R_sL, L_sL, and_true, true_and, and_false, false_and, and_self, reduceIte, sF_sF, sA_sA, false_or, or_false, true_or, or_true, not_false_eq_true, not_true_eq_false, decide_true, decide_false, Bool.true_or, Bool.or_true, Bool.false_and, Bool.true_and, Bool.false_or, Bool.or_false, Bool.and_true, Bool.and_false]
          · have q : rg 1 0 15 = true := q
            show fX11_about (e_g s g) 8 (Int32.ofNat l) 1 = _
            simp (decide := true) only [fX11_about, rng hg, q, ob8, k2, F 2 _ rfl, e, ob_s, b2_s, tc_r, tc_l, F_sF, A_sF, R_sF, L_sF, F_sA, A_sA, R_sA, L_sA, F_sR, A_sR, R_sR, L_sR, F_sL, A_sL, R_sL, L_sL, and_true, true_and, and_false, false_and, and_self, reduceIte, sF_sF, sA_sA, false_or, or_false, true_or, or_true, not_false_eq_true, not_true_eq_false, decide_true, decide_false, Bool.true_or, Bool.or_true, Bool.false_and, Bool.true_and, Bool.false_or, Bool.or_false, Bool.and_true, Bool.and_false]
          · have q : rg 2 0 15 = true := q
            show fX11_about (e_g s g) 8 (Int32.ofNat l) 2 = _
            simp (decide := true) only [fX11_about, rng hg, q, ob8, k2, f8_0, f3, hS.ob, pl, e, ob_s, b2_s, tc_r, tc_l, F_sF, A_sF, R_sF, L_sF, F_sA, A_sA, R_sA, L_sA, F_sR, A_sR, R_sR, L_sR, F_sL, A_sL, R_sL, L_sL, and_true, true_and, and_false, false_and, and_self, reduceIte, sF_sF, sA_sA, false_or, or_false, true_or, or_true, not_false_eq_true, not_true_eq_false, decide_true, decide_false, Bool.true_or, Bool.or_true, Bool.false_and, Bool.true_and, Bool.false_or, Bool.or_false, Bool.and_true, Bool.and_false]
          · have q : rg 3 0 15 = true := q
            show fX11_about (e_g s g) 8 (Int32.ofNat l) 3 = _
            simp (decide := true) only [fX11_about, rng hg, q, ob8, k2, F 3 _ rfl, e, ob_s, b2_s, tc_r, tc_l, F_sF, A_sF, R_sF, L_sF, F_sA, A_sA, R_sA, L_sA, F_sR, A_sR, R_sR, L_sR, F_sL, A_sL, R_sL, L_sL, and_true, true_and, and_false, false_and, and_self, reduceIte, sF_sF, sA_sA, false_or, or_false, true_or, or_true, not_false_eq_true, not_true_eq_false, decide_true, decide_false, Bool.true_or, Bool.or_true, Bool.false_and, Bool.true_and, Bool.false_or, Bool.or_false, Bool.and_true, Bool.and_false]
          · have q : rg 4 0 15 = true := q
            show fX11_about (e_g s g) 8 (Int32.ofNat l) 4 = _
            simp (decide := true) only [fX11_about, rng hg, q, ob8, k2, F 4 _ rfl, e, ob_s, b2_s, tc_r, tc_l, F_sF, A_sF, R_sF, L_sF, F_sA, A_sA, R_sA, L_sA, F_sR, A_sR, R_sR, L_sR, F_sL, A_sL, R_sL, L_sL, and_true, true_and, and_false, false_and, and_self, reduceIte, sF_sF, sA_sA, false_or, or_false, true_or, or_true, not_false_eq_true, not_true_eq_false, decide_true, decide_false, Bool.true_or, Bool.or_true, Bool.false_and, Bool.true_and, Bool.false_or, Bool.or_false, Bool.and_true, Bool.and_false]
          · have q : rg 5 0 15 = true := q
            show fX11_about (e_g s g) 8 (Int32.ofNat l) 5 = _
            simp (decide := true) only [fX11_about, rng hg, q, ob8, k2, F 5 _ rfl, b01 (rg01 (show rg (s.2.1 142 (1169 * l + 6)) 0 1 = true from z4)), e, ob_s, b2_s, tc_r, tc_l, F_sF, A_sF, R_sF, L_sF, F_sA, A_sA, R_sA, L_sA, F_sR, A_sR, R_sR, L_sR, F_sL, A_sL, R_sL, L_sL, and_true, true_and, and_false, false_and, and_self, reduceIte, sF_sF, sA_sA, false_or, or_false, true_or, or_true, not_false_eq_true, not_true_eq_false, decide_true, decide_false, Bool.true_or, Bool.or_true, Bool.false_and, Bool.true_and, Bool.false_or, Bool.or_false, Bool.and_true, Bool.and_false]
          · have q : rg 6 0 15 = true := q
            show fX11_about (e_g s g) 8 (Int32.ofNat l) 6 = _
            simp (decide := true) only [fX11_about, rng hg, q, ob8, k2, F 6 _ rfl, b01 (rg01 (show rg (s.2.1 142 (1169 * l + 7)) 0 1 = true from z5)), e, ob_s, b2_s, tc_r, tc_l, F_sF, A_sF, R_sF, L_sF, F_sA, A_sA, R_sA, L_sA, F_sR, A_sR, R_sR, L_sR, F_sL, A_sL, R_sL, L_sL, and_true, true_and, and_false, false_and, and_self, reduceIte, sF_sF, sA_sA, false_or, or_false, true_or, or_true, not_false_eq_true, not_true_eq_false, decide_true, decide_false, Bool.true_or, Bool.or_true, Bool.false_and, Bool.true_and, Bool.false_or, Bool.or_false, Bool.and_true, Bool.and_false]
          · have q : rg 7 0 15 = true := q
            show fX11_about (e_g s g) 8 (Int32.ofNat l) 7 = _
            simp (decide := true) only [fX11_about, rng hg, q, ob8, k2, F 7 _ rfl, e, ob_s, b2_s, tc_r, tc_l, F_sF, A_sF, R_sF, L_sF, F_sA, A_sA, R_sA, L_sA, F_sR, A_sR, R_sR, L_sR, F_sL, A_sL, R_sL, L_sL, and_true, true_and, and_false, false_and, and_self, reduceIte, sF_sF, sA_sA, false_or, or_false, true_or, or_true, not_false_eq_true, not_true_eq_false, decide_true, decide_false, Bool.true_or, Bool.or_true, Bool.false_and, Bool.true_and, Bool.false_or, Bool.or_false, Bool.and_true, Bool.and_false]
          · have q : rg 8 0 15 = true := q
            show fX11_about (e_g s g) 8 (Int32.ofNat l) 8 = _
            simp (decide := true) only [fX11_about, rng hg, q, ob8, k2, F 8 _ rfl, e, ob_s, b2_s, tc_r, tc_l, F_sF, A_sF, R_sF, L_sF, F_sA, A_sA, R_sA, L_sA, F_sR, A_sR, R_sR, L_sR, F_sL, A_sL, R_sL, L_sL, and_true, true_and, and_false, false_and, and_self, reduceIte, sF_sF, sA_sA, false_or, or_false, true_or, or_true, not_false_eq_true, not_true_eq_false, decide_true, decide_false, Bool.true_or, Bool.or_true, Bool.false_and, Bool.true_and, Bool.false_or, Bool.or_false, Bool.and_true, Bool.and_false]
          · have q : rg 9 0 15 = true := q
            show fX11_about (e_g s g) 8 (Int32.ofNat l) 9 = _
            simp (decide := true) only [fX11_about, rng hg, q, ob8, k2, f8_0, f3, hS.ob, among9 hS, ob_s, b2_s, tc_r, tc_l, F_sF, A_sF, R_sF, L_sF, F_sA, A_sA, R_sA, L_sA, F_sR, A_sR, R_sR, L_sR, F_sL, A_sL, R_sL, L_sL, and_true, true_and, and_false, false_and, and_self, reduceIte, sF_sF, sA_sA, false_or, or_false, true_or, or_true, not_false_eq_true, not_true_eq_false, decide_true, decide_false, Bool.true_or, Bool.or_true, Bool.false_and, Bool.true_and, Bool.false_or, Bool.or_false, Bool.and_true, Bool.and_false]
        · have l10 : ¬ Int32.ofNat k < 10 := by
            show ¬ Int32.ofNat k < Int32.ofNat 10
            rw [n_lt (by omega) (by omega)]; omega
          have l9 : ¬ Int32.ofNat k = 9 := by
            show ¬ Int32.ofNat k = Int32.ofNat 9
            rw [n_eq (by omega) (by omega)]; omega
          simp (decide := true) only [fX11_about, rng hg, q, ob8, k2, ob4, l10, l9, st (by omega) hk, e, ob_s, b2_s, tc_r, tc_l, F_sF, A_sF, R_sF, L_sF, F_sA, A_sA, R_sA, L_sA, F_sR, A_sR, R_sR, L_sR, F_sL, A_sL, R_sL, L_sL, and_true, true_and, and_false, false_and, and_self, reduceIte, sF_sF, sA_sA, false_or, or_false, true_or, or_true, not_false_eq_true, not_true_eq_false, decide_true, decide_false, Bool.true_or, Bool.or_true, Bool.false_and, Bool.true_and, Bool.false_or, Bool.or_false, Bool.and_true, Bool.and_false]
      refine KI_r (s2 := sF (pO s _) 139 0 0) hcl ((hm0 (pO s _) _).trans ((if_pos q).trans ((if_pos k1).trans ?_))) (by simp (decide := true) only [ob_s, b2_s, tc_r, tc_l, F_sF, A_sF, R_sF, L_sF, F_sA, A_sA, R_sA, L_sA, F_sR, A_sR, R_sR, L_sR, F_sL, A_sL, R_sL, L_sL, and_true, true_and, and_false, false_and, and_self, reduceIte, sF_sF, sA_sA, false_or, or_false, true_or, or_true, not_false_eq_true, not_true_eq_false, decide_true, decide_false, Bool.true_or, Bool.or_true, Bool.false_and, Bool.true_and, Bool.false_or, Bool.or_false, Bool.and_true, Bool.and_false]) rfl (rel_thrown (rel_out hR)) ext_rf
      rw [n_int (by omega), n_int (by omega), Int.toNat_natCast, Int.toNat_natCast]
      rfl
  · refine KI_no (E := "java/lang/IllegalArgumentException") (y := 1) hR ?_ (by decide +kernel) (by decide) ((hm0 _ _).trans (if_neg q))
    simp (decide := true) only [fX11_about, rng hg, q, ob_s, b2_s, tc_r, tc_l, F_sF, A_sF, R_sF, L_sF, F_sA, A_sA, R_sA, L_sA, F_sR, A_sR, R_sR, L_sR, F_sL, A_sL, R_sL, L_sL, and_true, true_and, and_false, false_and, and_self, reduceIte, sF_sF, sA_sA, false_or, or_false, true_or, or_true, not_false_eq_true, not_true_eq_false, decide_true, decide_false, Bool.true_or, Bool.or_true, Bool.false_and, Bool.true_and, Bool.false_or, Bool.or_false, Bool.and_true, Bool.and_false]
theorem pixel12 {s : e_S} {g : ps_G} {w h : Nat} {x i j : Int32} (hw : w ≤ 24) (hh : h ≤ 24) (e1 : s.1 139 13 = Int32.ofNat w) (e2 : s.1 139 14 = Int32.ofNat h) : fX12_pixel (e_g s g) 139 x i j = if (isL (s.2.1 142) x ∧ s.2.1 142 (1169 * x.toInt.toNat + 1) = 0) ∧ plc w h i j then some (s.2.1 142 (1169 * x.toInt.toNat + (17 + (j.toInt.toNat * w + i.toInt.toNat))), e_g (sF s 139 0 0) g) else some (0, e_g (sF s 139 0 1) g) := by
  have i0 := is12 (s := s) (g := g) (x := x) (k := 0)
  by_cases q1 : isL (s.2.1 142) x ∧ s.2.1 142 (1169 * x.toInt.toNat + 1) = 0
  · have q1' : isL (s.2.1 142) x = true ∧ s.2.1 142 (1169 * x.toInt.toNat + 1) = OfNat.ofNat 0 := q1
    by_cases q2 : plc w h i j
    · obtain ⟨l, rfl, hl, hl1⟩ := isL_n q1.1
      obtain ⟨a, b, rfl, rfl, ha, hb⟩ := plc_n q2
      have hlt := at_lt ha hb
      have hl2 := wh_le hw hh
      have ge : ∀ s' : e_S, fX12_get (e_g s' g) 139 (Int32.ofNat l) (17 + (Int32.ofNat w * Int32.ofNat b + Int32.ofNat a)) = some (s'.2.1 142 (1169 * l + (17 + (b * w + a)))) := fun s' => by
        have := get12 (s := s') (g := g) (l := l) (n := 17 + (b * w + a)) hl (by omega)
        rw [n_mul, n_add, Nat.mul_comm w b]
        show fX12_get (e_g s' g) 139 (Int32.ofNat l) (Int32.ofNat 17 + Int32.ofNat (b * w + a)) = _
        rw [n_add]; exact this
      rw [if_pos ⟨q1, q2⟩, n_int (by omega), n_int (by omega), n_int (by omega), Int.toNat_natCast, Int.toNat_natCast, Int.toNat_natCast]
      simp (decide := true) only [fX12_pixel, jX12_pixel_24, jX12_pixel_52, ob139, i0, q1', place12 hw hh e1 e2, q2, w139_0, f139_0, fX12_at, f139_13, e1, ge, ob_s, b2_s, tc_r, tc_l, F_sF, A_sF, R_sF, L_sF, F_sA, A_sA, R_sA, L_sA, F_sR, A_sR, R_sR, L_sR, F_sL, A_sL, R_sL, L_sL, and_true, true_and, and_false, false_and, and_self, reduceIte, sF_sF, sA_sA, false_or, or_false, true_or, or_true, not_false_eq_true, not_true_eq_false, decide_true, decide_false, Bool.true_or, Bool.or_true, Bool.false_and, Bool.true_and, Bool.false_or, Bool.or_false, Bool.and_true, Bool.and_false]
    · simp (decide := true) only [fX12_pixel, jX12_pixel_23, jX12_pixel_24, jX12_pixel_52, ob139, i0, q1', place12 hw hh e1 e2, q2, w139_0, f139_0, ob_s, b2_s, tc_r, tc_l, F_sF, A_sF, R_sF, L_sF, F_sA, A_sA, R_sA, L_sA, F_sR, A_sR, R_sR, L_sR, F_sL, A_sL, R_sL, L_sL, and_true, true_and, and_false, false_and, and_self, reduceIte, sF_sF, sA_sA, false_or, or_false, true_or, or_true, not_false_eq_true, not_true_eq_false, decide_true, decide_false, Bool.true_or, Bool.or_true, Bool.false_and, Bool.true_and, Bool.false_or, Bool.or_false, Bool.and_true, Bool.and_false]
  · have q1' : ¬ (isL (s.2.1 142) x = true ∧ s.2.1 142 (1169 * x.toInt.toNat + 1) = OfNat.ofNat 0) := q1
    simp (decide := true) only [fX12_pixel, jX12_pixel_23, jX12_pixel_24, jX12_pixel_52, ob139, i0, q1', q1, w139_0, f139_0, ob_s, b2_s, tc_r, tc_l, F_sF, A_sF, R_sF, L_sF, F_sA, A_sA, R_sA, L_sA, F_sR, A_sR, R_sR, L_sR, F_sL, A_sL, R_sL, L_sL, and_true, true_and, and_false, false_and, and_self, reduceIte, sF_sF, sA_sA, false_or, or_false, true_or, or_true, not_false_eq_true, not_true_eq_false, decide_true, decide_false, Bool.true_or, Bool.or_true, Bool.false_and, Bool.true_and, Bool.false_or, Bool.or_false, Bool.and_true, Bool.and_false]
/-- a LAYER's own pixel, or 0 -/
theorem own4 {s : e_S} {g : ps_G} {b w h l : Nat} {r : Nat → Int32} {i j : Int32} (hw : w ≤ 24) (hh : h ≤ 24) (hL : LyN g b w h l r) (hk : r 1 = 0) : fX4_own (e_g s g) b i j (Int32.ofNat w) (Int32.ofNat h) = some (if plc w h i j then r (17 + (j.toInt.toNat * w + i.toInt.toNat)) else 0) := by
  obtain ⟨y1, y2, p, q, x0, y0, x1, yy1, pa, ma, y3, z1, z2, z3, z4, z5, z6, z7, z8, z9, z10, z11, z12, -⟩ := hL
  obtain ⟨d1, d0, d2, f, d3, d4⟩ := z12 hk
  have f15 : q_fR 4 15 (e_g s g) b = some (some pa) := d_fR y1 y3 rfl
  have ln : q_len (e_g s g) pa = some (Int32.ofNat 576) := d_len d1 d3
  by_cases q2 : plc w h i j
  · obtain ⟨a, c, rfl, rfl, ha, hb⟩ := plc_n q2
    have hlt := at_lt ha hb
    have hl2 := wh_le hw hh
    have n1 : ¬ (Int32.ofNat a < 0 ∨ Int32.ofNat c < 0 ∨ Int32.ofNat w ≤ Int32.ofNat a ∨ Int32.ofNat h ≤ Int32.ofNat c) := by
      rw [n_le (by omega) (by omega), n_le (by omega) (by omega)]
      rintro (z | z | z | z)
      · exact n_neg (by omega) z
      · exact n_neg (by omega) z
      · omega
      · omega
    have n2 : Int32.ofNat (c * w + a) < Int32.ofNat 576 := by rw [n_lt (by omega) (by omega)]; omega
    rw [if_pos q2, n_int (by omega), n_int (by omega), Int.toNat_natCast, Int.toNat_natCast, ← d4 _ hlt]
    simp (decide := true) only [fX4_own, jX4_own_47, n1, f15, ln, n_mul, n_add, n2, d_aI d1 d3, n_in2 (show c * w + a < 576 by omega) (by decide), n_idx (show c * w + a < 2147483648 by omega), ob_s, b2_s, tc_r, tc_l, F_sF, A_sF, R_sF, L_sF, F_sA, A_sA, R_sA, L_sA, F_sR, A_sR, R_sR, L_sR, F_sL, A_sL, R_sL, L_sL, and_true, true_and, and_false, false_and, and_self, reduceIte, sF_sF, sA_sA, false_or, or_false, true_or, or_true, not_false_eq_true, not_true_eq_false, decide_true, decide_false, Bool.true_or, Bool.or_true, Bool.false_and, Bool.true_and, Bool.false_or, Bool.or_false, Bool.and_true, Bool.and_false]
  · have n1 : i < 0 ∨ j < 0 ∨ Int32.ofNat w ≤ i ∨ Int32.ofNat h ≤ j := by
      have q3 : ¬ (0 ≤ i.toInt ∧ 0 ≤ j.toInt ∧ i.toInt < w ∧ j.toInt < h) := fun z => q2 (decide_eq_true z)
      rw [i_lt, i_lt, i_le, i_le, n_int (by omega), n_int (by omega), i_0]
      omega
    simp (decide := true) only [fX4_own, jX4_own_36, jX4_own_47, n1, q2, ob_s, b2_s, tc_r, tc_l, F_sF, A_sF, R_sF, L_sF, F_sA, A_sA, R_sA, L_sA, F_sR, A_sR, R_sR, L_sR, F_sL, A_sL, R_sL, L_sL, and_true, true_and, and_false, false_and, and_self, reduceIte, sF_sF, sA_sA, false_or, or_false, true_or, or_true, not_false_eq_true, not_true_eq_false, decide_true, decide_false, Bool.true_or, Bool.or_true, Bool.false_and, Bool.true_and, Bool.false_or, Bool.or_false, Bool.and_true, Bool.and_false]
theorem K_pixel {s : e_S} {g : ps_G} {x i j : Int32} (hR : Rel s g) : KI (fL_pixel (e_g s g) 8 x i j 194) (fun G => fX12_pixel G 139 x i j) g := by
  have hg := rel_g hR
  obtain ⟨h1, h2, h3, h4, h5, h6, ⟨w, h, h7, h8, h9⟩, h10, h11⟩ := id hR
  obtain ⟨a, st, pc, uc, f1, f2, f3, f4, f5, f6, f7, f8, f9, f10, f11, f12⟩ := h9
  obtain ⟨d1, d2, d3, d4, d5, d6, d7, d8, d9⟩ := id h7
  obtain ⟨s0, s1, -, -⟩ := stW (s := s) f9
  have hm0 := fun s' g e1 e2 => pixel12 (s := s') (g := g) (x := x) (i := i) (j := j) d2 d4 e1 e2
  have e3 : ps_nw (e_g s g) 6 ps_e0 = e_g s (nx g) := e_nw hg
  rcases known11 (x := x) hg f3 f9 with ⟨k1, k2⟩ | ⟨l, b, rfl, hl, k1, k3, k2, hLy⟩
  · refine KI_no (E := "java/util/NoSuchElementException") (y := 1) hR ?_ (by decide +kernel) (by decide) ((hm0 _ _ d5 d6).trans (if_neg (by rw [k1]; exact fun z => absurd z.1.1 (by decide))))
    simp (decide := true) only [fX11_pixel, fX11_selectable, ob8, k2, ob_s, b2_s, tc_r, tc_l, F_sF, A_sF, R_sF, L_sF, F_sA, A_sA, R_sA, L_sA, F_sR, A_sR, R_sR, L_sR, F_sL, A_sL, R_sL, L_sL, and_true, true_and, and_false, false_and, and_self, reduceIte, sF_sF, sA_sA, false_or, or_false, true_or, or_true, not_false_eq_true, not_true_eq_false, decide_true, decide_false, Bool.true_or, Bool.or_true, Bool.false_and, Bool.true_and, Bool.false_or, Bool.or_false, Bool.and_true, Bool.and_false]
  · obtain ⟨y1, y2, p, q', x0, y0, x1, yy1, pa, ma, y3, -⟩ := id hLy
    have fk : q_fI 4 1 (e_g s g) b = some (lR (s.2.1 142) l 1) := d_fI y1 y3 rfl
    have ob4 : q_ob 4 (e_g s g) b = some () := d_ob y1 y3
    by_cases hk : lR (s.2.1 142) l 1 = 0
    · have hk' : s.2.1 142 (1169 * l + 1) = 0 := hk
      by_cases q : plc w h i j
      · have hcl : fX11_pixel (e_g s g) 8 (Int32.ofNat l) i j = some (.inr (s.2.1 142 (1169 * l + (17 + (j.toInt.toNat * w + i.toInt.toNat)))), e_g s g) := by
          have e : ∀ j, lR (s.2.1 142) l j = s.2.1 142 (1169 * l + j) := fun j => rfl
          simp (decide := true) only [fX11_pixel, fX11_selectable, ob8, k2, fk, hk, place11 hg d2 d4 f3 f9, q, f8_0, f3, s0, s1, ob4, own4 d2 d4 hLy hk, e, ob_s, b2_s, tc_r, tc_l, F_sF, A_sF, R_sF, L_sF, F_sA, A_sA, R_sA, L_sA, F_sR, A_sR, R_sR, L_sR, F_sL, A_sL, R_sL, L_sL, and_true, true_and, and_false, false_and, and_self, reduceIte, sF_sF, sA_sA, false_or, or_false, true_or, or_true, not_false_eq_true, not_true_eq_false, decide_true, decide_false, Bool.true_or, Bool.or_true, Bool.false_and, Bool.true_and, Bool.false_or, Bool.or_false, Bool.and_true, Bool.and_false]
        refine KI_r (s2 := sF (pO s _) 139 0 0) hcl ((hm0 (pO s _) _ d5 d6).trans ((if_pos ?_).trans ?_)) (by simp (decide := true) only [ob_s, b2_s, tc_r, tc_l, F_sF, A_sF, R_sF, L_sF, F_sA, A_sA, R_sA, L_sA, F_sR, A_sR, R_sR, L_sR, F_sL, A_sL, R_sL, L_sL, and_true, true_and, and_false, false_and, and_self, reduceIte, sF_sF, sA_sA, false_or, or_false, true_or, or_true, not_false_eq_true, not_true_eq_false, decide_true, decide_false, Bool.true_or, Bool.or_true, Bool.false_and, Bool.true_and, Bool.false_or, Bool.or_false, Bool.and_true, Bool.and_false]) rfl (rel_thrown (rel_out hR)) ext_rf
        · rw [n_int (by omega), Int.toNat_natCast]
          exact ⟨⟨k1, hk'⟩, q⟩
        · rw [n_int (by omega), Int.toNat_natCast]
          rfl
      · refine KI_no (E := "java/util/NoSuchElementException") (y := 1) hR ?_ (by decide +kernel) (by decide) ((hm0 _ _ d5 d6).trans (if_neg (fun z => q z.2)))
        simp (decide := true) only [fX11_pixel, fX11_selectable, ob8, k2, fk, hk, place11 hg d2 d4 f3 f9, q, ob_s, b2_s, tc_r, tc_l, F_sF, A_sF, R_sF, L_sF, F_sA, A_sA, R_sA, L_sA, F_sR, A_sR, R_sR, L_sR, F_sL, A_sL, R_sL, L_sL, and_true, true_and, and_false, false_and, and_self, reduceIte, sF_sF, sA_sA, false_or, or_false, true_or, or_true, not_false_eq_true, not_true_eq_false, decide_true, decide_false, Bool.true_or, Bool.or_true, Bool.false_and, Bool.true_and, Bool.false_or, Bool.or_false, Bool.and_true, Bool.and_false]
    · have hk' : ¬ s.2.1 142 (1169 * l + 1) = 0 := hk
      refine KI_no (E := "java/util/NoSuchElementException") (y := 1) hR ?_ (by decide +kernel) (by decide) ((hm0 _ _ d5 d6).trans (if_neg (by rw [n_int (by omega), Int.toNat_natCast]; exact fun z => hk' z.1.2)))
      simp (decide := true) only [fX11_pixel, fX11_selectable, ob8, k2, fk, hk, e3, ob_s, b2_s, tc_r, tc_l, F_sF, A_sF, R_sF, L_sF, F_sA, A_sA, R_sA, L_sA, F_sR, A_sR, R_sR, L_sR, F_sL, A_sL, R_sL, L_sL, and_true, true_and, and_false, false_and, and_self, reduceIte, sF_sF, sA_sA, false_or, or_false, true_or, or_true, not_false_eq_true, not_true_eq_false, decide_true, decide_false, Bool.true_or, Bool.or_true, Bool.false_and, Bool.true_and, Bool.false_or, Bool.or_false, Bool.and_true, Bool.and_false]
