-- needs: 07 10 13 14 20 21 22 23 24 25 26 27 32 38 39
/-! ===== an EDIT is kept ===== -/
def pcE (pc : Nat) : Nat := if pc < 24 then pc + 1 else 24
def stE (st pc : Nat) : Nat := if pc < 24 then st else (st + 1) % 25
/-- the reference's state behind edited -/
def edM (s : e_S) (st pc : Nat) : e_S := sA (sF (sF (sF s 139 10 (Int32.ofNat (stE st pc))) 139 11 (Int32.ofNat (pcE pc))) 139 12 (Int32.ofNat (pcE pc + 1))) 143 (cpT (s.2.1 143) (s.2.1 142) (35071 * ((st + pc + 1) % 25)) 35071)
theorem edited12 {s : e_S} {g : ps_G} {st pc : Nat} (h : st < 25) (h2 : pc ≤ 24) (e1 : s.1 139 10 = Int32.ofNat st) (e2 : s.1 139 11 = Int32.ofNat pc) : fX12_edited (e_g s g) 139 = some (e_g (edM s st pc) g) := by
  have c : Int32.ofNat pc = 24 ↔ ¬ pc < 24 := by
    rw [show (24 : Int32) = Int32.ofNat 24 from rfl, n_eq (by omega) (by omega)]; omega
  by_cases h0 : pc < 24
  · have p1 : pcE pc = pc + 1 := if_pos h0
    have p2 : stE st pc = st := if_pos h0
    have e9 : sF s 139 10 (Int32.ofNat st) = s := by rw [← e1, sF_id]
    simp (decide := true) only [fX12_edited, f139_11, f139_10, w139_11, w139_10, jX12_edited_35, w139_12, ob139, ob_s, b2_s, tc_r, tc_l, F_sF, A_sF, R_sF, L_sF, F_sA, A_sA, R_sA, L_sA, F_sR, A_sR, R_sR, L_sR, F_sL, A_sL, R_sL, L_sL, and_true, true_and, and_false, false_and, and_self, reduceIte, sF_sF, sA_sA, false_or, or_false, true_or, or_true, not_false_eq_true, not_true_eq_false, decide_true, decide_false, Bool.true_or, Bool.or_true, Bool.false_and, Bool.true_and, Bool.false_or, Bool.or_false, Bool.and_true, Bool.and_false, e2, c, h0, n_suc]
    rw [keep12 (st := st) (pc := pc + 1) h (by omega) (by simp (decide := true) only [ob_s, b2_s, tc_r, tc_l, F_sF, A_sF, R_sF, L_sF, F_sA, A_sA, R_sA, L_sA, F_sR, A_sR, R_sR, L_sR, F_sL, A_sL, R_sL, L_sL, and_true, true_and, and_false, false_and, and_self, reduceIte, sF_sF, sA_sA, false_or, or_false, true_or, or_true, not_false_eq_true, not_true_eq_false, decide_true, decide_false, Bool.true_or, Bool.or_true, Bool.false_and, Bool.true_and, Bool.false_or, Bool.or_false, Bool.and_true, Bool.and_false, e1]) (by simp (decide := true) only [ob_s, b2_s, tc_r, tc_l, F_sF, A_sF, R_sF, L_sF, F_sA, A_sA, R_sA, L_sA, F_sR, A_sR, R_sR, L_sR, F_sL, A_sL, R_sL, L_sL, and_true, true_and, and_false, false_and, and_self, reduceIte, sF_sF, sA_sA, false_or, or_false, true_or, or_true, not_false_eq_true, not_true_eq_false, decide_true, decide_false, Bool.true_or, Bool.or_true, Bool.false_and, Bool.true_and, Bool.false_or, Bool.or_false, Bool.and_true, Bool.and_false])]
    simp (decide := true) only [ob_s, b2_s, tc_r, tc_l, F_sF, A_sF, R_sF, L_sF, F_sA, A_sA, R_sA, L_sA, F_sR, A_sR, R_sR, L_sR, F_sL, A_sL, R_sL, L_sL, and_true, true_and, and_false, false_and, and_self, reduceIte, sF_sF, sA_sA, false_or, or_false, true_or, or_true, not_false_eq_true, not_true_eq_false, decide_true, decide_false, Bool.true_or, Bool.or_true, Bool.false_and, Bool.true_and, Bool.false_or, Bool.or_false, Bool.and_true, Bool.and_false, edM, p1, p2, e9, sA_sF, Nat.add_assoc]
  · have p0 : pc = 24 := by omega
    subst p0
    have p1 : pcE 24 = 24 := by decide
    have p2 : stE st 24 = (st + 1) % 25 := if_neg (by decide)
    have c2 : q_rem (Int32.ofNat (st + 1)) 25 = Int32.ofNat ((st + 1) % 25) := n_rem (b := 25) (by omega) (by omega)
    have e9 : ∀ v r, sF (sF (sA s 143 r) 139 10 v) 139 11 (Int32.ofNat 24) = sF (sA s 143 r) 139 10 v := by
      intro v r
      have := @sF_id (sF (sA s 143 r) 139 10 v) 139 11
      simp (decide := true) only [ob_s, b2_s, tc_r, tc_l, F_sF, A_sF, R_sF, L_sF, F_sA, A_sA, R_sA, L_sA, F_sR, A_sR, R_sR, L_sR, F_sL, A_sL, R_sL, L_sL, and_true, true_and, and_false, false_and, and_self, reduceIte, sF_sF, sA_sA, false_or, or_false, true_or, or_true, not_false_eq_true, not_true_eq_false, decide_true, decide_false, Bool.true_or, Bool.or_true, Bool.false_and, Bool.true_and, Bool.false_or, Bool.or_false, Bool.and_true, Bool.and_false] at this
      rw [e2] at this
      exact this
    simp (decide := true) only [fX12_edited, f139_11, f139_10, w139_11, w139_10, jX12_edited_35, w139_12, ob139, ob_s, b2_s, tc_r, tc_l, F_sF, A_sF, R_sF, L_sF, F_sA, A_sA, R_sA, L_sA, F_sR, A_sR, R_sR, L_sR, F_sL, A_sL, R_sL, L_sL, and_true, true_and, and_false, false_and, and_self, reduceIte, sF_sF, sA_sA, false_or, or_false, true_or, or_true, not_false_eq_true, not_true_eq_false, decide_true, decide_false, Bool.true_or, Bool.or_true, Bool.false_and, Bool.true_and, Bool.false_or, Bool.or_false, Bool.and_true, Bool.and_false, e1, e2, c, h0, n_suc, c2]
    rw [keep12 (st := (st + 1) % 25) (pc := 24) (by omega) (by omega) (by simp (decide := true) only [ob_s, b2_s, tc_r, tc_l, F_sF, A_sF, R_sF, L_sF, F_sA, A_sA, R_sA, L_sA, F_sR, A_sR, R_sR, L_sR, F_sL, A_sL, R_sL, L_sL, and_true, true_and, and_false, false_and, and_self, reduceIte, sF_sF, sA_sA, false_or, or_false, true_or, or_true, not_false_eq_true, not_true_eq_false, decide_true, decide_false, Bool.true_or, Bool.or_true, Bool.false_and, Bool.true_and, Bool.false_or, Bool.or_false, Bool.and_true, Bool.and_false]) (by simp (decide := true) only [ob_s, b2_s, tc_r, tc_l, F_sF, A_sF, R_sF, L_sF, F_sA, A_sA, R_sA, L_sA, F_sR, A_sR, R_sR, L_sR, F_sL, A_sL, R_sL, L_sL, and_true, true_and, and_false, false_and, and_self, reduceIte, sF_sF, sA_sA, false_or, or_false, true_or, or_true, not_false_eq_true, not_true_eq_false, decide_true, decide_false, Bool.true_or, Bool.or_true, Bool.false_and, Bool.true_and, Bool.false_or, Bool.or_false, Bool.and_true, Bool.and_false, e2])]
    rw [show ((st + 1) % 25 + 24) % 25 = (st + 24 + 1) % 25 by omega]
    simp (decide := true) only [ob_s, b2_s, tc_r, tc_l, F_sF, A_sF, R_sF, L_sF, F_sA, A_sA, R_sA, L_sA, F_sR, A_sR, R_sR, L_sR, F_sL, A_sL, R_sL, L_sL, and_true, true_and, and_false, false_and, and_self, reduceIte, sF_sF, sA_sA, false_or, or_false, true_or, or_true, not_false_eq_true, not_true_eq_false, decide_true, decide_false, Bool.true_or, Bool.or_true, Bool.false_and, Bool.true_and, Bool.false_or, Bool.or_false, Bool.and_true, Bool.and_false, edM, p1, p2, e9, sA_sF]
/-- the row of the past, one more in it -/
def rmR (pc a : Nat) (f : Nat → Option Nat) : Nat → Option Nat := if pc < 24 then rs f pc (some a) else rs (fun i => if i < 23 then f (i + 1) else f i) 23 (some a)
def sRr (s : e_S) (j : Nat) (r : Nat → Option Nat) : e_S := (s.1, s.2.1, rs s.2.2.1 j r, s.2.2.2)
theorem F_sRr {s : e_S} {j : Nat} {r : Nat → Option Nat} : (sRr s j r).1 = s.1 := by obtain ⟨x1, x2, x3, x4⟩ := s; rfl
theorem A_sRr {s : e_S} {j : Nat} {r : Nat → Option Nat} : (sRr s j r).2.1 = s.2.1 := by obtain ⟨x1, x2, x3, x4⟩ := s; rfl
theorem R_sRr {s : e_S} {j a : Nat} {r : Nat → Option Nat} : (sRr s j r).2.2.1 a = if a = j then r else s.2.2.1 a := by obtain ⟨x1, x2, x3, x4⟩ := s; rfl
theorem L_sRr {s : e_S} {j : Nat} {r : Nat → Option Nat} : (sRr s j r).2.2.2 = s.2.2.2 := by obtain ⟨x1, x2, x3, x4⟩ := s; rfl
theorem sR_sRr {s : e_S} {j k : Nat} {r : Nat → Option Nat} {v : Option Nat} : sR (sRr s j r) j k v = sRr s j (rs r k v) := by
  obtain ⟨x1, x2, x3, x4⟩ := s
  show (x1, x2, rs (rs x3 j r) j (rs (rs x3 j r j) k v), x4) = (x1, x2, rs x3 j (rs r k v), x4)
  rw [rs_rs, rs_s]
theorem sRr_id {s : e_S} {j : Nat} : sRr s j (s.2.2.1 j) = s := by
  obtain ⟨x1, x2, x3, x4⟩ := s
  show (x1, x2, rs x3 j (x3 j), x4) = _
  rw [rs_id]
/-- the class's state behind remember -/
def rmC (s : e_S) (a b pc : Nat) : e_S := sR (sF (sF (sRr s 12 (rmR pc a (s.2.2.1 12))) 8 2 (Int32.ofNat (pcE pc))) 8 4 0) 8 0 (some b)
theorem remember11 {s : e_S} {g : ps_G} {a b pc : Nat} {fs : List Value} (ha : e_fr a) (hc : g.2.2 a = .inr (9, fs)) (e0 : s.2.2.1 8 0 = some a) (e1 : s.1 8 2 = Int32.ofNat pc) (h2 : pc ≤ 24) (hp : ∀ i, i < pc → ∃ c fs', s.2.2.1 12 i = some c ∧ e_fr c ∧ g.2.2 c = .inr (9, fs')) : fX11_remember (e_g s g) 8 b = some (e_g (rmC s a b pc) g) := by
  have q3 := fun s i => e_wR (s := s) (i := i) t12 ha hc
  have c : Int32.ofNat pc < 24 ↔ pc < 24 := by
    show Int32.ofNat pc < Int32.ofNat 24 ↔ _
    rw [n_lt (by omega) (by omega)]
  by_cases h0 : pc < 24
  · have p1 : pcE pc = pc + 1 := if_pos h0
    have p2 : sRr s 12 (rmR pc a (s.2.2.1 12)) = sR s 12 pc (some a) := by
      have := @sR_sRr s 12 pc (s.2.2.1 12) (some a)
      rw [sRr_id] at this
      rw [this]; unfold rmR; rw [if_pos h0]
    simp (decide := true) only [fX11_remember, f8_2, w8_2, jX11_remember_43, f8_1, f8_0, w8_4, w8_0, ob_s, b2_s, tc_r, tc_l, F_sF, A_sF, R_sF, L_sF, F_sA, A_sA, R_sA, L_sA, F_sR, A_sR, R_sR, L_sR, F_sL, A_sL, R_sL, L_sL, and_true, true_and, and_false, false_and, and_self, reduceIte, sF_sF, sA_sA, false_or, or_false, true_or, or_true, not_false_eq_true, not_true_eq_false, decide_true, decide_false, Bool.true_or, Bool.or_true, Bool.false_and, Bool.true_and, Bool.false_or, Bool.or_false, Bool.and_true, Bool.and_false, e1, c, h0, e0, q3, n_in2 h0 (by decide), n_idx (show pc < 2147483648 by omega), n_suc, rmC, p1, p2]
  · have p0 : pc = 24 := by omega
    subst p0
    have hl : q_lp (fun t => bX11_remember_11 8 b t.1 t.2) ((1 : Int32), e_g s g) = some (e_g (sRr s 12 (fun k => if k < 23 then s.2.2.1 12 (k + 1) else s.2.2.1 12 k)) g) := by
      refine lp_0 (fun i => (Int32.ofNat (i + 1), e_g (sRr s 12 (fun k => if k < i then s.2.2.1 12 (k + 1) else s.2.2.1 12 k)) g)) 23 ?_ (fun i hi => ?_) ?_
      · have : (fun k => if k < 0 then s.2.2.1 12 (k + 1) else s.2.2.1 12 k) = s.2.2.1 12 := by funext k; rw [if_neg (by omega)]
        rw [this, sRr_id]; rfl
      · have c1 : ¬ (24 : Int32) ≤ Int32.ofNat (i + 1) := by
          show ¬ Int32.ofNat 24 ≤ Int32.ofNat (i + 1)
          rw [n_le (by omega) (by omega)]; omega
        obtain ⟨d, fs', d1, d2, d3⟩ := hp (i + 1) (by omega)
        have q4 := fun s i => e_wR (s := s) (i := i) t12 d2 d3
        have c2 : Int32.ofNat (i + 1) - 1 = Int32.ofNat i := n_sub (b := 1) (by omega) (by omega)
        have d4 : rs (fun k => if k < i then s.2.2.1 12 (k + 1) else s.2.2.1 12 k) i (some d) = fun k => if k < i + 1 then s.2.2.1 12 (k + 1) else s.2.2.1 12 k := by
          funext k
          unfold rs
          by_cases z : k = i
          · rw [if_pos z, if_pos (by omega), z, d1]
          · rw [if_neg z]
            show (if k < i then s.2.2.1 12 (k + 1) else s.2.2.1 12 k) = _
            by_cases z2 : k < i
            · rw [if_pos z2, if_pos (by omega)]
            · rw [if_neg z2, if_neg (by omega)]
        simp (decide := true) only [bX11_remember_11, f8_1, a12, ob_s, b2_s, tc_r, tc_l, F_sF, A_sF, R_sF, L_sF, F_sA, A_sA, R_sA, L_sA, F_sR, A_sR, R_sR, L_sR, F_sL, A_sL, R_sL, L_sL, and_true, true_and, and_false, false_and, and_self, reduceIte, sF_sF, sA_sA, false_or, or_false, true_or, or_true, not_false_eq_true, not_true_eq_false, decide_true, decide_false, Bool.true_or, Bool.or_true, Bool.false_and, Bool.true_and, Bool.false_or, Bool.or_false, Bool.and_true, Bool.and_false, c1, R_sRr, n_in2 (show i + 1 < 24 by omega) (by decide), n_idx (show i + 1 < 2147483648 by omega), show ¬ i + 1 < i by omega, d1, c2, q4, n_in2 (show i < 24 by omega) (by decide), n_idx (show i < 2147483648 by omega), sR_sRr, d4, n_suc]
      · simp (decide := true) only [bX11_remember_11, f8_1, a12, ob_s, b2_s, tc_r, tc_l, F_sF, A_sF, R_sF, L_sF, F_sA, A_sA, R_sA, L_sA, F_sR, A_sR, R_sR, L_sR, F_sL, A_sL, R_sL, L_sL, and_true, true_and, and_false, false_and, and_self, reduceIte, sF_sF, sA_sA, false_or, or_false, true_or, or_true, not_false_eq_true, not_true_eq_false, decide_true, decide_false, Bool.true_or, Bool.or_true, Bool.false_and, Bool.true_and, Bool.false_or, Bool.or_false, Bool.and_true, Bool.and_false]
    have p1 : pcE 24 = 24 := by decide
    have p3 : rmR 24 a (s.2.2.1 12) = rs (fun k => if k < 23 then s.2.2.1 12 (k + 1) else s.2.2.1 12 k) 23 (some a) := if_neg (by decide)
    have z23 : ¬ ((23 : Int32) < 0 ∨ 24 ≤ (23 : Int32).toNatClampNeg) := by decide
    have i23 : (23 : Int32).toNatClampNeg = 23 := by decide
    have s24 : (23 : Int32) + 1 = Int32.ofNat 24 := by decide
    have cm : ∀ (s' : e_S) (r : Nat → Option Nat) (v : Int32) (k : Nat) (o : Option Nat), sR (sF (sRr s' 12 r) 8 2 v) 12 k o = sF (sRr s' 12 (rs r k o)) 8 2 v := by
      intro s' r v k o
      have := @sR_sRr s' 12 k r o
      obtain ⟨x1, x2, x3, x4⟩ := s'
      show (_, x2, rs (rs x3 12 r) 12 (rs (rs x3 12 r 12) k o), x4) = (_, x2, rs x3 12 (rs r k o), x4)
      rw [rs_rs, rs_s]; rfl
    simp (decide := true) only [fX11_remember, f8_2, w8_2, jX11_remember_43, f8_1, f8_0, w8_4, w8_0, ob_s, b2_s, tc_r, tc_l, F_sF, A_sF, R_sF, L_sF, F_sA, A_sA, R_sA, L_sA, F_sR, A_sR, R_sR, L_sR, F_sL, A_sL, R_sL, L_sL, and_true, true_and, and_false, false_and, and_self, reduceIte, sF_sF, sA_sA, false_or, or_false, true_or, or_true, not_false_eq_true, not_true_eq_false, decide_true, decide_false, Bool.true_or, Bool.or_true, Bool.false_and, Bool.true_and, Bool.false_or, Bool.or_false, Bool.and_true, Bool.and_false, e1, c, h0, hl, F_sRr, R_sRr, e0, q3, z23, i23, cm, s24, rmC, p1, p3]
/-- EDITS are kept alike -/
theorem G10_edit {s s' : e_S} {g g' : ps_G} {w h a b st pc uc : Nat} (hwh : w * h ≤ 576) (hE : Ext g g') (f1 : st < 25) (f2 : pc + uc ≤ 24) (f9 : StN g a w h (s.2.1 142)) (f10 : ∀ k, k < 35071 → s.2.1 143 (35071 * ((st + pc) % 25) + k) = s.2.1 142 k) (f11 : ∀ i, i < pc → ∃ b, s.2.2.1 12 i = some b ∧ StN g b w h (kp (s.2.1 143) st i)) (hN : StN g' b w h (s'.2.1 142)) (r0 : s'.2.2.1 8 0 = some b) (r1 : s'.2.2.1 12 = rmR pc a (s.2.2.1 12)) (e1 : s'.1 8 2 = Int32.ofNat (pcE pc)) (e2 : s'.1 8 4 = 0) (e3 : s'.1 139 10 = Int32.ofNat (stE st pc)) (e4 : s'.1 139 11 = Int32.ofNat (pcE pc)) (e5 : s'.1 139 12 = Int32.ofNat (pcE pc + 1)) (k : s'.2.1 143 = cpT (s.2.1 143) (s'.2.1 142) (35071 * ((st + pc + 1) % 25)) 35071) : G10 s' g' w h := by
  have hst : stE st pc < 25 := by unfold stE; split <;> omega
  have hpc : pcE pc ≤ 24 := by unfold pcE; split <;> omega
  have hx : (stE st pc + pcE pc) % 25 = (st + pc + 1) % 25 := by unfold stE pcE; split <;> omega
  refine ⟨b, stE st pc, pcE pc, 0, hst, by omega, r0, e1, e2, e3, e4, by rw [e5], hN, fun i hi => ?_, fun i hi => ?_, fun i hi => absurd hi (by omega)⟩
  · rw [k, hx, cpT_in hi]
  · have hne : (stE st pc + i) % 25 ≠ (st + pc + 1) % 25 := by unfold stE; unfold pcE at hi; split at hi <;> split <;> omega
    have hkp : ∀ j, j < 35071 → kp (s'.2.1 143) (stE st pc) i j = s.2.1 143 (35071 * ((stE st pc + i) % 25) + j) := by
      intro j hj
      show s'.2.1 143 (35071 * ((stE st pc + i) % 25) + j) = _
      rw [k, cpT_out (by omega)]
    by_cases h0 : pc < 24
    · have p1 : pcE pc = pc + 1 := if_pos h0
      have p2 : stE st pc = st := if_pos h0
      rw [p2] at hkp ⊢
      rw [r1]
      unfold rmR
      rw [if_pos h0]
      by_cases hi2 : i = pc
      · rw [hi2] at hkp ⊢
        refine ⟨a, rs_s, stN_c hwh (fun j hj => ?_) (stN_ext hE f9)⟩
        rw [hkp j hj, f10 j hj]
      · obtain ⟨c, c1, c2⟩ := f11 i (by omega)
        refine ⟨c, by rw [rs_n hi2]; exact c1, stN_c hwh (fun j hj => ?_) (stN_ext hE c2)⟩
        rw [hkp j hj]; rfl
    · have p0 : pc = 24 := by omega
      subst p0
      have p1 : pcE 24 = 24 := by decide
      have p2 : stE st 24 = (st + 1) % 25 := if_neg (by decide)
      rw [p1] at hi
      rw [r1]
      unfold rmR
      rw [if_neg (by decide)]
      by_cases hi2 : i = 23
      · rw [hi2] at hkp ⊢
        refine ⟨a, rs_s, stN_c hwh (fun j hj => ?_) (stN_ext hE f9)⟩
        rw [hkp j hj, ← f10 j hj, p2, show ((st + 1) % 25 + 23) % 25 = (st + 24) % 25 by omega]
      · obtain ⟨c, c1, c2⟩ := f11 (i + 1) (by omega)
        refine ⟨c, by rw [rs_n hi2, if_pos (by omega)]; exact c1, stN_c hwh (fun j hj => ?_) (stN_ext hE c2)⟩
        rw [hkp j hj, p2]
        show s.2.1 143 (35071 * ((st + (i + 1)) % 25) + j) = _
        rw [show (st + (i + 1)) % 25 = ((st + 1) % 25 + i) % 25 by omega]
theorem become11 {s : e_S} {g : ps_G} {a b pc : Nat} {fs : List Value} (ha : e_fr a) (hc : g.2.2 a = .inr (9, fs)) (e0 : s.2.2.1 8 0 = some a) (e1 : s.1 8 2 = Int32.ofNat pc) (h2 : pc ≤ 24) (hp : ∀ i, i < pc → ∃ c fs', s.2.2.1 12 i = some c ∧ e_fr c ∧ g.2.2 c = .inr (9, fs')) : fX11_become (e_g s g) 8 b = some (e_g (fgC (rmC s a b pc)) g) := by
  simp (decide := true) only [fX11_become, f8_6, ob8, ob20, ob_s, b2_s, tc_r, tc_l, F_sF, A_sF, R_sF, L_sF, F_sA, A_sA, R_sA, L_sA, F_sR, A_sR, R_sR, L_sR, F_sL, A_sL, R_sL, L_sL, and_true, true_and, and_false, false_and, and_self, reduceIte, sF_sF, sA_sA, false_or, or_false, true_or, or_true, not_false_eq_true, not_true_eq_false, decide_true, decide_false, Bool.true_or, Bool.or_true, Bool.false_and, Bool.true_and, Bool.false_or, Bool.or_false, Bool.and_true, Bool.and_false, remember11 ha hc e0 e1 h2 hp, ob20, forget11, fgC]
