-- needs: 07 10 13 14 20 21 22 23 24 25 26 27 32 38 41 46 47 48 50 52 53 54 57 60 61 70 71 72 73 80 81 82 83 84
/-! ===== what is seen, in the class ===== -/
theorem tV {d : Nat} (h : d < 31) : e_tb[22 + d]? = some (2, 576, []) := by
  have : ∀ d : Fin 31, e_tb[22 + d.1]? = some (2, 576, []) := by decide
  exact this ⟨d, h⟩
theorem tB {d : Nat} (h : d < 31) : e_tb[54 + d]? = some (2, 576, []) := by
  have : ∀ d : Fin 31, e_tb[54 + d.1]? = some (2, 576, []) := by decide
  exact this ⟨d, h⟩
/-- only rows for composing at this depth and deeper may differ -/
def Vw (d : Nat) (s s' : e_S) : Prop := s'.2.2.2 = s.2.2.2 ∧ (∀ i j, ¬ (i = 14 ∧ j = 7) → s'.2.2.1 i j = s.2.2.1 i j) ∧ (∀ i j, ¬ (i = 14 ∧ (j = 8 ∨ j = 9)) → s'.1 i j = s.1 i j) ∧ ∀ j, ¬ j = 19 → ¬ j = 85 → ¬ (22 + d ≤ j ∧ j < 53) → ¬ (54 + d ≤ j ∧ j < 85) → s'.2.1 j = s.2.1 j
theorem vw_rf {d : Nat} {s : e_S} : Vw d s s := ⟨rfl, fun _ _ _ => rfl, fun _ _ _ => rfl, fun _ _ _ _ _ => rfl⟩
theorem vw_tr {d : Nat} {s s1 s2 : e_S} (h : Vw d s s1) (h2 : Vw d s1 s2) : Vw d s s2 := ⟨h2.1.trans h.1, fun i j n => (h2.2.1 i j n).trans (h.2.1 i j n), fun i j n => (h2.2.2.1 i j n).trans (h.2.2.1 i j n), fun j a b c e => (h2.2.2.2 j a b c e).trans (h.2.2.2 j a b c e)⟩
theorem vw_mo {d d' : Nat} {s s1 : e_S} (hd : d ≤ d') (h : Vw d' s s1) : Vw d s s1 := ⟨h.1, h.2.1, h.2.2.1, fun j a b c e => h.2.2.2 j a b (by omega) (by omega)⟩
theorem vw_sA {d j : Nat} {s : e_S} {f : Nat → Int32} (hj : j = 19 ∨ j = 85 ∨ (22 + d ≤ j ∧ j < 53) ∨ (54 + d ≤ j ∧ j < 85)) : Vw d s (sA s j f) := by
  refine ⟨by rw [L_sA], fun i k _ => by rw [R_sA], fun i k _ => by rw [F_sA], fun i a b c e => ?_⟩
  rw [A_sA, if_neg (by omega)]
theorem vw_apS {d a w h : Nat} {s : e_S} : Vw d s (apS s a w h) := by
  unfold apS
  refine ⟨by simp (decide := true) only [ob_n, b2_n, tc_rn, tc_ln, F_sF, A_sF, R_sF, L_sF, F_sA, A_sA, R_sA, L_sA, F_sR, A_sR, R_sR, L_sR, F_sL, A_sL, R_sL, L_sL, and_true, true_and, and_false, false_and, and_self, reduceIte, sF_sF, sA_sA, false_or, or_false, true_or, or_true, not_false_eq_true, not_true_eq_false, decide_true, decide_false, Bool.true_or, Bool.or_true, Bool.false_and, Bool.true_and, Bool.false_or, Bool.or_false, Bool.and_true, Bool.and_false], fun i j n => ?_, fun i j n => ?_, fun j _ _ _ _ => by simp (decide := true) only [ob_n, b2_n, tc_rn, tc_ln, F_sF, A_sF, R_sF, L_sF, F_sA, A_sA, R_sA, L_sA, F_sR, A_sR, R_sR, L_sR, F_sL, A_sL, R_sL, L_sL, and_true, true_and, and_false, false_and, and_self, reduceIte, sF_sF, sA_sA, false_or, or_false, true_or, or_true, not_false_eq_true, not_true_eq_false, decide_true, decide_false, Bool.true_or, Bool.or_true, Bool.false_and, Bool.true_and, Bool.false_or, Bool.or_false, Bool.and_true, Bool.and_false]⟩
  · rw [R_sF, R_sF, R_sR, if_neg n]
  · rw [F_sF, if_neg (fun z => n ⟨z.1, Or.inr z.2⟩), F_sF, if_neg (fun z => n ⟨z.1, Or.inl z.2⟩), F_sR]
theorem ly_f {g : ps_G} {b w h l : Nat} {r : Nat → Int32} (hL : LyN g b w h l r) (s : e_S) : q_ob 4 (e_g s g) b = some () ∧ q_fI 4 0 (e_g s g) b = some (Int32.ofNat l) ∧ q_fI 4 1 (e_g s g) b = some (r 1) ∧ q_fI 4 3 (e_g s g) b = some (r 4) ∧ q_fI 4 4 (e_g s g) b = some (r 5) ∧ q_fI 4 5 (e_g s g) b = some (r 6) ∧ q_fI 4 6 (e_g s g) b = some (r 7) ∧ q_fI 4 7 (e_g s g) b = some (r 8) ∧ q_fI 4 8 (e_g s g) b = some (r 9) ∧ (¬ r 1 < 2 → q_fI 4 9 (e_g s g) b = some (r 11) ∧ q_fI 4 10 (e_g s g) b = some (r 12)) := by
  obtain ⟨h1, h2, p, q, x0, y0, x1, y1, pa, ma, h3, c1, c2, c3, c4, c5, c6, c7, c8, c9, c10, c11, c12, c13, c14⟩ := hL
  refine ⟨d_ob h1 h3, d_fI h1 h3 rfl, d_fI h1 h3 rfl, d_fI h1 h3 rfl, d_fI h1 h3 rfl, d_fI h1 h3 rfl, d_fI h1 h3 rfl, d_fI h1 h3 rfl, d_fI h1 h3 rfl, fun n => ?_⟩
  rw [if_neg n] at c8
  exact ⟨by rw [c8.1]; exact d_fI h1 h3 rfl, by rw [c8.2.1]; exact d_fI h1 h3 rfl⟩
theorem maskAt4 {s : e_S} {g : ps_G} {b w h l i : Nat} {r : Nat → Int32} (h11 : ∀ s, q_len (e_g s g) 0 = some 0) (hL : LyN g b w h l r) (hi : i < 576) : fX4_maskAt (e_g s g) b (Int32.ofNat i) = some (msV r i) := by
  obtain ⟨y1, y2, p, q', x0, y0, x1, yy1, pa, ma, y3, -, -, -, -, -, -, -, -, -, -, -, -, -, z14⟩ := hL
  have fm : q_fR 4 16 (e_g s g) b = some (some ma) := d_fR y1 y3 rfl
  unfold fX4_maskAt msV
  rw [if_neg (n_neg (by omega)), fm, ob_n, ob_n]
  rcases z14 with ⟨c1, c2⟩ | ⟨c1, c2, c0, c3, f, c4, c5⟩
  · subst c2
    have z0 : (0 : Int32) ≤ Int32.ofNat i := by
      show Int32.ofNat 0 ≤ _
      rw [n_le (by omega) (by omega)]; omega
    rw [h11, ob_n, if_pos z0, if_neg (by rw [c1]; decide)]; rfl
  · rw [d_len c2 c4, ob_n, if_neg (nle hi (by omega)), ob_n, ob_n, d_aI c2 c4, n_idx (by omega), if_neg (n_in2 hi (by decide)), ob_n, if_pos c1, (c5 i hi).1]; rfl
theorem sq_b {a : Int32} (h : -200 ≤ a.toInt ∧ a.toInt ≤ 200) : (a * a).toInt = a.toInt * a.toInt ∧ 0 ≤ a.toInt * a.toInt ∧ a.toInt * a.toInt ≤ 40000 ∧ (a.toInt * a.toInt = 0 → a.toInt = 0) := by
  have key : ∀ x : Int, 0 ≤ x → x ≤ 200 → 0 ≤ x * x ∧ x * x ≤ 40000 := fun x h0 h1 => ⟨Int.mul_nonneg h0 h0, by
    calc x * x ≤ 200 * x := Int.mul_le_mul_of_nonneg_right h1 h0
      _ ≤ 40000 := by omega⟩
  have b : 0 ≤ a.toInt * a.toInt ∧ a.toInt * a.toInt ≤ 40000 := by
    by_cases q : 0 ≤ a.toInt
    · exact key _ q h.2
    · have := key (-a.toInt) (by omega) (by omega)
      rwa [Int.neg_mul_neg] at this
  exact ⟨i_mul (by omega) (by omega), b.1, b.2, fun z => by rcases Int.mul_eq_zero.mp z with z | z <;> exact z⟩
theorem painted4 {s : e_S} {g : ps_G} {b w h l : Nat} {r : Nat → Int32} {x y : Int32} (hL : LyN g b w h l r) (hk : r 1 = 2 ∨ r 1 = 3) : fX4_painted (e_g s g) b x y = some (if r 1 = 2 then r 11 else rpV r x y) := by
  obtain ⟨-, -, f1, -, -, -, -, -, -, fpq⟩ := ly_f hL s
  obtain ⟨f9, f10⟩ := fpq (by rcases hk with e | e <;> rw [e] <;> decide)
  obtain ⟨h1, h2, p, q, x0, y0, x1, y1, pa, ma, h3, c1, c2, c3, c4, c5, c6, c7, c8, c9, c10, c11, c12, c13, c14⟩ := hL
  have f11 : q_fI 4 11 (e_g s g) b = some x0 := d_fI h1 h3 rfl
  have f12 : q_fI 4 12 (e_g s g) b = some y0 := d_fI h1 h3 rfl
  have f13 : q_fI 4 13 (e_g s g) b = some x1 := d_fI h1 h3 rfl
  have f14 : q_fI 4 14 (e_g s g) b = some y1 := d_fI h1 h3 rfl
  unfold fX4_painted
  rcases hk with e | e
  · rw [if_pos e]
    have z : ¬ (¬ ¬ r 1 = 3 ∧ 0 < ((x1 - x0) * (x1 - x0)) + ((y1 - y0) * (y1 - y0))) := fun z => z.1 (by rw [e]; decide)
    simp (decide := true) only [f1, f9, f11, f12, f13, f14, z, reduceIte, ob_n]
  · have n2 : ¬ r 1 = 2 := by rw [e]; decide
    rw [if_neg n2]
    rw [if_pos e] at c9
    obtain ⟨r13, r14, r15, r16, g1, g2, g3, g4⟩ := c9
    have g1 := rg_i.mp g1
    have g2 := rg_i.mp g2
    have g3 := rg_i.mp g3
    have g4 := rg_i.mp g4
    have l1 : (-100 : Int32).toInt = -100 := by decide
    have l2 : (100 : Int32).toInt = 100 := by decide
    rw [l1, l2] at g1 g2 g3 g4
    have dx : (x1 - x0).toInt = x1.toInt - x0.toInt := i_sub (by omega) (by omega)
    have dy : (y1 - y0).toInt = y1.toInt - y0.toInt := i_sub (by omega) (by omega)
    obtain ⟨a1, a2, a3, -⟩ := sq_b (a := x1 - x0) (by omega)
    obtain ⟨b1, b2, b3, -⟩ := sq_b (a := y1 - y0) (by omega)
    have sm : (((x1 - x0) * (x1 - x0)) + ((y1 - y0) * (y1 - y0))).toInt = (x1 - x0).toInt * (x1 - x0).toInt + (y1 - y0).toInt * (y1 - y0).toInt := by
      rw [i_add (by rw [a1, b1]; omega) (by rw [a1, b1]; omega), a1, b1]
    unfold rpV
    rw [r13, r14, r15, r16]
    by_cases z : ((x1 - x0) * (x1 - x0)) + ((y1 - y0) * (y1 - y0)) = 0
    · have z' : ¬ (¬ ¬ r 1 = 3 ∧ 0 < ((x1 - x0) * (x1 - x0)) + ((y1 - y0) * (y1 - y0))) := fun y => by
        have y2 := y.2
        rw [z, i_lt] at y2
        omega
      rw [f1, f11, f12, f13, f14]
      simp only [ob_n]
      rw [if_neg z', if_pos z, f9, ob_n]
    · have z' : ¬ ¬ r 1 = 3 ∧ 0 < ((x1 - x0) * (x1 - x0)) + ((y1 - y0) * (y1 - y0)) := ⟨fun y => y e, by
        have : ¬ (((x1 - x0) * (x1 - x0)) + ((y1 - y0) * (y1 - y0))).toInt = 0 := fun y => z (i_eq.mpr y)
        rw [i_lt, show (0 : Int32).toInt = 0 from rfl]; omega⟩
      rw [f1, f11, f12, f13, f14]
      simp only [ob_n]
      rw [if_pos z', f9, f10]
      simp (decide := true) only [ob_n, q_div, z, reduceIte]
theorem rV {s : e_S} {g : ps_G} {d : Nat} (h : d < 31) : q_aR (e_g s g) 21 (Int32.ofNat d) = some (some (22 + d)) := by
  rw [a21, n_idx (by omega), if_neg (n_in2 h (by decide))]
theorem rB {s : e_S} {g : ps_G} {d : Nat} (h : d < 31) : q_aR (e_g s g) 53 (Int32.ofNat d) = some (some (54 + d)) := by
  rw [a53, n_idx (by omega), if_neg (n_in2 h (by decide))]
theorem rdI {s : e_S} {g : ps_G} {j i : Nat} (ht : e_tb[j]? = some (2, 576, [])) (hi : i < 576) : q_aI (e_g s g) j (Int32.ofNat i) = some (s.2.1 j i) := by
  rw [e_aI ht, n_idx (by omega), if_neg (n_in2 hi (by decide))]
theorem wrI {s : e_S} {g : ps_G} {j i : Nat} {v : Int32} (ht : e_tb[j]? = some (2, 576, [])) (h8 : 8 ≤ j) (hi : i < 576) : q_wI (e_g s g) j (Int32.ofNat i) v = some (e_g (sA s j (upd (s.2.1 j) i v)) g) := by
  rw [e_wI ht h8, n_idx (by omega), if_neg (n_in2 hi (by decide))]
/-- what the class's looks must hold -/
noncomputable def aC (s : e_S) (w h : Nat) : (Nat → Int32) → (Nat → Int32) → Nat → Int32 := AD (s.2.1 17) (s.2.1 15) (s.2.1 16) (s.2.1 18) (s.1 14 4) (s.1 14 5) w h
def Kc (s : e_S) : Prop := CuN (s.2.1 17) (s.2.1 15) (s.2.1 16) ∧ 0 < (s.1 14 4).toInt
theorem kc_vw {d w h : Nat} {s s' : e_S} (hv : Vw d s s') (hk : Kc s) : Kc s' ∧ aC s' w h = aC s w h := by
  have e1 := hv.2.2.2 17 (by omega) (by omega) (by omega) (by omega)
  have e2 := hv.2.2.2 15 (by omega) (by omega) (by omega) (by omega)
  have e3 := hv.2.2.2 16 (by omega) (by omega) (by omega) (by omega)
  have e4 := hv.2.2.2 18 (by omega) (by omega) (by omega) (by omega)
  have e5 := hv.2.2.1 14 4 (by omega)
  have e6 := hv.2.2.1 14 5 (by omega)
  unfold Kc aC
  rw [e1, e2, e3, e4, e5, e6]
  exact ⟨hk, rfl⟩
theorem adjust11 {s : e_S} {g : ps_G} {a b w h l d : Nat} {r : Nat → Int32} (h11 : ∀ s, q_len (e_g s g) 0 = some 0) (hd : d < 31) (hw1 : 1 ≤ w) (hh1 : 1 ≤ h) (hw : w ≤ 24) (hh : h ≤ 24) (a0 : ∀ s, q_fI 9 0 (e_g s g) a = some (Int32.ofNat w)) (a1 : ∀ s, q_fI 9 1 (e_g s g) a = some (Int32.ofNat h)) (hL : LyN g b w h l r) (hk : r 1 = 4 ∨ r 1 = 5) (hK : Kc s) : ∃ s', fX10_adjust (e_g s g) 20 a b (Int32.ofNat d) = some (e_g s' g) ∧ Vw d s s' ∧ s'.2.1 (54 + d) = s.2.1 (54 + d) ∧ ∀ k, k < w * h → s'.2.1 (22 + d) k = fX11_mixColours (s.2.1 (22 + d) k) (aC s w h r (s.2.1 (22 + d)) k) (fX11_mul (fX11_mul (r 4) (msV r k)) (if r 7 = 0 then 255 else s.2.1 (54 + d) k)) := by
  have hn := wh_le hw hh
  have hr := rwN_l hL
  have F := ly_f hL
  have n2 : ¬ r 1 < 2 := by rcases hk with e | e <;> rw [e] <;> decide
  have tv := tV hd
  -- what changes
  have st1 : ∃ s1, jX10_adjust_19 (e_g s g) 20 a b (Int32.ofNat d) (some (22 + d)) (Int32.ofNat (w * h)) = jX10_adjust_98 (e_g s1 g) 20 b (Int32.ofNat d) (some (22 + d)) (Int32.ofNat (w * h)) ∧ Vw 31 s s1 ∧ ∀ k, k < w * h → s1.2.1 85 k = aC s w h r (s.2.1 (22 + d)) k := by
    unfold jX10_adjust_19
    rw [(F s).2.2.1, ob_n]
    rcases hk with e | e
    · obtain ⟨p, ep, hp⟩ := rg_cases (n := 7) (hr.2.2.2.2.2.2.1 e) (by omega)
      have fil : q_lp (fun x => bX10_adjust_62 20 b (Int32.ofNat d) (some (22 + d)) (Int32.ofNat (w * h)) x.1 x.2) ((0 : Int32), e_g (sA s 85 (s.2.1 85)) g) = some (e_g (sA s 85 (cpT (s.2.1 85) (fun k => cuV (s.2.1 17) (s.2.1 15) (s.2.1 16) p (s.2.1 (22 + d) k)) 0 (w * h))) g) := by
        refine fillN (fun f => e_g (sA s 85 f) g) 0 (w * h) _ _ (fun f i hi _ => ?_) (fun f => ?_)
        · show bX10_adjust_62 _ _ _ _ _ _ _ = _
          have bc := byCurve5 (s := sA s 85 f) (g := g) (k := p) (c := s.2.1 (22 + d) i) (by rw [A_sA, if_neg (by omega), A_sA, if_neg (by omega), A_sA, if_neg (by omega)]; exact hK.1) (by omega)
          rw [A_sA, if_neg (by omega), A_sA, if_neg (by omega), A_sA, if_neg (by omega)] at bc
          unfold bX10_adjust_62
          rw [if_neg (nle hi (by omega)), f20_3, ob_n, ob_n, f20_0, ob_n, ob_n, ((F _).2.2.2.2.2.2.2.2.2 n2).1, ob_n, ob_n, rdI tv (by omega), A_sA, if_neg (by omega), ob_n, ob14, ob_n, ep, bc, ob_n, wrI t85 (by omega) (by omega), A_sA, if_pos rfl, sA_sA, ob_n, n_suc, Nat.zero_add]
        · show bX10_adjust_62 _ _ _ _ _ _ _ = _
          unfold bX10_adjust_62
          rw [if_pos (nlr (by omega))]
      have sid : sA s 85 (s.2.1 85) = s := by
        obtain ⟨x1, x2, x3, x4⟩ := s
        show (x1, (fun a => if a = 85 then x2 85 else x2 a), x3, x4) = (x1, x2, x3, x4)
        have : (fun a => if a = 85 then x2 85 else x2 a) = x2 := by
          funext a
          by_cases q : a = 85
          · rw [if_pos q, q]
          · rw [if_neg q]
        rw [this]
      rw [sid] at fil
      rw [if_pos (by rw [e]; decide), fil, ob_n]
      refine ⟨_, rfl, vw_sA (Or.inr (Or.inl rfl)), fun k hk => ?_⟩
      rw [A_sA, if_pos rfl]
      have := cpT_in (A := s.2.1 85) (N := fun k => cuV (s.2.1 17) (s.2.1 15) (s.2.1 16) p (s.2.1 (22 + d) k)) (b := 0) hk
      rw [Nat.zero_add] at this
      rw [this]
      unfold aC AD
      rw [if_pos e, ep, n_int (by omega), Int.toNat_natCast]
    · obtain ⟨t', ap⟩ := apply5 (s := s) (g := g) (a := 22 + d) (to := 85) (F := s.2.1 (22 + d)) t85 (by omega) (by omega) (by omega) (hr.2.2.2.2.2.2.2 e) hw1 hh1 hw hh hK.2 (e_len tv) (fun f t i => by
        have m1 : ¬ 22 + d = 19 := by omega
        have m2 : ¬ 22 + d = 85 := by omega
        rw [e_aI tv, A_sA, if_neg m1, A_sA, if_neg m2]
        have : (apS s (22 + d) w h).2.1 = s.2.1 := by unfold apS; simp (decide := true) only [ob_n, b2_n, tc_rn, tc_ln, F_sF, A_sF, R_sF, L_sF, F_sA, A_sA, R_sA, L_sA, F_sR, A_sR, R_sR, L_sR, F_sL, A_sL, R_sL, L_sL, and_true, true_and, and_false, false_and, and_self, reduceIte, sF_sF, sA_sA, false_or, or_false, true_or, or_true, not_false_eq_true, not_true_eq_false, decide_true, decide_false, Bool.true_or, Bool.or_true, Bool.false_and, Bool.true_and, Bool.false_or, Bool.or_false, Bool.and_true, Bool.and_false]
        rw [this])
      rw [if_neg (fun z => z e), f20_0, ob_n, ob_n, ((F _).2.2.2.2.2.2.2.2.2 n2).1, ob_n, ((F _).2.2.2.2.2.2.2.2.2 n2).2, ob_n, ob_n, f20_3, ob_n, ob_n, a0, ob_n, a1, ob_n, ob14, ob_n, ap, ob_n]
      refine ⟨_, rfl, vw_tr (vw_tr vw_apS (vw_sA (Or.inr (Or.inl rfl)))) (vw_sA (Or.inl rfl)), fun k hk => ?_⟩
      rw [A_sA, if_neg (by decide), A_sA, if_pos rfl, Nat.mul_comm h w]
      have := cpT_in (A := s.2.1 85) (N := fun k => flV (r 11) (r 12) (nr (s.2.1 (22 + d)) w h) (s.2.1 18) (s.1 14 4) (s.1 14 5) (Int32.ofNat (k % w)) (Int32.ofNat (k / w))) (b := 0) hk
      rw [Nat.zero_add] at this
      rw [this]
      unfold aC AD
      rw [if_neg (by rw [e]; decide)]
  obtain ⟨s1, j1, v1, c1⟩ := st1
  have e22 : s1.2.1 (22 + d) = s.2.1 (22 + d) := v1.2.2.2 _ (by omega) (by omega) (by omega) (by omega)
  have e54 : s1.2.1 (54 + d) = s.2.1 (54 + d) := v1.2.2.2 _ (by omega) (by omega) (by omega) (by omega)
  have fil : q_lp (fun x => bX10_adjust_101 20 b (Int32.ofNat d) (some (22 + d)) (Int32.ofNat (w * h)) x.1 x.2) ((0 : Int32), e_g (sA s1 (22 + d) (s1.2.1 (22 + d))) g) = some (e_g (sA s1 (22 + d) (cpT (s1.2.1 (22 + d)) (fun k => fX11_mixColours (s1.2.1 (22 + d) k) (s1.2.1 85 k) (fX11_mul (fX11_mul (r 4) (msV r k)) (if r 7 = 0 then 255 else s1.2.1 (54 + d) k))) 0 (w * h))) g) := by
    refine fillN (fun f => e_g (sA s1 (22 + d) f) g) 0 (w * h) _ _ (fun f i hi hf => ?_) (fun f => ?_)
    · rw [Nat.zero_add] at hf ⊢
      have jj : ∀ k0 k1, jX10_adjust_143_101 (e_g (sA s1 (22 + d) f) g) 20 b (Int32.ofNat d) (some (22 + d)) (Int32.ofNat (w * h)) (Int32.ofNat i) k0 k1 = some (.inl (Int32.ofNat (i + 1), e_g (sA s1 (22 + d) (upd f i (fX11_mixColours (s1.2.1 (22 + d) i) (s1.2.1 85 i) (fX11_mul k0 k1)))) g)) := by
        intro k0 k1
        unfold jX10_adjust_143_101
        rw [ob_n, rdI tv (by omega), A_sA, if_pos rfl, ob_n, f20_3, ob_n, ob_n, rdI t85 (by omega), A_sA, if_neg (by omega), ob_n, wrI tv (by omega) (by omega), A_sA, if_pos rfl, sA_sA, ob_n, n_suc, hf]
      show bX10_adjust_101 _ _ _ _ _ _ _ = _
      unfold bX10_adjust_101
      rw [if_neg (nle hi (by omega)), (F _).2.2.2.1, ob_n, (F _).1, ob_n, maskAt4 h11 hL (by omega), ob_n, (F _).2.2.2.2.2.2.1, ob_n]
      by_cases q : r 7 = 0
      · rw [if_pos q, jj, if_pos q]
      · rw [if_neg q, f20_2, ob_n, ob_n, rB hd, ob_n, ob_n, rdI (tB hd) (by omega), A_sA, if_neg (by omega), ob_n, jj, if_neg q]
    · show bX10_adjust_101 _ _ _ _ _ _ _ = _
      unfold bX10_adjust_101
      rw [if_pos (nlr (by omega))]
  have sid : sA s1 (22 + d) (s1.2.1 (22 + d)) = s1 := by
    obtain ⟨x1, x2, x3, x4⟩ := s1
    show (x1, (fun a => if a = 22 + d then x2 (22 + d) else x2 a), x3, x4) = (x1, x2, x3, x4)
    have : (fun a => if a = 22 + d then x2 (22 + d) else x2 a) = x2 := by
      funext a
      by_cases q : a = 22 + d
      · rw [if_pos q, q]
      · rw [if_neg q]
    rw [this]
  rw [sid] at fil
  refine ⟨sA s1 (22 + d) (cpT (s1.2.1 (22 + d)) (fun k => fX11_mixColours (s1.2.1 (22 + d) k) (s1.2.1 85 k) (fX11_mul (fX11_mul (r 4) (msV r k)) (if r 7 = 0 then 255 else s1.2.1 (54 + d) k))) 0 (w * h)), ?_, vw_tr (vw_mo (by omega) v1) (vw_sA (Or.inr (Or.inr (Or.inl ⟨Nat.le_refl _, by omega⟩)))), ?_, fun k hk => ?_⟩
  · unfold fX10_adjust
    rw [f20_1, ob_n, ob_n, rV hd, ob_n, a0, ob_n, a1, ob_n, n_mul, j1]
    unfold jX10_adjust_98
    rw [fil, ob_n]
  · rw [A_sA, if_neg (by omega), e54]
  · rw [A_sA, if_pos rfl]
    have := cpT_in (A := s1.2.1 (22 + d)) (N := fun k => fX11_mixColours (s1.2.1 (22 + d) k) (s1.2.1 85 k) (fX11_mul (fX11_mul (r 4) (msV r k)) (if r 7 = 0 then 255 else s1.2.1 (54 + d) k))) (b := 0) hk
    rw [Nat.zero_add] at this
    rw [this, c1 k hk, e22, e54]
