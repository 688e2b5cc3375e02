-- needs: 07 10 13 14 20 21 22 23 24 25 26 27 32 33 34 36 38 39 40 41 42 43 44 45 46 47 48 50 52 53 54 55 56 57 58 70 71 72 73
/-! ===== filter ===== -/
theorem ksN_c {K K' : Nat → Int32} {R : Int32 → Int32 → Int32} {x y sh : Int32} : ∀ {n : Nat}, (∀ k, k < n → K k = K' k) → ksN K R x y sh n = ksN K' R x y sh n := by
  intro n
  induction n with
  | zero => intro _; rfl
  | succ n ih =>
    intro e
    show ksN K R x y sh n + K n * _ = ksN K' R x y sh n + K' n * _
    rw [ih (fun k hk => e k (by omega)), e n (by omega)]
theorem flV_c {kind n : Int32} {R : Int32 → Int32 → Int32} {K K' : Nat → Int32} {dv os x y : Int32} (e : ∀ k, k < 9 → K k = K' k) : flV kind n R K dv os x y = flV kind n R K' dv os x y := by
  unfold flV fcV fsV
  rw [ksN_c e, ksN_c e, ksN_c e]
theorem KI_pt2 {hs : List ps_H} {c : Option ((String ⊕ Int32) × ps_G)} {m : ps_G → Option (Int32 × ps_G)} {s s0 s1 : e_S} {g : ps_G} {w h a b st pc uc l : Nat} {φ : Nat → Int32} (hR : Rel s0 g) (h7 : G7 s0 w h) (h8 : G8 s0 w h) (f1 : st < 25) (f2 : pc + uc ≤ 24) (f3 : s1.2.2.1 8 0 = some a) (f4 : s1.1 8 2 = Int32.ofNat pc) (f9 : StN g a w h (s0.2.1 142)) (f10 : ∀ k, k < 35071 → s0.2.1 143 (35071 * ((st + pc) % 25) + k) = s0.2.1 142 k) (f11 : ∀ i, i < pc → ∃ b, s0.2.2.1 12 i = some b ∧ StN g b w h (kp (s0.2.1 143) st i)) (r12 : s1.2.2.1 12 = s0.2.2.1 12) (hl : l < 30) (hl1 : s0.2.1 142 (1169 * l) = 1) (hLy : LyN g b w h l (lR (s0.2.1 142) l)) (hk : s0.2.1 142 (1169 * l + 1) = 0) (f : Nat → Int32) (hf : ∀ k, k < w * h → f k = φ k) (hc : ∀ v g2, fX11_repaint (e_g s1 (mkA g f)) 8 b g.1 = some (v, e_g (rmC (fcC s1 (s0.2.1 142) l w (h * w) φ) a (g.1 + 2) pc) g2) → c = some (.inr v, e_g (rmC (fcC s1 (s0.2.1 142) l w (h * w) φ) a (g.1 + 2) pc) g2)) (hm : ∀ S g2, S = pO (rmC (fcC s1 (s0.2.1 142) l w (h * w) φ) a (g.1 + 2) pc) (Int32.toInt64 (Int32.ofNat (cnt (dfN φ (pxN (s0.2.1 142) l)) (h * w)))) → ∃ S', m (e_g S g2) = some (Int32.ofNat (cnt (dfN φ (pxN (s0.2.1 142) l)) (h * w)), e_g (fcM (edM (sA S' 142 (cpT (s0.2.1 142) φ (1169 * l + 17) (h * w))) st pc) (s0.2.1 142) l w (h * w) φ) g2) ∧ S'.1 139 0 = 0 ∧ S'.2.2.2 = S.2.2.2 ∧ Sm (rmC (fcC s0 (s0.2.1 142) l w (h * w) φ) a (g.1 + 2) pc) S') : KI (Option.bind (q_ob 11 (e_g s g) 8) fun _ => q_wr hs c (fun v g1 => Option.bind (q_wL g1 194 (0 : Int32) (Int32.toInt64 v)) fun g2 => some ((0 : Int32), g2))) m g := by
  have hg := rel_g hR
  obtain ⟨g2, w1, w2, w3⟩ := repaint11 (s := s1) (f := f) (φ := φ) h7.2.1 h7.2.2.2.1 hg f3 f4 (by omega) (fun i hi => by rw [r12]; exact (f11 i hi).imp fun b hb => ⟨_, hb.1, hb.2⟩) f9 hl hl1 hLy hk hf
  obtain ⟨S', m1, m2, m3, m4⟩ := hm _ g2 rfl
  refine KI_r (hc _ g2 w1) m1 ?_ ?_ (rel_sm (rel_paint hR h7 h8 f1 f2 f9 f10 f11 w2 w3) (sm_fcM (sm_edM (sm_A2 m4)))) w2
  · have : ∀ X : e_S, (fcM X (s0.2.1 142) l w (h * w) φ).1 = X.1 := by
      intro X; unfold fcM; split
      · rfl
      · unfold fbM; rw [F_sA]
    rw [this]; unfold edM; simp (decide := true) only [ob_n, b2_n, tc_rn, tc_ln, F_sF, A_sF, R_sF, L_sF, F_sA, A_sA, R_sA, L_sA, F_sR, A_sR, R_sR, L_sR, F_sL, A_sL, R_sL, L_sL, and_true, true_and, and_false, false_and, and_self, reduceIte, sF_sF, sA_sA, false_or, or_false, true_or, or_true, not_false_eq_true, not_true_eq_false, decide_true, decide_false, Bool.true_or, Bool.or_true, Bool.false_and, Bool.true_and, Bool.false_or, Bool.or_false, Bool.and_true, Bool.and_false]; exact m2
  · have : ∀ X : e_S, (fcM X (s0.2.1 142) l w (h * w) φ).2.2.2 = X.2.2.2 := by
      intro X; unfold fcM; split
      · rfl
      · unfold fbM; rw [L_sA]
    rw [this]; unfold edM; simp (decide := true) only [ob_n, b2_n, tc_rn, tc_ln, F_sF, A_sF, R_sF, L_sF, F_sA, A_sA, R_sA, L_sA, F_sR, A_sR, R_sR, L_sR, F_sL, A_sL, R_sL, L_sL, and_true, true_and, and_false, false_and, and_self, reduceIte, sF_sF, sA_sA, false_or, or_false, true_or, or_true, not_false_eq_true, not_true_eq_false, decide_true, decide_false, Bool.true_or, Bool.or_true, Bool.false_and, Bool.true_and, Bool.false_or, Bool.or_false, Bool.and_true, Bool.and_false]; exact m3
/-- what the state holds ahead of pixels painted, as the reference finds it -/
theorem pt_S {s s1 : e_S} {N φ : Nat → Int32} {l w n a b pc : Nat} {v : Int64} {S : e_S} (hS : S = pO (rmC (fcC s1 N l w n φ) a b pc) v) : (∀ j, ¬ j = 88 → S.2.1 j = s1.2.1 j) ∧ (∀ i j, ¬ i = 20 → ¬ i = 8 → S.1 i j = s1.1 i j) ∧ Sm (rmC (fcC s1 N l w n φ) a b pc) S := by
  have fA : ∀ (X : e_S) j, ¬ j = 88 → (fcC X N l w n φ).2.1 j = X.2.1 j := by
    intro X j hj; unfold fcC; split
    · rfl
    · unfold fbC; rw [A_sA, if_neg hj, A_sF]
  have fF : ∀ (X : e_S) i j, ¬ i = 20 → (fcC X N l w n φ).1 i j = X.1 i j := by
    intro X i j hj; unfold fcC; split
    · rfl
    · unfold fbC; rw [F_sA, F_sF, if_neg (fun z => hj z.1)]
  refine ⟨fun j hj => ?_, fun i j h1 h2 => ?_, ?_⟩
  · rw [hS]; unfold pO rmC
    rw [A_sL, A_sR, A_sF, A_sF, A_sRr]; exact fA _ _ hj
  · rw [hS]; unfold pO rmC
    rw [F_sL, F_sR, F_sF, if_neg (fun z => h2 z.1), F_sF, if_neg (fun z => h2 z.1), F_sRr]; exact fF _ _ _ h1
  · rw [hS]; exact sm_L sm_rf
noncomputable def ftV (kind n : Int32) (w h : Nat) (N A K : Nat → Int32) (dv os : Int32) (l : Nat) : Nat → Int32 := fun k => fX11_mixColours (pxN N l k) (flV kind n (nr (pxN N l) w h) K dv os (Int32.ofNat (k % w)) (Int32.ofNat (k / w))) (shV w h A (N (1169 * l + 8)) (N (1169 * l + 9)) k)
theorem filter11l {s : e_S} {g : ps_G} {a b w h l : Nat} {N Q : Nat → Int32} (hg : 195 ≤ g.1) (hw : w ≤ 24) (hh : h ≤ 24) (e0 : s.2.2.1 8 0 = some a) (hs : StN g a w h N) (hL : LyN g b w h l (lR N l)) (hk : N (1169 * l + 1) = 0) (q1 : s.1 89 0 = Int32.ofNat w) (q2 : s.1 89 1 = Int32.ofNat h) (hQ : ∀ k, k < w * h → s.2.1 138 k = Q k) (f0 : Nat → Int32) : q_lp (fun t => bX11_filter_54 8 (some b) g.1 t.1 t.2) ((0 : Int32), e_g s (mkA g f0)) = some (e_g s (mkA g (cpT f0 (fun k => fX11_mixColours (pxN N l k) (Q k) (shV w h (s.2.1 90) (N (1169 * l + 8)) (N (1169 * l + 9)) k)) 0 (h * w)))) := by
  have hwh := wh_le hw hh
  have st := fun f => stW (s := s) (stN_ext (ext_mkA (f := f)) hs)
  refine fill1 (fun f => e_g s (mkA g f)) 0 w h (fun k => fX11_mixColours (pxN N l k) (Q k) (shV w h (s.2.1 90) (N (1169 * l + 8)) (N (1169 * l + 9)) k)) f0 (bI := fun y t => bX11_filter_69 8 (some b) g.1 y t.1 t.2) (fun f y x hy hx _ => ?_) (fun f y hy => ?_) (fun f y hy => ?_) (fun f => ?_)
  · have hlt := at_lt hx hy
    obtain ⟨y1, y2, p, q, x0, y0, x1, yy1, pa, ma, y3, z1, z2, z3, z4, z5, z6, z7, z8, z9, z10, z11, z12, -⟩ := id (lyN_ext (ext_mkA (f := f)) hL)
    obtain ⟨d1, d0, d2, F, d3, d4⟩ := z12 hk
    have f15 : q_fR 4 15 (e_g s (mkA g f)) b = some (some pa) := d_fR y1 y3 rfl
    have f7 : q_fI 4 7 (e_g s (mkA g f)) b = some (N (1169 * l + 8)) := d_fI y1 y3 rfl
    have f8 : q_fI 4 8 (e_g s (mkA g f)) b = some (N (1169 * l + 9)) := d_fI y1 y3 rfl
    have e4 : F (y * w + x) = pxN N l (y * w + x) := d4 _ hlt
    have sv := shV_n (h := h) (y := y) (A := s.2.1 90) (dx := N (1169 * l + 8)) (dy := N (1169 * l + 9)) hx
    simp (decide := true) only [bX11_filter_69, f8_0, e0, (st f).1, nle hx (by omega), f15, d_aI d1 d3, f8_17, a138, n_mul, n_add, n_in2 (show y * w + x < 576 by omega) (by decide), n_idx (show y * w + x < 2147483648 by omega), hQ _ hlt, e4, f8_7, f7, f8, ob89, area11 hw hh q1 q2, wI_mk hg, n_suc, sv, Nat.zero_add, ob_n, b2_n, tc_rn, tc_ln, F_sF, A_sF, R_sF, L_sF, F_sA, A_sA, R_sA, L_sA, F_sR, A_sR, R_sR, L_sR, F_sL, A_sL, R_sL, L_sL, and_true, true_and, and_false, false_and, and_self, reduceIte, sF_sF, sA_sA, false_or, or_false, true_or, or_true, not_false_eq_true, not_true_eq_false, decide_true, decide_false, Bool.true_or, Bool.or_true, Bool.false_and, Bool.true_and, Bool.false_or, Bool.or_false, Bool.and_true, Bool.and_false]
  · simp (decide := true) only [bX11_filter_69, f8_0, e0, (st f).1, nlr (show w < 2147483648 by omega), ob_n, b2_n, tc_rn, tc_ln, F_sF, A_sF, R_sF, L_sF, F_sA, A_sA, R_sA, L_sA, F_sR, A_sR, R_sR, L_sR, F_sL, A_sL, R_sL, L_sL, and_true, true_and, and_false, false_and, and_self, reduceIte, sF_sF, sA_sA, false_or, or_false, true_or, or_true, not_false_eq_true, not_true_eq_false, decide_true, decide_false, Bool.true_or, Bool.or_true, Bool.false_and, Bool.true_and, Bool.false_or, Bool.or_false, Bool.and_true, Bool.and_false]
  · simp (decide := true) only [bX11_filter_54, f8_0, e0, (st f).2.1, nle hy (by omega), ob_n, b2_n, tc_rn, tc_ln, F_sF, A_sF, R_sF, L_sF, F_sA, A_sA, R_sA, L_sA, F_sR, A_sR, R_sR, L_sR, F_sL, A_sL, R_sL, L_sL, and_true, true_and, and_false, false_and, and_self, reduceIte, sF_sF, sA_sA, false_or, or_false, true_or, or_true, not_false_eq_true, not_true_eq_false, decide_true, decide_false, Bool.true_or, Bool.or_true, Bool.false_and, Bool.true_and, Bool.false_or, Bool.or_false, Bool.and_true, Bool.and_false]
  · simp (decide := true) only [bX11_filter_54, f8_0, e0, (st f).2.1, nlr (show h < 2147483648 by omega), ob_n, b2_n, tc_rn, tc_ln, F_sF, A_sF, R_sF, L_sF, F_sA, A_sA, R_sA, L_sA, F_sR, A_sR, R_sR, L_sR, F_sL, A_sL, R_sL, L_sL, and_true, true_and, and_false, false_and, and_self, reduceIte, sF_sF, sA_sA, false_or, or_false, true_or, or_true, not_false_eq_true, not_true_eq_false, decide_true, decide_false, Bool.true_or, Bool.or_true, Bool.false_and, Bool.true_and, Bool.false_or, Bool.or_false, Bool.and_true, Bool.and_false]
theorem filter12l {s : e_S} {g : ps_G} {w h l : Nat} {kind n : Int32} (hk : FOk kind n) (hw1 : 1 ≤ w) (hh1 : 1 ≤ h) (hw : w ≤ 24) (hh : h ≤ 24) (e1 : s.1 139 13 = Int32.ofNat w) (e2 : s.1 139 14 = Int32.ofNat h) (hd : 0 < (s.1 139 25).toInt) (hl : l < 30) (hB : ∀ k, k < w * h → s.2.1 158 k = pxN (s.2.1 142) l k) (hW : ∀ k, k < w * h → s.2.1 147 k = pxN (s.2.1 142) l k) : ∃ t', q_lp (fun t => bX12_filter_62 139 (Int32.ofNat l) kind n t.1 t.2) ((0 : Int32), e_g s g) = some (e_g (sA (sA s 142 (cpT (s.2.1 142) (ftV kind n w h (s.2.1 142) (s.2.1 155) (s.2.1 150) (s.1 139 25) (s.1 139 26) l) (1169 * l + 17) (h * w))) 151 t') g) := by
  have hwh := wh_le hw hh
  have key := fill2 (τ := Nat → Int32) (fun t f => e_g (sA (sA s 142 f) 151 t) g) (1169 * l + 17) w h (ftV kind n w h (s.2.1 142) (s.2.1 155) (s.2.1 150) (s.1 139 25) (s.1 139 26) l) (s.2.1 142) (bI := fun y t => bX12_filter_74 139 (Int32.ofNat l) kind n y t.1 t.2) (bO := fun t => bX12_filter_62 139 (Int32.ofNat l) kind n t.1 t.2) (fun t f y x hy hx hf => ?_) (fun t f y hy => ?_) (fun t f y hy => ?_) (fun t f => ?_) (s.2.1 151)
  · obtain ⟨t', ht⟩ := key
    have e1 : sA (sA s 142 (s.2.1 142)) 151 (s.2.1 151) = s := by rw [sA_id, sA_id]
    rw [e1] at ht
    exact ⟨t', ht⟩
  · have hlt := at_lt hx hy
    have q1 : ∀ t, (sA (sA s 142 f) 151 t).1 139 13 = Int32.ofNat w := fun t => by simp (decide := true) only [ob_n, b2_n, tc_rn, tc_ln, F_sF, A_sF, R_sF, L_sF, F_sA, A_sA, R_sA, L_sA, F_sR, A_sR, R_sR, L_sR, F_sL, A_sL, R_sL, L_sL, and_true, true_and, and_false, false_and, and_self, reduceIte, sF_sF, sA_sA, false_or, or_false, true_or, or_true, not_false_eq_true, not_true_eq_false, decide_true, decide_false, Bool.true_or, Bool.or_true, Bool.false_and, Bool.true_and, Bool.false_or, Bool.or_false, Bool.and_true, Bool.and_false, e1]
    have q2 : ∀ t, (sA (sA s 142 f) 151 t).1 139 14 = Int32.ofNat h := fun t => by simp (decide := true) only [ob_n, b2_n, tc_rn, tc_ln, F_sF, A_sF, R_sF, L_sF, F_sA, A_sA, R_sA, L_sA, F_sR, A_sR, R_sR, L_sR, F_sL, A_sL, R_sL, L_sL, and_true, true_and, and_false, false_and, and_self, reduceIte, sF_sF, sA_sA, false_or, or_false, true_or, or_true, not_false_eq_true, not_true_eq_false, decide_true, decide_false, Bool.true_or, Bool.or_true, Bool.false_and, Bool.true_and, Bool.false_or, Bool.or_false, Bool.and_true, Bool.and_false, e2]
    have q3 : ∀ t, (sA (sA s 142 f) 151 t).2.1 142 = f := fun t => by simp (decide := true) only [ob_n, b2_n, tc_rn, tc_ln, F_sF, A_sF, R_sF, L_sF, F_sA, A_sA, R_sA, L_sA, F_sR, A_sR, R_sR, L_sR, F_sL, A_sL, R_sL, L_sL, and_true, true_and, and_false, false_and, and_self, reduceIte, sF_sF, sA_sA, false_or, or_false, true_or, or_true, not_false_eq_true, not_true_eq_false, decide_true, decide_false, Bool.true_or, Bool.or_true, Bool.false_and, Bool.true_and, Bool.false_or, Bool.or_false, Bool.and_true, Bool.and_false]
    have q5 : ∀ t, (sA (sA s 142 f) 151 t).2.1 155 = s.2.1 155 := fun t => by simp (decide := true) only [ob_n, b2_n, tc_rn, tc_ln, F_sF, A_sF, R_sF, L_sF, F_sA, A_sA, R_sA, L_sA, F_sR, A_sR, R_sR, L_sR, F_sL, A_sL, R_sL, L_sL, and_true, true_and, and_false, false_and, and_self, reduceIte, sF_sF, sA_sA, false_or, or_false, true_or, or_true, not_false_eq_true, not_true_eq_false, decide_true, decide_false, Bool.true_or, Bool.or_true, Bool.false_and, Bool.true_and, Bool.false_or, Bool.or_false, Bool.and_true, Bool.and_false]
    have q7 : ∀ t, (sA (sA s 142 f) 151 t).2.1 147 = s.2.1 147 := fun t => by simp (decide := true) only [ob_n, b2_n, tc_rn, tc_ln, F_sF, A_sF, R_sF, L_sF, F_sA, A_sA, R_sA, L_sA, F_sR, A_sR, R_sR, L_sR, F_sL, A_sL, R_sL, L_sL, and_true, true_and, and_false, false_and, and_self, reduceIte, sF_sF, sA_sA, false_or, or_false, true_or, or_true, not_false_eq_true, not_true_eq_false, decide_true, decide_false, Bool.true_or, Bool.or_true, Bool.false_and, Bool.true_and, Bool.false_or, Bool.or_false, Bool.and_true, Bool.and_false]
    have q0 : ∀ t, (sA (sA s 142 f) 151 t).2.1 150 = s.2.1 150 := fun t => by simp (decide := true) only [ob_n, b2_n, tc_rn, tc_ln, F_sF, A_sF, R_sF, L_sF, F_sA, A_sA, R_sA, L_sA, F_sR, A_sR, R_sR, L_sR, F_sL, A_sL, R_sL, L_sL, and_true, true_and, and_false, false_and, and_self, reduceIte, sF_sF, sA_sA, false_or, or_false, true_or, or_true, not_false_eq_true, not_true_eq_false, decide_true, decide_false, Bool.true_or, Bool.or_true, Bool.false_and, Bool.true_and, Bool.false_or, Bool.or_false, Bool.and_true, Bool.and_false]
    have qd : ∀ t, (sA (sA s 142 f) 151 t).1 139 25 = s.1 139 25 := fun t => by simp (decide := true) only [ob_n, b2_n, tc_rn, tc_ln, F_sF, A_sF, R_sF, L_sF, F_sA, A_sA, R_sA, L_sA, F_sR, A_sR, R_sR, L_sR, F_sL, A_sL, R_sL, L_sL, and_true, true_and, and_false, false_and, and_self, reduceIte, sF_sF, sA_sA, false_or, or_false, true_or, or_true, not_false_eq_true, not_true_eq_false, decide_true, decide_false, Bool.true_or, Bool.or_true, Bool.false_and, Bool.true_and, Bool.false_or, Bool.or_false, Bool.and_true, Bool.and_false]
    have qo : ∀ t, (sA (sA s 142 f) 151 t).1 139 26 = s.1 139 26 := fun t => by simp (decide := true) only [ob_n, b2_n, tc_rn, tc_ln, F_sF, A_sF, R_sF, L_sF, F_sA, A_sA, R_sA, L_sA, F_sR, A_sR, R_sR, L_sR, F_sL, A_sL, R_sL, L_sL, and_true, true_and, and_false, false_and, and_self, reduceIte, sF_sF, sA_sA, false_or, or_false, true_or, or_true, not_false_eq_true, not_true_eq_false, decide_true, decide_false, Bool.true_or, Bool.or_true, Bool.false_and, Bool.true_and, Bool.false_or, Bool.or_false, Bool.and_true, Bool.and_false]
    obtain ⟨t', fl⟩ := filtered12 (s := sA (sA s 142 f) 151 t) (g := g) (kind := kind) (n := n) hk hw1 hh1 hw hh (q1 t) (q2 t) hx hy (by rw [qd]; exact hd)
    rw [q7, q0, qd, qo, nr_c hw1 hh1 hW, sA_sA] at fl
    have sh := shifted12 (s := sA (sA s 142 f) 151 t') (g := g) (l := l) (x := Int32.ofNat x) (y := Int32.ofNat y) (dx := s.2.1 142 (1169 * l + 8)) (dy := s.2.1 142 (1169 * l + 9)) hw hh (q1 t') (q2 t') hl (by rw [q3, hf]; exact cpT_out (by omega)) (by rw [q3, hf]; exact cpT_out (by omega))
    rw [q5] at sh
    have pp : ∀ v, fX12_put (e_g (sA (sA s 142 f) 151 t') g) 139 (Int32.ofNat l) (17 + Int32.ofNat (y * w + x)) v = some (e_g (sA (sA s 142 (upd f (1169 * l + 17 + (y * w + x)) v)) 151 t') g) := by
      intro v
      have := put12n (s := sA (sA s 142 f) 151 t') (g := g) (v := v) hl (show y * w + x < 576 by omega)
      rw [q3, sA_cm (show ¬ 151 = 142 by decide), sA_sA] at this
      exact this
    refine ⟨t', ?_⟩
    have v : ftV kind n w h (s.2.1 142) (s.2.1 155) (s.2.1 150) (s.1 139 25) (s.1 139 26) l (y * w + x) = fX11_mixColours (pxN (s.2.1 142) l (y * w + x)) (flV kind n (nr (pxN (s.2.1 142) l) w h) (s.2.1 150) (s.1 139 25) (s.1 139 26) (Int32.ofNat x) (Int32.ofNat y)) (bAt w h (s.2.1 155) (Int32.ofNat x + s.2.1 142 (1169 * l + 8)) (Int32.ofNat y + s.2.1 142 (1169 * l + 9))) := by
      unfold ftV
      rw [shV_n hx, (md (y := y) hx).1, (md (y := y) hx).2]
    simp (decide := true) only [bX12_filter_74, f139_13, f139_35, a158, ob139, e1, nle hx (by omega), at12n (q1 t), n_in2 (show y * w + x < 576 by omega) (by decide), n_idx (show y * w + x < 2147483648 by omega), hB _ hlt, fl, sh, mixed12, pp, n_suc, v, ob_n, b2_n, tc_rn, tc_ln, F_sF, A_sF, R_sF, L_sF, F_sA, A_sA, R_sA, L_sA, F_sR, A_sR, R_sR, L_sR, F_sL, A_sL, R_sL, L_sL, and_true, true_and, and_false, false_and, and_self, reduceIte, sF_sF, sA_sA, false_or, or_false, true_or, or_true, not_false_eq_true, not_true_eq_false, decide_true, decide_false, Bool.true_or, Bool.or_true, Bool.false_and, Bool.true_and, Bool.false_or, Bool.or_false, Bool.and_true, Bool.and_false]
  · simp (decide := true) only [bX12_filter_74, f139_13, e1, nlr (show w < 2147483648 by omega), ob_n, b2_n, tc_rn, tc_ln, F_sF, A_sF, R_sF, L_sF, F_sA, A_sA, R_sA, L_sA, F_sR, A_sR, R_sR, L_sR, F_sL, A_sL, R_sL, L_sL, and_true, true_and, and_false, false_and, and_self, reduceIte, sF_sF, sA_sA, false_or, or_false, true_or, or_true, not_false_eq_true, not_true_eq_false, decide_true, decide_false, Bool.true_or, Bool.or_true, Bool.false_and, Bool.true_and, Bool.false_or, Bool.or_false, Bool.and_true, Bool.and_false]
  · simp (decide := true) only [bX12_filter_62, f139_14, e2, nle hy (by omega), ob_n, b2_n, tc_rn, tc_ln, F_sF, A_sF, R_sF, L_sF, F_sA, A_sA, R_sA, L_sA, F_sR, A_sR, R_sR, L_sR, F_sL, A_sL, R_sL, L_sL, and_true, true_and, and_false, false_and, and_self, reduceIte, sF_sF, sA_sA, false_or, or_false, true_or, or_true, not_false_eq_true, not_true_eq_false, decide_true, decide_false, Bool.true_or, Bool.or_true, Bool.false_and, Bool.true_and, Bool.false_or, Bool.or_false, Bool.and_true, Bool.and_false]
  · simp (decide := true) only [bX12_filter_62, f139_14, e2, nlr (show h < 2147483648 by omega), ob_n, b2_n, tc_rn, tc_ln, F_sF, A_sF, R_sF, L_sF, F_sA, A_sA, R_sA, L_sA, F_sR, A_sR, R_sR, L_sR, F_sL, A_sL, R_sL, L_sL, and_true, true_and, and_false, false_and, and_self, reduceIte, sF_sF, sA_sA, false_or, or_false, true_or, or_true, not_false_eq_true, not_true_eq_false, decide_true, decide_false, Bool.true_or, Bool.or_true, Bool.false_and, Bool.true_and, Bool.false_or, Bool.or_false, Bool.and_true, Bool.and_false]
theorem was12 {s : e_S} {g : ps_G} {b : Int32 × ps_G → Option ((Int32 × ps_G) ⊕ ps_G)} (hb : ∀ i s', b (Int32.ofNat i, e_g s' g) = if (576 : Int32) ≤ Int32.ofNat i then some (.inr (e_g s' g)) else (q_aI (e_g s' g) 158 (Int32.ofNat i)).bind fun v => (q_wI (e_g s' g) 147 (Int32.ofNat i) v).bind fun g15 => some (.inl (Int32.ofNat i + 1, g15))) : q_lp b ((0 : Int32), e_g s g) = some (e_g (sA s 147 (cpT (s.2.1 147) (s.2.1 158) 0 576)) g) := by
  have key := fillN (fun f => e_g (sA s 147 f) g) 0 576 (s.2.1 158) (s.2.1 147) (bO := b) (fun f i hi _ => ?_) (fun f => ?_)
  · rw [sA_id] at key; exact key
  · have q1 : ¬ (576 : Int32) ≤ Int32.ofNat i := nle (b := 576) hi (by decide)
    rw [hb]
    simp (decide := true) only [q1, a158, u147, n_in2 hi (by decide), n_idx (show i < 2147483648 by omega), n_suc, Nat.zero_add, ob_n, b2_n, tc_rn, tc_ln, F_sF, A_sF, R_sF, L_sF, F_sA, A_sA, R_sA, L_sA, F_sR, A_sR, R_sR, L_sR, F_sL, A_sL, R_sL, L_sL, and_true, true_and, and_false, false_and, and_self, reduceIte, sF_sF, sA_sA, false_or, or_false, true_or, or_true, not_false_eq_true, not_true_eq_false, decide_true, decide_false, Bool.true_or, Bool.or_true, Bool.false_and, Bool.true_and, Bool.false_or, Bool.or_false, Bool.and_true, Bool.and_false]
  · rw [hb, if_pos (by decide)]
theorem filter12 {s : e_S} {g : ps_G} {x kind n : Int32} {st pc w h : Nat} (h1 : st < 25) (h2 : pc ≤ 24) (e1 : s.1 139 10 = Int32.ofNat st) (e2 : s.1 139 11 = Int32.ofNat pc) (hw : w ≤ 24) (hh : h ≤ 24) (hw1 : 1 ≤ w) (hh1 : 1 ≤ h) (e3 : s.1 139 13 = Int32.ofNat w) (e4 : s.1 139 14 = Int32.ofNat h) (hd : 0 < (s.1 139 25).toInt) : (fOk kind n = false ∨ (isL (s.2.1 142) x = true ∧ ¬ s.2.1 142 (1169 * x.toInt.toNat + 1) = 0) → fX12_filter (e_g s g) 139 x kind n = some (0, e_g (sF s 139 0 1) g)) ∧ (fOk kind n = true → isL (s.2.1 142) x = false → fX12_filter (e_g s g) 139 x kind n = some (0, e_g (sF s 139 0 2) g)) ∧ ∀ l, x = Int32.ofNat l → l < 30 → s.2.1 142 (1169 * l) = 1 → s.2.1 142 (1169 * l + 1) = 0 → fOk kind n = true → ∃ W t', fX12_filter (e_g s g) 139 x kind n = some (Int32.ofNat (cnt (dfN (ftV kind n w h (s.2.1 142) (s.2.1 155) (s.2.1 150) (s.1 139 25) (s.1 139 26) l) (pxN (s.2.1 142) l)) (h * w)), e_g (fcM (edM (sA (sA (sA (bgM s l) 147 W) 151 t') 142 (cpT (s.2.1 142) (ftV kind n w h (s.2.1 142) (s.2.1 155) (s.2.1 150) (s.1 139 25) (s.1 139 26) l) (1169 * l + 17) (h * w))) st pc) (s.2.1 142) l w (h * w) (ftV kind n w h (s.2.1 142) (s.2.1 155) (s.2.1 150) (s.1 139 25) (s.1 139 26) l)) g) := by
  have hwh := wh_le hw hh
  have wy := why12 (s := s) (g := g) (x := x) (b := fOk kind n)
  refine ⟨fun q1 => ?_, fun q1 q2 => ?_, fun l hx hl hl1 hk q2 => ?_⟩
  · rw [if_pos q1] at wy
    simp (decide := true) only [fX12_filter, ob139, flt12, wy, w139_0, f139_0, ob_n, b2_n, tc_rn, tc_ln, F_sF, A_sF, R_sF, L_sF, F_sA, A_sA, R_sA, L_sA, F_sR, A_sR, R_sR, L_sR, F_sL, A_sL, R_sL, L_sL, and_true, true_and, and_false, false_and, and_self, reduceIte, sF_sF, sA_sA, false_or, or_false, true_or, or_true, not_false_eq_true, not_true_eq_false, decide_true, decide_false, Bool.true_or, Bool.or_true, Bool.false_and, Bool.true_and, Bool.false_or, Bool.or_false, Bool.and_true, Bool.and_false]
  · have n1 : ¬ (fOk kind n = false ∨ (isL (s.2.1 142) x = true ∧ ¬ s.2.1 142 (1169 * x.toInt.toNat + 1) = 0)) := by rw [q1, q2]; simp
    have n2 : ¬ isL (s.2.1 142) x = true := by rw [q2]; decide
    rw [if_neg n1, if_neg n2] at wy
    simp (decide := true) only [fX12_filter, ob139, flt12, wy, w139_0, f139_0, ob_n, b2_n, tc_rn, tc_ln, F_sF, A_sF, R_sF, L_sF, F_sA, A_sA, R_sA, L_sA, F_sR, A_sR, R_sR, L_sR, F_sL, A_sL, R_sL, L_sL, and_true, true_and, and_false, false_and, and_self, reduceIte, sF_sF, sA_sA, false_or, or_false, true_or, or_true, not_false_eq_true, not_true_eq_false, decide_true, decide_false, Bool.true_or, Bool.or_true, Bool.false_and, Bool.true_and, Bool.false_or, Bool.or_false, Bool.and_true, Bool.and_false]
  · subst hx
    have hL : isL (s.2.1 142) (Int32.ofNat l) = true := by rw [isL_o hl, decide_eq_true hl1]
    have n1 : ¬ (fOk kind n = false ∨ (isL (s.2.1 142) (Int32.ofNat l) = true ∧ ¬ s.2.1 142 (1169 * (Int32.ofNat l).toInt.toNat + 1) = 0)) := by
      rw [n_int (by omega), Int.toNat_natCast, q2]
      rintro (z | z)
      · cases z
      · exact z.2 hk
    rw [if_neg n1, if_pos hL] at wy
    have hF : FOk kind n := by
      unfold fOk at q2
      rw [Bool.and_eq_true] at q2
      exact fOk_F q2.1 q2.2
    have bg : fX12_begin (e_g (sF s 139 0 0) g) 139 (Int32.ofNat l) = some (e_g (bgM s l) g) := by
      rw [begin12 hl]
      unfold bgM
      rw [A_sF]
    have ws := was12 (s := bgM s l) (g := g) (b := fun t => bX12_filter_31 139 (Int32.ofNat l) kind n t.1 t.2) (fun i s' => by simp (decide := true) only [bX12_filter_31, f139_18, f139_35, ob_n, b2_n, tc_rn, tc_ln, F_sF, A_sF, R_sF, L_sF, F_sA, A_sA, R_sA, L_sA, F_sR, A_sR, R_sR, L_sR, F_sL, A_sL, R_sL, L_sL, and_true, true_and, and_false, false_and, and_self, reduceIte, sF_sF, sA_sA, false_or, or_false, true_or, or_true, not_false_eq_true, not_true_eq_false, decide_true, decide_false, Bool.true_or, Bool.or_true, Bool.false_and, Bool.true_and, Bool.false_or, Bool.or_false, Bool.and_true, Bool.and_false])
    generalize hW : cpT ((bgM s l).2.1 147) ((bgM s l).2.1 158) 0 576 = W at ws
    have hWk : ∀ k, k < w * h → W k = pxN (s.2.1 142) l k := by
      intro k hk
      have := cpT_in (A := (bgM s l).2.1 147) (N := (bgM s l).2.1 158) (b := 0) (n := 576) (k := k) (by omega)
      rw [Nat.zero_add, hW] at this
      rw [this]
      exact bg_158 (by omega)
    have e142 : (sA (bgM s l) 147 W).2.1 142 = s.2.1 142 := by unfold bgM; simp (decide := true) only [ob_n, b2_n, tc_rn, tc_ln, F_sF, A_sF, R_sF, L_sF, F_sA, A_sA, R_sA, L_sA, F_sR, A_sR, R_sR, L_sR, F_sL, A_sL, R_sL, L_sL, and_true, true_and, and_false, false_and, and_self, reduceIte, sF_sF, sA_sA, false_or, or_false, true_or, or_true, not_false_eq_true, not_true_eq_false, decide_true, decide_false, Bool.true_or, Bool.or_true, Bool.false_and, Bool.true_and, Bool.false_or, Bool.or_false, Bool.and_true, Bool.and_false]
    have e155 : (sA (bgM s l) 147 W).2.1 155 = s.2.1 155 := by unfold bgM; simp (decide := true) only [ob_n, b2_n, tc_rn, tc_ln, F_sF, A_sF, R_sF, L_sF, F_sA, A_sA, R_sA, L_sA, F_sR, A_sR, R_sR, L_sR, F_sL, A_sL, R_sL, L_sL, and_true, true_and, and_false, false_and, and_self, reduceIte, sF_sF, sA_sA, false_or, or_false, true_or, or_true, not_false_eq_true, not_true_eq_false, decide_true, decide_false, Bool.true_or, Bool.or_true, Bool.false_and, Bool.true_and, Bool.false_or, Bool.or_false, Bool.and_true, Bool.and_false]
    have e150 : (sA (bgM s l) 147 W).2.1 150 = s.2.1 150 := by unfold bgM; simp (decide := true) only [ob_n, b2_n, tc_rn, tc_ln, F_sF, A_sF, R_sF, L_sF, F_sA, A_sA, R_sA, L_sA, F_sR, A_sR, R_sR, L_sR, F_sL, A_sL, R_sL, L_sL, and_true, true_and, and_false, false_and, and_self, reduceIte, sF_sF, sA_sA, false_or, or_false, true_or, or_true, not_false_eq_true, not_true_eq_false, decide_true, decide_false, Bool.true_or, Bool.or_true, Bool.false_and, Bool.true_and, Bool.false_or, Bool.or_false, Bool.and_true, Bool.and_false]
    have e158 : (sA (bgM s l) 147 W).2.1 158 = (bgM s l).2.1 158 := by simp (decide := true) only [ob_n, b2_n, tc_rn, tc_ln, F_sF, A_sF, R_sF, L_sF, F_sA, A_sA, R_sA, L_sA, F_sR, A_sR, R_sR, L_sR, F_sL, A_sL, R_sL, L_sL, and_true, true_and, and_false, false_and, and_self, reduceIte, sF_sF, sA_sA, false_or, or_false, true_or, or_true, not_false_eq_true, not_true_eq_false, decide_true, decide_false, Bool.true_or, Bool.or_true, Bool.false_and, Bool.true_and, Bool.false_or, Bool.or_false, Bool.and_true, Bool.and_false]
    have eF : ∀ j, ¬ j = 0 → (sA (bgM s l) 147 W).1 139 j = s.1 139 j := by
      intro j hj
      unfold bgM
      rw [F_sA, F_sA, F_sF, if_neg (fun z => hj z.2)]
    obtain ⟨t', lp⟩ := filter12l (s := sA (bgM s l) 147 W) (g := g) (l := l) hF hw1 hh1 hw hh (by rw [eF 13 (by decide)]; exact e3) (by rw [eF 14 (by decide)]; exact e4) (by rw [eF 25 (by decide)]; exact hd) hl (fun k hk => by rw [e158, e142]; exact bg_158 (by omega)) (fun k hk => by rw [e142, A_sA, if_pos rfl]; exact hWk k hk)
    rw [e142, e155, e150, eF 25 (by decide), eF 26 (by decide), sA_cm (show ¬ 142 = 151 by decide)] at lp
    have ch := changed12 (s := sA (sA (sA (bgM s l) 147 W) 151 t') 142 (cpT (s.2.1 142) (ftV kind n w h (s.2.1 142) (s.2.1 155) (s.2.1 150) (s.1 139 25) (s.1 139 26) l) (1169 * l + 17) (h * w))) (g := g) (l := l) (N := s.2.1 142) (φ := ftV kind n w h (s.2.1 142) (s.2.1 155) (s.2.1 150) (s.1 139 25) (s.1 139 26) l) hw hh hw1 hl h1 h2 (by rw [F_sA, F_sA, eF 10 (by decide)]; exact e1) (by rw [F_sA, F_sA, eF 11 (by decide)]; exact e2) (by rw [F_sA, F_sA, eF 13 (by decide)]; exact e3) (by rw [F_sA, F_sA, eF 14 (by decide)]; exact e4) (by rw [A_sA, if_pos rfl]) (fun k hk => by
      rw [A_sA, if_neg (by decide), A_sA, if_neg (by decide), e158]
      exact bg_158 (by omega))
    refine ⟨W, t', ?_⟩
    simp (decide := true) only [fX12_filter, ob139, flt12, wy, w139_0, f139_0, bg, ws, lp, ch, ob_n, b2_n, tc_rn, tc_ln, F_sF, A_sF, R_sF, L_sF, F_sA, A_sA, R_sA, L_sA, F_sR, A_sR, R_sR, L_sR, F_sL, A_sL, R_sL, L_sL, and_true, true_and, and_false, false_and, and_self, reduceIte, sF_sF, sA_sA, false_or, or_false, true_or, or_true, not_false_eq_true, not_true_eq_false, decide_true, decide_false, Bool.true_or, Bool.or_true, Bool.false_and, Bool.true_and, Bool.false_or, Bool.or_false, Bool.and_true, Bool.and_false]
theorem K_filter {s : e_S} {g : ps_G} {x kind n : Int32} (hR : Rel s g) : KI (fL_filter (e_g s g) 8 x kind n 194) (fun G => fX12_filter G 139 x kind n) g := by
  have hg := rel_g hR
  obtain ⟨h1, h2, h3, h4, h5, h6, ⟨w, h, h7, h8, h9⟩, h10, h11⟩ := id hR
  obtain ⟨a, st, pc, uc, f1, f2, f3, f4, f5, f6, f7, f8, f9, f10, f11, f12⟩ := h9
  obtain ⟨d1, d2, d3, d4, d5, d6, d7, d8, d9⟩ := id h7
  have hwh := wh_le d2 d4
  obtain ⟨s0, s1, -, -⟩ := stW (s := s) f9
  have hdv : 0 < (s.1 139 25).toInt := by
    have := (rg_i.mp h3.2.2.1).1
    have e1 : (1 : Int32).toInt = 1 := rfl
    omega
  have hm0 := fun s' g e1 e2 e3 e4 e5 => filter12 (s := s') (g := g) (x := x) (kind := kind) (n := n) f1 (show pc ≤ 24 by omega) e1 e2 d2 d4 d1 d3 e3 e4 e5
  by_cases q : fOk kind n = true
  · rcases knownPix11 (x := x) hg f3 f9 with ⟨k1, k2⟩ | ⟨l, b, rfl, hl, k1, k3, hLy, ⟨k4, k2⟩ | ⟨k4, k2⟩⟩
    · refine KI_no (E := "java/util/NoSuchElementException") (y := 2) hR ?_ (by decide +kernel) (by decide) ((hm0 s (nx g) f6 f7 d5 d6 hdv).2.1 q k1)
      simp (decide := true) only [fX11_filter, needFilter11 hg, q, ob8, k2, ob_n, b2_n, tc_rn, tc_ln, F_sF, A_sF, R_sF, L_sF, F_sA, A_sA, R_sA, L_sA, F_sR, A_sR, R_sR, L_sR, F_sL, A_sL, R_sL, L_sL, and_true, true_and, and_false, false_and, and_self, reduceIte, sF_sF, sA_sA, false_or, or_false, true_or, or_true, not_false_eq_true, not_true_eq_false, decide_true, decide_false, Bool.true_or, Bool.or_true, Bool.false_and, Bool.true_and, Bool.false_or, Bool.or_false, Bool.and_true, Bool.and_false]
    · refine KI_no (E := "java/lang/IllegalArgumentException") (y := 1) hR ?_ (by decide +kernel) (by decide) ((hm0 s (nx g) f6 f7 d5 d6 hdv).1 (Or.inr ⟨k1, by rw [n_int (by omega), Int.toNat_natCast]; exact k4⟩))
      simp (decide := true) only [fX11_filter, needFilter11 hg, q, ob8, k2, ob_n, b2_n, tc_rn, tc_ln, F_sF, A_sF, R_sF, L_sF, F_sA, A_sA, R_sA, L_sA, F_sR, A_sR, R_sR, L_sR, F_sL, A_sL, R_sL, L_sL, and_true, true_and, and_false, false_and, and_self, reduceIte, sF_sF, sA_sA, false_or, or_false, true_or, or_true, not_false_eq_true, not_true_eq_false, decide_true, decide_false, Bool.true_or, Bool.or_true, Bool.false_and, Bool.true_and, Bool.false_or, Bool.or_false, Bool.and_true, Bool.and_false]
    · have hF : FOk kind n := by
        unfold fOk at q
        rw [Bool.and_eq_true] at q
        exact fOk_F q.1 q.2
      obtain ⟨y1, y2, p, q', x0, y0, x1, yy1, pa, ma, y3, z1, z2, z3, z4, z5, z6, z7, z8, z9, z10, z11, z12, -⟩ := id hLy
      obtain ⟨a1, a0, a2, F, a3, a4⟩ := z12 k4
      have f15 : q_fR 4 15 (e_g s g) b = some (some pa) := d_fR y1 y3 rfl
      have hnr : nr F w h = nr (pxN (s.2.1 142) l) w h := nr_c d1 d3 (fun k hk => a4 k hk)
      obtain ⟨t', ap⟩ := apply5 (s := s) (g := g) (a := pa) (to := 138) (w := w) (h := h) (kind := kind) (n := n) (F := F) t138 (by decide) (by decide) (by decide) hF d1 d3 d2 d4 (by rw [h3.2.1]; exact hdv) (d_len a1 a3) (fun f t i => d_aI a1 a3)
      rw [hnr, h3.2.1, h3.2.2.2.1] at ap
      generalize hs1 : sA (sA (apS s pa w h) 138 (cpT (s.2.1 138) (fun k => flV kind n (nr (pxN (s.2.1 142) l) w h) (s.2.1 18) (s.1 139 25) (s.1 139 26) (Int32.ofNat (k % w)) (Int32.ofNat (k / w))) 0 (h * w))) 19 t' = S1 at ap
      have smS : Sm s S1 := by
        rw [← hs1]; unfold apS
        exact sm_A (sm_A (sm_F (sm_F (sm_R sm_rf (by decide)) (by decide)) (by decide)) (by decide)) (by decide)
      have eR : ∀ j k, ¬ j = 14 → S1.2.2.1 j k = s.2.2.1 j k := fun j k hj => by
        rw [← hs1]; unfold apS
        rw [R_sA, R_sA, R_sF, R_sF, R_sR, if_neg (fun z => hj z.1)]
      have eF1 : ∀ i j, ¬ i = 14 → S1.1 i j = s.1 i j := fun i j hj => by
        rw [← hs1]; unfold apS
        rw [F_sA, F_sA, F_sF, if_neg (fun z => hj z.1), F_sF, if_neg (fun z => hj z.1), F_sR]
      have eA1 : ∀ j, ¬ j = 138 → ¬ j = 19 → S1.2.1 j = s.2.1 j := fun j h1 h2 => by
        rw [← hs1]; unfold apS
        rw [A_sA, if_neg h2, A_sA, if_neg h1, A_sF, A_sF, A_sR]
      have h138 : ∀ k, k < w * h → S1.2.1 138 k = flV kind n (nr (pxN (s.2.1 142) l) w h) (s.2.1 150) (s.1 139 25) (s.1 139 26) (Int32.ofNat (k % w)) (Int32.ofNat (k / w)) := fun k hk => by
        rw [← hs1, A_sA, if_neg (by decide), A_sA, if_pos rfl]
        have := cpT_in (A := s.2.1 138) (N := fun k => flV kind n (nr (pxN (s.2.1 142) l) w h) (s.2.1 18) (s.1 139 25) (s.1 139 26) (Int32.ofNat (k % w)) (Int32.ofNat (k / w))) (b := 0) (n := h * w) (k := k) (by rw [Nat.mul_comm]; exact hk)
        rw [Nat.zero_add] at this
        rw [this]
        exact flV_c (fun i hi => (h3.1 i hi).1)
      have lp := filter11l (s := S1) (N := s.2.1 142) (l := l) (b := b) (a := a) hg d2 d4 (by rw [eR 8 0 (by decide)]; exact f3) f9 hLy k4 (by rw [eF1 _ _ (by decide)]; exact d7) (by rw [eF1 _ _ (by decide)]; exact d8) h138 (cI (fun _ => 0) 0)
      rw [eA1 90 (by decide) (by decide)] at lp
      refine KI_pt2 (s1 := S1) (l := l) (b := b) (φ := ftV kind n w h (s.2.1 142) (s.2.1 155) (s.2.1 150) (s.1 139 25) (s.1 139 26) l) hR h7 h8 f1 f2 (by rw [eR 8 0 (by decide)]; exact f3) (by rw [eF1 _ _ (by decide)]; exact f4) f9 f10 f11 (funext fun i => eR 12 i (by decide)) hl k3 hLy k4 (cpT (cI (fun _ => 0) 0) (fun k => fX11_mixColours (pxN (s.2.1 142) l k) (flV kind n (nr (pxN (s.2.1 142) l) w h) (s.2.1 150) (s.1 139 25) (s.1 139 26) (Int32.ofNat (k % w)) (Int32.ofNat (k / w))) (shV w h (s.2.1 90) (s.2.1 142 (1169 * l + 8)) (s.2.1 142 (1169 * l + 9)) k)) 0 (h * w)) (fun k hk => ?_) (fun v g2 w1 => ?_) (fun S g2 hS => ?_)
      · have := cpT_in (A := cI (fun _ => 0) 0) (N := fun k => fX11_mixColours (pxN (s.2.1 142) l k) (flV kind n (nr (pxN (s.2.1 142) l) w h) (s.2.1 150) (s.1 139 25) (s.1 139 26) (Int32.ofNat (k % w)) (Int32.ofNat (k / w))) (shV w h (s.2.1 90) (s.2.1 142 (1169 * l + 8)) (s.2.1 142 (1169 * l + 9)) k)) (b := 0) (n := h * w) (k := k) (by rw [Nat.mul_comm]; exact hk)
        rw [Nat.zero_add] at this
        rw [this]
        unfold ftV shV
        rw [bAt_c (fun k hk => (d9 k (by omega)).1)]
      · have e1 : (e_g S1 g).1 = g.1 := rfl
        simp (decide := true) only [fX11_filter, needFilter11 hg, q, ob8, k2, f8_5, f15, f8_17, f8_0, f3, s0, s1, ob14, ap, nA_mk hg, e1, lp, w1, ob_n, b2_n, tc_rn, tc_ln, F_sF, A_sF, R_sF, L_sF, F_sA, A_sA, R_sA, L_sA, F_sR, A_sR, R_sR, L_sR, F_sL, A_sL, R_sL, L_sL, and_true, true_and, and_false, false_and, and_self, reduceIte, sF_sF, sA_sA, false_or, or_false, true_or, or_true, not_false_eq_true, not_true_eq_false, decide_true, decide_false, Bool.true_or, Bool.or_true, Bool.false_and, Bool.true_and, Bool.false_or, Bool.or_false, Bool.and_true, Bool.and_false]
      · obtain ⟨p1, p2, p3⟩ := pt_S (s := s) hS
        have eA : ∀ j, ¬ j = 88 → ¬ j = 138 → ¬ j = 19 → S.2.1 j = s.2.1 j := fun j h1 h2 h3 => by rw [p1 j h1, eA1 j h2 h3]
        have eF : ∀ j, S.1 139 j = s.1 139 j := fun j => by rw [p2 139 j (by decide) (by decide), eF1 _ _ (by decide)]
        obtain ⟨W, t2, hm⟩ := (hm0 S g2 (by rw [eF]; exact f6) (by rw [eF]; exact f7) (by rw [eF]; exact d5) (by rw [eF]; exact d6) (by rw [eF]; exact hdv)).2.2 l rfl hl (by rw [eA 142 (by decide) (by decide) (by decide)]; exact k3) (by rw [eA 142 (by decide) (by decide) (by decide)]; exact k4) q
        rw [eA 142 (by decide) (by decide) (by decide), eA 155 (by decide) (by decide) (by decide), eA 150 (by decide) (by decide) (by decide), eF, eF] at hm
        refine ⟨_, hm, by unfold bgM; simp (decide := true) only [ob_n, b2_n, tc_rn, tc_ln, F_sF, A_sF, R_sF, L_sF, F_sA, A_sA, R_sA, L_sA, F_sR, A_sR, R_sR, L_sR, F_sL, A_sL, R_sL, L_sL, and_true, true_and, and_false, false_and, and_self, reduceIte, sF_sF, sA_sA, false_or, or_false, true_or, or_true, not_false_eq_true, not_true_eq_false, decide_true, decide_false, Bool.true_or, Bool.or_true, Bool.false_and, Bool.true_and, Bool.false_or, Bool.or_false, Bool.and_true, Bool.and_false], by unfold bgM; simp (decide := true) only [ob_n, b2_n, tc_rn, tc_ln, F_sF, A_sF, R_sF, L_sF, F_sA, A_sA, R_sA, L_sA, F_sR, A_sR, R_sR, L_sR, F_sL, A_sL, R_sL, L_sL, and_true, true_and, and_false, false_and, and_self, reduceIte, sF_sF, sA_sA, false_or, or_false, true_or, or_true, not_false_eq_true, not_true_eq_false, decide_true, decide_false, Bool.true_or, Bool.or_true, Bool.false_and, Bool.true_and, Bool.false_or, Bool.or_false, Bool.and_true, Bool.and_false], ?_⟩
        unfold bgM
        exact sm_A (sm_A (sm_A (sm_F (sm_tr (sm_rmC (sm_fcC smS)) p3) (by decide)) (by decide)) (by decide)) (by decide)
  · have q' : fOk kind n = false := by simpa using q
    refine KI_no (E := "java/lang/IllegalArgumentException") (y := 1) hR ?_ (by decide +kernel) (by decide) ((hm0 s (nx g) f6 f7 d5 d6 hdv).1 (Or.inl q'))
    simp (decide := true) only [fX11_filter, needFilter11 hg, q', ob_n, b2_n, tc_rn, tc_ln, F_sF, A_sF, R_sF, L_sF, F_sA, A_sA, R_sA, L_sA, F_sR, A_sR, R_sR, L_sR, F_sL, A_sL, R_sL, L_sL, and_true, true_and, and_false, false_and, and_self, reduceIte, sF_sF, sA_sA, false_or, or_false, true_or, or_true, not_false_eq_true, not_true_eq_false, decide_true, decide_false, Bool.true_or, Bool.or_true, Bool.false_and, Bool.true_and, Bool.false_or, Bool.or_false, Bool.and_true, Bool.and_false]
