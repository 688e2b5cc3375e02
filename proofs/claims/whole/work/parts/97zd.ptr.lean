-- needs: 97zc
theorem d_cl {s : e_S} {g : ps_G} {j : Nat} {F : Nat → Int32} (hj : e_fr j) (h8 : 8 ≤ j) (hc : g.2.2 j = .inl (0, (576, .inl F))) (hg : 195 ≤ g.1) : q_cl (e_g s g) j = some (e_g s (mkA g F)) := by
  unfold q_cl
  rw [e_at hj, hc]
  unfold q_I
  dsimp only
  rw [if_pos rfl, ob_n]
  have e1 : (e_g s g).1 = g.1 := rfl
  rw [e1, if_neg (by omega), e_nw hg]
  rfl
/-- the class's PATH, filled -/
theorem fillTr11 {s : e_S} {g : ps_G} {a b w h l : Nat} {N f0 : Nat → Int32} {t : TrS} {rule : Int32} (hg : 195 ≤ g.1) (hw : w ≤ 24) (hh : h ≤ 24) (e0 : s.2.2.1 8 0 = some a) (hs : StN g a w h N) (hL : LyN g b w h l (lR N l)) (q1 : s.1 89 0 = Int32.ofNat w) (q2 : s.1 89 1 = Int32.ofNat h) (hA : ∀ k, k < 576 → rg (s.2.1 90 k) 0 255) (ho : t.ok) (lb : ∀ k, k < t.ax.length → Bd (lnA t.ax k) ∧ Bd (lnA t.ay k) ∧ Bd (lnA t.ex k) ∧ Bd (lnA t.ey k)) (hle : t.ax.length ≤ 400) : ∃ T C, fX11_fillTraced (e_g (tC s t) (mkA g f0)) 8 b g.1 rule = some (e_g (sA (sA (tC s t) 109 T) 110 C) (mkA g (cpT f0 (plV (cvT rule t w) (s.2.1 90) (s.1 93 0) (N (1169 * l + 8)) (N (1169 * l + 9)) w h f0) 0 (h * w)))) := by
  have hwh := wh_le hw hh
  have la := lw_all (f1 := s.2.1 105) (f2 := s.2.1 106) (f3 := s.2.1 107) (f4 := s.2.1 108) ho
  obtain ⟨T, C, ms, mc⟩ := measure6 (s := tC s t) (g := mkA g f0) (n := t.ax.length) (w := w) (h := h) (rule := rule) hle hw hh tC_F.1 (fun k hk => by
    rw [tC_105.1, tC_105.2.1, tC_105.2.2.1, tC_105.2.2.2, (la k hk).1, (la k hk).2.1, (la k hk).2.2.1, (la k hk).2.2.2]
    exact lb k hk)
  rw [tC_105.1, tC_105.2.1, tC_105.2.2.1, tC_105.2.2.2, inV_c la] at mc
  refine ⟨T, C, ?_⟩
  have z0 : (tC s t).2.2.1 8 0 = some a := by unfold tC; simp (decide := true) only [ob_n, b2_n, tc_rn, tc_ln, F_sF, A_sF, R_sF, L_sF, F_sA, A_sA, R_sA, L_sA, F_sR, A_sR, R_sR, L_sR, F_sL, A_sL, R_sL, L_sL, and_true, true_and, and_false, false_and, and_self, reduceIte, sF_sF, sA_sA, false_or, or_false, true_or, or_true, not_false_eq_true, not_true_eq_false, decide_true, decide_false, Bool.true_or, Bool.or_true, Bool.false_and, Bool.true_and, Bool.false_or, Bool.or_false, Bool.and_true, Bool.and_false]; exact e0
  have zS : (sA (sA (tC s t) 109 T) 110 C).2.2.1 8 0 = some a := by rw [R_sA, R_sA]; exact z0
  have z90 : (sA (sA (tC s t) 109 T) 110 C).2.1 90 = s.2.1 90 := by rw [A_sA, if_neg (by decide), A_sA, if_neg (by decide), tC_A (by decide)]
  have z110 : (sA (sA (tC s t) 109 T) 110 C).2.1 110 = C := by rw [A_sA, if_pos rfl]
  have zF : ∀ i j, ¬ i = 98 → (sA (sA (tC s t) 109 T) 110 C).1 i j = s.1 i j := fun i j hi => by
    rw [F_sA, F_sA]
    unfold tC
    rw [F_sF, if_neg (fun z => hi z.1), F_sF, if_neg (fun z => hi z.1), F_sF, if_neg (fun z => hi z.1), F_sA, F_sA, F_sA, F_sA]
  obtain ⟨w0, w1, -, -⟩ := stW (s := tC s t) (stN_ext (ext_mkA (f := f0)) hs)
  generalize sA (sA (tC s t) 109 T) 110 C = S at ms zS z90 z110 zF
  have st := fun f => stW (s := S) (stN_ext (ext_mkA (f := f)) hs)
  have lp := fill1 (fun f => e_g S (mkA g f)) 0 w h (plV (cvT rule t w) (s.2.1 90) (s.1 93 0) (N (1169 * l + 8)) (N (1169 * l + 9)) w h f0) f0 (bI := fun y t => bX11_fillTraced_40 8 b g.1 y t.1 t.2) (bO := fun t => bX11_fillTraced_25 8 b g.1 t.1 t.2) (fun f y x hy hx hF => ?_) (fun f y hy => ?_) (fun f y hy => ?_) (fun f => ?_)
  · unfold fX11_fillTraced
    rw [f8_9, ob_n, ob_n, f8_0, z0, ob_n, ob_n, w0, ob_n, ob_n, ob_n, w1, ob_n, ob98, ob_n, ms, ob_n, lp, ob_n]
  · have hlt := at_lt hx hy
    have dm := md (w := w) (x := x) (y := y) hx
    obtain ⟨y1, y2, p, q, x0, y0, x1, yy1, pa, ma, y3, -⟩ := id (lyN_ext (ext_mkA (f := f)) hL)
    have f7 : q_fI 4 7 (e_g S (mkA g f)) b = some (N (1169 * l + 8)) := d_fI y1 y3 rfl
    have f8 : q_fI 4 8 (e_g S (mkA g f)) b = some (N (1169 * l + 9)) := d_fI y1 y3 rfl
    have fv : f (y * w + x) = f0 (y * w + x) := by rw [hF, cpT_out (by omega)]
    have rp : q_aI (e_g S (mkA g f)) g.1 (Int32.ofNat (y * w + x)) = some (f0 (y * w + x)) := by
      rw [d_aI (Or.inl hg) (show (mkA g f).2.2 g.1 = .inl (0, (576, .inl f)) from nw_at), n_idx (by omega), if_neg (n_in2 (show y * w + x < 576 by omega) (by decide)), fv]
    have rc : q_aI (e_g S (mkA g f)) 110 (Int32.ofNat (y * w + x)) = some (cvT rule t w (y * w + x)) := by
      rw [a110, n_idx (by omega), if_neg (n_in2 (show y * w + x < 576 by omega) (by decide)), z110, mc y x hy hx]
      unfold cvT inT
      rw [dm.1, dm.2]
    have hr : rg (bAt w h (s.2.1 90) (Int32.ofNat x + N (1169 * l + 8)) (Int32.ofNat y + N (1169 * l + 9))) 0 255 = true := bAt_r (fun k hk => hA k (by omega))
    have ar := area11 (s := S) (g := mkA g f) (w := w) (h := h) (x := Int32.ofNat x + N (1169 * l + 8)) (y := Int32.ofNat y + N (1169 * l + 9)) hw hh (by rw [zF _ _ (by decide)]; exact q1) (by rw [zF _ _ (by decide)]; exact q2)
    rw [z90] at ar
    have sv := shV_n (h := h) (y := y) (A := s.2.1 90) (dx := N (1169 * l + 8)) (dy := N (1169 * l + 9)) hx
    have ev : plV (cvT rule t w) (s.2.1 90) (s.1 93 0) (N (1169 * l + 8)) (N (1169 * l + 9)) w h f0 (y * w + x) = ptV 0 (f0 (y * w + x)) (s.1 93 0) (fX11_mul (cvT rule t w (y * w + x)) (bAt w h (s.2.1 90) (Int32.ofNat x + N (1169 * l + 8)) (Int32.ofNat y + N (1169 * l + 9)))) := by
      unfold plV
      rw [sv]
    show bX11_fillTraced_40 _ _ _ _ _ _ = _
    unfold bX11_fillTraced_40
    dsimp only
    rw [f8_0, zS, ob_n, ob_n, (st f).1, ob_n, if_neg (nle hx (by omega)), ob_n, ob_n, (st f).1, ob_n, f8_9, ob_n, ob_n, f98_14, ob_n, ob_n, n_mul, n_add, rc, ob_n, f8_7, ob_n, ob_n, f7, ob_n, f8, ob_n, ob89, ob_n, ar, ob_n, rp, ob_n, f8_8, ob_n, ob_n, f93_0, zF _ _ (by decide), ob_n, put11 (mul_r cvT_r hr), ob_n, wI_mk hg, n_idx (by omega), if_neg (n_in2 (show y * w + x < 576 by omega) (by decide)), ob_n, n_suc, Nat.zero_add, ev]
  · show bX11_fillTraced_40 _ _ _ _ _ _ = _
    unfold bX11_fillTraced_40
    dsimp only
    rw [f8_0, zS, ob_n, ob_n, (st f).1, ob_n, if_pos (nlr (by omega))]
  · show bX11_fillTraced_25 _ _ _ _ _ = _
    unfold bX11_fillTraced_25
    dsimp only
    rw [f8_0, zS, ob_n, ob_n, (st f).2.1, ob_n, if_neg (nle hy (by omega))]
  · show bX11_fillTraced_25 _ _ _ _ _ = _
    unfold bX11_fillTraced_25
    dsimp only
    rw [f8_0, zS, ob_n, ob_n, (st f).2.1, ob_n, if_pos (nlr (by omega))]
/-- the lines in the class are those of the reference, but for the pen -/
theorem tC_e {s : e_S} {t t' : TrS} (h1 : t.ax = t'.ax) (h2 : t.ay = t'.ay) (h3 : t.ex = t'.ex) (h4 : t.ey = t'.ey) : tC s t = sF (sF (tC s t') 98 11 t.px) 98 12 t.py := by
  unfold tC
  rw [h1, h2, h3, h4, sF_cm (i := 98) (j := 12) (i' := 98) (j' := 11) (by omega), sF_sF, sF_sF]
theorem trace6' {s : e_S} {g : ps_G} {p n : Nat} {dx dy : Int32} {K X Y : Nat → Int32} (hp : p < 8) (hn : n ≤ 40) (e99 : s.2.1 99 p = Int32.ofNat n) (eK : ∀ i, i < n → s.2.1 100 (40 * p + i) = K i) (eX : ∀ i, i < n → s.2.1 101 (40 * p + i) = X i) (eY : ∀ i, i < n → s.2.1 102 (40 * p + i) = Y i) (hX : ∀ i, i < n → Bd (X i + dx)) (hY : ∀ i, i < n → Bd (Y i + dy)) : ∃ t, fX6_trace (e_g s g) 98 (Int32.ofNat p) dx dy = some (e_g (tC s t) g) ∧ t.ok ∧ t.ax.length ≤ 400 ∧ (∀ k, k < t.ax.length → Bd (lnA t.ax k) ∧ Bd (lnA t.ay k) ∧ Bd (lnA t.ex k) ∧ Bd (lnA t.ey k)) ∧ ∀ rule w k, cvT rule t w k = cvT rule (lnT K X Y dx dy n) w k := by
  have tr := trace6 (s := s) (g := g) (dx := dx) (dy := dy) hp hn e99 eK eX eY
  obtain ⟨e1, e2, e3, e4⟩ := trG_0 (K := K) (X := X) (Y := Y) (dx := dx) (dy := dy) (a := s.1 98 11) (b := s.1 98 12) (n := n)
  obtain ⟨ok, le, bd⟩ := lnT_ok (K := K) (n := n) hn hX hY
  have lb := ln_bd ok bd
  refine ⟨_, tr, ?_, ?_, ?_, fun rule w k => ?_⟩
  · unfold TrS.ok
    rw [e1, e2, e3, e4]
    exact ok
  · rw [e1]
    exact Nat.le_trans le (by omega)
  · rw [e1, e2, e3, e4]
    exact lb
  · unfold cvT inT
    rw [e1, e2, e3, e4]
    rfl
