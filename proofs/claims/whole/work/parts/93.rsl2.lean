-- needs: 07 10 13 14 20 21 22 23 24 25 26 27 32 38 41 43 46 47 48 50 52 53 54 55 57 60 61 70 71 72 73 74 80 81 82 83 84 85 86 87 88 89 90 91 92
def opG (gr : Int32) : Int32 → Int32 → Int32 := fun a b => if gr = 0 then fJ9_min_7cf53 a b else fJ9_max_7cf53 a b
theorem wid_lp {s : e_S} {g : ps_G} {w h n X Y : Nat} {gr z : Int32} (hw : w ≤ 24) (hh : h ≤ 24) (e0 : s.1 89 0 = Int32.ofNat w) (e1 : s.1 89 1 = Int32.ofNat h) (hn : n ≤ 8) (hX : X < 24) (hY : Y < 24) : q_lp (fun u => bX0_widen_59 (e_g s g) 89 (Int32.ofNat n) gr (Int32.ofNat Y) (Int32.ofNat X) u.1 u.2) (z, Int32.ofNat Y - Int32.ofNat n) = some (wO (opG gr) (bAt w h (s.2.1 92)) (Int32.ofNat Y - Int32.ofNat n) (Int32.ofNat X - Int32.ofNat n) (2 * n + 1) z (2 * n + 1)) := by
  have inner : ∀ j z, q_lp (fun u => bX0_widen_73 (e_g s g) 89 (Int32.ofNat n) gr (Int32.ofNat Y) (Int32.ofNat X) j u.1 u.2) (z, Int32.ofNat X - Int32.ofNat n) = some (wI (opG gr) (bAt w h (s.2.1 92)) j (Int32.ofNat X - Int32.ofNat n) z (2 * n + 1)) := by
    intro j z
    refine lp_0 (fun p => (wI (opG gr) (bAt w h (s.2.1 92)) j (Int32.ofNat X - Int32.ofNat n) z p, Int32.ofNat X - Int32.ofNat n + Int32.ofNat p)) (2 * n + 1) ?_ (fun p hp => ?_) ?_
    · show (z, Int32.ofNat X - Int32.ofNat n) = (z, Int32.ofNat X - Int32.ofNat n + 0)
      rw [Int32.add_zero]
    · have a := at_w (X := X) (n := n) (p := p) hX hn (by omega)
      show bX0_widen_73 _ _ _ _ _ _ _ _ _ = _
      rw [wid_73 hw hh e0 e1 (by rw [i_lt, a.1, a.2]; omega), at_s]
      rfl
    · have a := at_w (X := X) (n := n) (p := 2 * n + 1) hX hn (by omega)
      show bX0_widen_73 _ _ _ _ _ _ _ _ _ = _
      unfold bX0_widen_73
      rw [if_pos (show Int32.ofNat X + Int32.ofNat n < _ by rw [i_lt, a.1, a.2]; omega)]
  refine lp_0 (fun q => (wO (opG gr) (bAt w h (s.2.1 92)) (Int32.ofNat Y - Int32.ofNat n) (Int32.ofNat X - Int32.ofNat n) (2 * n + 1) z q, Int32.ofNat Y - Int32.ofNat n + Int32.ofNat q)) (2 * n + 1) ?_ (fun q hq => ?_) ?_
  · show (z, Int32.ofNat Y - Int32.ofNat n) = (z, Int32.ofNat Y - Int32.ofNat n + 0)
    rw [Int32.add_zero]
  · have a := at_w (X := Y) (n := n) (p := q) hY hn (by omega)
    show bX0_widen_59 _ _ _ _ _ _ _ _ = _
    unfold bX0_widen_59
    rw [if_neg (show ¬ Int32.ofNat Y + Int32.ofNat n < Int32.ofNat Y - Int32.ofNat n + Int32.ofNat q by rw [i_lt, a.1, a.2]; omega), inner, ob_n, at_s]
    rfl
  · have a := at_w (X := Y) (n := n) (p := 2 * n + 1) hY hn (by omega)
    show bX0_widen_59 _ _ _ _ _ _ _ _ = _
    unfold bX0_widen_59
    rw [if_pos (show Int32.ofNat Y + Int32.ofNat n < Int32.ofNat Y - Int32.ofNat n + Int32.ofNat (2 * n + 1) by rw [i_lt, a.1, a.2]; omega)]
theorem cp576 {A N : Nat → Int32} {k : Nat} (h : k < 576) : cpT A N 0 576 k = N k := by
  have := cpT_in (A := A) (N := N) (b := 0) h
  rwa [Nat.zero_add] at this
theorem widen11 {s : e_S} {g : ps_G} {w h n : Nat} {gr : Int32} (hw : w ≤ 24) (hh : h ≤ 24) (e0 : s.1 89 0 = Int32.ofNat w) (e1 : s.1 89 1 = Int32.ofNat h) (hn : n ≤ 8) (hB : ∀ k, k < 576 → rg (s.2.1 90 k) 0 255) : fX0_widen (e_g s g) 89 (Int32.ofNat n) gr = some (e_g (sA (sA s 92 (cpT (s.2.1 92) (s.2.1 90) 0 576)) 90 (cpT (s.2.1 90) (fun k => arV (if gr = 0 then 2 else 1) n w h (s.2.1 90) (k % w) (k / w)) 0 (h * w))) g) := by
  have hwh := wh_le hw hh
  have cp : q_cp (e_g s g) 90 0 92 0 576 = some (e_g (sA s 92 (cpT (s.2.1 92) (s.2.1 90) 0 576)) g) := e_cp t90 t92 (by omega) (by omega)
  have eb : bAt w h (cpT (s.2.1 92) (s.2.1 90) 0 576) = bAt w h (s.2.1 90) := by
    funext x y
    exact bAt_c (fun k hk => cp576 (by omega))
  have e90 : (sA s 92 (cpT (s.2.1 92) (s.2.1 90) 0 576)).2.1 90 = s.2.1 90 := by rw [A_sA, if_neg (by decide)]
  have fin := fill1 (fun f => e_g (sA (sA s 92 (cpT (s.2.1 92) (s.2.1 90) 0 576)) 90 f) g) 0 w h (fun k => arV (if gr = 0 then 2 else 1) n w h (s.2.1 90) (k % w) (k / w)) (s.2.1 90) (bI := fun y x => bX0_widen_29 89 (Int32.ofNat n) gr y x.1 x.2) (bO := fun x => bX0_widen_18 89 (Int32.ofNat n) gr x.1 x.2) (fun f y x hy hx _ => ?_) (fun f y hy => ?_) (fun f y hy => ?_) (fun f => ?_)
  · unfold fX0_widen
    rw [f89_2, ob_n, ob_n, f89_4, ob_n, ob_n, cp, ob_n]
    have := @sA_id (sA s 92 (cpT (s.2.1 92) (s.2.1 90) 0 576)) 90
    rw [e90] at this
    rw [this] at fin
    rw [fin, ob_n]
  · have hi := at_lt hx hy
    have d := (k_at (w := w) (k := y * w + x) (y := y) (x := x) hx).mp rfl
    have wl := fun z => wid_lp (s := sA (sA s 92 (cpT (s.2.1 92) (s.2.1 90) 0 576)) 90 f) (g := g) (n := n) (X := x) (Y := y) (gr := gr) (z := z) hw hh (by rw [F_sA, F_sA]; exact e0) (by rw [F_sA, F_sA]; exact e1) hn (by omega) (by omega)
    have e92 : (sA (sA s 92 (cpT (s.2.1 92) (s.2.1 90) 0 576)) 90 f).2.1 92 = cpT (s.2.1 92) (s.2.1 90) 0 576 := by rw [A_sA, if_neg (by decide), A_sA, if_pos rfl]
    rw [e92, eb] at wl
    have hc : bAt w h (s.2.1 90) (Int32.ofNat x - Int32.ofNat n + Int32.ofNat n) (Int32.ofNat y - Int32.ofNat n + Int32.ofNat n) = s.2.1 90 (y * w + x) := by
      rw [Int32.sub_add_cancel, Int32.sub_add_cancel, bAt_n hw hh hx hy]
    have zr := rg_i.mp (hB (y * w + x) (by omega))
    rw [show (0 : Int32).toInt = 0 from rfl, show (255 : Int32).toInt = 255 from rfl] at zr
    have ev : wO (opG gr) (bAt w h (s.2.1 90)) (Int32.ofNat y - Int32.ofNat n) (Int32.ofNat x - Int32.ofNat n) (2 * n + 1) (s.2.1 90 (y * w + x)) (2 * n + 1) = arV (if gr = 0 then 2 else 1) n w h (s.2.1 90) x y := by
      unfold arV
      by_cases q : gr = 0
      · have eo : opG gr = fJ9_min_7cf53 := by funext a b; exact if_pos q
        rw [if_pos q, if_neg (by decide), if_pos rfl, eo]
        exact wO_mn zr.2 (by omega) (by omega) hc
      · have eo : opG gr = fJ9_max_7cf53 := by funext a b; exact if_neg q
        rw [if_neg q, if_pos rfl, eo]
        exact wO_mx zr.1 (by omega) (by omega) hc
    show bX0_widen_29 _ _ _ _ _ _ = _
    unfold bX0_widen_29
    dsimp only
    rw [f89_0, F_sA, F_sA, e0, ob_n, if_neg (nle hx (by omega)), f89_4, ob_n, ob_n, ob_n, n_mul, n_add, rdI t92 (by omega), e92, cp576 (by omega), ob_n, wl, ob_n, f89_2, ob_n, ob_n, ob_n, n_mul, n_add, wrI t90 (by omega) (by omega), A_sA, if_pos rfl, sA_sA, ob_n, n_suc, Nat.zero_add, d.1, d.2, ev]
  · show bX0_widen_29 _ _ _ _ _ _ = _
    unfold bX0_widen_29
    rw [f89_0, F_sA, F_sA, e0, ob_n, if_pos (nlr (by omega))]
  · show bX0_widen_18 _ _ _ _ _ = _
    unfold bX0_widen_18
    rw [f89_1, F_sA, F_sA, e1, ob_n, if_neg (nle hy (by omega))]
  · show bX0_widen_18 _ _ _ _ _ = _
    unfold bX0_widen_18
    rw [f89_1, F_sA, F_sA, e1, ob_n, if_pos (nlr (by omega))]
theorem within_cl {x : Int32} {n : Nat} (h1 : 1 ≤ n) (hn : n ≤ 24) : fX11_within x 0 (Int32.ofNat n - 1) = Int32.ofNat (clN x n) := by
  obtain ⟨a, b, c⟩ := cl_c (x := x) h1 hn
  have e : Int32.ofNat n - 1 = Int32.ofNat (n - 1) := n_sub (b := 1) h1 (by omega)
  unfold fX11_within
  by_cases q : 0 ≤ x
  · rw [if_pos q]
    by_cases q2 : x < Int32.ofNat n
    · have : x ≤ Int32.ofNat n - 1 := by
        rw [i_lt, n_int (by omega)] at q2
        rw [e, i_le, n_int (by omega)]; omega
      rw [if_pos this]; exact b q q2
    · have : ¬ x ≤ Int32.ofNat n - 1 := by
        rw [i_lt, n_int (by omega)] at q2
        rw [e, i_le, n_int (by omega)]; omega
      rw [if_neg this]; exact c q q2
  · rw [if_neg q, a q]; rfl
theorem soften11 {s : e_S} {g : ps_G} {w h n : Nat} (hw1 : 1 ≤ w) (hh1 : 1 ≤ h) (hw : w ≤ 24) (hh : h ≤ 24) (e0 : s.1 89 0 = Int32.ofNat w) (e1 : s.1 89 1 = Int32.ofNat h) (hn : n ≤ 8) : fX0_soften (e_g s g) 89 (Int32.ofNat n) = some (e_g (sA (sA s 92 (cpT (s.2.1 92) (s.2.1 90) 0 576)) 90 (cpT (s.2.1 90) (fun k => arV 3 n w h (s.2.1 90) (k % w) (k / w)) 0 (h * w))) g) := by
  have hwh := wh_le hw hh
  have cp : q_cp (e_g s g) 90 0 92 0 576 = some (e_g (sA s 92 (cpT (s.2.1 92) (s.2.1 90) 0 576)) g) := e_cp t90 t92 (by omega) (by omega)
  have eb : nr (cpT (s.2.1 92) (s.2.1 90) 0 576) w h = nr (s.2.1 90) w h := nr_c hw1 hh1 (fun k hk => cp576 (by omega))
  have e90 : (sA s 92 (cpT (s.2.1 92) (s.2.1 90) 0 576)).2.1 90 = s.2.1 90 := by rw [A_sA, if_neg (by decide)]
  have m2 : (2 : Int32) * Int32.ofNat n + 1 = Int32.ofNat (2 * n + 1) := by
    show Int32.ofNat 2 * _ + _ = _
    rw [n_mul, n_suc]
  have mm : (2 * n + 1) * (2 * n + 1) ≤ 17 * 17 := Nat.mul_le_mul (by omega) (by omega)
  have mp : 0 < (2 * n + 1) * (2 * n + 1) := Nat.mul_pos (by omega) (by omega)
  have m0 : ¬ Int32.ofNat ((2 * n + 1) * (2 * n + 1)) ≤ 0 := nle (a := 0) mp (by omega)
  have mz : ¬ Int32.ofNat ((2 * n + 1) * (2 * n + 1)) = 0 := by
    rw [show (0 : Int32) = Int32.ofNat 0 from rfl, n_eq (by omega) (by omega)]; omega
  have slp : ∀ f X Y, X < w → Y < h → q_lp (fun u => bX0_soften_58 (e_g (sA (sA s 92 (cpT (s.2.1 92) (s.2.1 90) 0 576)) 90 f) g) 89 (Int32.ofNat n) (Int32.ofNat ((2 * n + 1) * (2 * n + 1))) (Int32.ofNat Y) (Int32.ofNat X) u.1 u.2) ((0 : Int32), Int32.ofNat Y - Int32.ofNat n) = some (wO (fun a b => a + b) (nr (s.2.1 90) w h) (Int32.ofNat Y - Int32.ofNat n) (Int32.ofNat X - Int32.ofNat n) (2 * n + 1) 0 (2 * n + 1)) := by
    intro f X Y hX hY
    have inner : ∀ j z, q_lp (fun u => bX0_soften_72 (e_g (sA (sA s 92 (cpT (s.2.1 92) (s.2.1 90) 0 576)) 90 f) g) 89 (Int32.ofNat n) (Int32.ofNat ((2 * n + 1) * (2 * n + 1))) (Int32.ofNat Y) (Int32.ofNat X) j u.1 u.2) (z, Int32.ofNat X - Int32.ofNat n) = some (wI (fun a b => a + b) (nr (s.2.1 90) w h) j (Int32.ofNat X - Int32.ofNat n) z (2 * n + 1)) := by
      intro j z
      refine lp_0 (fun p => (wI (fun a b => a + b) (nr (s.2.1 90) w h) j (Int32.ofNat X - Int32.ofNat n) z p, Int32.ofNat X - Int32.ofNat n + Int32.ofNat p)) (2 * n + 1) ?_ (fun p hp => ?_) ?_
      · show (z, Int32.ofNat X - Int32.ofNat n) = (z, Int32.ofNat X - Int32.ofNat n + 0)
        rw [Int32.add_zero]
      · have a := at_w (X := X) (n := n) (p := p) (by omega) hn (by omega)
        have hlt := at_lt (w := w) (h := h) (clN_lt (v := Int32.ofNat X - Int32.ofNat n + Int32.ofNat p) hw1) (clN_lt (v := j) hh1)
        show bX0_soften_72 _ _ _ _ _ _ _ _ _ = _
        unfold bX0_soften_72
        dsimp only
        rw [if_neg (show ¬ Int32.ofNat X + Int32.ofNat n < Int32.ofNat X - Int32.ofNat n + Int32.ofNat p by rw [i_lt, a.1, a.2]; omega), f89_4, ob_n, ob_n, f89_1, F_sA, F_sA, e1, ob_n, f89_0, F_sA, F_sA, e0, ob_n, ob_n, within_cl hh1 hh, within_cl hw1 hw, n_mul, n_add, rdI t92 (by omega), A_sA, if_neg (by decide), A_sA, if_pos rfl, cp576 (by omega), ob_n, at_s]
        rfl
      · have a := at_w (X := X) (n := n) (p := 2 * n + 1) (by omega) hn (by omega)
        show bX0_soften_72 _ _ _ _ _ _ _ _ _ = _
        unfold bX0_soften_72
        rw [if_pos (show Int32.ofNat X + Int32.ofNat n < Int32.ofNat X - Int32.ofNat n + Int32.ofNat (2 * n + 1) by rw [i_lt, a.1, a.2]; omega)]
    refine lp_0 (fun q => (wO (fun a b => a + b) (nr (s.2.1 90) w h) (Int32.ofNat Y - Int32.ofNat n) (Int32.ofNat X - Int32.ofNat n) (2 * n + 1) 0 q, Int32.ofNat Y - Int32.ofNat n + Int32.ofNat q)) (2 * n + 1) ?_ (fun q hq => ?_) ?_
    · show ((0 : Int32), Int32.ofNat Y - Int32.ofNat n) = (0, Int32.ofNat Y - Int32.ofNat n + 0)
      rw [Int32.add_zero]
    · have a := at_w (X := Y) (n := n) (p := q) (by omega) hn (by omega)
      show bX0_soften_58 _ _ _ _ _ _ _ _ = _
      unfold bX0_soften_58
      rw [if_neg (show ¬ Int32.ofNat Y + Int32.ofNat n < Int32.ofNat Y - Int32.ofNat n + Int32.ofNat q by rw [i_lt, a.1, a.2]; omega), inner, ob_n, at_s]
      rfl
    · have a := at_w (X := Y) (n := n) (p := 2 * n + 1) (by omega) hn (by omega)
      show bX0_soften_58 _ _ _ _ _ _ _ _ = _
      unfold bX0_soften_58
      rw [if_pos (show Int32.ofNat Y + Int32.ofNat n < Int32.ofNat Y - Int32.ofNat n + Int32.ofNat (2 * n + 1) by rw [i_lt, a.1, a.2]; omega)]
  have fin := fill1 (fun f => e_g (sA (sA s 92 (cpT (s.2.1 92) (s.2.1 90) 0 576)) 90 f) g) 0 w h (fun k => arV 3 n w h (s.2.1 90) (k % w) (k / w)) (s.2.1 90) (bI := fun y x => bX0_soften_41 89 (Int32.ofNat n) (Int32.ofNat ((2 * n + 1) * (2 * n + 1))) y x.1 x.2) (bO := fun x => bX0_soften_30 89 (Int32.ofNat n) (Int32.ofNat ((2 * n + 1) * (2 * n + 1))) x.1 x.2) (fun f y x hy hx _ => ?_) (fun f y hy => ?_) (fun f y hy => ?_) (fun f => ?_)
  · unfold fX0_soften
    rw [f89_2, ob_n, ob_n, f89_4, ob_n, ob_n, cp, ob_n, m2, n_mul]
    have := @sA_id (sA s 92 (cpT (s.2.1 92) (s.2.1 90) 0 576)) 90
    rw [e90] at this
    rw [this] at fin
    rw [fin, ob_n]
  · have hi := at_lt hx hy
    have d := (k_at (w := w) (k := y * w + x) (y := y) (x := x) hx).mp rfl
    have ev : (wO (fun a b => a + b) (nr (s.2.1 90) w h) (Int32.ofNat y - Int32.ofNat n) (Int32.ofNat x - Int32.ofNat n) (2 * n + 1) 0 (2 * n + 1) + Int32.ofNat ((2 * n + 1) * (2 * n + 1)) / 2) / Int32.ofNat ((2 * n + 1) * (2 * n + 1)) = arV 3 n w h (s.2.1 90) x y := by
      unfold arV
      rw [if_neg (by decide), if_neg (by decide)]
    show bX0_soften_41 _ _ _ _ _ _ = _
    unfold bX0_soften_41 jX0_soften_163_41 q_div
    dsimp only
    rw [f89_0, F_sA, F_sA, e0, ob_n, if_neg (nle hx (by omega)), slp f x y hx hy, ob_n, f89_2, ob_n, ob_n, ob_n, if_neg m0, if_neg mz, ob_n, ob_n, n_mul, n_add, wrI t90 (by omega) (by omega), A_sA, if_pos rfl, sA_sA, ob_n, n_suc, Nat.zero_add, d.1, d.2, ev]
  · show bX0_soften_41 _ _ _ _ _ _ = _
    unfold bX0_soften_41
    rw [f89_0, F_sA, F_sA, e0, ob_n, if_pos (nlr (by omega))]
  · show bX0_soften_30 _ _ _ _ _ = _
    unfold bX0_soften_30
    rw [f89_1, F_sA, F_sA, e1, ob_n, if_neg (nle hy (by omega))]
  · show bX0_soften_30 _ _ _ _ _ = _
    unfold bX0_soften_30
    rw [f89_1, F_sA, F_sA, e1, ob_n, if_pos (nlr (by omega))]
