-- needs: 07 10 13 14 20 21 22 23 24 25 26 27 32 33 34 36 38 39 40 41 42 43 44 46 47 48 49 50 52 53 54 57 70 71 72 97h 97s 97t 97u
def lnF (P : Nat → Int32) (p : Nat) (c : Int32) (j : Nat) : Nat → Int32
  | 0 => 0
  | i + 1 => lnF P p c j i + P (10 * p + 3 * j + i) * fX3_level (P (10 * p + 9)) (fX12_part c (Int32.ofNat i))
theorem lnF_3 {P : Nat → Int32} {p j : Nat} {c : Int32} : q_shr (lnF P p c j 3) 10 = ltV P p c j := by
  have k0 : fX12_part c (Int32.ofNat 0) = fX11_red c := part_k.1
  have k1 : fX12_part c (Int32.ofNat 1) = fX11_green c := part_k.2.1
  have k2 : fX12_part c (Int32.ofNat 2) = fX11_blue c := part_k.2.2
  unfold ltV
  show q_shr (((0 + P (10 * p + 3 * j + 0) * fX3_level (P (10 * p + 9)) (fX12_part c (Int32.ofNat 0))) + P (10 * p + 3 * j + 1) * fX3_level (P (10 * p + 9)) (fX12_part c (Int32.ofNat 1))) + P (10 * p + 3 * j + 2) * fX3_level (P (10 * p + 9)) (fX12_part c (Int32.ofNat 2))) 10 = _
  rw [k0, k1, k2, Int32.zero_add, Nat.add_zero]
def cvS (P : Nat → Int32) (p q : Nat) (c : Int32) (k : Nat) : Nat → Int64
  | 0 => 0
  | j + 1 => cvS P p q c k j + Int32.toInt64 (ltV P p c j) * cofV P q j k
theorem cvS_3 {P : Nat → Int32} {p q k : Nat} {c : Int32} : cvS P p q c k 3 = cvL P p q c k := by
  show ((0 + _) + _) + _ = _
  rw [Int64.zero_add]
  rfl
theorem px12 {s : e_S} {g : ps_G} {a : Int32} {p q i : Nat} {c : Int32} {F : Nat → Int32} {dt : Int64} (hp : p < 4) (hq : q < 4) (hs : rg (s.2.1 173 (10 * q + 9)) 0 2) (hdt : dt = dtF (s.2.1 173) q 3) (hd : ¬ dtF (s.2.1 173) q 3 = 0) (hF : ∀ j, j < 3 → F j = ltV (s.2.1 173) p c j) : q_lp (fun t => bX12_convert_230 (e_g (sA s 174 F) g) 139 a (Int32.ofNat p) (Int32.ofNat q) dt (Int32.ofNat i) t.1 t.2) (c &&& -16777216, (0 : Int32)) = some (cvF (s.2.1 173) p q c 3) := by
  subst hdt
  refine lp_0 (fun k => (cvF (s.2.1 173) p q c k, Int32.ofNat k)) 3 rfl (fun k hk => ?_) ?_
  · have e173 : (sA s 174 F).2.1 173 = s.2.1 173 := by rw [A_sA, if_neg (by decide)]
    have inn : ∀ x8, q_lp (fun t => bX12_convert_242 (e_g (sA s 174 F) g) 139 a (Int32.ofNat p) (Int32.ofNat q) (dtF (s.2.1 173) q 3) (Int32.ofNat i) x8 (Int32.ofNat k) t.1 t.2) ((0 : Int64), (0 : Int32)) = some (cvS (s.2.1 173) p q c k 3) := by
      intro x8
      refine lp_0 (fun j => (cvS (s.2.1 173) p q c k j, Int32.ofNat j)) 3 rfl (fun j hj => ?_) ?_
      · have cf := cof12 (s := sA s 174 F) (g := g) (p := q) (i := j) (j := k) hq hj hk
        rw [e173] at cf
        have rl : q_aI (e_g (sA s 174 F) g) 174 (Int32.ofNat j) = some (ltV (s.2.1 173) p c j) := by
          rw [a174, n_idx (by omega), if_neg (n_in2 hj (by decide)), A_sA, if_pos rfl, hF j hj]
        show bX12_convert_242 _ _ _ _ _ _ _ _ _ _ _ = _
        unfold bX12_convert_242
        dsimp only
        rw [if_neg (show ¬ (3 : Int32) ≤ Int32.ofNat _ from nle (b := 3) hj (by omega)), f139_60, ob_n, ob_n, rl, ob_n, ob139, ob_n, cf, ob_n, n_suc]
        rfl
      · show bX12_convert_242 _ _ _ _ _ _ _ _ _ _ _ = _
        unfold bX12_convert_242
        dsimp only
        rw [if_pos (by decide)]
    have i10 : (10 : Int32) * Int32.ofNat q + 9 = Int32.ofNat (10 * q + 9) := by
      rw [show (10 : Int32) = Int32.ofNat 10 from rfl, show (9 : Int32) = Int32.ofNat 9 from rfl, n_mul, n_add]
    have nl := nearest12 (g := e_g (sA s 174 F) g) (a := s.2.1 173 (10 * q + 9)) (v := clV (cvL (s.2.1 173) p q c k * 1024 / dtF (s.2.1 173) q 3)) hs clV_b
    unfold clV at nl
    show bX12_convert_230 _ _ _ _ _ _ _ _ _ = _
    unfold bX12_convert_230
    dsimp only
    rw [if_neg (show ¬ (3 : Int32) ≤ Int32.ofNat _ from nle (b := 3) hk (by omega)), inn, ob_n, cvS_3]
    unfold q_ldiv
    rw [if_neg hd, ob_n, f139_59, ob_n, ob_n, i10, rd173 (by omega), ob_n, e173, ob139, ob_n, nl, ob_n, n_suc]
    rfl
  · show bX12_convert_230 _ _ _ _ _ _ _ _ _ = _
    unfold bX12_convert_230
    dsimp only
    rw [if_pos (by decide)]
theorem lit12 {s : e_S} {g : ps_G} {a : Int32} {p q i : Nat} {c : Int32} {dt : Int64} (hp : p < 4) : ∃ F, q_lp (fun t => bX12_convert_130 139 a (Int32.ofNat p) (Int32.ofNat q) dt (Int32.ofNat i) c t.1 t.2) ((0 : Int32), e_g s g) = some (e_g (sA s 174 F) g) ∧ ∀ j, j < 3 → F j = ltV (s.2.1 173) p c j := by
  have lp := fillN (fun F => e_g (sA s 174 F) g) 0 3 (fun j => ltV (s.2.1 173) p c j) (s.2.1 174) (bO := fun t => bX12_convert_130 139 a (Int32.ofNat p) (Int32.ofNat q) dt (Int32.ofNat i) c t.1 t.2) (fun F j hj _ => ?_) (fun F => ?_)
  · rw [sA_id] at lp
    refine ⟨_, lp, fun j hj => ?_⟩
    have := cpT_in (A := s.2.1 174) (N := fun j => ltV (s.2.1 173) p c j) (b := 0) hj
    rw [Nat.zero_add] at this
    exact this
  · have e173 : (sA s 174 F).2.1 173 = s.2.1 173 := by rw [A_sA, if_neg (by decide)]
    have inn : q_lp (fun t => bX12_convert_142 (e_g (sA s 174 F) g) 139 a (Int32.ofNat p) (Int32.ofNat q) dt (Int32.ofNat i) c (Int32.ofNat j) t.1 t.2) ((0 : Int32), (0 : Int32)) = some (lnF (s.2.1 173) p c j 3) := by
      refine lp_0 (fun k => (lnF (s.2.1 173) p c j k, Int32.ofNat k)) 3 rfl (fun k hk => ?_) ?_
      · have ix : (10 : Int32) * Int32.ofNat p + 3 * Int32.ofNat j + Int32.ofNat k = Int32.ofNat (10 * p + 3 * j + k) := by
          rw [show (10 : Int32) = Int32.ofNat 10 from rfl, show (3 : Int32) = Int32.ofNat 3 from rfl, n_mul, n_mul, n_add, n_add]
        have ix9 : (10 : Int32) * Int32.ofNat p + 9 = Int32.ofNat (10 * p + 9) := by
          rw [show (10 : Int32) = Int32.ofNat 10 from rfl, show (9 : Int32) = Int32.ofNat 9 from rfl, n_mul, n_add]
        show bX12_convert_142 _ _ _ _ _ _ _ _ _ _ _ = _
        unfold bX12_convert_142
        dsimp only
        rw [if_neg (show ¬ (3 : Int32) ≤ Int32.ofNat _ from nle (b := 3) hk (by omega)), f139_59, ob_n, ob_n, ix, rd173 (by omega), ob_n, ob_n, ob_n, ix9, rd173 (by omega), ob_n, e173, n_suc]
        rfl
      · show bX12_convert_142 _ _ _ _ _ _ _ _ _ _ _ = _
        unfold bX12_convert_142
        dsimp only
        rw [if_pos (by decide)]
    show bX12_convert_130 _ _ _ _ _ _ _ _ _ = _
    unfold bX12_convert_130
    dsimp only
    rw [if_neg (show ¬ (3 : Int32) ≤ Int32.ofNat _ from nle (b := 3) hj (by omega)), inn, ob_n, f139_60, ob_n, ob_n, lnF_3, u174, n_idx (by omega), if_neg (n_in2 hj (by decide)), ob_n, A_sA, if_pos rfl, sA_sA, n_suc, Nat.zero_add]
  · show bX12_convert_130 _ _ _ _ _ _ _ _ _ = _
    unfold bX12_convert_130
    dsimp only
    rw [if_pos (by decide)]
theorem convl12 {s : e_S} {g : ps_G} {l p q w h : Nat} (hw : w ≤ 24) (hh : h ≤ 24) (e13 : s.1 139 13 = Int32.ofNat w) (e14 : s.1 139 14 = Int32.ofNat h) (hl : l < 30) (hp : p < 4) (hq : q < 4) (hs : rg (s.2.1 173 (10 * q + 9)) 0 2) (hd : ¬ dtF (s.2.1 173) q 3 = 0) : ∃ F, q_lp (fun t => bX12_convert_101 139 (Int32.ofNat l) (Int32.ofNat p) (Int32.ofNat q) (dtF (s.2.1 173) q 3) t.1 t.2) ((0 : Int32), e_g s g) = some (e_g (sA (sA s 174 F) 142 (cpT (s.2.1 142) (fun k => cvF (s.2.1 173) p q (pxN (s.2.1 142) l k) 3) (1169 * l + 17) (h * w))) g) := by
  have hwh := wh_le hw hh
  have lp := lp_n (b := fun t => bX12_convert_101 139 (Int32.ofNat l) (Int32.ofNat p) (Int32.ofNat q) (dtF (s.2.1 173) q 3) t.1 t.2) (fun i t => ∃ F, t = (Int32.ofNat i, e_g (sA (sA s 174 F) 142 (cpT (s.2.1 142) (fun k => cvF (s.2.1 173) p q (pxN (s.2.1 142) l k) 3) (1169 * l + 17) i)) g)) (fun r => ∃ F, r = e_g (sA (sA s 174 F) 142 (cpT (s.2.1 142) (fun k => cvF (s.2.1 173) p q (pxN (s.2.1 142) l k) 3) (1169 * l + 17) (w * h))) g) (w * h) (s := ((0 : Int32), e_g s g)) (fun i t hi ht => ?_) (fun t ht => ?_) ⟨s.2.1 174, by rw [cpT_0, sA_id, sA_id]; rfl⟩
  · obtain ⟨r, r1, F, r2⟩ := lp
    rw [Nat.mul_comm h w]
    exact ⟨F, by rw [r1, r2]⟩
  · obtain ⟨F, rfl⟩ := ht
    generalize hX : cpT (s.2.1 142) (fun k => cvF (s.2.1 173) p q (pxN (s.2.1 142) l k) 3) (1169 * l + 17) i = X
    have xv : X (1169 * l + 17 + i) = pxN (s.2.1 142) l i := by
      rw [← hX, cpT_out (by omega)]
      unfold pxN
      rw [Nat.add_assoc]
    have up := cpT_up (A := s.2.1 142) (N := fun k => cvF (s.2.1 173) p q (pxN (s.2.1 142) l k) 3) (b := 1169 * l + 17) (n := i)
    rw [hX] at up
    have gg := get12n (s := sA (sA s 174 F) 142 X) (g := g) (k := i) hl (by omega)
    rw [A_sA, if_pos rfl, xv] at gg
    have e173 : ∀ Y, (sA (sA Y 174 F) 142 X).2.1 173 = Y.2.1 173 := fun Y => by rw [A_sA, if_neg (by decide), A_sA, if_neg (by decide)]
    obtain ⟨F2, t1, t2⟩ := lit12 (s := sA (sA s 174 F) 142 X) (g := g) (a := Int32.ofNat l) (p := p) (q := q) (i := i) (c := pxN (s.2.1 142) l i) (dt := dtF (s.2.1 173) q 3) hp
    rw [e173] at t2
    have pp := px12 (s := sA (sA s 174 F) 142 X) (g := g) (a := Int32.ofNat l) (p := p) (q := q) (i := i) (c := pxN (s.2.1 142) l i) (F := F2) (dt := dtF (s.2.1 173) q 3) hp hq (by rw [e173]; exact hs) (by rw [e173]) (by rw [e173]; exact hd) (by rw [e173]; exact t2)
    rw [e173] at pp
    have cm : sA (sA (sA s 174 F) 142 X) 174 F2 = sA (sA s 174 F2) 142 X := by
      rw [sA_cm (i := 142) (j := 174) (by decide), sA_sA]
    rw [cm] at t1 pp
    have pt := put12n (s := sA (sA s 174 F2) 142 X) (g := g) (v := cvF (s.2.1 173) p q (pxN (s.2.1 142) l i) 3) hl (show i < 576 by omega)
    rw [A_sA, if_pos rfl, sA_sA, up] at pt
    refine ⟨_, ?_, F2, rfl⟩
    show bX12_convert_101 _ _ _ _ _ _ _ = _
    unfold bX12_convert_101 fX12_alpha
    dsimp only
    rw [f139_13, F_sA, F_sA, e13, ob_n, f139_14, F_sA, F_sA, e14, ob_n, n_mul, if_neg (nle hi (by omega)), ob139, ob_n, gg, ob_n, t1, ob_n, hi_a, pp, ob_n, ob139, ob_n, pt, ob_n, n_suc]
  · obtain ⟨F, rfl⟩ := ht
    refine ⟨_, ?_, F, rfl⟩
    show bX12_convert_101 _ _ _ _ _ _ _ = _
    unfold bX12_convert_101
    dsimp only
    rw [f139_13, F_sA, F_sA, e13, ob_n, f139_14, F_sA, F_sA, e14, ob_n, n_mul, if_pos (nlr (by omega))]
theorem convert12h {s : e_S} {g : ps_G} {x P Q : Int32} : fX12_convert (e_g s g) 139 x P Q = jX12_convert_26 (e_g s g) 139 x P Q 139 139 x (if (rg P 0 3 && rg Q 0 3) then 1 else 0) := by
  unfold fX12_convert jX12_convert_25
  rw [rin, rin]
  by_cases q1 : rg P 0 3 = true
  · by_cases q2 : rg Q 0 3 = true
    · rw [q1, q2]; rfl
    · rw [q1, (by simpa using q2 : rg Q 0 3 = false)]; rfl
  · rw [(by simpa using q1 : rg P 0 3 = false)]; rfl
theorem K_convert {s : e_S} {g : ps_G} {x P Q : Int32} (hR : Rel s g) : KV (fL_convert (e_g s g) 8 x P Q) (fun G => fX12_convert G 139 x P Q) g := by
  have hg := rel_g hR
  obtain ⟨h1, h2, h3, h4, h5, h6, ⟨w, h, h7, h8, h9⟩, h10, h11⟩ := id hR
  obtain ⟨a, st, pc, uc, f1, f2, f3, f4, f5, f6, f7, f8, f9, f10, f11, f12⟩ := h9
  obtain ⟨d1, d2, d3, d4, d5, d6, d7, d8, d9⟩ := id h7
  have hwh := wh_le d2 d4
  obtain ⟨s0, s1, -, -⟩ := stW (s := s) f9
  have no : ∀ (y : Int32), ¬ y ≤ 0 → (if (rg P 0 3 && rg Q 0 3) = false ∨ (isL (s.2.1 142) x = true ∧ ¬ s.2.1 142 (1169 * x.toInt.toNat + 1) = 0) then (1 : Int32) else if isL (s.2.1 142) x then 0 else 2) = y → fX12_convert (e_g s (nx g)) 139 x P Q = some (e_g (sF s 139 0 y) (nx g)) := fun y hy e => by
    rw [convert12h]
    unfold jX12_convert_26
    rw [ob139, ob_n, why12, ob_n, e, w139_0, ob_n, f139_0, F_sF, if_pos ⟨rfl, rfl⟩, ob_n, if_neg hy]
  by_cases q1 : rg P 0 3 = true
  · by_cases q2 : rg Q 0 3 = true
    · have qq : (rg P 0 3 && rg Q 0 3) = true := by rw [q1, q2]; rfl
      rw [qq] at no
      rcases knownPix11 (x := x) hg f3 f9 with ⟨k1, k2⟩ | ⟨l, b, rfl, hl, k1, k3, hLy, ⟨k4, k2⟩ | ⟨k4, k2⟩⟩
      · refine KV_no (E := "java/util/NoSuchElementException") (y := 2) hR ?_ (by decide +kernel) (no 2 (by decide) (by rw [k1]; rfl))
        simp (decide := true) only [fX11_convert, rng hg, q1, q2, ob8, k2, ob_n, b2_n, tc_rn, tc_ln, F_sF, A_sF, R_sF, L_sF, F_sA, A_sA, R_sA, L_sA, F_sR, A_sR, R_sR, L_sR, F_sL, A_sL, R_sL, L_sL, and_true, true_and, and_false, false_and, and_self, reduceIte, sF_sF, sA_sA, false_or, or_false, true_or, or_true, not_false_eq_true, not_true_eq_false, decide_true, decide_false, Bool.true_or, Bool.or_true, Bool.false_and, Bool.true_and, Bool.false_or, Bool.or_false, Bool.and_true, Bool.and_false]
      · refine KV_no (E := "java/lang/IllegalArgumentException") (y := 1) hR ?_ (by decide +kernel) (no 1 (by decide) (if_pos (Or.inr ⟨k1, by rw [n_int (by omega), Int.toNat_natCast]; exact k4⟩)))
        simp (decide := true) only [fX11_convert, rng hg, q1, q2, ob8, k2, ob_n, b2_n, tc_rn, tc_ln, F_sF, A_sF, R_sF, L_sF, F_sA, A_sA, R_sA, L_sA, F_sR, A_sR, R_sR, L_sR, F_sL, A_sL, R_sL, L_sL, and_true, true_and, and_false, false_and, and_self, reduceIte, sF_sF, sA_sA, false_or, or_false, true_or, or_true, not_false_eq_true, not_true_eq_false, decide_true, decide_false, Bool.true_or, Bool.or_true, Bool.false_and, Bool.true_and, Bool.false_or, Bool.or_false, Bool.and_true, Bool.and_false]
      · obtain ⟨p, rfl, hp⟩ : ∃ p : Nat, P = Int32.ofNat p ∧ p < 4 := by
          have z := rg_i.mp q1
          have z1 : 0 ≤ P.toInt := z.1
          have z2 : P.toInt ≤ 3 := z.2
          exact ⟨P.toInt.toNat, n_of (by omega), by omega⟩
        obtain ⟨q, rfl, hq⟩ : ∃ q : Nat, Q = Int32.ofNat q ∧ q < 4 := by
          have z := rg_i.mp q2
          have z1 : 0 ≤ Q.toInt := z.1
          have z2 : Q.toInt ≤ 3 := z.2
          exact ⟨Q.toInt.toNat, n_of (by omega), by omega⟩
        have wy0 : (if (true : Bool) = false ∨ (isL (s.2.1 142) (Int32.ofNat l) = true ∧ ¬ s.2.1 142 (1169 * (Int32.ofNat l).toInt.toNat + 1) = 0) then (1 : Int32) else if isL (s.2.1 142) (Int32.ofNat l) then 0 else 2) = 0 := by
          rw [if_neg, k1]
          · rfl
          · rw [n_int (by omega), Int.toNat_natCast]
            rintro (z | z)
            · cases z
            · exact z.2 k4
        have PE : ∀ k, k < 40 → s.2.1 112 k = s.2.1 173 k := fun k hk => (h5.1 k hk).1
        have cofE : ∀ q i j, q < 4 → cofV (s.2.1 112) q i j = cofV (s.2.1 173) q i j := fun q i j hq => by
          have m : ∀ x, x % 3 < 3 := fun x => Nat.mod_lt _ (by omega)
          have ma := m (i + 1)
          have mb := m (i + 2)
          have mc := m (j + 1)
          have me := m (j + 2)
          unfold cofV
          rw [PE _ (by omega), PE _ (by omega), PE _ (by omega), PE _ (by omega)]
        have dtE : dtF (s.2.1 112) q 3 = dtF (s.2.1 173) q 3 := by
          show ((0 + Int32.toInt64 (s.2.1 112 (10 * q + 0)) * cofV (s.2.1 112) q 0 0) + Int32.toInt64 (s.2.1 112 (10 * q + 1)) * cofV (s.2.1 112) q 0 1) + Int32.toInt64 (s.2.1 112 (10 * q + 2)) * cofV (s.2.1 112) q 0 2 = ((0 + Int32.toInt64 (s.2.1 173 (10 * q + 0)) * cofV (s.2.1 173) q 0 0) + Int32.toInt64 (s.2.1 173 (10 * q + 1)) * cofV (s.2.1 173) q 0 1) + Int32.toInt64 (s.2.1 173 (10 * q + 2)) * cofV (s.2.1 173) q 0 2
          rw [PE _ (by omega), PE _ (by omega), PE _ (by omega), cofE q 0 0 hq, cofE q 0 1 hq, cofE q 0 2 hq]
        have ltE : ∀ c j, j < 3 → ltV (s.2.1 112) p c j = ltV (s.2.1 173) p c j := fun c j hj => by
          unfold ltV
          rw [PE (10 * p + 3 * j) (by omega), PE (10 * p + 3 * j + 1) (by omega), PE (10 * p + 3 * j + 2) (by omega), PE (10 * p + 9) (by omega)]
        have cvE : ∀ c k, k ≤ 3 → cvF (s.2.1 112) p q c k = cvF (s.2.1 173) p q c k := fun c k => by
          induction k with
          | zero => exact fun _ => rfl
          | succ k ih =>
            intro hk
            show cvF (s.2.1 112) p q c k ||| q_shl (cvN (s.2.1 112) p q c k) _ = cvF (s.2.1 173) p q c k ||| q_shl (cvN (s.2.1 173) p q c k) _
            have : cvN (s.2.1 112) p q c k = cvN (s.2.1 173) p q c k := by
              unfold cvN cvL
              rw [PE (10 * q + 9) (by omega), dtE, ltE c 0 (by omega), ltE c 1 (by omega), ltE c 2 (by omega), cofE q 0 k hq, cofE q 1 k hq, cofE q 2 k hq]
            rw [ih (by omega), this]
        have srt : rg (s.2.1 173 (10 * q + 9)) 0 2 := by
          have := (h5.1 (10 * q + 9) (by omega)).2
          rw [if_pos (by omega)] at this
          exact this
        have dt3 := det3 (s := s) (g := g) hq
        by_cases hd : dtF (s.2.1 112) q 3 = 0
        · refine KV_no (E := "java/lang/IllegalStateException") (y := 3) hR ?_ (by decide +kernel) ?_
          · have c0 : lg_cmp (dtF (s.2.1 112) q 3) 0 = 0 := (lg_cmp_eq _ _).mpr hd
            simp (decide := true) only [fX11_convert, rng hg, q1, q2, ob8, k2, f8_10, ob111, dt3, c0, refuse11 hg, ob_n, b2_n, tc_rn, tc_ln, F_sF, A_sF, R_sF, L_sF, F_sA, A_sA, R_sA, L_sA, F_sR, A_sR, R_sR, L_sR, F_sL, A_sL, R_sL, L_sL, and_true, true_and, and_false, false_and, and_self, reduceIte, sF_sF, sA_sA, false_or, or_false, true_or, or_true, not_false_eq_true, not_true_eq_false, decide_true, decide_false, Bool.true_or, Bool.or_true, Bool.false_and, Bool.true_and, Bool.false_or, Bool.or_false, Bool.and_true, Bool.and_false]
          · have c0 : lg_cmp (dtF (s.2.1 173) q 3) 0 = 0 := (lg_cmp_eq _ _).mpr (by rw [← dtE]; exact hd)
            have dd := det12 (s := sF s 139 0 0) (g := nx g) (q := q) (a := Int32.ofNat l) (b := Int32.ofNat p) hq
            rw [A_sF] at dd
            show fX12_convert (e_g s (nx g)) 139 (Int32.ofNat l) (Int32.ofNat p) (Int32.ofNat q) = _
            rw [convert12h, qq]
            unfold jX12_convert_26
            rw [ob139, ob_n, why12, ob_n, wy0, w139_0, ob_n, f139_0, F_sF, if_pos ⟨rfl, rfl⟩, ob_n, if_pos (by decide), dd, ob_n, if_neg (fun z => z c0), w139_0, ob_n, sF_sF]
        · obtain ⟨y1, y2, pp, qq', x0, y0, x1, yy1, pa, ma, y3, z1, z2, z3, z4, z5, z6, z7, z8, z9, z10, z11, z12, z13, z14⟩ := id hLy
          obtain ⟨e1, e8, e2, F, e3, e4⟩ := z12 k4
          have f15 : ∀ s' f, q_fR 4 15 (e_g s' (mkA g f)) b = some (some pa) := fun s' f => d_fR y1 (by rw [show (mkA g f).2.2 b = g.2.2 b from nw_lo y2]; exact y3) rfl
          obtain ⟨I, L, tr⟩ := translate3 (s := s) (g := g) (p := p) (q := q) (n := w * h) (pa := pa) (F := F) (f0 := cI (fun _ => 0) 0) hg e1 e2 e3 hp hq (by rw [PE _ (by omega)]; exact srt) hd hwh
          have sm : Sm s (sA (sL s 115 I) 114 L) := sm_A (sm_L sm_rf) (by decide)
          have hdr : ¬ dtF (s.2.1 173) q 3 = 0 := by rw [← dtE]; exact hd
          refine KV_px2 (l := l) (b := b) (φ := fun k => cvF (s.2.1 173) p q (pxN (s.2.1 142) l k) 3) hR sm h7 f1 f2 f3 f4 f9 f10 f11 hl k3 hLy k4 (cpT (cI (fun _ => 0) 0) (fun k => cvF (s.2.1 112) p q (F k) 3) 0 (w * h)) (fun k hk => ?_) (fun g2 w1 => ?_) (fun g2 => ?_)
          · have := cpT_in (A := cI (fun _ => 0) 0) (N := fun k => cvF (s.2.1 112) p q (F k) 3) (b := 0) (n := w * h) (k := k) hk
            rw [Nat.zero_add] at this
            rw [this, cvE _ _ (by omega), e4 k hk]
            rfl
          · have c0 : ¬ lg_cmp (dtF (s.2.1 112) q 3) 0 = 0 := fun z => hd ((lg_cmp_eq _ _).mp z)
            have e1' : (e_g s g).1 = g.1 := rfl
            have sA := fun f => stW (s := s) (stN_ext (ext_mkA (g := g) (f := f)) f9)
            unfold fX11_convert jX11_convert_47
            rw [rng hg, if_pos q1, tc_rn, rng hg, if_pos q2, tc_rn, ob8, ob_n, k2, tc_rn, f8_10, ob_n, ob_n, ob111, ob_n, dt3, ob_n, if_pos c0, refuse11 hg, if_pos rfl, tc_rn, nA_mk hg, ob_n, f8_10, ob_n, ob_n, ob_n, f15, ob_n, ob_n, f8_0, f3, ob_n, ob_n, (sA _).1, ob_n, ob_n, ob_n, (sA _).2.1, ob_n, ob111, ob_n, n_mul, e1', tr, ob_n, ob8, ob_n, w1, ob_n]
          · have eN : (fgC (rmC (sA (sL s 115 I) 114 L) a (g.1 + 2) pc)).2.1 142 = s.2.1 142 := by unfold fgC rmC; simp (decide := true) only [ob_n, b2_n, tc_rn, tc_ln, F_sF, A_sF, R_sF, L_sF, F_sA, A_sA, R_sA, L_sA, F_sR, A_sR, R_sR, L_sR, F_sL, A_sL, R_sL, L_sL, and_true, true_and, and_false, false_and, and_self, reduceIte, sF_sF, sA_sA, false_or, or_false, true_or, or_true, not_false_eq_true, not_true_eq_false, decide_true, decide_false, Bool.true_or, Bool.or_true, Bool.false_and, Bool.true_and, Bool.false_or, Bool.or_false, Bool.and_true, Bool.and_false, A_sRr]
            have eP : (fgC (rmC (sA (sL s 115 I) 114 L) a (g.1 + 2) pc)).2.1 173 = s.2.1 173 := by unfold fgC rmC; simp (decide := true) only [ob_n, b2_n, tc_rn, tc_ln, F_sF, A_sF, R_sF, L_sF, F_sA, A_sA, R_sA, L_sA, F_sR, A_sR, R_sR, L_sR, F_sL, A_sL, R_sL, L_sL, and_true, true_and, and_false, false_and, and_self, reduceIte, sF_sF, sA_sA, false_or, or_false, true_or, or_true, not_false_eq_true, not_true_eq_false, decide_true, decide_false, Bool.true_or, Bool.or_true, Bool.false_and, Bool.true_and, Bool.false_or, Bool.or_false, Bool.and_true, Bool.and_false, A_sRr]
            have eF : ∀ j, ¬ j = 0 → (sF (fgC (rmC (sA (sL s 115 I) 114 L) a (g.1 + 2) pc)) 139 0 0).1 139 j = s.1 139 j := fun j hj => by unfold fgC rmC; simp (decide := true) only [ob_n, b2_n, tc_rn, tc_ln, F_sF, A_sF, R_sF, L_sF, F_sA, A_sA, R_sA, L_sA, F_sR, A_sR, R_sR, L_sR, F_sL, A_sL, R_sL, L_sL, and_true, true_and, and_false, false_and, and_self, reduceIte, sF_sF, sA_sA, false_or, or_false, true_or, or_true, not_false_eq_true, not_true_eq_false, decide_true, decide_false, Bool.true_or, Bool.or_true, Bool.false_and, Bool.true_and, Bool.false_or, Bool.or_false, Bool.and_true, Bool.and_false, F_sRr, hj]
            generalize fgC (rmC (sA (sL s 115 I) 114 L) a (g.1 + 2) pc) = S at eN eP eF
            have dd := det12 (s := sF S 139 0 0) (g := g2) (q := q) (a := Int32.ofNat l) (b := Int32.ofNat p) hq
            rw [A_sF, eP] at dd
            have wy := why12 (s := S) (g := g2) (x := Int32.ofNat l) (b := true)
            rw [eN, wy0] at wy
            obtain ⟨F', cl⟩ := convl12 (s := sF S 139 0 0) (g := g2) (l := l) (p := p) (q := q) d2 d4 (by rw [eF _ (by omega)]; exact d5) (by rw [eF _ (by omega)]; exact d6) hl hp hq (by rw [A_sF, eP]; exact srt) (by rw [A_sF, eP]; exact hdr)
            rw [A_sF, eP, eN] at cl
            have ed := edited12 (s := sA (sA (sF S 139 0 0) 174 F') 142 (cpT (s.2.1 142) (fun k => cvF (s.2.1 173) p q (pxN (s.2.1 142) l k) 3) (1169 * l + 17) (h * w))) (g := g2) f1 (show pc ≤ 24 by omega) (by rw [F_sA, F_sA, eF _ (by omega)]; exact f6) (by rw [F_sA, F_sA, eF _ (by omega)]; exact f7)
            have c0 : ¬ lg_cmp (dtF (s.2.1 173) q 3) 0 = 0 := fun z => hdr ((lg_cmp_eq _ _).mp z)
            refine ⟨fg12 (edM (sA (sA (sF S 139 0 0) 174 F') 142 (cpT (s.2.1 142) (fun k => cvF (s.2.1 173) p q (pxN (s.2.1 142) l k) 3) (1169 * l + 17) (h * w))) st pc), ?_, ?_, ?_⟩
            · show fX12_convert (e_g S g2) 139 (Int32.ofNat l) (Int32.ofNat p) (Int32.ofNat q) = _
              rw [convert12h, qq]
              unfold jX12_convert_26
              have wy' : fX12_why (e_g S g2) 139 (Int32.ofNat l) (if true = true then 1 else 0) = some 0 := wy
              rw [ob139, ob_n, wy', ob_n, w139_0, ob_n, f139_0, F_sF, if_pos ⟨rfl, rfl⟩, ob_n, if_pos (by decide), dd, ob_n, if_pos c0, cl, ob_n, ob139, ob_n, ed, ob_n, ob139, ob_n, forget12, ob_n]
              rfl
            · unfold fg12 edM
              simp (decide := true) only [ob_n, b2_n, tc_rn, tc_ln, F_sF, A_sF, R_sF, L_sF, F_sA, A_sA, R_sA, L_sA, F_sR, A_sR, R_sR, L_sR, F_sL, A_sL, R_sL, L_sL, and_true, true_and, and_false, false_and, and_self, reduceIte, sF_sF, sA_sA, false_or, or_false, true_or, or_true, not_false_eq_true, not_true_eq_false, decide_true, decide_false, Bool.true_or, Bool.or_true, Bool.false_and, Bool.true_and, Bool.false_or, Bool.or_false, Bool.and_true, Bool.and_false]
            · exact sm_fg (sm_edM (sm_A2 (sm_A (sm_F sm_rf (by decide)) (by decide))))
    · refine KV_no (E := "java/lang/IllegalArgumentException") (y := 1) hR ?_ (by decide +kernel) (no 1 (by decide) (if_pos (Or.inl (by rw [q1]; simpa using q2))))
      simp (decide := true) only [fX11_convert, rng hg, q1, q2, ob_n, b2_n, tc_rn, tc_ln, F_sF, A_sF, R_sF, L_sF, F_sA, A_sA, R_sA, L_sA, F_sR, A_sR, R_sR, L_sR, F_sL, A_sL, R_sL, L_sL, and_true, true_and, and_false, false_and, and_self, reduceIte, sF_sF, sA_sA, false_or, or_false, true_or, or_true, not_false_eq_true, not_true_eq_false, decide_true, decide_false, Bool.true_or, Bool.or_true, Bool.false_and, Bool.true_and, Bool.false_or, Bool.or_false, Bool.and_true, Bool.and_false]
  · refine KV_no (E := "java/lang/IllegalArgumentException") (y := 1) hR ?_ (by decide +kernel) (no 1 (by decide) (if_pos (Or.inl (by simp [q1]))))
    simp (decide := true) only [fX11_convert, rng hg, q1, ob_n, b2_n, tc_rn, tc_ln, F_sF, A_sF, R_sF, L_sF, F_sA, A_sA, R_sA, L_sA, F_sR, A_sR, R_sR, L_sR, F_sL, A_sL, R_sL, L_sL, and_true, true_and, and_false, false_and, and_self, reduceIte, sF_sF, sA_sA, false_or, or_false, true_or, or_true, not_false_eq_true, not_true_eq_false, decide_true, decide_false, Bool.true_or, Bool.or_true, Bool.false_and, Bool.true_and, Bool.false_or, Bool.or_false, Bool.and_true, Bool.and_false]
