-- needs: 97zzc
theorem cut3 {s : e_S} {g : ps_G} {n al b k : Nat} {Fr Mn : Nat → Nat} (hn : n < 16) (hB : BxO (s.2.1 117) (s.2.1 118) n al Fr Mn) (hb : b < n) (e8 : s.1 111 8 = Int32.ofNat n) (hp : 0 < sdV (s.2.1 116) k (Fr b) (Mn b)) : ∃ A M, fX3_cut (e_g s g) 111 (Int32.ofNat b) (16 - 8 * Int32.ofNat k) = some (e_g (sF (sA (sA (sA s 116 (soN k (Fr b) (s.2.1 116) (Mn b - 1))) 117 A) 118 M) 111 8 (Int32.ofNat (n + 1))) g) ∧ BxO A M (n + 1) al (frC Fr n b (ctV (soN k (Fr b) (s.2.1 116) (Mn b - 1)) k (Fr b) (Mn b))) (mnC Mn n b (ctV (soN k (Fr b) (s.2.1 116) (Mn b - 1)) k (Fr b) (Mn b))) := by
  obtain ⟨h1, h2, h3⟩ := id hB
  obtain ⟨c1, c2, c3, c4⟩ := h3 b hb
  have so := sort3 (s := s) (g := g) (k := k) (fr := Fr b) (m := Mn b) (by omega) c4
  have df := so_df c4 hp
  have hc := ct_i df
  generalize hR : soN k (Fr b) (s.2.1 116) (Mn b - 1) = R at *
  have rf : q_aI (e_g s g) 117 (Int32.ofNat b) = some (Int32.ofNat (Fr b)) := by
    rw [a117, n_idx (by omega), if_neg (n_in2 (show b < 16 by omega) (by decide)), c1]
  have rm : q_aI (e_g s g) 118 (Int32.ofNat b) = some (Int32.ofNat (Mn b)) := by
    rw [a118, n_idx (by omega), if_neg (n_in2 (show b < 16 by omega) (by decide)), c2]
  have rm' : q_aI (e_g (sA s 116 R) g) 118 (Int32.ofNat b) = some (Int32.ofNat (Mn b)) := by
    rw [a118, n_idx (by omega), if_neg (n_in2 (show b < 16 by omega) (by decide)), A_sA, if_neg (by decide), c2]
  have d2 : Int32.ofNat (Mn b) / 2 = Int32.ofNat (Mn b / 2) := n_div (b := 2) (by omega) (by omega)
  have m2 : 2 ≤ Mn b := by omega
  have up := up3 (s := sA s 116 R) (g := g) (k := k) (fr := Fr b) (m := Mn b) (x1 := Int32.ofNat b) (by omega) (Mn b - Mn b / 2) (Mn b / 2) (by omega) (by omega)
  rw [A_sA, if_pos rfl] at up
  have u := up_i (R := R) (k := k) (fr := Fr b) (Mn b - Mn b / 2) (Mn b / 2)
  have sb : ∀ x y : Nat, y ≤ x → x < 2147483648 → Int32.ofNat x - Int32.ofNat y = Int32.ofNat (x - y) := fun x y hxy hx => by
    refine n_of ?_
    rw [i_sub (by rw [n_int (by omega), n_int (by omega)]; omega) (by rw [n_int (by omega), n_int (by omega)]; omega), n_int (by omega), n_int (by omega)]
    omega
  refine ⟨upd (s.2.1 117) n (Int32.ofNat (Fr b + ctV R k (Fr b) (Mn b))), upd (upd (s.2.1 118) n (Int32.ofNat (Mn b - ctV R k (Fr b) (Mn b)))) b (Int32.ofNat (ctV R k (Fr b) (Mn b))), ?_, ?_⟩
  · have em : Int32.ofNat (Fr b + Mn b) - Int32.ofNat (Fr b + ctV R k (Fr b) (Mn b)) = Int32.ofNat (Mn b - ctV R k (Fr b) (Mn b)) := by
      rw [sb _ _ (by omega) (by omega), show Fr b + Mn b - (Fr b + ctV R k (Fr b) (Mn b)) = Mn b - ctV R k (Fr b) (Mn b) by omega]
    have eh : Int32.ofNat (Fr b + ctV R k (Fr b) (Mn b)) - Int32.ofNat (Fr b) = Int32.ofNat (ctV R k (Fr b) (Mn b)) := by
      rw [sb _ _ (by omega) (by omega), show Fr b + ctV R k (Fr b) (Mn b) - Fr b = ctV R k (Fr b) (Mn b) by omega]
    have jn : jX3_cut_115 (e_g (sA s 116 R) g) 111 (Int32.ofNat b) (Int32.ofNat (Fr b)) (Int32.ofNat (Fr b + Mn b)) (Int32.ofNat (Fr b + ctV R k (Fr b) (Mn b))) = some (e_g (sF (sA (sA (sA s 116 R) 117 (upd (s.2.1 117) n (Int32.ofNat (Fr b + ctV R k (Fr b) (Mn b))))) 118 (upd (upd (s.2.1 118) n (Int32.ofNat (Mn b - ctV R k (Fr b) (Mn b)))) b (Int32.ofNat (ctV R k (Fr b) (Mn b))))) 111 8 (Int32.ofNat (n + 1))) g) := by
      unfold jX3_cut_115
      rw [f111_5, ob_n, ob_n, f111_8, F_sA, e8, ob_n, u117, n_idx (by omega), if_neg (n_in2 hn (by decide)), ob_n, f111_6, ob_n, ob_n, f111_8, F_sA, F_sA, e8, ob_n, em, u118, n_idx (by omega), if_neg (n_in2 hn (by decide)), ob_n, f111_6, ob_n, ob_n, eh, u118, n_idx (by omega), if_neg (n_in2 (show b < 16 by omega) (by decide)), ob_n, f111_8, F_sA, F_sA, F_sA, F_sA, e8, ob_n, n_suc, w111_8, ob_n]
      simp (decide := true) only [A_sA, reduceIte]
      rw [sA_sA]
    unfold fX3_cut jX3_cut_69
    rw [f111_5, ob_n, ob_n, rf, ob_n, f111_6, ob_n, ob_n, rm, ob_n, ob111, ob_n, n_add, so, ob_n, f111_6, ob_n, ob_n, rm', ob_n, d2, n_add, up, ob_n]
    by_cases q : upN R k (Fr b) (Mn b - Mn b / 2) (Mn b / 2) < Mn b
    · have ec : ctV R k (Fr b) (Mn b) = upN R k (Fr b) (Mn b - Mn b / 2) (Mn b / 2) := if_pos q
      have c : Int32.ofNat (Fr b + upN R k (Fr b) (Mn b - Mn b / 2) (Mn b / 2)) < Int32.ofNat (Fr b + Mn b) := (n_lt (by omega) (by omega)).mpr (by omega)
      rw [if_pos c, ← ec, jn]
    · have ec : ctV R k (Fr b) (Mn b) = dnN R k (Fr b) (vl k (R (Fr b + Mn b - 1))) (Mn b - 1) := if_neg q
      have c : ¬ Int32.ofNat (Fr b + upN R k (Fr b) (Mn b - Mn b / 2) (Mn b / 2)) < Int32.ofNat (Fr b + Mn b) := fun z => by
        have := (n_lt (by omega) (by omega)).mp z
        omega
      have e1 : Int32.ofNat (Fr b + Mn b) - 1 = Int32.ofNat (Fr b + (Mn b - 1)) := by
        have := (pm1 (p := Fr b + (Mn b - 1))).1
        rw [show Fr b + (Mn b - 1) + 1 = Fr b + Mn b by omega] at this
        exact this
      have dn := dn3 (s := sA s 116 R) (g := g) (k := k) (fr := Fr b) (m := Mn b) (x1 := Int32.ofNat b) (by omega) c4 (Mn b - 1) (by omega)
      rw [A_sA, if_pos rfl] at dn
      rw [if_neg c, e1, dn, ob_n, ← ec, jn]
  · refine ⟨h1, by omega, fun x hx => ?_⟩
    unfold frC mnC
    by_cases q1 : x = n
    · subst q1
      have q2 : ¬ x = b := by omega
      rw [upd_s, upd_n q2, upd_s, if_pos rfl, if_pos rfl]
      exact ⟨rfl, rfl, by omega, by omega⟩
    · rw [upd_n q1, if_neg q1, if_neg q1]
      obtain ⟨x1, x2, x3, x4⟩ := h3 x (by omega)
      by_cases q2 : x = b
      · subst q2
        rw [upd_s, if_pos rfl]
        exact ⟨x1, rfl, by omega, by omega⟩
      · rw [upd_n q2, upd_n q1, if_neg q2]
        exact ⟨x1, x2, x3, x4⟩
/-- only what few writes differs: the class, the reference -/
def Kfc (s0 s : e_S) : Prop := Sm s0 s ∧ s.2.2 = s0.2.2 ∧ (∀ i j, ¬ i = 111 → s.1 i j = s0.1 i j) ∧ (∀ j, ¬ (116 ≤ j ∧ j ≤ 120) → s.2.1 j = s0.2.1 j)
def Kfm (s0 s : e_S) : Prop := Sm s0 s ∧ s.2.2 = s0.2.2 ∧ s.1 = s0.1 ∧ (∀ j, ¬ (175 ≤ j ∧ j ≤ 179) → s.2.1 j = s0.2.1 j)
theorem kc_rf {s : e_S} : Kfc s s := ⟨sm_rf, rfl, fun _ _ _ => rfl, fun _ _ => rfl⟩
theorem km_rf {s : e_S} : Kfm s s := ⟨sm_rf, rfl, rfl, fun _ _ => rfl⟩
theorem reA_f : ∀ j, j < 195 → ((116 ≤ j ∧ j ≤ 120) ∨ (175 ≤ j ∧ j ≤ 179)) → reA.contains j = false := by
  intro j _ h
  have : j = 116 ∨ j = 117 ∨ j = 118 ∨ j = 119 ∨ j = 120 ∨ j = 175 ∨ j = 176 ∨ j = 177 ∨ j = 178 ∨ j = 179 := by omega
  rcases this with rfl | rfl | rfl | rfl | rfl | rfl | rfl | rfl | rfl | rfl <;> decide
theorem kc_A {s0 s : e_S} {j : Nat} {r : Nat → Int32} (h : Kfc s0 s) (hj : 116 ≤ j ∧ j ≤ 120) : Kfc s0 (sA s j r) := by
  obtain ⟨h1, h2, h3, h4⟩ := h
  refine ⟨sm_A h1 (reA_f j (by omega) (Or.inl hj)), ?_, fun i k hi => by rw [F_sA]; exact h3 i k hi, fun k hk => ?_⟩
  · rw [← h2]; rfl
  · rw [A_sA, if_neg (fun z => hk (by rw [z]; exact hj))]; exact h4 k hk
theorem km_A {s0 s : e_S} {j : Nat} {r : Nat → Int32} (h : Kfm s0 s) (hj : 175 ≤ j ∧ j ≤ 179) : Kfm s0 (sA s j r) := by
  obtain ⟨h1, h2, h3, h4⟩ := h
  refine ⟨sm_A h1 (reA_f j (by omega) (Or.inr hj)), ?_, by rw [F_sA]; exact h3, fun k hk => ?_⟩
  · rw [← h2]; rfl
  · rw [A_sA, if_neg (fun z => hk (by rw [z]; exact hj))]; exact h4 k hk
theorem reF_f : ∀ k, k < 12 → reF.contains (111, k) = false := by decide
theorem kc_F {s0 s : e_S} {k : Nat} {v : Int32} (h : Kfc s0 s) (hk : k < 12) : Kfc s0 (sF s 111 k v) := by
  obtain ⟨h1, h2, h3, h4⟩ := h
  refine ⟨sm_F h1 (reF_f k hk), ?_, fun i j hi => ?_, fun j hj => by rw [A_sF]; exact h4 j hj⟩
  · rw [← h2]; rfl
  · rw [F_sF, if_neg (fun z => hi z.1)]; exact h3 i j hi
/-- the boxes on both sides -/
def Fw (s S : e_S) (n al : Nat) (Fr Mn : Nat → Nat) : Prop := Al al (s.2.1 116) (S.2.1 175) ∧ Sh (S.2.1 175) al ∧ BxO (s.2.1 117) (s.2.1 118) n al Fr Mn ∧ BxO (S.2.1 176) (S.2.1 177) n al Fr Mn ∧ s.1 111 8 = Int32.ofNat n
theorem fw_D {s S : e_S} {n al : Nat} {Fr Mn : Nat → Nat} (h : Fw s S n al Fr Mn) : wb (fun b k => sdV (s.2.1 116) k (Fr b) (Mn b)) n = wb (fun b k => sdV (S.2.1 175) k (Fr b) (Mn b)) n := by
  obtain ⟨h1, h2, h3, h4, h5⟩ := h
  refine wb_c n fun b hb k => ?_
  have e := lo_c (k := k) h1 (Mn b) (h3.2.2 b hb).2.2.1
  show sdV (s.2.1 116) k (Fr b) (Mn b) = sdV (S.2.1 175) k (Fr b) (Mn b)
  unfold sdV
  rw [e.1, e.2]
theorem cuts {s0 S0 : e_S} {g g' : ps_G} {N al : Nat} {x1 x3 : Int32} (hN : N ≤ 16) : ∀ (μ : Nat) (u : Int32 × ps_G) (t : Int32 × ps_G), (∃ s S n Fr Mn, u = (Int32.ofNat n, e_g s g) ∧ t = (Int32.ofNat n, e_g S g') ∧ Fw s S n al Fr Mn ∧ Kfc s0 s ∧ Kfm S0 S ∧ 1 ≤ n ∧ n ≤ N ∧ μ = N - n) → ∃ r r', q_lp (fun u => bX3_boxes_92 111 (Int32.ofNat N) u.1 u.2) u = some r ∧ q_lp (fun u => bX12_few_117 139 x1 (Int32.ofNat N) x3 u.1 u.2) t = some r' ∧ ∃ s S n Fr Mn, r = e_g s g ∧ r' = (Int32.ofNat n, e_g S g') ∧ Fw s S n al Fr Mn ∧ Kfc s0 s ∧ Kfm S0 S ∧ 1 ≤ n ∧ n ≤ 16 := by
  refine lp_rel (fun μ u t => ∃ s S n Fr Mn, u = (Int32.ofNat n, e_g s g) ∧ t = (Int32.ofNat n, e_g S g') ∧ Fw s S n al Fr Mn ∧ Kfc s0 s ∧ Kfm S0 S ∧ 1 ≤ n ∧ n ≤ N ∧ μ = N - n) (fun r r' => ∃ s S n Fr Mn, r = e_g s g ∧ r' = (Int32.ofNat n, e_g S g') ∧ Fw s S n al Fr Mn ∧ Kfc s0 s ∧ Kfm S0 S ∧ 1 ≤ n ∧ n ≤ 16) ?_
  rintro μ u t ⟨s, S, n, Fr, Mn, rfl, rfl, hF, hc, hm, hn1, hnN, rfl⟩
  have hD := fw_D hF
  obtain ⟨a1, a2, a3, a4, a5⟩ := id hF
  have nz : ¬ Int32.ofNat n ≤ 0 := show ¬ Int32.ofNat n ≤ Int32.ofNat 0 from nle hn1 (by omega)
  by_cases q : n = N
  · right
    refine ⟨e_g s g, (Int32.ofNat n, e_g S g'), ?_, ?_, s, S, n, Fr, Mn, rfl, rfl, hF, hc, hm, hn1, by omega⟩
    · show bX3_boxes_92 _ _ _ _ = _
      unfold bX3_boxes_92
      rw [q, if_pos (Or.inl (nlr (by omega)))]
    · show bX12_few_117 _ _ _ _ _ _ = _
      unfold bX12_few_117
      rw [q, if_pos (Or.inr (nlr (by omega)))]
  · have c1 : ¬ (Int32.ofNat N ≤ Int32.ofNat n ∨ (16 : Int32) ≤ Int32.ofNat n) := by
      have c5 : ¬ (16 : Int32) ≤ Int32.ofNat n := show ¬ Int32.ofNat 16 ≤ Int32.ofNat n from nle (by omega) (by omega)
      exact fun z => z.elim (nle (by omega) (by omega)) c5
    have c2 : ¬ (Int32.ofNat n ≤ 0 ∨ Int32.ofNat N ≤ Int32.ofNat n) := fun z => z.elim nz (nle (by omega) (by omega))
    have w3 := widest3 (s := s) (g := g) a3 a5
    have w12 := widest12 (s := S) (g := g') a4
    rw [hD] at w3
    have wo := wb_o (D := fun b k => sdV (S.2.1 175) k (Fr b) (Mn b)) n
    rcases wo with wo | ⟨b, k, hb, hk, wo, hp⟩
    · right
      rw [wo] at w3 w12
      have cb : fX12_cutBox (e_g S g') 139 (Int32.ofNat n) = some (0, e_g S g') := by
        unfold fX12_cutBox
        rw [w12, ob_n]
        dsimp only
        rw [if_neg (by decide)]
      refine ⟨e_g s g, (Int32.ofNat n, e_g S g'), ?_, ?_, s, S, n, Fr, Mn, rfl, rfl, hF, hc, hm, hn1, by omega⟩
      · show bX3_boxes_92 _ _ _ _ = _
        unfold bX3_boxes_92
        dsimp only
        rw [if_neg c1, ob111, ob_n, w3, b2_n, if_pos (show (if (0 : Int32) ≤ 0 then (0 : Int32) else 1) = 0 by decide)]
        rfl
      · show bX12_few_117 _ _ _ _ _ _ = _
        unfold bX12_few_117
        dsimp only
        rw [if_neg c2, ob139, ob_n, cb, b2_n, if_pos rfl]
    · left
      have hp' : 0 < sdV (S.2.1 175) k (Fr b) (Mn b) := hp
      have ek := lo_c (k := k) a1 (Mn b) (a3.2.2 b hb).2.2.1
      have hp3 : 0 < sdV (s.2.1 116) k (Fr b) (Mn b) := by unfold sdV at hp' ⊢; rw [ek.1, ek.2]; exact hp'
      have nb : ¬ Int32.ofNat b = -1 := fun z => by
        have := congrArg Int32.toInt z
        rw [n_int (by omega)] at this
        have e : (-1 : Int32).toInt = -1 := by decide
        omega
      obtain ⟨A', M', cb, bo'⟩ := cut12 (s := S) (g := g') (b := b) (k := k) (show n < 16 by omega) a4 a2 hb hk (by rw [wo]) (by rw [wo]) hp'
      have ew : cw s (Int32.ofNat b, Int32.ofNat k, sdV (S.2.1 175) k (Fr b) (Mn b)) = sF (sF s 111 9 (Int32.ofNat b)) 111 10 (16 - 8 * Int32.ofNat k) := by
        unfold cw; dsimp only; rw [if_neg nb]
      rw [wo] at w3
      dsimp only at w3
      rw [ew, if_neg (show ¬ sdV (S.2.1 175) k (Fr b) (Mn b) ≤ 0 from fun z => by rw [i_lt] at hp'; rw [i_le] at z; omega)] at w3
      have x9 : (sF (sF s 111 9 (Int32.ofNat b)) 111 10 (16 - 8 * Int32.ofNat k)).1 111 9 = Int32.ofNat b := by simp (decide := true) only [ob_n, b2_n, tc_rn, tc_ln, F_sF, A_sF, R_sF, L_sF, F_sA, A_sA, R_sA, L_sA, F_sR, A_sR, R_sR, L_sR, F_sL, A_sL, R_sL, L_sL, and_true, true_and, and_false, false_and, and_self, reduceIte, sF_sF, sA_sA, false_or, or_false, true_or, or_true, not_false_eq_true, not_true_eq_false, decide_true, decide_false, Bool.true_or, Bool.or_true, Bool.false_and, Bool.true_and, Bool.false_or, Bool.or_false, Bool.and_true, Bool.and_false]
      have x10 : (sF (sF s 111 9 (Int32.ofNat b)) 111 10 (16 - 8 * Int32.ofNat k)).1 111 10 = 16 - 8 * Int32.ofNat k := by simp (decide := true) only [ob_n, b2_n, tc_rn, tc_ln, F_sF, A_sF, R_sF, L_sF, F_sA, A_sA, R_sA, L_sA, F_sR, A_sR, R_sR, L_sR, F_sL, A_sL, R_sL, L_sL, and_true, true_and, and_false, false_and, and_self, reduceIte, sF_sF, sA_sA, false_or, or_false, true_or, or_true, not_false_eq_true, not_true_eq_false, decide_true, decide_false, Bool.true_or, Bool.or_true, Bool.false_and, Bool.true_and, Bool.false_or, Bool.or_false, Bool.and_true, Bool.and_false]
      have x8 : (sF (sF s 111 9 (Int32.ofNat b)) 111 10 (16 - 8 * Int32.ofNat k)).1 111 8 = Int32.ofNat n := by simp (decide := true) only [ob_n, b2_n, tc_rn, tc_ln, F_sF, A_sF, R_sF, L_sF, F_sA, A_sA, R_sA, L_sA, F_sR, A_sR, R_sR, L_sR, F_sL, A_sL, R_sL, L_sL, and_true, true_and, and_false, false_and, and_self, reduceIte, sF_sF, sA_sA, false_or, or_false, true_or, or_true, not_false_eq_true, not_true_eq_false, decide_true, decide_false, Bool.true_or, Bool.or_true, Bool.false_and, Bool.true_and, Bool.false_or, Bool.or_false, Bool.and_true, Bool.and_false]; exact a5
      have xA : (sF (sF s 111 9 (Int32.ofNat b)) 111 10 (16 - 8 * Int32.ofNat k)).2.1 = s.2.1 := by rw [A_sF, A_sF]
      have kc' : Kfc s0 (sF (sF s 111 9 (Int32.ofNat b)) 111 10 (16 - 8 * Int32.ofNat k)) := kc_F (kc_F hc (by omega)) (by omega)
      generalize sF (sF s 111 9 (Int32.ofNat b)) 111 10 (16 - 8 * Int32.ofNat k) = s1 at w3 x9 x10 x8 xA kc'
      obtain ⟨A, M, c3, bo⟩ := cut3 (s := s1) (g := g) (b := b) (k := k) (show n < 16 by omega) (by rw [xA]; exact a3) hb x8 (by rw [xA]; exact hp3)
      rw [xA] at c3 bo
      have sc := so_c (k := k) (fr := Fr b) (m := Mn b) a1 (a3.2.2 b hb).2.2.1 (Mn b - 1) (by have := (a3.2.2 b hb).2.2.2; omega)
      have ss := so_sh (k := k) (fr := Fr b) (m := Mn b) a2 (a3.2.2 b hb).2.2.1 (Mn b - 1) (by have := (a3.2.2 b hb).2.2.2; omega)
      rw [ct_c sc (a3.2.2 b hb).2.2.1 (a3.2.2 b hb).2.2.2] at bo
      refine ⟨(Int32.ofNat (n + 1), e_g (sF (sA (sA (sA s1 116 (soN k (Fr b) (s.2.1 116) (Mn b - 1))) 117 A) 118 M) 111 8 (Int32.ofNat (n + 1))) g), (Int32.ofNat (n + 1), e_g (sA (sA (sA S 175 (soN k (Fr b) (S.2.1 175) (Mn b - 1))) 176 A') 177 M') g'), N - (n + 1), ?_, ?_, by omega, (sF (sA (sA (sA s1 116 (soN k (Fr b) (s.2.1 116) (Mn b - 1))) 117 A) 118 M) 111 8 (Int32.ofNat (n + 1))), (sA (sA (sA S 175 (soN k (Fr b) (S.2.1 175) (Mn b - 1))) 176 A') 177 M'), n + 1, (frC Fr n b (ctV (soN k (Fr b) (S.2.1 175) (Mn b - 1)) k (Fr b) (Mn b))), (mnC Mn n b (ctV (soN k (Fr b) (S.2.1 175) (Mn b - 1)) k (Fr b) (Mn b))), rfl, rfl, ⟨?_, ?_, ?_, ?_, ?_⟩, ?_, ?_, by omega, by omega, rfl⟩
      · show bX3_boxes_92 _ _ _ _ = _
        unfold bX3_boxes_92
        dsimp only
        rw [if_neg c1, ob111, ob_n, w3, b2_n, if_neg (by decide), f111_9, x9, ob_n, f111_10, x10, ob_n, ob111, ob_n, c3, ob_n, n_suc]
      · show bX12_few_117 _ _ _ _ _ _ = _
        unfold bX12_few_117
        dsimp only
        rw [if_neg c2, ob139, ob_n, cb, b2_n, if_neg (by decide), n_suc]
      · simp (decide := true) only [A_sA, A_sF, reduceIte]; exact sc
      · simp (decide := true) only [A_sA, A_sF, reduceIte]; exact ss
      · simp (decide := true) only [A_sA, A_sF, reduceIte]; exact bo
      · simp (decide := true) only [A_sA, A_sF, reduceIte]; exact bo'
      · rw [F_sF, if_pos ⟨rfl, rfl⟩]
      · exact kc_F (kc_A (kc_A (kc_A kc' (by omega)) (by omega)) (by omega)) (by omega)
      · exact km_A (km_A (km_A hm (by omega)) (by omega)) (by omega)
