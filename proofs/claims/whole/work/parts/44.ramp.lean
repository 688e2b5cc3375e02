-- needs: 07 10 13 14 20 21 22 23 24 25 26 27 32 33 34 38 39 40 41 42 43
/-! ===== ramp, colours ===== -/
theorem is12 {s : e_S} {g : ps_G} {x : Int32} {k : Nat} : fX12_is (e_g s g) 139 x (OfNat.ofNat k) = some (if isL (s.2.1 142) x ∧ s.2.1 142 (1169 * x.toInt.toNat + 1) = OfNat.ofNat k then 1 else 0) := by
  have b0 : q_bl 0 = some 0 := by decide
  have b1 : q_bl 1 = some 1 := by decide
  by_cases hx : isL (s.2.1 142) x
  · obtain ⟨l, rfl, hl, hl1⟩ := isL_n hx
    have g1 := get12 (s := s) (g := g) (n := 1) hl (by omega)
    rw [n_int (by omega), Int.toNat_natCast]
    by_cases q : s.2.1 142 (1169 * l + 1) = OfNat.ofNat k <;> simp (decide := true) only [fX12_is, jX12_is_22, jX12_is_23, ob139, isLayer12, hx, g1, q, ob_s, b2_s, tc_r, tc_l, F_sF, A_sF, R_sF, L_sF, F_sA, A_sA, R_sA, L_sA, F_sR, A_sR, R_sR, L_sR, F_sL, A_sL, R_sL, L_sL, and_true, true_and, and_false, false_and, and_self, reduceIte, sF_sF, sA_sA, false_or, or_false, true_or, or_true, not_false_eq_true, not_true_eq_false, decide_true, decide_false, Bool.true_or, Bool.or_true, Bool.false_and, Bool.true_and, Bool.false_or, Bool.or_false, Bool.and_true, Bool.and_false, b0, b1]
  · simp (decide := true) only [fX12_is, jX12_is_22, jX12_is_23, ob139, isLayer12, hx, ob_s, b2_s, tc_r, tc_l, F_sF, A_sF, R_sF, L_sF, F_sA, A_sA, R_sA, L_sA, F_sR, A_sR, R_sR, L_sR, F_sL, A_sL, R_sL, L_sL, and_true, true_and, and_false, false_and, and_self, reduceIte, sF_sF, sA_sA, false_or, or_false, true_or, or_true, not_false_eq_true, not_true_eq_false, decide_true, decide_false, Bool.true_or, Bool.or_true, Bool.false_and, Bool.true_and, Bool.false_or, Bool.or_false, Bool.and_true, Bool.and_false, b0]
def r4 (r : Nat → Int32) (a b c d : Int32) : Nat → Int32 := upd (upd (upd (upd r 13 a) 14 b) 15 c) 16 d
theorem r4_n {r : Nat → Int32} {a b c d : Int32} {j : Nat} (h : ¬ (13 ≤ j ∧ j ≤ 16)) : r4 r a b c d j = r j := by
  unfold r4
  rw [upd_n (by omega), upd_n (by omega), upd_n (by omega), upd_n (by omega)]
theorem r4_13 {r : Nat → Int32} {a b c d : Int32} : r4 r a b c d 13 = a ∧ r4 r a b c d 14 = b ∧ r4 r a b c d 15 = c ∧ r4 r a b c d 16 = d := by
  unfold r4
  refine ⟨?_, ?_, ?_, ?_⟩
  · rw [upd_n (by decide), upd_n (by decide), upd_n (by decide), upd_s]
  · rw [upd_n (by decide), upd_n (by decide), upd_s]
  · rw [upd_n (by decide), upd_s]
  · rw [upd_s]
theorem ramp12 {s : e_S} {g : ps_G} {x a b c d : Int32} {st pc : Nat} (h1 : st < 25) (h2 : pc ≤ 24) (e1 : s.1 139 10 = Int32.ofNat st) (e2 : s.1 139 11 = Int32.ofNat pc) : fX12_ramp (e_g s g) 139 x a b c d = if (rg a (-100) 100 ∧ rg b (-100) 100 ∧ rg c (-100) 100 ∧ rg d (-100) 100) ∧ ¬ (isL (s.2.1 142) x ∧ ¬ s.2.1 142 (1169 * x.toInt.toNat + 1) = 3) then (if isL (s.2.1 142) x then some (e_g (fg12 (edM (sA (sF s 139 0 0) 142 (upd (upd (upd (upd (s.2.1 142) (1169 * x.toInt.toNat + 13) a) (1169 * x.toInt.toNat + 14) b) (1169 * x.toInt.toNat + 15) c) (1169 * x.toInt.toNat + 16) d)) st pc)) g) else some (e_g (sF s 139 0 2) g)) else some (e_g (sF s 139 0 1) g) := by
  have j76 : jX12_ramp_76 (e_g s g) 139 x a b c d 139 = some (e_g (sF s 139 0 1) g) := by
    simp (decide := true) only [jX12_ramp_76, jX12_ramp_93, w139_0, f139_0, ob_s, b2_s, tc_r, tc_l, F_sF, A_sF, R_sF, L_sF, F_sA, A_sA, R_sA, L_sA, F_sR, A_sR, R_sR, L_sR, F_sL, A_sL, R_sL, L_sL, and_true, true_and, and_false, false_and, and_self, reduceIte, sF_sF, sA_sA, false_or, or_false, true_or, or_true, not_false_eq_true, not_true_eq_false, decide_true, decide_false, Bool.true_or, Bool.or_true, Bool.false_and, Bool.true_and, Bool.false_or, Bool.or_false, Bool.and_true, Bool.and_false]
  by_cases ha : rg a (-100) 100
  · by_cases hb : rg b (-100) 100
    · by_cases hc : rg c (-100) 100
      · by_cases hd : rg d (-100) 100
        · have k0 : fX12_ramp (e_g s g) 139 x a b c d = jX12_ramp_51 (e_g s g) 139 x a b c d 1 := by simp (decide := true) only [fX12_ramp, rin, ha, hb, hc, hd, ob_s, b2_s, tc_r, tc_l, F_sF, A_sF, R_sF, L_sF, F_sA, A_sA, R_sA, L_sA, F_sR, A_sR, R_sR, L_sR, F_sL, A_sL, R_sL, L_sL, and_true, true_and, and_false, false_and, and_self, reduceIte, sF_sF, sA_sA, false_or, or_false, true_or, or_true, not_false_eq_true, not_true_eq_false, decide_true, decide_false, Bool.true_or, Bool.or_true, Bool.false_and, Bool.true_and, Bool.false_or, Bool.or_false, Bool.and_true, Bool.and_false]
          rw [k0]
          by_cases hx : isL (s.2.1 142) x
          · obtain ⟨l, rfl, hl, hl1⟩ := isL_n hx
            have i3 := is12 (s := s) (g := g) (x := Int32.ofNat l) (k := 3)
            rw [n_int (by omega), Int.toNat_natCast] at i3 ⊢
            by_cases hk : s.2.1 142 (1169 * l + 1) = 3
            · have p := fun (s' : e_S) n v (hn : n < 1169) => put12 (s := s') (g := g) (n := n) (v := v) hl hn
              have ed := fun s' q1 q2 => edited12 (s := s') (g := g) h1 h2 q1 q2
              simp (decide := true) only [jX12_ramp_51, jX12_ramp_80, jX12_ramp_93, ob139, isLayer12, hx, i3, hk, ha, hb, hc, hd, w139_0, f139_0, p _ 13 _ (by omega), p _ 14 _ (by omega), p _ 15 _ (by omega), p _ 16 _ (by omega), ob_s, b2_s, tc_r, tc_l, F_sF, A_sF, R_sF, L_sF, F_sA, A_sA, R_sA, L_sA, F_sR, A_sR, R_sR, L_sR, F_sL, A_sL, R_sL, L_sL, and_true, true_and, and_false, false_and, and_self, reduceIte, sF_sF, sA_sA, false_or, or_false, true_or, or_true, not_false_eq_true, not_true_eq_false, decide_true, decide_false, Bool.true_or, Bool.or_true, Bool.false_and, Bool.true_and, Bool.false_or, Bool.or_false, Bool.and_true, Bool.and_false]
              rw [ed _ (by simp (decide := true) only [ob_s, b2_s, tc_r, tc_l, F_sF, A_sF, R_sF, L_sF, F_sA, A_sA, R_sA, L_sA, F_sR, A_sR, R_sR, L_sR, F_sL, A_sL, R_sL, L_sL, and_true, true_and, and_false, false_and, and_self, reduceIte, sF_sF, sA_sA, false_or, or_false, true_or, or_true, not_false_eq_true, not_true_eq_false, decide_true, decide_false, Bool.true_or, Bool.or_true, Bool.false_and, Bool.true_and, Bool.false_or, Bool.or_false, Bool.and_true, Bool.and_false, e1]) (by simp (decide := true) only [ob_s, b2_s, tc_r, tc_l, F_sF, A_sF, R_sF, L_sF, F_sA, A_sA, R_sA, L_sA, F_sR, A_sR, R_sR, L_sR, F_sL, A_sL, R_sL, L_sL, and_true, true_and, and_false, false_and, and_self, reduceIte, sF_sF, sA_sA, false_or, or_false, true_or, or_true, not_false_eq_true, not_true_eq_false, decide_true, decide_false, Bool.true_or, Bool.or_true, Bool.false_and, Bool.true_and, Bool.false_or, Bool.or_false, Bool.and_true, Bool.and_false, e2])]
              simp (decide := true) only [ob_s, b2_s, tc_r, tc_l, F_sF, A_sF, R_sF, L_sF, F_sA, A_sA, R_sA, L_sA, F_sR, A_sR, R_sR, L_sR, F_sL, A_sL, R_sL, L_sL, and_true, true_and, and_false, false_and, and_self, reduceIte, sF_sF, sA_sA, false_or, or_false, true_or, or_true, not_false_eq_true, not_true_eq_false, decide_true, decide_false, Bool.true_or, Bool.or_true, Bool.false_and, Bool.true_and, Bool.false_or, Bool.or_false, Bool.and_true, Bool.and_false, ob139, forget12, fg12]
            · simp (decide := true) only [jX12_ramp_51, ob139, isLayer12, hx, i3, hk, j76, ob_s, b2_s, tc_r, tc_l, F_sF, A_sF, R_sF, L_sF, F_sA, A_sA, R_sA, L_sA, F_sR, A_sR, R_sR, L_sR, F_sL, A_sL, R_sL, L_sL, and_true, true_and, and_false, false_and, and_self, reduceIte, sF_sF, sA_sA, false_or, or_false, true_or, or_true, not_false_eq_true, not_true_eq_false, decide_true, decide_false, Bool.true_or, Bool.or_true, Bool.false_and, Bool.true_and, Bool.false_or, Bool.or_false, Bool.and_true, Bool.and_false]
          · simp (decide := true) only [jX12_ramp_51, jX12_ramp_80, jX12_ramp_93, ob139, isLayer12, hx, ha, hb, hc, hd, w139_0, f139_0, ob_s, b2_s, tc_r, tc_l, F_sF, A_sF, R_sF, L_sF, F_sA, A_sA, R_sA, L_sA, F_sR, A_sR, R_sR, L_sR, F_sL, A_sL, R_sL, L_sL, and_true, true_and, and_false, false_and, and_self, reduceIte, sF_sF, sA_sA, false_or, or_false, true_or, or_true, not_false_eq_true, not_true_eq_false, decide_true, decide_false, Bool.true_or, Bool.or_true, Bool.false_and, Bool.true_and, Bool.false_or, Bool.or_false, Bool.and_true, Bool.and_false]
        · simp (decide := true) only [fX12_ramp, jX12_ramp_50, jX12_ramp_51, rin, ha, hb, hc, hd, j76, ob_s, b2_s, tc_r, tc_l, F_sF, A_sF, R_sF, L_sF, F_sA, A_sA, R_sA, L_sA, F_sR, A_sR, R_sR, L_sR, F_sL, A_sL, R_sL, L_sL, and_true, true_and, and_false, false_and, and_self, reduceIte, sF_sF, sA_sA, false_or, or_false, true_or, or_true, not_false_eq_true, not_true_eq_false, decide_true, decide_false, Bool.true_or, Bool.or_true, Bool.false_and, Bool.true_and, Bool.false_or, Bool.or_false, Bool.and_true, Bool.and_false]
      · simp (decide := true) only [fX12_ramp, jX12_ramp_50, jX12_ramp_51, rin, ha, hb, hc, j76, ob_s, b2_s, tc_r, tc_l, F_sF, A_sF, R_sF, L_sF, F_sA, A_sA, R_sA, L_sA, F_sR, A_sR, R_sR, L_sR, F_sL, A_sL, R_sL, L_sL, and_true, true_and, and_false, false_and, and_self, reduceIte, sF_sF, sA_sA, false_or, or_false, true_or, or_true, not_false_eq_true, not_true_eq_false, decide_true, decide_false, Bool.true_or, Bool.or_true, Bool.false_and, Bool.true_and, Bool.false_or, Bool.or_false, Bool.and_true, Bool.and_false]
    · simp (decide := true) only [fX12_ramp, jX12_ramp_50, jX12_ramp_51, rin, ha, hb, j76, ob_s, b2_s, tc_r, tc_l, F_sF, A_sF, R_sF, L_sF, F_sA, A_sA, R_sA, L_sA, F_sR, A_sR, R_sR, L_sR, F_sL, A_sL, R_sL, L_sL, and_true, true_and, and_false, false_and, and_self, reduceIte, sF_sF, sA_sA, false_or, or_false, true_or, or_true, not_false_eq_true, not_true_eq_false, decide_true, decide_false, Bool.true_or, Bool.or_true, Bool.false_and, Bool.true_and, Bool.false_or, Bool.or_false, Bool.and_true, Bool.and_false]
  · simp (decide := true) only [fX12_ramp, jX12_ramp_50, jX12_ramp_51, rin, ha, j76, ob_s, b2_s, tc_r, tc_l, F_sF, A_sF, R_sF, L_sF, F_sA, A_sA, R_sA, L_sA, F_sR, A_sR, R_sR, L_sR, F_sL, A_sL, R_sL, L_sL, and_true, true_and, and_false, false_and, and_self, reduceIte, sF_sF, sA_sA, false_or, or_false, true_or, or_true, not_false_eq_true, not_true_eq_false, decide_true, decide_false, Bool.true_or, Bool.or_true, Bool.false_and, Bool.true_and, Bool.false_or, Bool.or_false, Bool.and_true, Bool.and_false]
theorem K_ramp {s : e_S} {g : ps_G} {x i0 i1 i2 i3 : Int32} (hR : Rel s g) : KV (fL_ramp (e_g s g) 8 x i0 i1 i2 i3) (fun G => fX12_ramp G 139 x i0 i1 i2 i3) g := by
  have hg := rel_g hR
  obtain ⟨h1, h2, h3, h4, h5, h6, ⟨w, h, h7, h8, h9⟩, h10, h11⟩ := id hR
  obtain ⟨a, st, pc, uc, f1, f2, f3, f4, f5, f6, f7, f8, f9, f10, f11, f12⟩ := h9
  have hwh := wh_le h7.2.1 h7.2.2.2.1
  have hm0 := fun g => ramp12 (s := s) (g := g) (x := x) (a := i0) (b := i1) (c := i2) (d := i3) f1 (show pc ≤ 24 by omega) f6 f7
  by_cases q : rg i0 (-100) 100 ∧ rg i1 (-100) 100 ∧ rg i2 (-100) 100 ∧ rg i3 (-100) 100
  · have hc : fX11_ramp (e_g s g) 8 x i0 i1 i2 i3 = jX11_ramp_34 (e_g s g) 8 x i0 i1 i2 i3 := by simp (decide := true) only [fX11_ramp, rng hg, q.1, q.2.1, q.2.2.1, q.2.2.2, ob_s, b2_s, tc_r, tc_l, F_sF, A_sF, R_sF, L_sF, F_sA, A_sA, R_sA, L_sA, F_sR, A_sR, R_sR, L_sR, F_sL, A_sL, R_sL, L_sL, and_true, true_and, and_false, false_and, and_self, reduceIte, sF_sF, sA_sA, false_or, or_false, true_or, or_true, not_false_eq_true, not_true_eq_false, decide_true, decide_false, Bool.true_or, Bool.or_true, Bool.false_and, Bool.true_and, Bool.false_or, Bool.or_false, Bool.and_true, Bool.and_false]
    rcases known11 (x := x) hg f3 f9 with ⟨k1, k2⟩ | ⟨l, b, rfl, hl, k1, k3, k2, hLy⟩
    · refine KV_no (E := "java/util/NoSuchElementException") (y := 2) hR ?_ (by decide +kernel) ((hm0 _).trans ((if_pos ⟨q, by rw [k1]; exact fun z => absurd z.1 (by decide)⟩).trans (if_neg (by rw [k1]; decide))))
      rw [hc]
      simp (decide := true) only [jX11_ramp_34, ob8, k2, ob_s, b2_s, tc_r, tc_l, F_sF, A_sF, R_sF, L_sF, F_sA, A_sA, R_sA, L_sA, F_sR, A_sR, R_sR, L_sR, F_sL, A_sL, R_sL, L_sL, and_true, true_and, and_false, false_and, and_self, reduceIte, sF_sF, sA_sA, false_or, or_false, true_or, or_true, not_false_eq_true, not_true_eq_false, decide_true, decide_false, Bool.true_or, Bool.or_true, Bool.false_and, Bool.true_and, Bool.false_or, Bool.or_false, Bool.and_true, Bool.and_false]
    · obtain ⟨y1, y2, p, q', x0, y0, x1, yy1, pa, ma, y3, z1, z2, z3, z4, z5, z6, z7, z8, z9, z10, z11, z12, z13, z14⟩ := id hLy
      have fk : q_fI 4 1 (e_g s g) b = some (lR (s.2.1 142) l 1) := d_fI y1 y3 rfl
      by_cases hk : lR (s.2.1 142) l 1 = 3
      · have r33 : rg 3 3 3 = true := by decide
        have ag := again4 (s := s) hg y1 y2 (rg01 z4) (rg01 z5) y3
        have ob4 : q_ob 4 (e_g s g) b = some () := d_ob y1 y3
        have hN' : lR (upd (upd (upd (upd (s.2.1 142) (1169 * l + 13) i0) (1169 * l + 14) i1) (1169 * l + 15) i2) (1169 * l + 16) i3) l = r4 (lR (s.2.1 142) l) i0 i1 i2 i3 := by rw [lR_upd, lR_upd, lR_upd, lR_upd]; rfl
        have hLy' : LyN (mkL g [.int (Int32.ofNat l), .int (lR (s.2.1 142) l 1), .int (lR (s.2.1 142) l 2), .int (lR (s.2.1 142) l 4), .int (lR (s.2.1 142) l 5), .int (lR (s.2.1 142) l 6), .int (lR (s.2.1 142) l 7), .int (lR (s.2.1 142) l 8), .int (lR (s.2.1 142) l 9), .int p, .int q', .int i0, .int i1, .int i2, .int i3, .ref pa, .ref ma]) g.1 w h l (r4 (lR (s.2.1 142) l) i0 i1 i2 i3) := by
          obtain ⟨u13, u14, u15, u16⟩ := @r4_13 (lR (s.2.1 142) l) i0 i1 i2 i3
          have u := fun j hj => @r4_n (lR (s.2.1 142) l) i0 i1 i2 i3 j hj
          refine ⟨Or.inl hg, Nat.lt_succ_self _, p, q', i0, i1, i2, i3, pa, ma, ?_, ?_, ?_, ?_, ?_, ?_, ?_, ?_, ?_, ?_, ?_, ?_, ?_, ?_, ?_⟩
          · unfold mkL
            rw [nw_at, u 1 (by omega), u 2 (by omega), u 4 (by omega), u 5 (by omega), u 6 (by omega), u 7 (by omega), u 8 (by omega), u 9 (by omega)]
          · rw [u 1 (by omega)]; exact z1
          · rw [u 4 (by omega)]; exact z2
          · rw [u 5 (by omega)]; exact z3
          · rw [u 6 (by omega)]; exact z4
          · rw [u 7 (by omega)]; exact z5
          · rw [u 8 (by omega)]; exact z6
          · rw [u 9 (by omega)]; exact z7
          · rw [u 1 (by omega), u 11 (by omega), u 12 (by omega)]; exact z8
          · rw [u 1 (by omega), hk, if_pos rfl, u13, u14, u15, u16]; exact ⟨rfl, rfl, rfl, rfl, q⟩
          · rw [u 1 (by omega)]; exact z10
          · rw [u 1 (by omega)]; exact z11
          · rw [u 1 (by omega), hk]; exact fun z => absurd z (by decide)
          · rw [u 1 (by omega)]; exact ⟨z13.1, Nat.le_trans (by decide) hg⟩
          · rw [u 10 (by omega)]
            rcases z14 with c | ⟨d1, d2, d0, d3, f, d4, d5⟩
            · exact Or.inl c
            · exact Or.inr ⟨d1, d2, d0, Nat.lt_succ_of_lt d3, f, by unfold mkL; rw [nw_lo d3]; exact d4, fun i hi => by rw [u _ (by omega)]; exact d5 i hi⟩
        obtain ⟨g2, w1, w2, w3⟩ := replace11 (s := s) (N' := upd (upd (upd (upd (s.2.1 142) (1169 * l + 13) i0) (1169 * l + 14) i1) (1169 * l + 15) i2) (1169 * l + 16) i3) hwh hg (ext_mkL (fs := _)) ⟨by show g.1 + 1 + 3 ≤ _; omega, by show g.2.1 + 17 + 66 ≤ _; omega⟩ f3 f4 (by omega) (fun i hi => by obtain ⟨b, z1, z2⟩ := f11 i hi; exact ⟨b, _, z1, z2⟩) f9 hl k3 (by rw [hN']; exact hLy') (fun j hj hj2 => by rw [upd_n (by omega), upd_n (by omega), upd_n (by omega), upd_n (by omega)]) (fun i hi => by rw [upd_n (by omega), upd_n (by omega), upd_n (by omega), upd_n (by omega)])
        have mS := fun k' v fs (hk' : k' < fs.length) => m_sI (s := s) (N := 17) (ci := 4) (k := k') (v := v) (fs := fs) hg hk'
        have hcc : jX11_ramp_34 (e_g s g) 8 (Int32.ofNat l) i0 i1 i2 i3 = some (.inr (), e_g (fgC (rmC s a (g.1 + 1) pc)) g2) := by
          unfold mkL at ag w1
          simp (decide := true) only [jX11_ramp_34, ob8, k2, ob4, fk, hk, r33, rng hg, ag, m_sI hg, List.length_cons, List.length_nil, List.set_cons_zero, List.set_cons_succ, w1, ob_s, b2_s, tc_r, tc_l, F_sF, A_sF, R_sF, L_sF, F_sA, A_sA, R_sA, L_sA, F_sR, A_sR, R_sR, L_sR, F_sL, A_sL, R_sL, L_sL, and_true, true_and, and_false, false_and, and_self, reduceIte, sF_sF, sA_sA, false_or, or_false, true_or, or_true, not_false_eq_true, not_true_eq_false, decide_true, decide_false, Bool.true_or, Bool.or_true, Bool.false_and, Bool.true_and, Bool.false_or, Bool.or_false, Bool.and_true, Bool.and_false]
          rw [hk] at w1
          rw [w1]
          rfl
        have hk' : s.2.1 142 (1169 * l + 1) = 3 := hk
        have hm := ramp12 (s := fgC (rmC s a (g.1 + 1) pc)) (g := g2) (x := Int32.ofNat l) (a := i0) (b := i1) (c := i2) (d := i3) f1 (show pc ≤ 24 by omega) (by simp (decide := true) only [ob_s, b2_s, tc_r, tc_l, F_sF, A_sF, R_sF, L_sF, F_sA, A_sA, R_sA, L_sA, F_sR, A_sR, R_sR, L_sR, F_sL, A_sL, R_sL, L_sL, and_true, true_and, and_false, false_and, and_self, reduceIte, sF_sF, sA_sA, false_or, or_false, true_or, or_true, not_false_eq_true, not_true_eq_false, decide_true, decide_false, Bool.true_or, Bool.or_true, Bool.false_and, Bool.true_and, Bool.false_or, Bool.or_false, Bool.and_true, Bool.and_false, fgC, rmC, F_sRr, f6]) (by simp (decide := true) only [ob_s, b2_s, tc_r, tc_l, F_sF, A_sF, R_sF, L_sF, F_sA, A_sA, R_sA, L_sA, F_sR, A_sR, R_sR, L_sR, F_sL, A_sL, R_sL, L_sL, and_true, true_and, and_false, false_and, and_self, reduceIte, sF_sF, sA_sA, false_or, or_false, true_or, or_true, not_false_eq_true, not_true_eq_false, decide_true, decide_false, Bool.true_or, Bool.or_true, Bool.false_and, Bool.true_and, Bool.false_or, Bool.or_false, Bool.and_true, Bool.and_false, fgC, rmC, F_sRr, f7])
        have hN0 : (fgC (rmC s a (g.1 + 1) pc)).2.1 142 = s.2.1 142 := by simp (decide := true) only [ob_s, b2_s, tc_r, tc_l, F_sF, A_sF, R_sF, L_sF, F_sA, A_sA, R_sA, L_sA, F_sR, A_sR, R_sR, L_sR, F_sL, A_sL, R_sL, L_sL, and_true, true_and, and_false, false_and, and_self, reduceIte, sF_sF, sA_sA, false_or, or_false, true_or, or_true, not_false_eq_true, not_true_eq_false, decide_true, decide_false, Bool.true_or, Bool.or_true, Bool.false_and, Bool.true_and, Bool.false_or, Bool.or_false, Bool.and_true, Bool.and_false, fgC, rmC, A_sRr]
        rw [hN0, n_int (by omega), Int.toNat_natCast, if_pos ⟨q, fun z => z.2 hk'⟩, if_pos k1] at hm
        exact KV_ed hR h7 f1 f2 f9 f10 f11 (hc.trans hcc) hm (by simp (decide := true) only [ob_s, b2_s, tc_r, tc_l, F_sF, A_sF, R_sF, L_sF, F_sA, A_sA, R_sA, L_sA, F_sR, A_sR, R_sR, L_sR, F_sL, A_sL, R_sL, L_sL, and_true, true_and, and_false, false_and, and_self, reduceIte, sF_sF, sA_sA, false_or, or_false, true_or, or_true, not_false_eq_true, not_true_eq_false, decide_true, decide_false, Bool.true_or, Bool.or_true, Bool.false_and, Bool.true_and, Bool.false_or, Bool.or_false, Bool.and_true, Bool.and_false, fg12, edM]) (sm_fg (sm_edM (sm_A2 (sm_F sm_rf (by decide))))) w2 w3
      · have r33 : rg (lR (s.2.1 142) l 1) 3 3 = false := by
          cases hz : rg (lR (s.2.1 142) l 1) 3 3 with
          | false => rfl
          | true =>
            exfalso
            have y := rg_i.mp hz
            have y1 : 3 ≤ (lR (s.2.1 142) l 1).toInt := y.1
            have y2 : (lR (s.2.1 142) l 1).toInt ≤ 3 := y.2
            exact hk (i_eq.mpr (show _ = (3 : Int) by omega))
        have hk' : ¬ s.2.1 142 (1169 * l + 1) = 3 := hk
        refine KV_no (E := "java/lang/IllegalArgumentException") (y := 1) hR ?_ (by decide +kernel) ((hm0 _).trans (if_neg (fun z => z.2 ⟨k1, by rw [n_int (by omega), Int.toNat_natCast]; exact hk'⟩)))
        rw [hc]
        simp (decide := true) only [jX11_ramp_34, ob8, k2, fk, r33, rng hg, ob_s, b2_s, tc_r, tc_l, F_sF, A_sF, R_sF, L_sF, F_sA, A_sA, R_sA, L_sA, F_sR, A_sR, R_sR, L_sR, F_sL, A_sL, R_sL, L_sL, and_true, true_and, and_false, false_and, and_self, reduceIte, sF_sF, sA_sA, false_or, or_false, true_or, or_true, not_false_eq_true, not_true_eq_false, decide_true, decide_false, Bool.true_or, Bool.or_true, Bool.false_and, Bool.true_and, Bool.false_or, Bool.or_false, Bool.and_true, Bool.and_false]
  · refine KV_no (E := "java/lang/IllegalArgumentException") (y := 1) hR ?_ (by decide +kernel) ((hm0 _).trans (if_neg (fun z => q z.1)))
    by_cases a1 : rg i0 (-100) 100
    · by_cases a2 : rg i1 (-100) 100
      · by_cases a3 : rg i2 (-100) 100
        · by_cases a4 : rg i3 (-100) 100
          · exact absurd ⟨a1, a2, a3, a4⟩ q
          · simp (decide := true) only [fX11_ramp, rng hg, a1, a2, a3, a4, ob_s, b2_s, tc_r, tc_l, F_sF, A_sF, R_sF, L_sF, F_sA, A_sA, R_sA, L_sA, F_sR, A_sR, R_sR, L_sR, F_sL, A_sL, R_sL, L_sL, and_true, true_and, and_false, false_and, and_self, reduceIte, sF_sF, sA_sA, false_or, or_false, true_or, or_true, not_false_eq_true, not_true_eq_false, decide_true, decide_false, Bool.true_or, Bool.or_true, Bool.false_and, Bool.true_and, Bool.false_or, Bool.or_false, Bool.and_true, Bool.and_false]
        · simp (decide := true) only [fX11_ramp, rng hg, a1, a2, a3, ob_s, b2_s, tc_r, tc_l, F_sF, A_sF, R_sF, L_sF, F_sA, A_sA, R_sA, L_sA, F_sR, A_sR, R_sR, L_sR, F_sL, A_sL, R_sL, L_sL, and_true, true_and, and_false, false_and, and_self, reduceIte, sF_sF, sA_sA, false_or, or_false, true_or, or_true, not_false_eq_true, not_true_eq_false, decide_true, decide_false, Bool.true_or, Bool.or_true, Bool.false_and, Bool.true_and, Bool.false_or, Bool.or_false, Bool.and_true, Bool.and_false]
      · simp (decide := true) only [fX11_ramp, rng hg, a1, a2, ob_s, b2_s, tc_r, tc_l, F_sF, A_sF, R_sF, L_sF, F_sA, A_sA, R_sA, L_sA, F_sR, A_sR, R_sR, L_sR, F_sL, A_sL, R_sL, L_sL, and_true, true_and, and_false, false_and, and_self, reduceIte, sF_sF, sA_sA, false_or, or_false, true_or, or_true, not_false_eq_true, not_true_eq_false, decide_true, decide_false, Bool.true_or, Bool.or_true, Bool.false_and, Bool.true_and, Bool.false_or, Bool.or_false, Bool.and_true, Bool.and_false]
    · simp (decide := true) only [fX11_ramp, rng hg, a1, ob_s, b2_s, tc_r, tc_l, F_sF, A_sF, R_sF, L_sF, F_sA, A_sA, R_sA, L_sA, F_sR, A_sR, R_sR, L_sR, F_sL, A_sL, R_sL, L_sL, and_true, true_and, and_false, false_and, and_self, reduceIte, sF_sF, sA_sA, false_or, or_false, true_or, or_true, not_false_eq_true, not_true_eq_false, decide_true, decide_false, Bool.true_or, Bool.or_true, Bool.false_and, Bool.true_and, Bool.false_or, Bool.or_false, Bool.and_true, Bool.and_false]
