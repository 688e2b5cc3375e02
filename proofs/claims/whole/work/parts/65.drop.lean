-- needs: 07 10 13 14 20 21 22 23 24 25 26 27 32 33 34 36 38 39 40 41 42 43 44 46 47 48 49 53 54 60 61 62 63 64
/-! ===== drop ===== -/
theorem lyN_03 {g : ps_G} {b w h l : Nat} {r r' : Nat → Int32} (hwh : w * h ≤ 576) (er : ∀ j, j < 1169 → ¬ j = 0 → ¬ j = 3 → r' j = r j) (hL : LyN g b w h l r) : LyN g b w h l r' := by
  obtain ⟨m1, m2, p, q, x0, y0, x1, y1, pa, ma, m3, cc⟩ := hL
  have e := fun j (h : j < 1169 ∧ ¬ j = 0 ∧ ¬ j = 3) => er j h.1 h.2.1 h.2.2
  refine ⟨m1, m2, p, q, x0, y0, x1, y1, pa, ma, ?_, ?_⟩
  · rw [e 1 (by omega), e 2 (by omega), e 4 (by omega), e 5 (by omega), e 6 (by omega), e 7 (by omega), e 8 (by omega), e 9 (by omega)]
    exact m3
  · obtain ⟨c1, c2, c3, c4, c5, c6, c7, c8, c9, c10, c11, c12, c13, c14⟩ := cc
    rw [e 1 (by omega), e 4 (by omega), e 5 (by omega), e 6 (by omega), e 7 (by omega), e 8 (by omega), e 9 (by omega), e 10 (by omega), e 11 (by omega), e 12 (by omega), e 13 (by omega), e 14 (by omega), e 15 (by omega), e 16 (by omega)]
    refine ⟨c1, c2, c3, c4, c5, c6, c7, c8, c9, c10, c11, fun hk => ?_, c13, ?_⟩
    · obtain ⟨d1, d0, d2, f, d3, d4⟩ := c12 hk
      exact ⟨d1, d0, d2, f, d3, fun k hk => by rw [e _ (by omega)]; exact d4 k hk⟩
    · rcases c14 with c | ⟨d1, d2, d0, d3, f, d4, d5⟩
      · exact Or.inl c
      · exact Or.inr ⟨d1, d2, d0, d3, f, d4, fun k hk => by rw [e _ (by omega)]; exact d5 k hk⟩
def mkB (g : ps_G) (f : Nat → Int32) : ps_G := ps_nw g 30 (.inl (2, (30, .inl f)))
theorem ext_mkB {g : ps_G} {f : Nat → Int32} : Ext g (mkB g f) := by
  refine ⟨Nat.le_succ _, ?_, Nat.le_add_right _ _, ?_, fun a ha => nw_lo ha⟩
  · show g.1 + 1 ≤ g.1 + 100; omega
  · show g.2.1 + 30 ≤ g.2.1 + 10000; omega
theorem removeInside9 {s : e_S} {G : ps_G} {a w h la oa sz l : Nat} {N : Nat → Int32} {ly : Nat → Option Nat} {od : Nat → Int32} {o : Nat → Nat} {L : List Nat} (ht : TrN N) (hG : 195 ≤ G.1) (hS : StE G a w h N la oa sz ly od o) (hl : l < 30) (hLl : L.length = sz) (hLo : OdL od L) (hLm : ∀ m, m ∈ L → m < 30) : ∃ G' od' ly', fX9_removeInside (e_g s G) a (Int32.ofNat l) = some (e_g s G') ∧ G'.1 = G.1 + 1 ∧ G'.2.1 = G.2.1 + 30 ∧ (∀ j, j < G.1 → ¬ j = a → ¬ j = la → ¬ j = oa → G'.2.2 j = G.2.2 j) ∧ SC G' a la oa (Int32.ofNat w) (Int32.ofNat h) ly' od' (Int32.ofNat (L.filter (fun x => !inB N l x)).length) (N 35070) ∧ OdL od' (L.filter (fun x => !inB N l x)) ∧ ∀ k, k < 30 → ly' k = if inB N l k then none else ly k := by
  have hB : ∀ f, StD (mkB G f) a w h N la oa sz ly od o := fun f => ⟨ht, stE_ext ext_mkB hS⟩
  have nA : q_nA .boolean (e_g s G) (30 : Int32) = some (e_g s (mkB G (fun _ => 0))) := by
    unfold q_nA
    rw [if_neg (by decide)]
    exact congrArg some (e_nw hG)
  have e1 : (e_g s G).1 = G.1 := rfl
  have lp : q_lp (fun t => bX9_removeInside_7 a (Int32.ofNat l) G.1 t.1 t.2) ((0 : Int32), e_g s (mkB G (fun _ => 0))) = some (e_g s (mkB G (cpT (fun _ => 0) (fun k => if inB N l k then 1 else 0) 0 30))) := by
    refine fillN (fun f => e_g s (mkB G f)) 0 30 (fun k => if inB N l k then 1 else 0) (fun _ => 0) (fun f i hi _ => ?_) (fun f => ?_)
    · have q1 : ¬ (30 : Int32) ≤ Int32.ofNat i := nle (b := 30) hi (by decide)
      have wB : ∀ v, q_wB (e_g s (mkB G f)) G.1 (Int32.ofNat i) v = some (e_g s (mkB G (upd f i (vp_nar .boolean v)))) := by
        intro v
        unfold mkB
        rw [d_wB (Or.inl hG) nw_at, nw_up, if_neg (n_in hi (by decide)), n_idx (by omega)]
      have z0 : vp_nar .boolean (0 : Int32) = 0 := by decide
      have z1 : vp_nar .boolean (1 : Int32) = 1 := by decide
      by_cases z : inB N l i = true <;> simp (decide := true) only [bX9_removeInside_7, q1, (hB f).ob, isIn9 (hB f) hl hi, wB, z0, z1, z, n_suc, Nat.zero_add, ob_n, b2_n, tc_rn, tc_ln, F_sF, A_sF, R_sF, L_sF, F_sA, A_sA, R_sA, L_sA, F_sR, A_sR, R_sR, L_sR, F_sL, A_sL, R_sL, L_sL, and_true, true_and, and_false, false_and, and_self, reduceIte, sF_sF, sA_sA, false_or, or_false, true_or, or_true, not_false_eq_true, not_true_eq_false, decide_true, decide_false, Bool.true_or, Bool.or_true, Bool.false_and, Bool.true_and, Bool.false_or, Bool.or_false, Bool.and_true, Bool.and_false]
    · simp (decide := true) only [bX9_removeInside_7, ob_n, b2_n, tc_rn, tc_ln, F_sF, A_sF, R_sF, L_sF, F_sA, A_sA, R_sA, L_sA, F_sR, A_sR, R_sR, L_sR, F_sL, A_sL, R_sL, L_sL, and_true, true_and, and_false, false_and, and_self, reduceIte, sF_sF, sA_sA, false_or, or_false, true_or, or_true, not_false_eq_true, not_true_eq_false, decide_true, decide_false, Bool.true_or, Bool.or_true, Bool.false_and, Bool.true_and, Bool.false_or, Bool.or_false, Bool.and_true, Bool.and_false]
  have c := stE_sc (stE_ext (ext_mkB (f := cpT (fun _ => 0) (fun k => if inB N l k then 1 else 0) 0 30)) hS)
  rw [← hLl] at c
  obtain ⟨G', od', ly', v1, v2, v3, v4, v5⟩ := removeAll9 (s := s) (D := inB N l) (ba := G.1) c (by rw [hLl]; exact hS.2.2.2.2.2.2.2.2.2.2.2.1.1) hLo hLm (Or.inl hG) nw_at (fun k hk => by
    have := cpT_in (A := fun _ => (0 : Int32)) (N := fun k => if inB N l k then 1 else 0) (b := 0) hk
    rw [Nat.zero_add] at this
    exact this)
  refine ⟨G', od', ly', ?_, v2.1, v2.2.1, fun j hj j1 j2 j3 => ?_, v3, v4, v5⟩
  · simp (decide := true) only [fX9_removeInside, nA, e1, lp, v1, ob_n, b2_n, tc_rn, tc_ln, F_sF, A_sF, R_sF, L_sF, F_sA, A_sA, R_sA, L_sA, F_sR, A_sR, R_sR, L_sR, F_sL, A_sL, R_sL, L_sL, and_true, true_and, and_false, false_and, and_self, reduceIte, sF_sF, sA_sA, false_or, or_false, true_or, or_true, not_false_eq_true, not_true_eq_false, decide_true, decide_false, Bool.true_or, Bool.or_true, Bool.false_and, Bool.true_and, Bool.false_or, Bool.or_false, Bool.and_true, Bool.and_false]
  · rw [v2.2.2 j j1 j2 j3]; exact nw_lo hj
/-- l, and who stands in it -/
def dpD (N : Nat → Int32) (l : Nat) : Nat → Bool := fun k => decide (k = l) || inB N l k
theorem dpD_ok {N : Nat → Int32} {l : Nat} (ht : TrN N) (hl : l < 30) (h1 : N (1169 * l) = 1) : DOk N (dpD N l) l := by
  refine ⟨hl, h1, by unfold dpD; rw [decide_eq_true rfl]; rfl, fun m x hm hx hm1 hx1 hDm hDx hq => ?_⟩
  by_cases e : x = l
  · exact e
  · exfalso
    have ix : inB N l x = true := by
      unfold dpD at hDx
      rw [decide_eq_false e] at hDx
      simpa using hDx
    have im : inB N l m = false := by
      unfold dpD at hDm
      rw [Bool.or_eq_false_iff] at hDm
      exact hDm.2
    rcases trN_p ht hx hx1 with z | ⟨p, z1, z2, z3, z4⟩
    · rw [inB_n z] at ix; cases ix
    · rw [inB_p ht hl hx hx1 z1 z2] at ix
      rw [inB_p ht hl hm hm1 z1 (by rw [hq]; exact z2), ix] at im
      cases im
/-- a parent of one that stays, stays -/
theorem dpD_p {N : Nat → Int32} {l m p : Nat} (ht : TrN N) (hl : l < 30) (hm : m < 30) (hm1 : N (1169 * m) = 1) (hD : dpD N l m = false) (hp : p < 30) (hq : N (1169 * m + 2) = Int32.ofNat p) : dpD N l p = false := by
  unfold dpD at hD ⊢
  rw [Bool.or_eq_false_iff] at hD
  rw [← inB_p ht hl hm hm1 hp hq]
  exact hD.2
theorem trN_rm {N : Nat → Int32} {sz : Nat} {od : Nat → Int32} {o : Nat → Nat} {l : Nat} (ht : TrN N) (h : OrD N sz od o) (hl : l < 30) (h1 : N (1169 * l) = 1) : TrN (rmN N (dpD N l) l) := by
  obtain ⟨⟨n, ta1, ta2, ta3⟩, tb, tc, ⟨d, td⟩, te⟩ := id ht
  refine ⟨⟨n, ta1, by rw [rmN_70]; exact ta2, fun m h1 h2 => ?_⟩, fun m hm => ?_, fun m hm hm1 => ?_, ⟨d, fun m hm hm1 p hp hq => ?_⟩, rem_pl te h (dpD_ok ht hl h1)⟩
  · rw [rmN_z h2]
    split
    · rfl
    · exact ta3 m h1 h2
  · rw [rmN_z hm]
    split
    · exact Or.inl rfl
    · exact tb m hm
  · obtain ⟨q1, q2⟩ := (rmN_1 hm).mp hm1
    rw [rmN_i (by omega) (by omega) (by omega)]
    rcases tc m hm q1 with y | ⟨p, p1, p2, p3, p4⟩
    · exact Or.inl y
    · exact Or.inr ⟨p, p1, p2, (rmN_1 p1).mpr ⟨p3, dpD_p ht hl hm q1 q2 p1 p2⟩, by rw [rmN_i (by omega) (by omega) (by omega)]; exact p4⟩
  · obtain ⟨q1, q2⟩ := (rmN_1 hm).mp hm1
    rw [rmN_i (by omega) (by omega) (by omega)] at hq
    exact td m hm q1 p hp hq
theorem takeAway12 {s : e_S} {g : ps_G} {l : Nat} (ht : TrN (s.2.1 142)) (hl : l < 30) (h1 : s.2.1 142 (1169 * l) = 1) : ∃ R, fX12_takeAway (e_g s g) 139 (Int32.ofNat l) = some (e_g (sA (sA s 144 R) 142 (rmN (s.2.1 142) (dpD (s.2.1 142) l) l)) g) := by
  generalize hN : s.2.1 142 = N at ht h1
  have g2 := get12 (s := s) (g := g) (n := 2) hl (by omega)
  have g3 := get12 (s := s) (g := g) (n := 3) hl (by omega)
  rw [hN] at g2 g3
  have z0 : vp_nar .boolean (0 : Int32) = 0 := by decide
  have z1 : vp_nar .boolean (1 : Int32) = 1 := by decide
  have e2 : ∀ f, (sA s 144 f).2.1 142 = N := fun f => by simp (decide := true) only [ob_n, b2_n, tc_rn, tc_ln, F_sF, A_sF, R_sF, L_sF, F_sA, A_sA, R_sA, L_sA, F_sR, A_sR, R_sR, L_sR, F_sL, A_sL, R_sL, L_sL, and_true, true_and, and_false, false_and, and_self, reduceIte, sF_sF, sA_sA, false_or, or_false, true_or, or_true, not_false_eq_true, not_true_eq_false, decide_true, decide_false, Bool.true_or, Bool.or_true, Bool.false_and, Bool.true_and, Bool.false_or, Bool.or_false, Bool.and_true, Bool.and_false, hN]
  have lp1 := fillN (fun f => e_g (sA s 144 f) g) 0 30 (fun k => if dpD N l k then 1 else 0) (s.2.1 144) (bO := fun t => bX12_takeAway_17 139 (Int32.ofNat l) (N (1169 * l + 2)) (N (1169 * l + 3)) t.1 t.2) (fun f i hi _ => ?_) (fun f => ?_)
  · rw [sA_id] at lp1
    generalize hR : cpT (s.2.1 144) (fun k => if dpD N l k then 1 else 0) 0 30 = R at lp1
    have hRk : ∀ k, k < 30 → R k = if dpD N l k then 1 else 0 := fun k hk => by
      have := cpT_in (A := s.2.1 144) (N := fun k => if dpD N l k then 1 else 0) (b := 0) hk
      rw [Nat.zero_add, hR] at this
      exact this
    have lp2 : q_lp (fun t => bX12_takeAway_64 139 (N (1169 * l + 2)) (N (1169 * l + 3)) t.1 t.2) ((0 : Int32), e_g (sA s 144 R) g) = some (e_g (sA (sA s 144 R) 142 (lvN N (dpD N l) 30)) g) := by
      refine lp_0 (fun i => (Int32.ofNat i, e_g (sA (sA s 144 R) 142 (lvN N (dpD N l) i)) g)) 30 ?_ (fun i hi => ?_) ?_
      · have := @sA_id (sA s 144 R) 142
        rw [e2] at this
        rw [lvN_0, this]; rfl
      · have q1 : ¬ (30 : Int32) ≤ Int32.ofNat i := nle (b := 30) hi (by decide)
        have pp := put12 (s := sA (sA s 144 R) 142 (lvN N (dpD N l) i)) (g := g) (n := 0) (v := 0) hi (by omega)
        have e9 : (sA (sA s 144 R) 142 (lvN N (dpD N l) i)).2.1 142 = lvN N (dpD N l) i := by simp (decide := true) only [ob_n, b2_n, tc_rn, tc_ln, F_sF, A_sF, R_sF, L_sF, F_sA, A_sA, R_sA, L_sA, F_sR, A_sR, R_sR, L_sR, F_sL, A_sL, R_sL, L_sL, and_true, true_and, and_false, false_and, and_self, reduceIte, sF_sF, sA_sA, false_or, or_false, true_or, or_true, not_false_eq_true, not_true_eq_false, decide_true, decide_false, Bool.true_or, Bool.or_true, Bool.false_and, Bool.true_and, Bool.false_or, Bool.or_false, Bool.and_true, Bool.and_false]
        rw [e9, sA_sA, Nat.add_zero] at pp
        have pp' : fX12_put (e_g (sA (sA s 144 R) 142 (lvN N (dpD N l) i)) g) 139 (Int32.ofNat i) 0 0 = some (e_g (sA (sA s 144 R) 142 (upd (lvN N (dpD N l) i) (1169 * i) 0)) g) := pp
        by_cases z : dpD N l i = true
        · rw [lvN_t z] at pp'
          simp (decide := true) only [bX12_takeAway_64, jX12_takeAway_89_64, q1, f139_15, a144, n_in2 hi (by decide), n_idx (show i < 2147483648 by omega), hRk i hi, z, ob139, pp', n_suc, ob_n, b2_n, tc_rn, tc_ln, F_sF, A_sF, R_sF, L_sF, F_sA, A_sA, R_sA, L_sA, F_sR, A_sR, R_sR, L_sR, F_sL, A_sL, R_sL, L_sL, and_true, true_and, and_false, false_and, and_self, reduceIte, sF_sF, sA_sA, false_or, or_false, true_or, or_true, not_false_eq_true, not_true_eq_false, decide_true, decide_false, Bool.true_or, Bool.or_true, Bool.false_and, Bool.true_and, Bool.false_or, Bool.or_false, Bool.and_true, Bool.and_false]
        · rw [← lvN_f z]
          simp (decide := true) only [bX12_takeAway_64, jX12_takeAway_89_64, q1, f139_15, a144, n_in2 hi (by decide), n_idx (show i < 2147483648 by omega), hRk i hi, z, n_suc, ob_n, b2_n, tc_rn, tc_ln, F_sF, A_sF, R_sF, L_sF, F_sA, A_sA, R_sA, L_sA, F_sR, A_sR, R_sR, L_sR, F_sL, A_sL, R_sL, L_sL, and_true, true_and, and_false, false_and, and_self, reduceIte, sF_sF, sA_sA, false_or, or_false, true_or, or_true, not_false_eq_true, not_true_eq_false, decide_true, decide_false, Bool.true_or, Bool.or_true, Bool.false_and, Bool.true_and, Bool.false_or, Bool.or_false, Bool.and_true, Bool.and_false]
      · simp (decide := true) only [bX12_takeAway_64, ob_n, b2_n, tc_rn, tc_ln, F_sF, A_sF, R_sF, L_sF, F_sA, A_sA, R_sA, L_sA, F_sR, A_sR, R_sR, L_sR, F_sL, A_sL, R_sL, L_sL, and_true, true_and, and_false, false_and, and_self, reduceIte, sF_sF, sA_sA, false_or, or_false, true_or, or_true, not_false_eq_true, not_true_eq_false, decide_true, decide_false, Bool.true_or, Bool.or_true, Bool.false_and, Bool.true_and, Bool.false_or, Bool.or_false, Bool.and_true, Bool.and_false]
    have sh := shift12 (s := sA (sA s 144 R) 142 (lvN N (dpD N l) 30)) (g := g) (P := N (1169 * l + 2)) (fr := N (1169 * l + 3) + 1) (b := -1)
    have e9 : (sA (sA s 144 R) 142 (lvN N (dpD N l) 30)).2.1 142 = lvN N (dpD N l) 30 := by simp (decide := true) only [ob_n, b2_n, tc_rn, tc_ln, F_sF, A_sF, R_sF, L_sF, F_sA, A_sA, R_sA, L_sA, F_sR, A_sR, R_sR, L_sR, F_sL, A_sL, R_sL, L_sL, and_true, true_and, and_false, false_and, and_self, reduceIte, sF_sF, sA_sA, false_or, or_false, true_or, or_true, not_false_eq_true, not_true_eq_false, decide_true, decide_false, Bool.true_or, Bool.or_true, Bool.false_and, Bool.true_and, Bool.false_or, Bool.or_false, Bool.and_true, Bool.and_false]
    rw [e9, sA_sA] at sh
    refine ⟨R, ?_⟩
    simp (decide := true) only [fX12_takeAway, ob139, g2, g3, lp1, lp2, sh, rmN, ob_n, b2_n, tc_rn, tc_ln, F_sF, A_sF, R_sF, L_sF, F_sA, A_sA, R_sA, L_sA, F_sR, A_sR, R_sR, L_sR, F_sL, A_sL, R_sL, L_sL, and_true, true_and, and_false, false_and, and_self, reduceIte, sF_sF, sA_sA, false_or, or_false, true_or, or_true, not_false_eq_true, not_true_eq_false, decide_true, decide_false, Bool.true_or, Bool.or_true, Bool.false_and, Bool.true_and, Bool.false_or, Bool.or_false, Bool.and_true, Bool.and_false]
  · have q1 : ¬ (30 : Int32) ≤ Int32.ofNat i := nle (b := 30) hi (by decide)
    have is := isLayer12 (s := sA s 144 f) (g := g) (x := Int32.ofNat i)
    rw [e2, isL_o hi] at is
    by_cases z1' : N (1169 * i) = 1
    · rw [decide_eq_true z1'] at is
      have ii := isIn12 (s := sA s 144 f) (g := g) (G := Int32.ofNat l) (l := i) (by rw [e2]; exact ht) hi (by rw [e2]; exact z1')
      rw [e2, isB_31 hl hi z1'] at ii
      have ed : (decide (i = l) || inB N l i) = dpD N l i := rfl
      rw [ed] at ii
      by_cases z : dpD N l i = true <;> simp (decide := true) only [bX12_takeAway_17, jX12_takeAway_53_17, jX12_takeAway_54_17, q1, f139_15, ob139, is, ii, u144, n_in2 hi (by decide), n_idx (show i < 2147483648 by omega), z, z0, z1, n_suc, Nat.zero_add, ob_n, b2_n, tc_rn, tc_ln, F_sF, A_sF, R_sF, L_sF, F_sA, A_sA, R_sA, L_sA, F_sR, A_sR, R_sR, L_sR, F_sL, A_sL, R_sL, L_sL, and_true, true_and, and_false, false_and, and_self, reduceIte, sF_sF, sA_sA, false_or, or_false, true_or, or_true, not_false_eq_true, not_true_eq_false, decide_true, decide_false, Bool.true_or, Bool.or_true, Bool.false_and, Bool.true_and, Bool.false_or, Bool.or_false, Bool.and_true, Bool.and_false]
    · rw [decide_eq_false z1'] at is
      have z : dpD N l i = false := by
        unfold dpD inB
        rw [decide_eq_false z1', decide_eq_false (fun e => z1' (by rw [e]; exact h1))]; rfl
      simp (decide := true) only [bX12_takeAway_17, jX12_takeAway_53_17, jX12_takeAway_54_17, q1, f139_15, ob139, is, u144, n_in2 hi (by decide), n_idx (show i < 2147483648 by omega), z, z0, n_suc, Nat.zero_add, ob_n, b2_n, tc_rn, tc_ln, F_sF, A_sF, R_sF, L_sF, F_sA, A_sA, R_sA, L_sA, F_sR, A_sR, R_sR, L_sR, F_sL, A_sL, R_sL, L_sL, and_true, true_and, and_false, false_and, and_self, reduceIte, sF_sF, sA_sA, false_or, or_false, true_or, or_true, not_false_eq_true, not_true_eq_false, decide_true, decide_false, Bool.true_or, Bool.or_true, Bool.false_and, Bool.true_and, Bool.false_or, Bool.or_false, Bool.and_true, Bool.and_false]
  · simp (decide := true) only [bX12_takeAway_17, ob_n, b2_n, tc_rn, tc_ln, F_sF, A_sF, R_sF, L_sF, F_sA, A_sA, R_sA, L_sA, F_sR, A_sR, R_sR, L_sR, F_sL, A_sL, R_sL, L_sL, and_true, true_and, and_false, false_and, and_self, reduceIte, sF_sF, sA_sA, false_or, or_false, true_or, or_true, not_false_eq_true, not_true_eq_false, decide_true, decide_false, Bool.true_or, Bool.or_true, Bool.false_and, Bool.true_and, Bool.false_or, Bool.or_false, Bool.and_true, Bool.and_false]
theorem drop12 {s : e_S} {g : ps_G} {x : Int32} {st pc : Nat} (h1 : st < 25) (h2 : pc ≤ 24) (e1 : s.1 139 10 = Int32.ofNat st) (e2 : s.1 139 11 = Int32.ofNat pc) (ht : TrN (s.2.1 142)) : ∃ R, fX12_drop (e_g s g) 139 x = if isL (s.2.1 142) x then some (e_g (fg12 (edM (sA (sA (sF s 139 0 0) 144 R) 142 (rmN (s.2.1 142) (dpD (s.2.1 142) x.toInt.toNat) x.toInt.toNat)) st pc)) g) else some (e_g (sF s 139 0 1) g) := by
  have ed := fun s' q1 q2 => edited12 (s := s') (g := g) h1 h2 q1 q2
  by_cases hx : isL (s.2.1 142) x = true
  · obtain ⟨l, rfl, hl, hl1⟩ := isL_n hx
    obtain ⟨R, hR⟩ := takeAway12 (s := sF s 139 0 0) (g := g) (l := l) (by rw [A_sF]; exact ht) hl (by rw [A_sF]; exact hl1)
    rw [A_sF] at hR
    refine ⟨R, ?_⟩
    rw [if_pos hx, n_int (by omega), Int.toNat_natCast]
    simp (decide := true) only [fX12_drop, ob139, isLayer12, hx, w139_0, f139_0, hR, ob_n, b2_n, tc_rn, tc_ln, F_sF, A_sF, R_sF, L_sF, F_sA, A_sA, R_sA, L_sA, F_sR, A_sR, R_sR, L_sR, F_sL, A_sL, R_sL, L_sL, and_true, true_and, and_false, false_and, and_self, reduceIte, sF_sF, sA_sA, false_or, or_false, true_or, or_true, not_false_eq_true, not_true_eq_false, decide_true, decide_false, Bool.true_or, Bool.or_true, Bool.false_and, Bool.true_and, Bool.false_or, Bool.or_false, Bool.and_true, Bool.and_false]
    rw [ed _ (by simp (decide := true) only [ob_n, b2_n, tc_rn, tc_ln, F_sF, A_sF, R_sF, L_sF, F_sA, A_sA, R_sA, L_sA, F_sR, A_sR, R_sR, L_sR, F_sL, A_sL, R_sL, L_sL, and_true, true_and, and_false, false_and, and_self, reduceIte, sF_sF, sA_sA, false_or, or_false, true_or, or_true, not_false_eq_true, not_true_eq_false, decide_true, decide_false, Bool.true_or, Bool.or_true, Bool.false_and, Bool.true_and, Bool.false_or, Bool.or_false, Bool.and_true, Bool.and_false, e1]) (by simp (decide := true) only [ob_n, b2_n, tc_rn, tc_ln, F_sF, A_sF, R_sF, L_sF, F_sA, A_sA, R_sA, L_sA, F_sR, A_sR, R_sR, L_sR, F_sL, A_sL, R_sL, L_sL, and_true, true_and, and_false, false_and, and_self, reduceIte, sF_sF, sA_sA, false_or, or_false, true_or, or_true, not_false_eq_true, not_true_eq_false, decide_true, decide_false, Bool.true_or, Bool.or_true, Bool.false_and, Bool.true_and, Bool.false_or, Bool.or_false, Bool.and_true, Bool.and_false, e2])]
    simp (decide := true) only [ob_n, b2_n, tc_rn, tc_ln, F_sF, A_sF, R_sF, L_sF, F_sA, A_sA, R_sA, L_sA, F_sR, A_sR, R_sR, L_sR, F_sL, A_sL, R_sL, L_sL, and_true, true_and, and_false, false_and, and_self, reduceIte, sF_sF, sA_sA, false_or, or_false, true_or, or_true, not_false_eq_true, not_true_eq_false, decide_true, decide_false, Bool.true_or, Bool.or_true, Bool.false_and, Bool.true_and, Bool.false_or, Bool.or_false, Bool.and_true, Bool.and_false, ob139, forget12, fg12]
  · refine ⟨fun _ => 0, ?_⟩
    rw [if_neg hx]
    simp (decide := true) only [fX12_drop, ob139, isLayer12, hx, w139_0, f139_0, ob_n, b2_n, tc_rn, tc_ln, F_sF, A_sF, R_sF, L_sF, F_sA, A_sA, R_sA, L_sA, F_sR, A_sR, R_sR, L_sR, F_sL, A_sL, R_sL, L_sL, and_true, true_and, and_false, false_and, and_self, reduceIte, sF_sF, sA_sA, false_or, or_false, true_or, or_true, not_false_eq_true, not_true_eq_false, decide_true, decide_false, Bool.true_or, Bool.or_true, Bool.false_and, Bool.true_and, Bool.false_or, Bool.or_false, Bool.and_true, Bool.and_false]
theorem K_drop {s : e_S} {g : ps_G} {x : Int32} (hR : Rel s g) : KV (fL_drop (e_g s g) 8 x) (fun G => fX12_drop G 139 x) g := by
  have hg := rel_g hR
  obtain ⟨h1, h2, h3, h4, h5, h6, ⟨w, h, h7, h8, h9⟩, h10, h11⟩ := id hR
  obtain ⟨a, st, pc, uc, f1, f2, f3, f4, f5, f6, f7, f8, f9, f10, f11, f12⟩ := h9
  have hwh := wh_le h7.2.1 h7.2.2.2.1
  have hm0 := fun s' g e1 e2 e3 => drop12 (s := s') (g := g) (x := x) f1 (show pc ≤ 24 by omega) e1 e2 e3
  rcases known11 (x := x) hg f3 f9 with ⟨k1, k2⟩ | ⟨l, b, rfl, hl, k1, k3, k2, hLy⟩
  · obtain ⟨R, hm⟩ := hm0 s (nx g) f6 f7 f9.1
    refine KV_no (E := "java/util/NoSuchElementException") (y := 1) hR ?_ (by decide +kernel) (hm.trans (if_neg (by rw [k1]; decide)))
    simp (decide := true) only [fX11_drop, ob8, k2, ob_n, b2_n, tc_rn, tc_ln, F_sF, A_sF, R_sF, L_sF, F_sA, A_sA, R_sA, L_sA, F_sR, A_sR, R_sR, L_sR, F_sL, A_sL, R_sL, L_sL, and_true, true_and, and_false, false_and, and_self, reduceIte, sF_sF, sA_sA, false_or, or_false, true_or, or_true, not_false_eq_true, not_true_eq_false, decide_true, decide_false, Bool.true_or, Bool.or_true, Bool.false_and, Bool.true_and, Bool.false_or, Bool.or_false, Bool.and_true, Bool.and_false]
  · have hob := (stW (s := s) f9).2.2.2
    obtain ⟨la, oa, sz, ly, od, o, hD⟩ := stN_d f9
    obtain ⟨t, h1', h2', c1, c0, c2, c3, c9, c4, c5, c6, c7, ho, c10⟩ := id hD
    have ag := again9 (s := s) hg h1' h2' c1 c2 c3 c4 c5 c6 c7 (okL_st c10)
    generalize hN : s.2.1 142 = N at t ho c10 k1 k3 hLy c5
    have hSE : StE (mkS g (Int32.ofNat w) (Int32.ofNat h) (cR ly 30) (cI od 30) (Int32.ofNat sz) (N 35070)) g.1 w h N (g.1 + 1) (g.1 + 2) sz (cR ly 30) (cI od 30) o := by
      refine ⟨Or.inl hg, by show g.1 < g.1 + 3; omega, Or.inl (by omega), by omega, by show g.1 + 1 < g.1 + 3; omega, Or.inl (by omega), by omega, by show g.1 + 2 < g.1 + 3; omega, mkS_0, mkS_1, mkS_2, ⟨ho.1, fun i hi => ⟨by rw [cI_lt (by have := ho.1; omega)]; exact (ho.2.1 i hi).1, (ho.2.1 i hi).2⟩, ho.2.2.1, ho.2.2.2.1, ho.2.2.2.2⟩, fun m hm => ?_⟩
      have hc := c10 m hm
      rw [cR_lt hm]
      by_cases z : N (1169 * m) = 1
      · rw [if_pos z] at hc ⊢
        obtain ⟨b, b1, b2⟩ := hc
        exact ⟨b, b1, lyN_ext ext_mkS b2⟩
      · rw [if_neg z] at hc ⊢; exact hc
    obtain ⟨L, L1, L2, L3, L4, L5, L6⟩ := orD_L hSE.2.2.2.2.2.2.2.2.2.2.2.1
    obtain ⟨G1, od1, ly1, w1, w2, w3, w4, w5, w6, w7⟩ := removeInside9 (s := s) (l := l) t (show 195 ≤ g.1 + 3 by omega) hSE hl L1 L2 (fun m q => (L3 m q).1)
    obtain ⟨G2, od2, v1, v2, v3, v4⟩ := remove9 (s := s) (l := l) w5 (Nat.le_trans (List.length_filter_le _ _) (by rw [L1]; exact ho.1)) w6 (fun m q => (L3 m (List.mem_filter.mp q).1).1) hl
    have fl : (L.filter (fun x => !inB N l x)).filter (fun x => !decide (x = l)) = L.filter (fun x => !dpD N l x) := by
      rw [List.filter_filter]
      apply List.filter_congr
      intro x _
      unfold dpD
      rw [Bool.not_or]
    rw [fl] at v3 v4
    have lo : ∀ j, j < g.1 → G2.2.2 j = g.2.2 j := fun j hj => by
      rw [v2.2.2 j (by omega) (by omega) (by omega), w4 j (show j < g.1 + 3 by omega) (by omega) (by omega) (by omega), mkS_lo hj]
    have g1 : G2.1 = g.1 + 4 := by rw [v2.1, w2]; rfl
    have g2 : G2.2.1 = g.2.1 + 96 := by rw [v2.2.1, w3]; rfl
    have hE : Ext g G2 := ⟨by omega, by omega, by omega, by omega, lo⟩
    have bc := become11 (s := s) (g := G2) (a := a) (b := g.1) (pc := pc) h1' (by rw [lo _ h2']; exact c5) f3 f4 (show pc ≤ 24 by omega) (fun i hi => by
      obtain ⟨b, z1, z2⟩ := f11 i hi
      obtain ⟨fs, z3, z4⟩ := stN_cell z2
      have z5 : b < g.1 := z2.2.2.1
      exact ⟨b, fs, z1, z3, by rw [lo _ z5]; exact z4⟩)
    have hStN : StN G2 g.1 w h (rmN N (dpD N l) l) := by
      obtain ⟨x1, x2, x3, x4, x5, x6, x7, x8, x9, x10, x11⟩ := v3
      refine ⟨trN_rm t ho hl k3, Or.inl hg, by omega, g.1 + 1, g.1 + 2, (L.filter (fun x => !dpD N l x)).length, _, od2, x2, x3, by omega, x4, x5, by omega, by rw [rmN_70]; exact x9, x10, x11, rem_or t.2.2.2.2 ho (dpD_ok t hl k3) (by rw [L1]; exact ho.1) L3 L4 L5 L6 v4, fun m hm => ?_⟩
      have hc := c10 m hm
      by_cases z : rmN N (dpD N l) l (1169 * m) = 1
      · obtain ⟨z1, z2⟩ := (rmN_1 hm).mp z
        rw [if_pos z]
        rw [if_pos z1] at hc
        obtain ⟨b, b1, b2⟩ := hc
        have ml : ¬ m = l := fun e => by
          unfold dpD at z2
          rw [decide_eq_true e] at z2
          cases z2
        have mi : inB N l m = false := by
          unfold dpD at z2
          rw [Bool.or_eq_false_iff] at z2
          exact z2.2
        refine ⟨b, ?_, lyN_03 hwh (fun j hj j0 j3 => rmN_i hj j0 j3) (lyN_ext hE b2)⟩
        rw [rs_n ml, w7 m hm, mi, if_neg (by decide), cR_lt hm]
        exact b1
      · rw [if_neg z]
        by_cases ml : m = l
        · rw [ml, rs_s]
        · rw [rs_n ml, w7 m hm]
          by_cases mi : inB N l m = true
          · rw [if_pos mi]
          · rw [if_neg mi, cR_lt hm]
            have z1 : ¬ N (1169 * m) = 1 := fun y => z ((rmN_1 hm).mpr ⟨y, by
              unfold dpD
              rw [decide_eq_false ml, Bool.false_or]
              simpa using mi⟩)
            rw [if_neg z1] at hc
            exact hc
    have e142 : (fgC (rmC s a g.1 pc)).2.1 142 = N := by rw [← hN]; unfold fgC rmC; simp (decide := true) only [ob_n, b2_n, tc_rn, tc_ln, F_sF, A_sF, R_sF, L_sF, F_sA, A_sA, R_sA, L_sA, F_sR, A_sR, R_sR, L_sR, F_sL, A_sL, R_sL, L_sL, and_true, true_and, and_false, false_and, and_self, reduceIte, sF_sF, sA_sA, false_or, or_false, true_or, or_true, not_false_eq_true, not_true_eq_false, decide_true, decide_false, Bool.true_or, Bool.or_true, Bool.false_and, Bool.true_and, Bool.false_or, Bool.or_false, Bool.and_true, Bool.and_false, F_sRr, A_sRr]
    obtain ⟨R, hm⟩ := hm0 (fgC (rmC s a g.1 pc)) G2 (by unfold fgC rmC; simp (decide := true) only [ob_n, b2_n, tc_rn, tc_ln, F_sF, A_sF, R_sF, L_sF, F_sA, A_sA, R_sA, L_sA, F_sR, A_sR, R_sR, L_sR, F_sL, A_sL, R_sL, L_sL, and_true, true_and, and_false, false_and, and_self, reduceIte, sF_sF, sA_sA, false_or, or_false, true_or, or_true, not_false_eq_true, not_true_eq_false, decide_true, decide_false, Bool.true_or, Bool.or_true, Bool.false_and, Bool.true_and, Bool.false_or, Bool.or_false, Bool.and_true, Bool.and_false, F_sRr, A_sRr]; exact f6) (by unfold fgC rmC; simp (decide := true) only [ob_n, b2_n, tc_rn, tc_ln, F_sF, A_sF, R_sF, L_sF, F_sA, A_sA, R_sA, L_sA, F_sR, A_sR, R_sR, L_sR, F_sL, A_sL, R_sL, L_sL, and_true, true_and, and_false, false_and, and_self, reduceIte, sF_sF, sA_sA, false_or, or_false, true_or, or_true, not_false_eq_true, not_true_eq_false, decide_true, decide_false, Bool.true_or, Bool.or_true, Bool.false_and, Bool.true_and, Bool.false_or, Bool.or_false, Bool.and_true, Bool.and_false, F_sRr, A_sRr]; exact f7) (by rw [e142]; exact t)
    rw [e142, if_pos k1, n_int (by omega), Int.toNat_natCast] at hm
    refine KV_ed (N' := rmN N (dpD N l) l) (b := g.1) hR h7 f1 f2 f9 f10 f11 ?_ hm ?_ ?_ hE hStN
    · have obG : q_ob 9 (e_g s (mkS g (Int32.ofNat w) (Int32.ofNat h) (cR ly 30) (cI od 30) (Int32.ofNat sz) (N 35070))) g.1 = some () := S_ob hg
      rw [hN] at ag
      simp (decide := true) only [fX11_drop, jX11_drop_24, ob8, k2, f8_0, f3, hob, ag, obG, w1, w5.ob, v1, bc, ob_n, b2_n, tc_rn, tc_ln, F_sF, A_sF, R_sF, L_sF, F_sA, A_sA, R_sA, L_sA, F_sR, A_sR, R_sR, L_sR, F_sL, A_sL, R_sL, L_sL, and_true, true_and, and_false, false_and, and_self, reduceIte, sF_sF, sA_sA, false_or, or_false, true_or, or_true, not_false_eq_true, not_true_eq_false, decide_true, decide_false, Bool.true_or, Bool.or_true, Bool.false_and, Bool.true_and, Bool.false_or, Bool.or_false, Bool.and_true, Bool.and_false]
    · unfold fg12 edM fgC rmC; simp (decide := true) only [ob_n, b2_n, tc_rn, tc_ln, F_sF, A_sF, R_sF, L_sF, F_sA, A_sA, R_sA, L_sA, F_sR, A_sR, R_sR, L_sR, F_sL, A_sL, R_sL, L_sL, and_true, true_and, and_false, false_and, and_self, reduceIte, sF_sF, sA_sA, false_or, or_false, true_or, or_true, not_false_eq_true, not_true_eq_false, decide_true, decide_false, Bool.true_or, Bool.or_true, Bool.false_and, Bool.true_and, Bool.false_or, Bool.or_false, Bool.and_true, Bool.and_false, F_sRr, A_sRr]
    · unfold edS
      exact sm_fg (sm_edM (sm_A2 (sm_A (sm_F sm_rf (by decide)) (by decide))))
