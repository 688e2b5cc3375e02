-- needs: 07 10 13 14 20 21 22 23 24 25 26 27 32 33 34 36 38 39 40 41 42 43 44 46 47 48 49 50 52 53 54 55 57 60 61 62 63 64 65 70 71 72 73 74 80 81 82 83 84 85 86 87 88 89 90 91 97a 97b 97c 97d 97e 97f 97g 97h 97i 97j
theorem lt4 {v : Int32} : 4 ≤ v ↔ 3 < v := by
  rw [i_le, i_lt]
  have e3 : (3 : Int32).toInt = 3 := by decide
  have e4 : (4 : Int32).toInt = 4 := by decide
  omega
theorem lt4' {v : Int32} : v < 4 ↔ ¬ 3 < v := by
  rw [i_lt, i_lt]
  have e3 : (3 : Int32).toInt = 3 := by decide
  have e4 : (4 : Int32).toInt = 4 := by decide
  omega
/-- merge refused, in the reference -/
theorem merge12n {s : e_S} {g : ps_G} {l : Nat} (hl : l < 30) (hl1 : s.2.1 142 (1169 * l) = 1) (hx : s.2.1 142 (1169 * l + 3) = 0 ∨ ∃ m : Nat, m < 30 ∧ ¬ s.2.1 142 (1169 * l + 3) ≤ 0 ∧ fX12_child (e_g s g) 139 (s.2.1 142 (1169 * l + 2)) (s.2.1 142 (1169 * l + 3) - 1) = some (Int32.ofNat m) ∧ (3 < s.2.1 142 (1169 * l + 1) ∨ 3 < s.2.1 142 (1169 * m + 1))) : fX12_merge (e_g s g) 139 (Int32.ofNat l) = some (e_g (sF s 139 0 2) g) := by
  have g1 := fun {n} (hn : n < 30) => get12 (s := s) (g := g) (l := n) (n := 1) hn (by omega)
  have g3 := get12 (s := s) (g := g) (n := 3) hl (by omega)
  have g2' := get12 (s := s) (g := g) (n := 2) hl (by omega)
  have isl : fX12_isLayer (e_g s g) 139 (Int32.ofNat l) = some 1 := by
    rw [isLayer12, isL_o hl, decide_eq_true hl1]; rfl
  have fin : jX12_merge_82 (e_g s g) 139 (Int32.ofNat l) (-1) 139 2 = some (e_g (sF s 139 0 2) g) := by
    unfold jX12_merge_82
    rw [w139_0, ob_n, f139_0, F_sF, if_pos ⟨rfl, rfl⟩, ob_n, if_neg (by decide)]
  have fin' : ∀ k, jX12_merge_82 (e_g s g) 139 (Int32.ofNat l) k 139 2 = some (e_g (sF s 139 0 2) g) := fun k => by
    unfold jX12_merge_82
    rw [w139_0, ob_n, f139_0, F_sF, if_pos ⟨rfl, rfl⟩, ob_n, if_neg (by decide)]
  rcases hx with q | ⟨m, hm, hq, hch, q⟩
  · have q0 : s.2.1 142 (1169 * l + 3) ≤ 0 := by rw [q]; decide
    unfold fX12_merge jX12_merge_38 jX12_merge_39 jX12_merge_77
    rw [ob139, ob_n, isl, ob_n, if_neg (by decide), ob_n, g3, ob_n, if_pos q0, ob_n, ob_n, if_pos (show ¬ (1 : Int32) = 0 by decide), if_pos (show (-1 : Int32) < 0 by decide), fin']
  · unfold fX12_merge jX12_merge_39 jX12_merge_77
    rw [ob139, ob_n, isl, ob_n, if_neg (by decide), ob_n, g3, ob_n, if_neg hq, ob_n, g2', ob_n, ob_n, ob_n, ob_n, hch, ob_n, ob_n, ob_n, if_pos (by decide), if_neg (n_neg (by omega)), ob_n, g1 hl, ob_n]
    by_cases q1 : 3 < s.2.1 142 (1169 * l + 1)
    · rw [if_pos q1, fin']
    · have q2 : ¬ s.2.1 142 (1169 * m + 1) ≤ 3 := by
        have := q.resolve_left q1
        rw [i_lt] at this
        rw [i_le]; omega
      rw [if_neg q1, ob_n, g1 hm, ob_n, if_neg q2, fin']
theorem K_merge {s : e_S} {g : ps_G} {x : Int32} (hR : Rel s g) : KV (fL_merge (e_g s g) 8 x) (fun G => fX12_merge G 139 x) g := by
  have hg := rel_g hR
  obtain ⟨h1, h2, h3, h4, h5, h6, ⟨w, h, h7, h8, h9⟩, h10, h11⟩ := id hR
  obtain ⟨a, st, pc, uc, f1, f2, f3, f4, f5, f6, f7, f8, f9, f10, f11, f12⟩ := h9
  have hwh := wh_le h7.2.1 h7.2.2.2.1
  have e3 : ps_nw (e_g s g) 6 ps_e0 = e_g s (nx g) := e_nw hg
  rcases known11 (x := x) hg f3 f9 with ⟨k1, k2⟩ | ⟨l, b, rfl, hl, k1, k3, k2, hLy0⟩
  · refine KV_no (E := "java/util/NoSuchElementException") (y := 1) hR ?_ (by decide +kernel) ?_
    · simp (decide := true) only [fX11_merge, ob8, k2, ob_n, b2_n, tc_rn, tc_ln, F_sF, A_sF, R_sF, L_sF, F_sA, A_sA, R_sA, L_sA, F_sR, A_sR, R_sR, L_sR, F_sL, A_sL, R_sL, L_sL, and_true, true_and, and_false, false_and, and_self, reduceIte, sF_sF, sA_sA, false_or, or_false, true_or, or_true, not_false_eq_true, not_true_eq_false, decide_true, decide_false, Bool.true_or, Bool.or_true, Bool.false_and, Bool.true_and, Bool.false_or, Bool.or_false, Bool.and_true, Bool.and_false]
    · simp (decide := true) only [fX12_merge, jX12_merge_38, jX12_merge_39, jX12_merge_82, ob139, isLayer12, k1, w139_0, f139_0, ob_n, b2_n, tc_rn, tc_ln, F_sF, A_sF, R_sF, L_sF, F_sA, A_sA, R_sA, L_sA, F_sR, A_sR, R_sR, L_sR, F_sL, A_sL, R_sL, L_sL, and_true, true_and, and_false, false_and, and_self, reduceIte, sF_sF, sA_sA, false_or, or_false, true_or, or_true, not_false_eq_true, not_true_eq_false, decide_true, decide_false, Bool.true_or, Bool.or_true, Bool.false_and, Bool.true_and, Bool.false_or, Bool.or_false, Bool.and_true, Bool.and_false]
  · obtain ⟨la, oa, sz, ly, od, o, hS, hk⟩ := cpOk_r hR h7 f9
    obtain ⟨b', lb, hLy⟩ := hS.ly hl k3
    have hbb : b' = b := by
      obtain ⟨t, h1', h2', c1, c0, c2, c3, c9, c4, c5, c6, c7, ho, c10⟩ := id hS
      have fd := find9 (s := s) (x := Int32.ofNat l) h1' c1 c5 c6
      rw [n_int (by omega), if_pos (by omega), Int.toNat_natCast, lb] at fd
      have : fX11_known (e_g s g) 8 (Int32.ofNat l) = some (.inr (some b'), e_g s g) := by
        have n0 : ¬ (some b' = none) := nofun
        simp (decide := true) only [fX11_known, f8_0, f3, hS.ob, fd, n0, ob_n, b2_n, tc_rn, tc_ln, F_sF, A_sF, R_sF, L_sF, F_sA, A_sA, R_sA, L_sA, F_sR, A_sR, R_sR, L_sR, F_sL, A_sL, R_sL, L_sL, and_true, true_and, and_false, false_and, and_self, reduceIte, sF_sF, sA_sA, false_or, or_false, true_or, or_true, not_false_eq_true, not_true_eq_false, decide_true, decide_false, Bool.true_or, Bool.or_true, Bool.false_and, Bool.true_and, Bool.false_or, Bool.or_false, Bool.and_true, Bool.and_false]
      rw [k2] at this
      cases this
      rfl
    subst hbb
    clear hLy0
    obtain ⟨ob4, fNo, fK, -⟩ := ly_f hLy s
    have hob := (stW (s := s) f9).2.2.2
    rcases below_c hS hl k3 lb with ⟨p0, bl⟩ | ⟨m, c, i, j, hm, hm1, hp, hq, hch, hLm, lc, bl, hij, hj, ei, ej⟩
    · refine KV_no (E := "java/lang/IllegalStateException") (y := 2) hR ?_ (by decide +kernel) (merge12n hl k3 (Or.inl p0))
      unfold fX11_merge
      rw [ob8, ob_n, k2, tc_rn, f8_0, f3, ob_n, ob_n, ob_n, hob, ob_n, bl, ob_n, if_pos rfl, e3]
    · obtain ⟨obm, fNm, fKm, -⟩ := ly_f hLm s
      by_cases q3 : 3 < lR (s.2.1 142) l 1
      · refine KV_no (E := "java/lang/IllegalStateException") (y := 2) hR ?_ (by decide +kernel) (merge12n hl k3 (Or.inr ⟨m, hm, hq, hch s (nx g) rfl, Or.inl q3⟩))
        unfold fX11_merge
        rw [ob8, ob_n, k2, tc_rn, f8_0, f3, ob_n, ob_n, ob_n, hob, ob_n, bl, ob_n, if_neg (by intro z; cases z), fK, ob_n, if_pos (lt4.mpr q3), e3]
      · by_cases q3m : 3 < lR (s.2.1 142) m 1
        · refine KV_no (E := "java/lang/IllegalStateException") (y := 2) hR ?_ (by decide +kernel) (merge12n hl k3 (Or.inr ⟨m, hm, hq, hch s (nx g) rfl, Or.inr q3m⟩))
          unfold fX11_merge
          rw [ob8, ob_n, k2, tc_rn, f8_0, f3, ob_n, ob_n, ob_n, hob, ob_n, bl, ob_n, if_neg (by intro z; cases z), fK, ob_n, if_neg (fun z => q3 (lt4.mp z)), ob_n, fKm, ob_n, if_neg (fun z => lt4'.mp z q3m), e3]
        · obtain ⟨kc, hA⟩ := aC_r (w := w) (h := h) hR
          -- the copy of the lower one
          have cpy : ∀ (s : e_S) (g0 : ps_G) (b n : Nat) (r : Nat → Int32), 195 ≤ g0.1 → LyN g0 b w h n r → ∃ ga g1, fX4_again (e_g s g0) b = some (some g0.1, e_g s ga) ∧ q_sB 4 5 (e_g s ga) g0.1 1 = some (e_g s g1) ∧ Ext g0 g1 ∧ g1.1 = g0.1 + 1 ∧ g1.2.1 = g0.2.1 + 17 ∧ LyN g1 g0.1 w h n (r67 r 1 (r 7)) := by
            intro s g0 b n r hg0 hL
            obtain ⟨y1, y2, p, q, x0, y0, x1, yy1, pa, ma, y3, z1, z2, z3, z4, z5, z6, z7, z8, z9, z10, z11, z12, z13, z14⟩ := id hL
            have ag4 := again4 (s := s) hg0 y1 y2 (rg01 z4) (rg01 z5) y3
            have hL1 := lyN_67 (v6 := 1) (v7 := r 7) (r' := r67 r 1 (r 7)) hg0 hL y3 rfl rfl (by decide) z5 r67_n
            exact ⟨_, _, ag4, m_sB hg0 (Or.inr rfl) (Nat.le_of_ble_eq_true rfl), ext_mkL, rfl, rfl, hL1⟩
          obtain ⟨ga, g1', ag4, sB1, hE1, n1, n2, hL1⟩ := cpy s g c m _ hg hLm
          obtain ⟨gb, g2', ag4b, sB2, hE2, n3, n4, hL2⟩ := cpy s g1' b' l _ (by omega) (lyN_ext hE1 hLy)
          have hE02 : Ext g g2' := ext_tr hE1 ⟨hE2.1, by omega, hE2.2.2.1, by omega, hE2.2.2.2.2⟩
          have e0 : ∀ s', q_len (e_g s' g2') 0 = some 0 := fun s' => d_len (n := 0) (Or.inr (Or.inl (by omega))) ((G11_ext hE02 h11).2.2.2.1 0 (by omega))
          have stw := fun s' => stW (s := s') (stN_ext hE02 f9)
          have hS2 : StD g2' a w h (s.2.1 142) la oa sz ly od o := ⟨hS.1, stE_ext hE02 hS.2⟩
          have obb1 : q_ob 4 (e_g s g1') b' = some () := (ly_f (lyN_ext hE1 hLy) s).1
          obtain ⟨s', t1, t2, t3⟩ := tog_2 (s0 := s) (s := s) (show 195 ≤ g2'.1 by omega) hS2 hk e0 (fun s' => (stw s').1) (fun s' => (stw s').2.1) kc hA (lyN_ext hE2 hL1) hm hL2 hl
          have sm := sm_vw t2
          have hE3 : Ext g2' (mkA g2' (s'.2.1 22)) := ext_mkA
          have m1 : (mkA g2' (s'.2.1 22)).1 = g2'.1 + 1 := rfl
          have m2 : (mkA g2' (s'.2.1 22)).2.1 = g2'.2.1 + 576 := rfl
          have m3 : (mkA g2' (s'.2.1 22)).2.2 g2'.1 = .inl (0, (576, .inl (s'.2.1 22))) := nw_at
          generalize mkA g2' (s'.2.1 22) = g3' at t1 hE3 m1 m2 m3
          have hE03 : Ext g g3' := ext_tr hE02 ⟨hE3.1, by omega, hE3.2.2.1, by omega, hE3.2.2.2.2⟩
          have hS3 : StD g3' a w h (s.2.1 142) la oa sz ly od o := ⟨hS.1, stE_ext hE3 hS2.2⟩
          obtain ⟨ly', od', ag9, hG, hly⟩ := stG_again (s := s') (show 195 ≤ g3'.1 by omega) hS3
          have ob9 : q_ob 9 (e_g s' g3') a = some () := (stW (stN_ext hE03 f9)).2.2.2
          have m4 : (mkS g3' (Int32.ofNat w) (Int32.ofNat h) ly' od' (Int32.ofNat sz) (s.2.1 142 35070)).1 = g3'.1 + 3 := rfl
          have m5 : (mkS g3' (Int32.ofNat w) (Int32.ofNat h) ly' od' (Int32.ofNat sz) (s.2.1 142 35070)).2.1 = g3'.2.1 + 66 := rfl
          have ob9' : q_ob 9 (e_g s' (mkS g3' (Int32.ofNat w) (Int32.ofNat h) ly' od' (Int32.ofNat sz) (s.2.1 142 35070))) g3'.1 = some () := S_ob (by omega)
          generalize mkS g3' (Int32.ofNat w) (Int32.ofNat h) ly' od' (Int32.ofNat sz) (s.2.1 142 35070) = g4' at ag9 hG m4 m5 ob9'
          have lN : ∀ (G : ps_G), (∀ j, j < g3'.1 → G.2.2 j = g3'.2.2 j) → q_fI 4 0 (e_g s' G) b' = some (Int32.ofNat l) ∧ q_fI 4 0 (e_g s' G) c = some (Int32.ofNat m) := fun G e1 => by
            obtain ⟨y1, y2, p, q, x0, y0, x1, yy1, pa, ma, y3, -⟩ := lyN_ext hE03 hLy
            obtain ⟨y1', y2', p', q', x0', y0', x1', yy1', pa', ma', y3', -⟩ := lyN_ext hE03 hLm
            exact ⟨d_fI y1 (by rw [e1 _ y2]; exact y3) rfl, d_fI y1' (by rw [e1 _ y2']; exact y3') rfl⟩
          obtain ⟨G1, G2, ri1, obr1, frG1, rm1, nG1, nG2, sz', ly2, od2, o2, hG2, hly2⟩ := stG_drop (s := s') (l := l) hwh hG hl k3
          have dm : dpD (s.2.1 142) l m = false := dpD_sib hS.1 hl k3 hm hm1 hp (fun e => by
            have := hk.2.1.2.2.1 i j hij hj
            rw [ei, ej] at this
            exact this e)
          have k3m : rmN (s.2.1 142) (dpD (s.2.1 142) l) l (1169 * m) = 1 := (rmN_1 hm).mpr ⟨hm1, dm⟩
          have lyc : LyN g3' c w h m (lR (rmN (s.2.1 142) (dpD (s.2.1 142) l) l) m) := lyN_03 hwh (fun j hj j0 j3 => rmN_i hj j0 j3) (lyN_ext hE03 hLm)
          obtain ⟨G5, G6, ri2, obc, ⟨G7', ft, ob9'', ex⟩, u1, u2, u3, u4⟩ := stG_flat (s := s') (va := g2'.1) hwh hG2 hm k3m lyc (by omega) (by omega) m3
          have lo : ∀ j, j < g.1 → G6.2.2 j = g.2.2 j := fun j hj => by rw [u3 j (by omega), hE03.2.2.2.2 j hj]
          have hE : Ext g G6 := ⟨by omega, by omega, by omega, by omega, lo⟩
          have f3' : s'.2.2.1 8 0 = some a := (congrFun (sm.2.2 8 (Or.inl rfl)) 0).trans f3
          have f4' : s'.1 8 2 = Int32.ofNat pc := (sm.2.1 (8, 2) (by decide)).trans f4
          have e12 : s'.2.2.1 12 = s.2.2.1 12 := sm.2.2 12 (Or.inr (Or.inl rfl))
          obtain ⟨fsA, ca1, ca2⟩ := stN_cell f9
          have bc := become11 (s := s') (g := G6) (a := a) (b := g3'.1) (pc := pc) ca1 (by rw [lo _ f9.2.2.1]; exact ca2) f3' f4' (show pc ≤ 24 by omega) (fun i hi => by
            obtain ⟨b, z1, z2⟩ := f11 i hi
            obtain ⟨fs, z3, z4⟩ := stN_cell z2
            have z5 : b < g.1 := z2.2.2.1
            exact ⟨b, fs, by rw [e12]; exact z1, z3, by rw [lo _ z5]; exact z4⟩)
          have hk1 := cpOk_s hk sm
          have c8 := cpOk_w (s' := fgC (rmC s' a g3'.1 pc)) hk1.1 (fun j hj => by
            have : ∀ j, j ∈ [142, 150, 152, 153, 154] → ¬ j = 88 ∧ ¬ j = 87 := by decide
            obtain ⟨n1, n2⟩ := this j hj
            unfold fgC rmC
            rw [A_sA, if_neg n1, A_sA, if_neg n2, A_sF, A_sR, A_sF, A_sF, A_sRr]) (fun j hj => by
            unfold fgC rmC
            simp (decide := true) only [ob_n, b2_n, tc_rn, tc_ln, F_sF, A_sF, R_sF, L_sF, F_sA, A_sA, R_sA, L_sA, F_sR, A_sR, R_sR, L_sR, F_sL, A_sL, R_sL, L_sL, and_true, true_and, and_false, false_and, and_self, reduceIte, sF_sF, sA_sA, false_or, or_false, true_or, or_true, not_false_eq_true, not_true_eq_false, decide_true, decide_false, Bool.true_or, Bool.or_true, Bool.false_and, Bool.true_and, Bool.false_or, Bool.or_false, Bool.and_true, Bool.and_false, F_sRr])
          have eN : (fgC (rmC s' a g3'.1 pc)).2.1 142 = s.2.1 142 := by
            unfold fgC rmC
            simp (decide := true) only [ob_n, b2_n, tc_rn, tc_ln, F_sF, A_sF, R_sF, L_sF, F_sA, A_sA, R_sA, L_sA, F_sR, A_sR, R_sR, L_sR, F_sL, A_sL, R_sL, L_sL, and_true, true_and, and_false, false_and, and_self, reduceIte, sF_sF, sA_sA, false_or, or_false, true_or, or_true, not_false_eq_true, not_true_eq_false, decide_true, decide_false, Bool.true_or, Bool.or_true, Bool.false_and, Bool.true_and, Bool.false_or, Bool.or_false, Bool.and_true, Bool.and_false, A_sRr]
            exact sm.1 142 (by decide)
          have b10 : (fgC (rmC s' a g3'.1 pc)).1 139 10 = Int32.ofNat st := by
            unfold fgC rmC
            simp (decide := true) only [ob_n, b2_n, tc_rn, tc_ln, F_sF, A_sF, R_sF, L_sF, F_sA, A_sA, R_sA, L_sA, F_sR, A_sR, R_sR, L_sR, F_sL, A_sL, R_sL, L_sL, and_true, true_and, and_false, false_and, and_self, reduceIte, sF_sF, sA_sA, false_or, or_false, true_or, or_true, not_false_eq_true, not_true_eq_false, decide_true, decide_false, Bool.true_or, Bool.or_true, Bool.false_and, Bool.true_and, Bool.false_or, Bool.or_false, Bool.and_true, Bool.and_false, F_sRr]
            exact (sm.2.1 (139, 10) (by decide)).trans f6
          have b11 : (fgC (rmC s' a g3'.1 pc)).1 139 11 = Int32.ofNat pc := by
            unfold fgC rmC
            simp (decide := true) only [ob_n, b2_n, tc_rn, tc_ln, F_sF, A_sF, R_sF, L_sF, F_sA, A_sA, R_sA, L_sA, F_sR, A_sR, R_sR, L_sR, F_sL, A_sL, R_sL, L_sL, and_true, true_and, and_false, false_and, and_self, reduceIte, sF_sF, sA_sA, false_or, or_false, true_or, or_true, not_false_eq_true, not_true_eq_false, decide_true, decide_false, Bool.true_or, Bool.or_true, Bool.false_and, Bool.true_and, Bool.false_or, Bool.or_false, Bool.and_true, Bool.and_false, F_sRr]
            exact (sm.2.1 (139, 11) (by decide)).trans f7
          have aE : aD (fgC (rmC s' a g3'.1 pc)) w h = aD s w h := by
            unfold aD fgC rmC
            simp (decide := true) only [ob_n, b2_n, tc_rn, tc_ln, F_sF, A_sF, R_sF, L_sF, F_sA, A_sA, R_sA, L_sA, F_sR, A_sR, R_sR, L_sR, F_sL, A_sL, R_sL, L_sL, and_true, true_and, and_false, false_and, and_self, reduceIte, sF_sF, sA_sA, false_or, or_false, true_or, or_true, not_false_eq_true, not_true_eq_false, decide_true, decide_false, Bool.true_or, Bool.or_true, Bool.false_and, Bool.true_and, Bool.false_or, Bool.or_false, Bool.and_true, Bool.and_false, F_sRr, A_sRr]
            rw [sm.1 152 (by decide), sm.1 153 (by decide), sm.1 154 (by decide), sm.1 150 (by decide)]
            have u1 : s'.1 139 25 = s.1 139 25 := sm.2.1 (139, 25) (by decide)
            have u2 : s'.1 139 26 = s.1 139 26 := sm.2.1 (139, 26) (by decide)
            rw [u1, u2]
          obtain ⟨R, R2, F, E, T, U, V, rr, rV⟩ := merge12 (s := fgC (rmC s' a g3'.1 pc)) (g := G6) (l := l) (m := m) (i := i) (j := j) f1 (show pc ≤ 24 by omega) b10 b11 c8.1 hl (by rw [eN]; exact k3) (by rw [eN]; exact q3) hm (by rw [eN]; exact hm1) (by rw [eN]; exact q3m) (by rw [eN]; exact hp) hij hj ei ej (by rw [eN]; exact hq) (by have := hch (fgC (rmC s' a g3'.1 pc)) G6 eN; rw [eN]; exact this)
          rw [eN, c8.2, c8.2, hk1.2, hk1.2, aE] at rV
          rw [eN] at rr
          have hV : ∀ k, k < w * h → s'.2.1 22 k = V k := fun k hkk => by
            rw [rV k hkk, t3 k hkk]
            have e1 : ∀ r, decide (¬ r67 r 1 (r 7) 6 = 0) = true := fun r => decide_eq_true (show ¬ (1 : Int32) = 0 by decide)
            have e2 : ∀ r, r67 r 1 (r 7) 7 = r 7 := fun r => rfl
            have e3 : ∀ r, r67 r 1 (r 7) 5 = r 5 := fun r => rfl
            rw [e1, e1, e2, e2, e3, e3, laS_67 q3m r67_n, laS_67 q3 r67_n]
          have hN := u4 V hV
          refine KV_r (s := s) ?_ rr ?_ (rel_sm (rel_edit hR h7 f1 f2 f9 f10 f11 hE hN) ?_) hE
          · unfold fX11_merge fX11_mergeInto jX11_mergeInto_47 jX11_mergeInto_85
            rw [ob8, ob_n, k2, tc_rn, f8_0, f3, ob_n, ob_n, ob_n, hob, ob_n, bl, ob_n, if_neg (by intro z; cases z), fK, ob_n, if_neg (fun z => q3 (lt4.mp z)), ob_n, fKm, ob_n, if_pos (lt4'.mpr q3m), ob8, ob_n, obm, ob_n, ag4, b2_n, ob_n, sB1, ob_n, obb1, ob_n, ag4b, b2_n, ob_n, sB2, ob_n, f8_6, ob_n, ob_n, f8_0, f3, ob_n, ob_n, ob20, ob_n]
            rw [show g1'.1 = g.1 + 1 from n1] at *
            rw [t1, b2_n, f8_0, f3', ob_n, ob_n, ob9, ob_n, ag9, b2_n, ob_n, (lN g4' hG.2.2.1).1, ob_n, ob9', ob_n, ri1, ob_n, (lN G1 frG1).1, ob_n, obr1, ob_n, rm1, ob_n, (lN G2 hG2.2.2.1).2, ob_n, (stE_sc (stG_E hG2)).ob, ob_n, ri2, ob_n, ob_n, obc, ob_n, ft, b2_n, ob_n, ob9'', ob_n, ex, ob_n, ob_n, ob8, ob_n, bc, ob_n, ob_n]
          · unfold fg12 edM
            simp (decide := true) only [ob_n, b2_n, tc_rn, tc_ln, F_sF, A_sF, R_sF, L_sF, F_sA, A_sA, R_sA, L_sA, F_sR, A_sR, R_sR, L_sR, F_sL, A_sL, R_sL, L_sL, and_true, true_and, and_false, false_and, and_self, reduceIte, sF_sF, sA_sA, false_or, or_false, true_or, or_true, not_false_eq_true, not_true_eq_false, decide_true, decide_false, Bool.true_or, Bool.or_true, Bool.false_and, Bool.true_and, Bool.false_or, Bool.or_false, Bool.and_true, Bool.and_false, cs_F]
          · unfold edS
            rw [sA_cm (i := 144) (j := 142) (by decide) (s := sA (sA _ 144 R) 142 _), sA_sA]
            exact sm_fg (sm_edM (sm_A (sm_A2 (sm_A (sm_tr (sm_tr (sm_frC sm) (sm_F (sm_F (sm_F sm_rf (by decide)) (by decide)) (by decide))) sm_cs) (by decide))) (by decide)))
