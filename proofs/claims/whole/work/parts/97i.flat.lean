-- needs: 07 10 13 14 20 21 22 23 24 25 26 27 32 33 34 36 38 39 40 41 42 43 44 46 47 48 49 50 52 53 54 55 57 60 61 62 63 64 65 70 71 72 73 74 80 81 82 83 84 85 86 87 88 89 90 91 97a 97b 97c 97d 97e 97f 97g 97h
/-! ===== flat ===== -/
theorem cmF_1 {s : e_S} {w h sz l : Nat} {G : Nat → Nat → Int32} {od : Nat → Int32} {o : Nat → Nat} (ho : OrD (s.2.1 142) sz od o) (hl : l < 30) (h1 : s.2.1 142 (1169 * l) = 1) (f1 : s.1 139 19 = Int32.ofNat l) (f2 : s.1 139 20 = Int32.ofNat l) : cmF s w h 1 1 (s.2.1 142 (1169 * l + 2)) G o sz = laS (aD s w h) w h (G l) true false 0 (lR (s.2.1 142) l) (fun _ => 0, fun _ => 0) := by
  obtain ⟨i, hi, e⟩ := ho.2.2.2.1 l hl h1
  have no : ∀ j, j < sz → ¬ j = i → ∀ S, stS s w h 1 1 G (o j) S = S := fun j hj hne S => by
    have oj := ho.2.1 j hj
    have ne : ¬ o j = l := fun z => by
      rcases Nat.lt_trichotomy j i with q | q | q
      · exact ho.2.2.1 j i q hi (by rw [z, e])
      · exact hne q
      · exact ho.2.2.1 i j q hj (by rw [z, e])
    unfold stS
    rw [f1, f2, if_neg]
    rintro (z | z | z)
    · exact absurd z (by decide)
    · exact ne ((n_eq (by omega) (by omega)).mp z)
    · exact ne ((n_eq (by omega) (by omega)).mp z)
  have ch : chO (s.2.1 142) o (s.2.1 142 (1169 * l + 2)) i = true := decide_eq_true (by rw [e])
  have k1 := fsS_k (P := chO (s.2.1 142) o (s.2.1 142 (1169 * l + 2))) (st := fun i S => stS s w h 1 1 G (o i) S) (z := (fun _ => 0, fun _ => 0)) (n := 0) i (fun j _ hj _ S => no j (by omega) (by omega) S)
  have k2 := fsS_k (P := chO (s.2.1 142) o (s.2.1 142 (1169 * l + 2))) (st := fun i S => stS s w h 1 1 G (o i) S) (z := (fun _ => 0, fun _ => 0)) (n := i + 1) (sz - (i + 1)) (fun j hj hj2 _ S => no j (by omega) (by omega) S)
  rw [show i + 1 + (sz - (i + 1)) = sz by omega, fsS_t ch] at k2
  rw [Nat.zero_add] at k1
  rw [k1] at k2
  unfold cmF
  rw [k2]
  show stS s w h 1 1 G (o i) (fun _ => 0, fun _ => 0) = _
  unfold stS
  rw [e, f1, if_pos (Or.inr (Or.inl rfl)), decide_eq_true (Or.inl (by decide)), decide_eq_false (fun z => absurd z.1 (by decide)), if_neg (by decide)]
theorem flat12 {s : e_S} {g : ps_G} {l st pc w h sz : Nat} {od : Nat → Int32} {o : Nat → Nat} (h1 : st < 25) (h2 : pc ≤ 24) (e1 : s.1 139 10 = Int32.ofNat st) (e2 : s.1 139 11 = Int32.ofNat pc) (hk : CpOk s w h sz od o) (hl : l < 30) (hl1 : s.2.1 142 (1169 * l) = 1) (h3 : ¬ 3 < s.2.1 142 (1169 * l + 1)) : ∃ R F E T U V, fX12_flat (e_g s g) 139 (Int32.ofNat l) = some (e_g (fg12 (edM (sA (sA (cs (sF (sF (sF s 139 0 0) 139 19 (Int32.ofNat l)) 139 20 (Int32.ofNat l)) F E T U) 144 R) 142 (bpN (s.2.1 142) l V)) st pc)) g) ∧ ∀ k, k < w * h → V k = (laS (aD s w h) w h (vwF s w h sz o 31 (Int32.ofNat l)) true false 0 (lR (s.2.1 142) l) (fun _ => 0, fun _ => 0)).1 k := by
  have sm : Sm s (sF (sF (sF s 139 0 0) 139 19 (Int32.ofNat l)) 139 20 (Int32.ofNat l)) := sm_F (sm_F (sm_F sm_rf (by decide)) (by decide)) (by decide)
  have ck := cpOk_s hk sm
  have hkk0 := hk
  have f19 : (sF (sF (sF s 139 0 0) 139 19 (Int32.ofNat l)) 139 20 (Int32.ofNat l)).1 139 19 = Int32.ofNat l := by simp (decide := true) only [ob_n, b2_n, tc_rn, tc_ln, F_sF, A_sF, R_sF, L_sF, F_sA, A_sA, R_sA, L_sA, F_sR, A_sR, R_sR, L_sR, F_sL, A_sL, R_sL, L_sL, and_true, true_and, and_false, false_and, and_self, reduceIte, sF_sF, sA_sA, false_or, or_false, true_or, or_true, not_false_eq_true, not_true_eq_false, decide_true, decide_false, Bool.true_or, Bool.or_true, Bool.false_and, Bool.true_and, Bool.false_or, Bool.or_false, Bool.and_true, Bool.and_false]
  have f20 : (sF (sF (sF s 139 0 0) 139 19 (Int32.ofNat l)) 139 20 (Int32.ofNat l)).1 139 20 = Int32.ofNat l := by simp (decide := true) only [ob_n, b2_n, tc_rn, tc_ln, F_sF, A_sF, R_sF, L_sF, F_sA, A_sA, R_sA, L_sA, F_sR, A_sR, R_sR, L_sR, F_sL, A_sL, R_sL, L_sL, and_true, true_and, and_false, false_and, and_self, reduceIte, sF_sF, sA_sA, false_or, or_false, true_or, or_true, not_false_eq_true, not_true_eq_false, decide_true, decide_false, Bool.true_or, Bool.or_true, Bool.false_and, Bool.true_and, Bool.false_or, Bool.or_false, Bool.and_true, Bool.and_false]
  have f10 : (sF (sF (sF s 139 0 0) 139 19 (Int32.ofNat l)) 139 20 (Int32.ofNat l)).1 139 10 = Int32.ofNat st := by simp (decide := true) only [ob_n, b2_n, tc_rn, tc_ln, F_sF, A_sF, R_sF, L_sF, F_sA, A_sA, R_sA, L_sA, F_sR, A_sR, R_sR, L_sR, F_sL, A_sL, R_sL, L_sL, and_true, true_and, and_false, false_and, and_self, reduceIte, sF_sF, sA_sA, false_or, or_false, true_or, or_true, not_false_eq_true, not_true_eq_false, decide_true, decide_false, Bool.true_or, Bool.or_true, Bool.false_and, Bool.true_and, Bool.false_or, Bool.or_false, Bool.and_true, Bool.and_false]; exact e1
  have f11 : (sF (sF (sF s 139 0 0) 139 19 (Int32.ofNat l)) 139 20 (Int32.ofNat l)).1 139 11 = Int32.ofNat pc := by simp (decide := true) only [ob_n, b2_n, tc_rn, tc_ln, F_sF, A_sF, R_sF, L_sF, F_sA, A_sA, R_sA, L_sA, F_sR, A_sR, R_sR, L_sR, F_sL, A_sL, R_sL, L_sL, and_true, true_and, and_false, false_and, and_self, reduceIte, sF_sF, sA_sA, false_or, or_false, true_or, or_true, not_false_eq_true, not_true_eq_false, decide_true, decide_false, Bool.true_or, Bool.or_true, Bool.false_and, Bool.true_and, Bool.false_or, Bool.or_false, Bool.and_true, Bool.and_false]; exact e2
  have eN : (sF (sF (sF s 139 0 0) 139 19 (Int32.ofNat l)) 139 20 (Int32.ofNat l)).2.1 142 = s.2.1 142 := sm.1 142 (by decide)
  have g1 := get12 (s := s) (g := g) (n := 1) hl (by omega)
  have w0 := w139_0 (s := s) (g := g) (v := 0)
  have ed := fun s' q1 q2 => edited12 (s := s') (g := g) h1 h2 q1 q2
  have aE : aD (sF (sF (sF s 139 0 0) 139 19 (Int32.ofNat l)) 139 20 (Int32.ofNat l)) w h = aD s w h := by
    unfold aD
    simp (decide := true) only [ob_n, b2_n, tc_rn, tc_ln, F_sF, A_sF, R_sF, L_sF, F_sA, A_sA, R_sA, L_sA, F_sR, A_sR, R_sR, L_sR, F_sL, A_sL, R_sL, L_sL, and_true, true_and, and_false, false_and, and_self, reduceIte, sF_sF, sA_sA, false_or, or_false, true_or, or_true, not_false_eq_true, not_true_eq_false, decide_true, decide_false, Bool.true_or, Bool.or_true, Bool.false_and, Bool.true_and, Bool.false_or, Bool.or_false, Bool.and_true, Bool.and_false]
  have isl : fX12_isLayer (e_g s g) 139 (Int32.ofNat l) = some 1 := by
    rw [isLayer12, isL_o hl, decide_eq_true hl1]; rfl
  have start : fX12_flat (e_g s g) 139 (Int32.ofNat l) = Option.bind (fX12_composeGroups (e_g (sF (sF (sF s 139 0 0) 139 19 (Int32.ofNat l)) 139 20 (Int32.ofNat l)) g) 139) fun v16 => Option.bind (q_ob 12 v16 139) fun u17 => Option.bind (fX12_get v16 139 (Int32.ofNat l) (2 : Int32)) fun v18 => Option.bind (q_ob 12 v16 139) fun u19 => Option.bind (fX12_compose v16 139 v18 (1 : Int32) (1 : Int32)) fun v20 => Option.bind (q_ob 12 v20 139) fun u21 => Option.bind (fX12_becomePixels v20 139 (Int32.ofNat l)) fun v22 => Option.bind (q_ob 12 v22 139) fun u23 => Option.bind (fX12_edited v22 139) fun v24 => Option.bind (q_ob 12 v24 139) fun u25 => Option.bind (fX12_forget v24 139) fun v26 => some v26 := by
    unfold fX12_flat jX12_flat_28
    rw [ob139, ob_n, isl, ob_n, if_pos (by decide), ob_n, g1, ob_n, if_pos (show s.2.1 142 (1169 * l + 1) ≤ 3 from by rw [i_le]; rw [i_lt] at h3; omega), w139_0, ob_n, f139_0, F_sF, if_pos ⟨rfl, rfl⟩, ob_n, if_pos (by decide), w139_19, ob_n, w139_20, ob_n, ob139, ob_n]
  rw [start]
  generalize hs3 : sF (sF (sF s 139 0 0) 139 19 (Int32.ofNat l)) 139 20 (Int32.ofNat l) = s3 at sm ck f19 f20 f10 f11 eN aE
  obtain ⟨ht, ho, hrow, hw1, hh1, hw, hh, e13, e14, hdv, hC⟩ := id ck.1
  obtain ⟨F, E, T, U, m1, m2⟩ := groups12 (g := g) ck.1
  obtain ⟨c, c1, c2, c3⟩ := par_at ht hl (by rw [eN]; exact hl1)
  obtain ⟨E', T', U', cx⟩ := compose12 (s := s3) (g := g) (w := w) (h := h) (sz := sz) (c := c) (on := 1) (al := 1) (P := s3.2.1 142 (1169 * l + 2)) (f := F) (e := E) (t := T) (u := U) ht ho hrow hw1 hh1 hw hh e13 e14 hdv hC c2 c1 c3
  have g2 : fX12_get (e_g (cs s3 F E T U) g) 139 (Int32.ofNat l) 2 = some (s3.2.1 142 (1169 * l + 2)) := cs_get (n := 2) hl (by omega)
  have cv := cmF_1 (w := w) (h := h) (G := fun l k => F (576 * (l + 1) + k)) ho hl (by rw [eN]; exact hl1) f19 f20
  generalize hF : cpT F (cmF s3 w h 1 1 (s3.2.1 142 (1169 * l + 2)) (fun l k => F (576 * (l + 1) + k)) o sz).1 (576 * c) (w * h) = F' at cx
  have eA : (cs s3 F' E' T' U').2.1 142 = s3.2.1 142 := cs_A (by decide)
  obtain ⟨R, bx⟩ := becomePixels12 (s := cs s3 F' E' T' U') (g := g) (l := l) (w := w) (h := h) (c := c) (by rw [eA]; exact ht) hl hw hh (by rw [cs_F]; exact e13) (by rw [cs_F]; exact e14) (by rw [eA]; exact c2) c1
  rw [eA, eN, cs_145] at bx
  refine ⟨R, F', E', T', U', (fun k => if k < w * h then F' (576 * c + k) else 0), ?_, fun k hkk => ?_⟩
  · rw [m1, ob_n, ob139, ob_n, g2, ob_n, ob_n, cx, ob_n, ob139, ob_n, bx, ob_n, ob139, ob_n, ed _ (by rw [F_sA, F_sA, cs_F]; exact f10) (by rw [F_sA, F_sA, cs_F]; exact f11), ob_n, ob139, ob_n, forget12, ob_n]
    rfl
  · show (if k < w * h then F' (576 * c + k) else 0) = _
    have := cpT_in (A := F) (N := (cmF s3 w h 1 1 (s3.2.1 142 (1169 * l + 2)) (fun l k => F (576 * (l + 1) + k)) o sz).1) (b := 576 * c) hkk
    rw [hF] at this
    rw [if_pos hkk, this, cv, eN, aE]
    refine (laS_c (n := w * h) (fun V V' e k hk => by unfold aD; exact ad_c hw1 hh1 e hk) (fun q k hk => ?_) (fun _ _ => rfl) (fun _ _ => rfl)).1 k hkk
    have a := m2 l hl (by rw [eN]; exact hl1) (by rw [eN]; exact q) k hk
    rw [ck.2] at a
    show F (576 * (l + 1) + k) = _
    rw [a]
    exact vwF_st hkk0 30 31 l hl hl1 (by omega) (by omega) k hk
/-- shown, not clipped -/
def r67 (r : Nat → Int32) (a b : Int32) : Nat → Int32 := fun j => if j = 6 then a else if j = 7 then b else r j
theorem r67_n {r : Nat → Int32} {a b : Int32} : ∀ j, ¬ j = 6 → ¬ j = 7 → r67 r a b j = r j := fun j h1 h2 => by
  unfold r67
  rw [if_neg h1, if_neg h2]
theorem K_flat {s : e_S} {g : ps_G} {x : Int32} (hR : Rel s g) : KV (fL_flat (e_g s g) 8 x) (fun G => fX12_flat G 139 x) g := by
  have hg := rel_g hR
  obtain ⟨h1, h2, h3, h4, h5, h6, ⟨w, h, h7, h8, h9⟩, h10, h11⟩ := id hR
  obtain ⟨a, st, pc, uc, f1, f2, f3, f4, f5, f6, f7, f8, f9, f10, f11, f12⟩ := h9
  have hwh := wh_le h7.2.1 h7.2.2.2.1
  rcases known11 (x := x) hg f3 f9 with ⟨k1, k2⟩ | ⟨l, b, rfl, hl, k1, k3, k2, hLy⟩
  · refine KV_no (E := "java/util/NoSuchElementException") (y := 1) hR ?_ (by decide +kernel) ?_
    · simp (decide := true) only [fX11_flat, ob8, k2, ob_n, b2_n, tc_rn, tc_ln, F_sF, A_sF, R_sF, L_sF, F_sA, A_sA, R_sA, L_sA, F_sR, A_sR, R_sR, L_sR, F_sL, A_sL, R_sL, L_sL, and_true, true_and, and_false, false_and, and_self, reduceIte, sF_sF, sA_sA, false_or, or_false, true_or, or_true, not_false_eq_true, not_true_eq_false, decide_true, decide_false, Bool.true_or, Bool.or_true, Bool.false_and, Bool.true_and, Bool.false_or, Bool.or_false, Bool.and_true, Bool.and_false]
    · simp (decide := true) only [fX12_flat, jX12_flat_28, ob139, isLayer12, k1, w139_0, f139_0, ob_n, b2_n, tc_rn, tc_ln, F_sF, A_sF, R_sF, L_sF, F_sA, A_sA, R_sA, L_sA, F_sR, A_sR, R_sR, L_sR, F_sL, A_sL, R_sL, L_sL, and_true, true_and, and_false, false_and, and_self, reduceIte, sF_sF, sA_sA, false_or, or_false, true_or, or_true, not_false_eq_true, not_true_eq_false, decide_true, decide_false, Bool.true_or, Bool.or_true, Bool.false_and, Bool.true_and, Bool.false_or, Bool.or_false, Bool.and_true, Bool.and_false]
  · obtain ⟨ob4, -, fK, -⟩ := ly_f hLy s
    have isl : ∀ g', fX12_isLayer (e_g s g') 139 (Int32.ofNat l) = some 1 := fun g' => by
      rw [isLayer12, k1]; rfl
    have g1 := fun g' => get12 (s := s) (g := g') (n := 1) hl (by omega)
    by_cases q3 : 3 < lR (s.2.1 142) l 1
    · refine KV_no (E := "java/lang/IllegalStateException") (y := 2) hR ?_ (by decide +kernel) ?_
      · have rf : jX11_flat_22 (e_g s g) 8 (Int32.ofNat l) (some b) = some (.inl "java/lang/IllegalStateException", e_g s (nx g)) := by
          unfold jX11_flat_22 jX11_flat_27
          rw [refuse11 hg, if_neg (by decide), tc_ln]
        unfold fX11_flat
        rw [ob8, ob_n, k2, tc_rn, ob_n, fK, ob_n]
        by_cases q4 : lR (s.2.1 142) l 1 = 4
        · rw [if_pos q4, rf]
        · have q5 : lR (s.2.1 142) l 1 = 5 := by
            have := (rg_i.mp (rwN_l hLy).1).2
            rw [i_lt] at q3
            apply Int32.toInt_inj.mp
            have n4 : ¬ (lR (s.2.1 142) l 1).toInt = 4 := fun z => q4 (Int32.toInt_inj.mp z)
            have e3 : (3 : Int32).toInt = 3 := by decide
            have e5 : (5 : Int32).toInt = 5 := by decide
            rw [e3] at q3
            rw [e5] at this ⊢
            omega
          rw [if_neg q4, ob_n, if_neg (fun z => z q5), rf]
      · show fX12_flat (e_g s (nx g)) 139 (Int32.ofNat l) = _
        unfold fX12_flat jX12_flat_28
        rw [ob139, ob_n, isl, ob_n, if_pos (by decide), ob_n, g1, ob_n, if_neg (show ¬ s.2.1 142 (1169 * l + 1) ≤ 3 from fun z => by
          have q3' : 3 < s.2.1 142 (1169 * l + 1) := q3
          rw [i_le] at z; rw [i_lt] at q3'; omega), w139_0, ob_n, f139_0, F_sF, if_pos ⟨rfl, rfl⟩, ob_n, if_neg (by decide)]
    · obtain ⟨la, oa, sz, ly, od, o, hS, hk⟩ := cpOk_r hR h7 f9
      obtain ⟨kc, hA⟩ := aC_r (w := w) (h := h) hR
      obtain ⟨y1, y2, p, q, x0, y0, x1, yy1, pa, ma, y3, z1, z2, z3, z4, z5, z6, z7, z8, z9, z10, z11, z12, z13, z14⟩ := id hLy
      have ag4 := again4 (s := s) hg y1 y2 (rg01 z4) (rg01 z5) y3
      have hL1 := lyN_67 (v6 := 1) (v7 := 0) (r' := r67 (lR (s.2.1 142) l) 1 0) hg hLy y3 rfl rfl (by decide) (by decide) r67_n
      have sB1 : q_sB 4 5 (e_g s (mkL g [.int (Int32.ofNat l), .int (lR (s.2.1 142) l 1), .int (lR (s.2.1 142) l 2), .int (lR (s.2.1 142) l 4), .int (lR (s.2.1 142) l 5), .int (lR (s.2.1 142) l 6), .int (lR (s.2.1 142) l 7), .int (lR (s.2.1 142) l 8), .int (lR (s.2.1 142) l 9), .int p, .int q, .int x0, .int y0, .int x1, .int yy1, .ref pa, .ref ma])) g.1 1 = some (e_g s (mkL g [.int (Int32.ofNat l), .int (lR (s.2.1 142) l 1), .int (lR (s.2.1 142) l 2), .int (lR (s.2.1 142) l 4), .int (lR (s.2.1 142) l 5), .int 1, .int (lR (s.2.1 142) l 7), .int (lR (s.2.1 142) l 8), .int (lR (s.2.1 142) l 9), .int p, .int q, .int x0, .int y0, .int x1, .int yy1, .ref pa, .ref ma])) := m_sB hg (Or.inr rfl) (Nat.le_of_ble_eq_true rfl)
      have sB2 : q_sB 4 6 (e_g s (mkL g [.int (Int32.ofNat l), .int (lR (s.2.1 142) l 1), .int (lR (s.2.1 142) l 2), .int (lR (s.2.1 142) l 4), .int (lR (s.2.1 142) l 5), .int 1, .int (lR (s.2.1 142) l 7), .int (lR (s.2.1 142) l 8), .int (lR (s.2.1 142) l 9), .int p, .int q, .int x0, .int y0, .int x1, .int yy1, .ref pa, .ref ma])) g.1 0 = some (e_g s (mkL g [.int (Int32.ofNat l), .int (lR (s.2.1 142) l 1), .int (lR (s.2.1 142) l 2), .int (lR (s.2.1 142) l 4), .int (lR (s.2.1 142) l 5), .int 1, .int 0, .int (lR (s.2.1 142) l 8), .int (lR (s.2.1 142) l 9), .int p, .int q, .int x0, .int y0, .int x1, .int yy1, .ref pa, .ref ma])) := m_sB hg (Or.inl rfl) (Nat.le_of_ble_eq_true rfl)
      have hE1 := ext_mkL (g := g) (fs := [.int (Int32.ofNat l), .int (lR (s.2.1 142) l 1), .int (lR (s.2.1 142) l 2), .int (lR (s.2.1 142) l 4), .int (lR (s.2.1 142) l 5), .int 1, .int 0, .int (lR (s.2.1 142) l 8), .int (lR (s.2.1 142) l 9), .int p, .int q, .int x0, .int y0, .int x1, .int yy1, .ref pa, .ref ma])
      have n1 : (mkL g [.int (Int32.ofNat l), .int (lR (s.2.1 142) l 1), .int (lR (s.2.1 142) l 2), .int (lR (s.2.1 142) l 4), .int (lR (s.2.1 142) l 5), .int 1, .int 0, .int (lR (s.2.1 142) l 8), .int (lR (s.2.1 142) l 9), .int p, .int q, .int x0, .int y0, .int x1, .int yy1, .ref pa, .ref ma]).1 = g.1 + 1 := rfl
      have n2 : (mkL g [.int (Int32.ofNat l), .int (lR (s.2.1 142) l 1), .int (lR (s.2.1 142) l 2), .int (lR (s.2.1 142) l 4), .int (lR (s.2.1 142) l 5), .int 1, .int 0, .int (lR (s.2.1 142) l 8), .int (lR (s.2.1 142) l 9), .int p, .int q, .int x0, .int y0, .int x1, .int yy1, .ref pa, .ref ma]).2.1 = g.2.1 + 17 := rfl
      generalize mkL g [.int (Int32.ofNat l), .int (lR (s.2.1 142) l 1), .int (lR (s.2.1 142) l 2), .int (lR (s.2.1 142) l 4), .int (lR (s.2.1 142) l 5), .int 1, .int 0, .int (lR (s.2.1 142) l 8), .int (lR (s.2.1 142) l 9), .int p, .int q, .int x0, .int y0, .int x1, .int yy1, .ref pa, .ref ma] = g1' at sB2 hE1 hL1 n1 n2
      have e0 : ∀ s', q_len (e_g s' g1') 0 = some 0 := fun s' => d_len (n := 0) (Or.inr (Or.inl (by omega))) ((G11_ext hE1 h11).2.2.2.1 0 (by omega))
      have stw := fun s' => stW (s := s') (stN_ext hE1 f9)
      have hS1 : StD g1' a w h (s.2.1 142) la oa sz ly od o := ⟨hS.1, stE_ext hE1 hS.2⟩
      obtain ⟨s', t1, t2, t3⟩ := tog_1 (s0 := s) (s := s) (show 195 ≤ g1'.1 by omega) hS1 hk e0 (fun s' => (stw s').1) (fun s' => (stw s').2.1) kc hA hL1 hl
      have sm := sm_vw t2
      have hE2 : Ext g1' (mkA g1' (s'.2.1 22)) := ext_mkA
      have m1 : (mkA g1' (s'.2.1 22)).1 = g1'.1 + 1 := rfl
      have m2 : (mkA g1' (s'.2.1 22)).2.1 = g1'.2.1 + 576 := rfl
      have m3 : (mkA g1' (s'.2.1 22)).2.2 g1'.1 = .inl (0, (576, .inl (s'.2.1 22))) := nw_at
      generalize mkA g1' (s'.2.1 22) = g2' at t1 hE2 m1 m2 m3
      have hS2 : StD g2' a w h (s.2.1 142) la oa sz ly od o := ⟨hS.1, stE_ext hE2 hS1.2⟩
      obtain ⟨ly', od', ag9, hG, hly⟩ := stG_again (s := s') (show 195 ≤ g2'.1 by omega) hS2
      have ob9 : q_ob 9 (e_g s' g2') a = some () := (stW (stN_ext hE2 (stN_ext hE1 f9))).2.2.2
      have m4 : (mkS g2' (Int32.ofNat w) (Int32.ofNat h) ly' od' (Int32.ofNat sz) (s.2.1 142 35070)).1 = g2'.1 + 3 := rfl
      have m5 : (mkS g2' (Int32.ofNat w) (Int32.ofNat h) ly' od' (Int32.ofNat sz) (s.2.1 142 35070)).2.1 = g2'.2.1 + 66 := rfl
      have ob9' : q_ob 9 (e_g s' (mkS g2' (Int32.ofNat w) (Int32.ofNat h) ly' od' (Int32.ofNat sz) (s.2.1 142 35070))) g2'.1 = some () := S_ob (by omega)
      generalize mkS g2' (Int32.ofNat w) (Int32.ofNat h) ly' od' (Int32.ofNat sz) (s.2.1 142 35070) = g3' at ag9 hG m4 m5 ob9'
      have hV : ∀ k, k < w * h → s'.2.1 22 k = (laS (aD s w h) w h (vwF s w h sz o 31 (Int32.ofNat l)) true false 0 (lR (s.2.1 142) l) (fun _ => 0, fun _ => 0)).1 k := fun k hkk => by
        rw [t3 k hkk]
        have e1 : decide (¬ r67 (lR (s.2.1 142) l) 1 0 6 = 0) = true := decide_eq_true (show ¬ (1 : Int32) = 0 by decide)
        have e2 : decide (r67 (lR (s.2.1 142) l) 1 0 7 = 1) = false := decide_eq_false (show ¬ (0 : Int32) = 1 by decide)
        have e3 : r67 (lR (s.2.1 142) l) 1 0 5 = lR (s.2.1 142) l 5 := rfl
        rw [e1, e2, e3, laS_67 q3 r67_n, laS_md q3 z3 (md' := 0) (by decide)]
      have hRef := fun s0 G (a1 : s0.2.1 142 = s.2.1 142) b1 b2 hk0 => flat12 (s := s0) (g := G) (l := l) (w := w) (h := h) (sz := sz) (od := od) (o := o) f1 (show pc ≤ 24 by omega) b1 b2 hk0 hl (by rw [a1]; exact k3) (by rw [a1]; exact q3)
      have hk1 := cpOk_s hk sm
      have c8 : ∀ b, CpOk (fgC (rmC s' a b pc)) w h sz od o ∧ ∀ m P, vwF (fgC (rmC s' a b pc)) w h sz o m P = vwF s' w h sz o m P := fun b => cpOk_w hk1.1 (fun j hj => by
        have : ∀ j, j ∈ [142, 150, 152, 153, 154] → ¬ j = 88 ∧ ¬ j = 87 := by decide
        obtain ⟨n1, n2⟩ := this j hj
        unfold fgC rmC
        rw [A_sA, if_neg n1, A_sA, if_neg n2, A_sF, A_sR, A_sF, A_sF, A_sRr]) (fun j hj => by
        unfold fgC rmC
        simp (decide := true) only [ob_n, b2_n, tc_rn, tc_ln, F_sF, A_sF, R_sF, L_sF, F_sA, A_sA, R_sA, L_sA, F_sR, A_sR, R_sR, L_sR, F_sL, A_sL, R_sL, L_sL, and_true, true_and, and_false, false_and, and_self, reduceIte, sF_sF, sA_sA, false_or, or_false, true_or, or_true, not_false_eq_true, not_true_eq_false, decide_true, decide_false, Bool.true_or, Bool.or_true, Bool.false_and, Bool.true_and, Bool.false_or, Bool.or_false, Bool.and_true, Bool.and_false, F_sRr])
      have eN : ∀ b, (fgC (rmC s' a b pc)).2.1 142 = s.2.1 142 := fun b => by
        unfold fgC rmC
        simp (decide := true) only [ob_n, b2_n, tc_rn, tc_ln, F_sF, A_sF, R_sF, L_sF, F_sA, A_sA, R_sA, L_sA, F_sR, A_sR, R_sR, L_sR, F_sL, A_sL, R_sL, L_sL, and_true, true_and, and_false, false_and, and_self, reduceIte, sF_sF, sA_sA, false_or, or_false, true_or, or_true, not_false_eq_true, not_true_eq_false, decide_true, decide_false, Bool.true_or, Bool.or_true, Bool.false_and, Bool.true_and, Bool.false_or, Bool.or_false, Bool.and_true, Bool.and_false, A_sRr]
        exact sm.1 142 (by decide)
      have b10 : ∀ b, (fgC (rmC s' a b pc)).1 139 10 = Int32.ofNat st := fun b => by
        unfold fgC rmC
        simp (decide := true) only [ob_n, b2_n, tc_rn, tc_ln, F_sF, A_sF, R_sF, L_sF, F_sA, A_sA, R_sA, L_sA, F_sR, A_sR, R_sR, L_sR, F_sL, A_sL, R_sL, L_sL, and_true, true_and, and_false, false_and, and_self, reduceIte, sF_sF, sA_sA, false_or, or_false, true_or, or_true, not_false_eq_true, not_true_eq_false, decide_true, decide_false, Bool.true_or, Bool.or_true, Bool.false_and, Bool.true_and, Bool.false_or, Bool.or_false, Bool.and_true, Bool.and_false, F_sRr]
        exact (sm.2.1 (139, 10) (by decide)).trans f6
      have b11 : ∀ b, (fgC (rmC s' a b pc)).1 139 11 = Int32.ofNat pc := fun b => by
        unfold fgC rmC
        simp (decide := true) only [ob_n, b2_n, tc_rn, tc_ln, F_sF, A_sF, R_sF, L_sF, F_sA, A_sA, R_sA, L_sA, F_sR, A_sR, R_sR, L_sR, F_sL, A_sL, R_sL, L_sL, and_true, true_and, and_false, false_and, and_self, reduceIte, sF_sF, sA_sA, false_or, or_false, true_or, or_true, not_false_eq_true, not_true_eq_false, decide_true, decide_false, Bool.true_or, Bool.or_true, Bool.false_and, Bool.true_and, Bool.false_or, Bool.or_false, Bool.and_true, Bool.and_false, F_sRr]
        exact (sm.2.1 (139, 11) (by decide)).trans f7
      have aE : ∀ b, aD (fgC (rmC s' a b pc)) w h = aD s w h := fun b => by
        unfold aD fgC rmC
        simp (decide := true) only [ob_n, b2_n, tc_rn, tc_ln, F_sF, A_sF, R_sF, L_sF, F_sA, A_sA, R_sA, L_sA, F_sR, A_sR, R_sR, L_sR, F_sL, A_sL, R_sL, L_sL, and_true, true_and, and_false, false_and, and_self, reduceIte, sF_sF, sA_sA, false_or, or_false, true_or, or_true, not_false_eq_true, not_true_eq_false, decide_true, decide_false, Bool.true_or, Bool.or_true, Bool.false_and, Bool.true_and, Bool.false_or, Bool.or_false, Bool.and_true, Bool.and_false, F_sRr, A_sRr]
        rw [sm.1 152 (by decide), sm.1 153 (by decide), sm.1 154 (by decide), sm.1 150 (by decide)]
        have u1 : s'.1 139 25 = s.1 139 25 := sm.2.1 (139, 25) (by decide)
        have u2 : s'.1 139 26 = s.1 139 26 := sm.2.1 (139, 26) (by decide)
        rw [u1, u2]
      have rVV : ∀ V : Nat → Int32, (∀ k, k < w * h → V k = (laS (aD (fgC (rmC s' a g2'.1 pc)) w h) w h (vwF (fgC (rmC s' a g2'.1 pc)) w h sz o 31 (Int32.ofNat l)) true false 0 (lR ((fgC (rmC s' a g2'.1 pc)).2.1 142) l) (fun _ => 0, fun _ => 0)).1 k) → ∀ k, k < w * h → s'.2.1 22 k = V k := fun V e k hkk => by
        rw [e k hkk, hV k hkk, aE, eN, (c8 _).2, hk1.2]
      have lyb : LyN g2' b w h l (lR (s.2.1 142) l) := lyN_ext hE2 (lyN_ext hE1 hLy)
      obtain ⟨G1, G3, ri, obb, ⟨G2, ft, ob9'', ex⟩, u1, u2, u3, u4⟩ := stG_flat (s := s') (va := g1'.1) hwh hG hl k3 lyb (by omega) (by omega) m3
      have lo : ∀ j, j < g.1 → G3.2.2 j = g.2.2 j := fun j hj => by rw [u3 j (by omega), hE2.2.2.2.2 j (by omega), hE1.2.2.2.2 j hj]
      have hE : Ext g G3 := ⟨by omega, by omega, by omega, by omega, lo⟩
      have f3' : s'.2.2.1 8 0 = some a := (congrFun (sm.2.2 8 (Or.inl rfl)) 0).trans f3
      have f4' : s'.1 8 2 = Int32.ofNat pc := (sm.2.1 (8, 2) (by decide)).trans f4
      have e12 : s'.2.2.1 12 = s.2.2.1 12 := sm.2.2 12 (Or.inr (Or.inl rfl))
      obtain ⟨fsA, ca1, ca2⟩ := stN_cell f9
      have bc := become11 (s := s') (g := G3) (a := a) (b := g2'.1) (pc := pc) ca1 (by rw [lo _ f9.2.2.1]; exact ca2) f3' f4' (show pc ≤ 24 by omega) (fun i hi => by
        obtain ⟨b, z1, z2⟩ := f11 i hi
        obtain ⟨fs, z3, z4⟩ := stN_cell z2
        have z5 : b < g.1 := z2.2.2.1
        exact ⟨b, fs, by rw [e12]; exact z1, z3, by rw [lo _ z5]; exact z4⟩)
      obtain ⟨R, F, E, T, U, V, rr, rV⟩ := hRef (fgC (rmC s' a g2'.1 pc)) G3 (eN _) (b10 _) (b11 _) (c8 _).1
      have hN := u4 V (rVV V rV)
      rw [eN] at rr
      refine KV_r (s := s) ?_ rr ?_ (rel_sm (rel_edit hR h7 f1 f2 f9 f10 f11 hE hN) ?_) hE
      · have n4 : ¬ lR (s.2.1 142) l 1 = 4 := fun z => q3 (by rw [z]; decide)
        have n5 : ¬ lR (s.2.1 142) l 1 = 5 := fun z => q3 (by rw [z]; decide)
        unfold fX11_flat jX11_flat_22 jX11_flat_27 jX11_flat_69
        rw [ob8, ob_n, k2, tc_rn, ob_n, fK, ob_n, if_neg n4, ob_n, if_pos n5, refuse11 hg, if_pos rfl, tc_rn, ob_n, ob4, ob_n, ag4, b2_n, ob_n, sB1, ob_n, sB2, ob_n, f8_6, ob_n, ob_n, f8_0, f3, ob_n, ob_n, ob20, ob_n, t1, b2_n, f8_0, f3', ob_n, ob_n, ob9, ob_n, ag9, b2_n, ob_n, ob9', ob_n, ri, ob_n, ob_n, ob_n, obb, ob_n, ft, b2_n, ob_n, ob9'', ob_n, ex, ob_n, ob8, ob_n, bc, ob_n]
      · unfold fg12 edM
        simp (decide := true) only [ob_n, b2_n, tc_rn, tc_ln, F_sF, A_sF, R_sF, L_sF, F_sA, A_sA, R_sA, L_sA, F_sR, A_sR, R_sR, L_sR, F_sL, A_sL, R_sL, L_sL, and_true, true_and, and_false, false_and, and_self, reduceIte, sF_sF, sA_sA, false_or, or_false, true_or, or_true, not_false_eq_true, not_true_eq_false, decide_true, decide_false, Bool.true_or, Bool.or_true, Bool.false_and, Bool.true_and, Bool.false_or, Bool.or_false, Bool.and_true, Bool.and_false, cs_F]
      · unfold edS
        exact sm_fg (sm_edM (sm_A2 (sm_A (sm_tr (sm_tr (sm_frC sm) (sm_F (sm_F (sm_F sm_rf (by decide)) (by decide)) (by decide))) sm_cs) (by decide))))
