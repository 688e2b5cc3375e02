-- needs: 07 10 13 14 20 21 22 23 24 25 26 27 32 33 34 36 38 39 40 41 42 43 44 46 47 48 49 52 53 54 60 61 62 63 64 65 97c 97d 97e 97f
theorem flat4 {s : e_S} {g : ps_G} {b pa ma va : Nat} {i0 i1 i2 i3 i4 i5 i6 i7 i8 i9 i10 i11 i12 i13 i14 : Int32} (hg : 195 ≤ g.1) (hb : e_fr b) (hb2 : b < g.1) (h5 : i5 = 0 ∨ i5 = 1) (h6 : i6 = 0 ∨ i6 = 1) (hc : g.2.2 b = .inr (4, [.int i0, .int i1, .int i2, .int i3, .int i4, .int i5, .int i6, .int i7, .int i8, .int i9, .int i10, .int i11, .int i12, .int i13, .int i14, .ref pa, .ref ma])) : fX4_flattened (e_g s g) b va = some (some g.1, e_g s (mkL g [.int i0, .int 0, .int i2, .int 255, .int 0, .int i5, .int i6, .int 0, .int 0, .int i9, .int i10, .int i11, .int i12, .int i13, .int i14, .ref va, .ref 0])) := by
  have a0 : q_new 4 (e_g s g) = e_g s (ps_nw g 17 (.inr (4, [.int 0, .int 0, .int 0, .int 0, .int 0, .int 0, .int 0, .int 0, .int 0, .int 0, .int 0, .int 0, .int 0, .int 0, .int 0, .null, .null]))) := e_nw hg
  have e : (e_g s g).1 = g.1 := rfl
  have r := fun (k : Nat) (x : Int32) (e' : ps_E) (hk : [Value.int i0, .int i1, .int i2, .int i3, .int i4, .int i5, .int i6, .int i7, .int i8, .int i9, .int i10, .int i11, .int i12, .int i13, .int i14, .ref pa, .ref ma][k]? = some (.int x)) => m_fI (s := s) (N := 17) (e := e') hb hb2 hc hk
  have rr := fun (k : Nat) (x : Nat) (e' : ps_E) (hk : [Value.int i0, .int i1, .int i2, .int i3, .int i4, .int i5, .int i6, .int i7, .int i8, .int i9, .int i10, .int i11, .int i12, .int i13, .int i14, .ref pa, .ref ma][k]? = some (.ref x)) => m_fR (s := s) (N := 17) (e := e') hb hb2 hc hk
  have o1 : (1 : Int32) = 0 ∨ (1 : Int32) = 1 := Or.inr rfl
  simp (decide := true) only [fX4_flattened, fX4_init_, a0, e, ob_s, m_sI hg, m_sR hg, m_sB hg o1, m_sB hg h5, m_sB hg h6, List.length_cons, List.length_nil, List.set_cons_zero, List.set_cons_succ, r 0 i0 _ rfl, r 1 i1 _ rfl, r 2 i2 _ rfl, r 3 i3 _ rfl, r 4 i4 _ rfl, r 5 i5 _ rfl, r 6 i6 _ rfl, r 7 i7 _ rfl, r 8 i8 _ rfl, r 9 i9 _ rfl, r 10 i10 _ rfl, r 11 i11 _ rfl, r 12 i12 _ rfl, r 13 i13 _ rfl, r 14 i14 _ rfl, rr 15 pa _ rfl, rr 16 ma _ rfl, mkL]
/-- those inside l go, and l becomes pixels -/
theorem stG_flat {s : e_S} {g G : ps_G} {a la oa w h sz l b va : Nat} {N f : Nat → Int32} {ly : Nat → Option Nat} {od : Nat → Int32} {o : Nat → Nat} (hwh : w * h ≤ 576) (hS : StG g G a la oa w h N sz ly od o) (hl : l < 30) (k3 : N (1169 * l) = 1) (hLy : LyN g b w h l (lR N l)) (hv : 195 ≤ va) (hv2 : va < g.1) (hvc : g.2.2 va = .inl (0, (576, .inl f))) : ∃ G1 G3, fX9_removeInside (e_g s G) a (Int32.ofNat l) = some (e_g s G1) ∧ q_ob 4 (e_g s G1) b = some () ∧ (∃ G2, fX4_flattened (e_g s G1) b va = some (some G1.1, e_g s G2) ∧ q_ob 9 (e_g s G2) a = some () ∧ fX9_exchange (e_g s G2) a G1.1 = some (e_g s G3)) ∧ G3.1 = G.1 + 2 ∧ G3.2.1 = G.2.1 + 47 ∧ (∀ j, j < g.1 → G3.2.2 j = g.2.2 j) ∧ ∀ V : Nat → Int32, (∀ k, k < w * h → f k = V k) → StN G3 a w h (bpN N l V) := by
  have hSE := stG_E hS
  obtain ⟨t, hg, fr, a1, a2, a3, a4, a5, a6, a7, a8, a9, c1, c2, c3, ho, c10⟩ := hS
  obtain ⟨L, L1, L2, L3, L4, L5, L6⟩ := orD_L ho
  obtain ⟨G1, od1, ly1, w1, w2, w3, w4, w5, w6, w7⟩ := removeInside9 (s := s) (l := l) t (show 195 ≤ G.1 by omega) hSE hl L1 L2 (fun m q => (L3 m q).1)
  have fr1 : ∀ j, j < g.1 → G1.2.2 j = g.2.2 j := fun j hj => by rw [w4 j (by omega) (by omega) (by omega) (by omega), fr j hj]
  obtain ⟨y1, y2, p, q, x0, y0, x1, yy1, pa, ma, y3, z1, z2, z3, z4, z5, z6, z7, z8, z9, z10, z11, z12, z13, z14⟩ := id hLy
  have b5 : lR N l 6 = 0 ∨ lR N l 6 = 1 := rg01 z4
  have b6 : lR N l 7 = 0 ∨ lR N l 7 = 1 := rg01 z5
  have ft := flat4 (s := s) (g := G1) (va := va) (show 195 ≤ G1.1 by omega) y1 (show b < G1.1 by omega) b5 b6 (by rw [fr1 b y2]; exact y3)
  have obb : q_ob 4 (e_g s G1) b = some () := d_ob y1 (by rw [fr1 b y2]; exact y3)
  generalize hfs : [Value.int (Int32.ofNat l), .int 0, .int (lR N l 2), .int 255, .int 0, .int (lR N l 6), .int (lR N l 7), .int 0, .int 0, .int p, .int q, .int x0, .int y0, .int x1, .int yy1, .ref va, .ref 0] = fs at ft
  have lo2 : ∀ j, j < G1.1 → (mkL G1 fs).2.2 j = G1.2.2 j := fun j hj => nw_lo hj
  obtain ⟨s1, s2, s3, s4, s5, s6, s7, s8, s9, s10, s11⟩ := id w5
  have sc2 : SC (mkL G1 fs) a la oa (Int32.ofNat w) (Int32.ofNat h) ly1 od1 (Int32.ofNat (L.filter (fun x => !inB N l x)).length) (N 35070) := ⟨s1, s2, s3, s4, s5, s6, s7, s8, by rw [lo2 _ (by omega)]; exact s9, by rw [lo2 _ (by omega)]; exact s10, by rw [lo2 _ (by omega)]; exact s11⟩
  have cat : (mkL G1 fs).2.2 G1.1 = .inr (4, fs) := nw_at
  obtain ⟨G3, v1, v2, v3⟩ := SC.wR (s := s) (k := l) (o := some G1.1) sc2 hl (fun b' e => by
    cases e
    exact ⟨Or.inl (by omega), by show G1.1 < G1.1 + 1; omega, fs, cat⟩)
  have g3 : G3.1 = G.1 + 2 := by rw [v2.1]; show G1.1 + 1 = _; omega
  have g3s : G3.2.1 = G.2.1 + 47 := by rw [v2.2.1]; show G1.2.1 + 17 = _; omega
  have fr3 : ∀ j, j < g.1 → G3.2.2 j = g.2.2 j := fun j hj => by rw [v2.2.2 j (by omega) (by omega) (by omega), lo2 j (by omega), fr1 j hj]
  have r0 : q_fI 4 0 (e_g s (mkL G1 fs)) G1.1 = some (Int32.ofNat l) := d_fI (Or.inl (by omega)) cat (by rw [← hfs]; rfl)
  have n30 : ¬ (30 : Int32) ≤ Int32.ofNat l := nle (b := 30) hl (by decide)
  refine ⟨G1, G3, w1, obb, ⟨mkL G1 fs, ft, sc2.ob, ?_⟩, g3, g3s, fr3, fun V hV => ?_⟩
  · simp (decide := true) only [fX9_exchange, jX9_exchange_26, r0, n_neg (show l < 2147483648 by omega), n30, sc2.f2, v1, ob_n, b2_n, tc_rn, tc_ln, F_sF, A_sF, R_sF, L_sF, F_sA, A_sA, R_sA, L_sA, F_sR, A_sR, R_sR, L_sR, F_sL, A_sL, R_sL, L_sL, and_true, true_and, and_false, false_and, and_self, reduceIte, sF_sF, sA_sA, false_or, or_false, true_or, or_true, not_false_eq_true, not_true_eq_false, decide_true, decide_false, Bool.true_or, Bool.or_true, Bool.false_and, Bool.true_and, Bool.false_or, Bool.or_false, Bool.and_true, Bool.and_false]
  · obtain ⟨x1', x2, x3, x4, x5, x6, x7, x8, x9, x10, x11⟩ := v3
    have r2 : ∀ m, bpN N l V (1169 * m + 2) = N (1169 * m + 2) := fun m => by
      by_cases e : m = l
      · rw [e]; exact bpN_l (by omega)
      · exact bpN_m e (by omega) (by omega)
    have r3 : ∀ m, bpN N l V (1169 * m + 3) = N (1169 * m + 3) := fun m => by
      by_cases e : m = l
      · rw [e]; exact bpN_l (by omega)
      · exact bpN_m e (by omega) (by omega)
    refine ⟨trN_bp t hl k3, Or.inl (by omega), by omega, la, oa, (L.filter (fun x => !inB N l x)).length, rs ly1 l (some G1.1), od1, x2, x3, by omega, x4, x5, by omega, by rw [bpN_70 hl]; exact x9, x10, x11, ?_, fun m hm => ?_⟩
    · refine L_orN (Nat.le_trans (List.length_filter_le _ _) (by rw [L1]; exact ho.1)) w6 (fun m q => ?_) (L4.filter _) (fun m hm q => ?_) ?_
      · obtain ⟨q1, q2⟩ := List.mem_filter.mp q
        exact ⟨(L3 m q1).1, (bpN_1z t hl (L3 m q1).1).mpr ⟨(L3 m q1).2, by simpa using q2⟩⟩
      · obtain ⟨q1, q2⟩ := (bpN_1z t hl hm).mp q
        exact List.mem_filter.mpr ⟨L5 m hm q1, by rw [q2]; rfl⟩
      · refine (L6.filter _).imp (fun {x y} hxy e => ?_)
        rw [r2, r2] at e
        rw [r3, r3]
        exact hxy e
    · have hc := c10 m hm
      by_cases z : bpN N l V (1169 * m) = 1
      · obtain ⟨q1, q2⟩ := (bpN_1z t hl hm).mp z
        rw [if_pos z]
        rw [if_pos q1] at hc
        by_cases ml : m = l
        · subst ml
          rw [rs_s]
          refine ⟨G1.1, rfl, Or.inl (show 195 ≤ G1.1 by omega), (show G1.1 < G3.1 by omega), p, q, x0, y0, x1, yy1, va, 0, ?_, ?_⟩
          · have e1 : lR (bpN N m V) m 1 = 0 := bpN_1
            have e2 : lR (bpN N m V) m 2 = lR N m 2 := r2 m
            have e4 : lR (bpN N m V) m 4 = 255 := bpN_4
            have e5 : lR (bpN N m V) m 5 = 0 := bpN_5
            have e6 : lR (bpN N m V) m 6 = lR N m 6 := bpN_l (by omega)
            have e7 : lR (bpN N m V) m 7 = lR N m 7 := bpN_l (by omega)
            have e8 : lR (bpN N m V) m 8 = 0 := bpN_89 (k := 0) (by omega)
            have e9 : lR (bpN N m V) m 9 = 0 := bpN_89 (k := 1) (by omega)
            rw [e1, e2, e4, e5, e6, e7, e8, e9, hfs, v2.2.2 _ (by omega) (by omega) (by omega)]
            exact cat
          · have e1 : lR (bpN N m V) m 1 = 0 := bpN_1
            have e4 : lR (bpN N m V) m 4 = 255 := bpN_4
            have e5 : lR (bpN N m V) m 5 = 0 := bpN_5
            have e6 : lR (bpN N m V) m 6 = lR N m 6 := bpN_l (by omega)
            have e7 : lR (bpN N m V) m 7 = lR N m 7 := bpN_l (by omega)
            have e8 : lR (bpN N m V) m 8 = 0 := bpN_89 (k := 0) (by omega)
            have e9 : lR (bpN N m V) m 9 = 0 := bpN_89 (k := 1) (by omega)
            have e10 : lR (bpN N m V) m 10 = 0 := bpN_10
            have e11 : lR (bpN N m V) m 11 = 0 := bpN_11 (k := 0) (by omega)
            have e12 : lR (bpN N m V) m 12 = 0 := bpN_11 (k := 1) (by omega)
            have e13 : lR (bpN N m V) m 13 = 0 := bpN_11 (k := 2) (by omega)
            have e14 : lR (bpN N m V) m 14 = 0 := bpN_11 (k := 3) (by omega)
            have e15 : lR (bpN N m V) m 15 = 0 := bpN_11 (k := 4) (by omega)
            have e16 : lR (bpN N m V) m 16 = 0 := bpN_11 (k := 5) (by omega)
            rw [e1, e4, e5, e6, e7, e8, e9, e10, e11, e12, e13, e14, e15, e16]
            refine ⟨by decide, by decide, by decide, z4, z5, by decide, by decide, ?_, ?_, fun y => absurd y (by decide), fun y => absurd y (by decide), fun _ => ⟨Or.inl hv, (show 8 ≤ va by omega), (show va < G3.1 by omega), f, by rw [fr3 va hv2]; exact hvc, fun k hk => ?_⟩, ⟨fun y => absurd rfl y, (show 8 ≤ G1.1 by omega)⟩, Or.inl ⟨rfl, rfl⟩⟩
            · rw [if_pos (by decide)]; exact ⟨rfl, rfl⟩
            · rw [if_neg (by decide)]; exact ⟨rfl, rfl, rfl, rfl⟩
            · rw [hV k hk]
              exact (bpN_px (N := N) (l := m) (V := V) (k := k) (by omega)).symm
        · obtain ⟨b', b1, b2⟩ := hc
          refine ⟨b', ?_, lyN_03 hwh (fun j hj j0 j3 => bpN_m ml hj j0) (lyN_fr (by omega) fr3 b2)⟩
          rw [rs_n ml, w7 m hm, q2, if_neg (by decide)]
          exact b1
      · rw [if_neg z]
        have ml : ¬ m = l := fun e => z ((bpN_1z t hl hm).mpr (by rw [e]; exact ⟨k3, inB_s t hl k3⟩))
        rw [rs_n ml, w7 m hm]
        by_cases mi : inB N l m = true
        · rw [if_pos mi]
        · rw [if_neg mi]
          rw [if_neg (fun y => z ((bpN_1z t hl hm).mpr ⟨y, by simpa using mi⟩))] at hc
          exact hc
