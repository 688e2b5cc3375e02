-- needs: 07 10 13 14 20 21 22 23 24 25 26 27 32 33 34 36 38 39 40 41 42 43 44 46 47 48 49 53 54 60 61 62
/-! ===== a new LAYER of the class ===== -/
def nlF (l : Nat) (kind P : Int32) (pa : Nat) : List Value := [.int (Int32.ofNat l), .int kind, .int P, .int 255, .int 0, .int 1, .int 0, .int 0, .int 0, .int (if ¬ kind = 5 then 0 else 8), .int 0, .int 0, .int 0, .int 0, .int 0, .ref pa, .ref 0]
def nlG (g : ps_G) (l : Nat) (kind P : Int32) : ps_G := if kind = 0 then mk2 g (nlF l kind P (g.1 + 1)) (fun _ => 0) else mkL g (nlF l kind P 0)
theorem init4 {s : e_S} {g : ps_G} {l : Nat} {kind P : Int32} (hg : 195 ≤ g.1) : fX4_init (q_new 4 (e_g s g)) g.1 (Int32.ofNat l) kind P = some (e_g s (nlG g l kind P)) := by
  have a0 : q_new 4 (e_g s g) = e_g s (ps_nw g 17 (.inr (4, [.int 0, .int 0, .int 0, .int 0, .int 0, .int 0, .int 0, .int 0, .int 0, .int 0, .int 0, .int 0, .int 0, .int 0, .int 0, .null, .null]))) := e_nw hg
  have o1 : (1 : Int32) = 0 ∨ (1 : Int32) = 1 := Or.inr rfl
  unfold nlG nlF
  by_cases h0 : kind = 0
  · subst h0
    have nA := fun fs => nA_mk2 (s := s) (g := g) (fs := fs) hg
    unfold mkL at nA
    have e1 : ∀ fs, (e_g s (ps_nw g 17 (.inr (4, fs)))).1 = g.1 + 1 := fun fs => rfl
    have sR : ∀ fs v, 15 < fs.length → q_sR 4 15 (e_g s (mk2 g fs (fun _ => 0))) g.1 (some v) = some (e_g s (mk2 g (fs.set 15 (.ref v)) (fun _ => 0))) := by
      intro fs v hf
      rw [d_sR (Or.inl hg) mk2_0 hf]
      exact congrArg some (congrArg (e_g s) mk2_u0)
    simp (decide := true) only [fX4_init, jX4_init_69, a0, m_sI hg, m_sR hg, m_sB hg o1, List.length_cons, List.length_nil, List.set_cons_zero, List.set_cons_succ, nA, e1, ob_n, b2_n, tc_rn, tc_ln, F_sF, A_sF, R_sF, L_sF, F_sA, A_sA, R_sA, L_sA, F_sR, A_sR, R_sR, L_sR, F_sL, A_sL, R_sL, L_sL, and_true, true_and, and_false, false_and, and_self, reduceIte, sF_sF, sA_sA, false_or, or_false, true_or, or_true, not_false_eq_true, not_true_eq_false, decide_true, decide_false, Bool.true_or, Bool.or_true, Bool.false_and, Bool.true_and, Bool.false_or, Bool.or_false, Bool.and_true, Bool.and_false]
    rw [sR _ _ (Nat.le_of_ble_eq_true rfl)]
    rfl
  · simp (decide := true) only [fX4_init, jX4_init_69, a0, m_sI hg, m_sR hg, m_sB hg o1, List.length_cons, List.length_nil, List.set_cons_zero, List.set_cons_succ, h0, mkL, ob_n, b2_n, tc_rn, tc_ln, F_sF, A_sF, R_sF, L_sF, F_sA, A_sA, R_sA, L_sA, F_sR, A_sR, R_sR, L_sR, F_sL, A_sL, R_sL, L_sL, and_true, true_and, and_false, false_and, and_self, reduceIte, sF_sF, sA_sA, false_or, or_false, true_or, or_true, not_false_eq_true, not_true_eq_false, decide_true, decide_false, Bool.true_or, Bool.or_true, Bool.false_and, Bool.true_and, Bool.false_or, Bool.or_false, Bool.and_true, Bool.and_false]
theorem addL11 {s : e_S} {g G : ps_G} {a w h pc l x k : Nat} {N N' : Nat → Int32} {P : Int32} (hwh : w * h ≤ 576) (hg : 195 ≤ g.1) (hE : Ext g G) (hE2 : G.1 + 3 ≤ g.1 + 100 ∧ G.2.1 + 66 ≤ g.2.1 + 10000) (e0 : s.2.2.1 8 0 = some a) (e1 : s.1 8 2 = Int32.ofNat pc) (h2 : pc ≤ 24) (hp : ∀ i, i < pc → ∃ b N'', s.2.2.1 12 i = some b ∧ StN g b w h N'') (hs : StN g a w h N) (hl : l < 30) (hN70 : N 35070 = Int32.ofNat l) (hk : k ≤ cnt (chL N P) 30) (hP : isP N P = true) (hx : LyN G x w h l (lR N' l)) (n0 : N' (1169 * l) = 1) (n2 : N' (1169 * l + 2) = P) (n3 : N' (1169 * l + 3) = Int32.ofNat k) (no : ∀ m j, m < 30 → ¬ m = l → j < 1169 → ¬ j = 3 → N' (1169 * m + j) = N (1169 * m + j)) (ns : ∀ m, m < 30 → ¬ m = l → N (1169 * m) = 1 → N' (1169 * m + 3) = if N (1169 * m + 2) = P ∧ ¬ N (1169 * m + 3) < Int32.ofNat k then N (1169 * m + 3) + 1 else N (1169 * m + 3)) (n70 : N' 35070 = Int32.ofNat (l + 1)) : ∃ g2, fX11_addLayer (e_g s G) 8 x (Int32.ofNat k) = some (Int32.ofNat l, e_g (fgC (rmC s a G.1 pc)) g2) ∧ Ext g g2 ∧ StN g2 G.1 w h N' := by
  have hs1 := stN_ext hE hs
  have hG : 195 ≤ G.1 := Nat.le_trans hg hE.1
  have hob := (stW (s := s) hs1).2.2.2
  obtain ⟨la, oa, sz, ly, od, o, hD⟩ := stN_d hs1
  obtain ⟨t, h1, h2', c1, c0, c2, c3, c9, c4, c5, c6, c7, ho, c10⟩ := id hD
  obtain ⟨⟨n, ta1, ta2, ta3⟩, tb, tc, ⟨d, td⟩, te⟩ := id t
  have nl : n = l := by
    rw [hN70] at ta2
    exact ((n_eq (by omega) (by omega)).mp ta2).symm
  subst nl
  have hd : ¬ N (1169 * n) = 1 := by rw [ta3 n (Nat.le_refl _) hl]; decide
  have hsz : sz < 30 := by
    rw [← live_sz ho]
    have := cnt_lt (P := fun l => decide (N (1169 * l) = 1)) (Q := fun _ => true) (n := 30) (p := n) (fun _ _ _ => rfl) hl (decide_eq_false hd) rfl
    rw [cnt_all] at this
    exact this
  have hk30 : k ≤ 30 := Nat.le_trans hk cnt_le
  have noz : ∀ m, m < 30 → ¬ m = n → N' (1169 * m) = N (1169 * m) ∧ N' (1169 * m + 2) = N (1169 * m + 2) := fun m hm hne => ⟨no m 0 hm hne (by omega) (by omega), no m 2 hm hne (by omega) (by omega)⟩
  have ag := again9 (s := s) hG h1 h2' c1 c2 c3 c4 c5 c6 c7 (okL_st c10)
  obtain ⟨y1, y2, p, q, x0, y0, x1, yy1, pa, ma, y3, -⟩ := id hx
  have r2 : lR N' n 2 = P := n2
  rw [r2] at y3
  have hSE : StE (mkS G (Int32.ofNat w) (Int32.ofNat h) (cR ly 30) (cI od 30) (Int32.ofNat sz) (N 35070)) G.1 w h N (G.1 + 1) (G.1 + 2) sz (cR ly 30) (cI od 30) o := by
    refine ⟨Or.inl hG, by show G.1 < G.1 + 3; omega, Or.inl (by omega), by omega, by show G.1 + 1 < G.1 + 3; omega, Or.inl (by omega), by omega, by show G.1 + 2 < G.1 + 3; omega, mkS_0, mkS_1, mkS_2, ⟨ho.1, fun i hi => ⟨by rw [cI_lt (by omega)]; exact (ho.2.1 i hi).1, (ho.2.1 i hi).2⟩, ho.2.2.1, ho.2.2.2.1, ho.2.2.2.2⟩, fun m hm => ?_⟩
    have hc := c10 m hm
    rw [cR_lt hm]
    by_cases z : N (1169 * m) = 1
    · rw [if_pos z] at hc ⊢
      obtain ⟨b, b1, b2⟩ := hc
      exact ⟨b, b1, lyN_ext ext_mkS b2⟩
    · rw [if_neg z] at hc ⊢; exact hc
  obtain ⟨g1, od1, W, w1, w2, w3, w4, w5, w6⟩ := insert9 (s := s) (P := P) hSE hsz y1 (show x < G.1 + 3 by omega) (by rw [mkS_lo y2]; exact y3) rfl rfl hl hk30
  obtain ⟨g2, v1, v2, v3⟩ := w3.s5 (s := s) (v := Int32.ofNat (n + 1))
  have fx := fx_tr w2 v2
  have lo : ∀ j, j < G.1 → g2.2.2 j = G.2.2 j := fun j hj => by rw [fx.2.2 j (by omega) (by omega) (by omega), mkS_lo hj]
  have hE3 : Ext G g2 := ⟨by rw [fx.1]; show G.1 ≤ G.1 + 3; omega, by rw [fx.1]; show G.1 + 3 ≤ G.1 + 100; omega, by rw [fx.2.1]; show G.2.1 ≤ G.2.1 + 66; omega, by rw [fx.2.1]; show G.2.1 + 66 ≤ G.2.1 + 10000; omega, lo⟩
  have hE4 : Ext g g2 := ext_tr hE ⟨hE3.1, by rw [fx.1]; exact hE2.1, hE3.2.2.1, by rw [fx.2.1]; exact hE2.2, lo⟩
  have bc := become11 (s := s) (g := g2) (a := a) (b := G.1) (pc := pc) h1 (by rw [lo _ h2']; exact c5) e0 e1 h2 (fun i hi => by
    obtain ⟨b, N'', z1, z2⟩ := hp i hi
    obtain ⟨fs, z3, z4⟩ := stN_cell (stN_ext hE z2)
    have z5 : b < G.1 := (stN_ext hE z2).2.2.1
    exact ⟨b, fs, z1, z3, by rw [lo _ z5]; exact z4⟩)
  have r0 : ∀ s', q_fI 4 0 (e_g s' g2) x = some (Int32.ofNat n) := fun s' => d_fI y1 (by rw [lo _ y2]; exact y3) rfl
  have f5 := w3.f5 (s := s)
  rw [hN70] at f5
  have obG : q_ob 9 (e_g s (mkS G (Int32.ofNat w) (Int32.ofNat h) (cR ly 30) (cI od 30) (Int32.ofNat sz) (N 35070))) G.1 = some () := S_ob hG
  refine ⟨g2, ?_, hE4, ?_⟩
  · simp (decide := true) only [fX11_addLayer, f8_0, e0, hob, ag, obG, w1, f5, n_suc, v1, ob8, bc, r0, ob_n, b2_n, tc_rn, tc_ln, F_sF, A_sF, R_sF, L_sF, F_sA, A_sA, R_sA, L_sA, F_sR, A_sR, R_sR, L_sR, F_sL, A_sL, R_sL, L_sL, and_true, true_and, and_false, false_and, and_self, reduceIte, sF_sF, sA_sA, false_or, or_false, true_or, or_true, not_false_eq_true, not_true_eq_false, decide_true, decide_false, Bool.true_or, Bool.or_true, Bool.false_and, Bool.true_and, Bool.false_or, Bool.or_false, Bool.and_true, Bool.and_false]
  · obtain ⟨k1, k2, k3, k4, k5, k6, k7, k8, k9, k10, k11⟩ := v3
    refine ⟨⟨⟨n + 1, by omega, n70, fun m h1 h2 => by rw [(noz m h2 (by omega)).1]; exact ta3 m (by omega) h2⟩, fun m hm => ?_, fun m hm hm1 => ?_, ?_, ins_pl te ho hsz hl hd n0 n2 n3 hk noz ns⟩, Or.inl hG, by rw [fx.1]; show G.1 < G.1 + 3; omega, G.1 + 1, G.1 + 2, sz + 1, _, od1, k2, k3, by rw [fx.1]; show G.1 + 1 < G.1 + 3; omega, k4, k5, by rw [fx.1]; show G.1 + 2 < G.1 + 3; omega, by rw [n70]; exact k9, k10, k11, ins_or te ho hl hd n0 n2 n3 hk30 noz ns hsz w4 w5 w6, fun m hm => ?_⟩
    · by_cases z : m = n
      · rw [z]; exact Or.inr n0
      · rw [(noz m hm z).1]; exact tb m hm
    · by_cases z : m = n
      · subst z
        rw [n2]
        rcases isP_n hP with y | ⟨p, p1, p2, p3, p4⟩
        · exact Or.inl y
        · have pn : ¬ p = m := fun e => hd (by rw [← e]; exact p3)
          exact Or.inr ⟨p, p1, p2, by rw [(noz p p1 pn).1]; exact p3, by rw [no p 1 p1 pn (by omega) (by omega)]; exact p4⟩
      · rw [(noz m hm z).1] at hm1
        rw [(noz m hm z).2]
        rcases tc m hm hm1 with y | ⟨p, p1, p2, p3, p4⟩
        · exact Or.inl y
        · have pn : ¬ p = n := fun e => hd (by rw [← e]; exact p3)
          exact Or.inr ⟨p, p1, p2, by rw [(noz p p1 pn).1]; exact p3, by rw [no p 1 p1 pn (by omega) (by omega)]; exact p4⟩
    · refine ⟨fun m => if m = n then (if P < 0 then 0 else d P.toInt.toNat + 1) else d m, fun m hm hm1 p hp hq => ?_⟩
      by_cases z : m = n
      · subst z
        rw [n2] at hq
        dsimp only
        rw [if_pos rfl, hq, if_neg (n_neg (by omega)), n_int (by omega), Int.toNat_natCast]
        rcases isP_n hP with y | ⟨p', p1, p2, p3, p4⟩
        · rw [y] at hq; exact absurd hq (neg1_n (by omega))
        · rw [p2] at hq
          have := (n_eq (by omega) (by omega)).mp hq
          subst this
          have pn : ¬ p' = m := fun e => hd (by rw [← e]; exact p3)
          rw [if_neg pn]; omega
      · rw [(noz m hm z).1] at hm1
        rw [(noz m hm z).2] at hq
        have pn : ¬ p = n := by
          intro e
          rcases tc m hm hm1 with y | ⟨p', p1, p2, p3, p4⟩
          · rw [y] at hq; exact absurd hq (neg1_n (by omega))
          · rw [p2] at hq
            have := (n_eq (by omega) (by omega)).mp hq
            rw [this, e] at p3
            exact hd p3
        dsimp only
        rw [if_neg z, if_neg pn]
        exact td m hm hm1 p hp hq
    · by_cases z : m = n
      · subst z
        rw [if_pos n0]
        exact ⟨x, rs_s, lyN_ext hE3 hx⟩
      · rw [(noz m hm z).1, rs_n z, cR_lt hm]
        have hc := c10 m hm
        by_cases z2 : N (1169 * m) = 1
        · rw [if_pos z2] at hc ⊢
          obtain ⟨b, b1, b2⟩ := hc
          refine ⟨b, b1, lyN_ext hE3 ?_⟩
          obtain ⟨m1, m2, p, q, x0, y0, x1, y1, pa, ma, m3, cc⟩ := b2
          have er : ∀ j, j < 1169 → ¬ j = 3 → lR N' m j = lR N m j := fun j hj h3 => no m j hm z hj h3
          refine ⟨m1, m2, p, q, x0, y0, x1, y1, pa, ma, ?_, ?_⟩
          · rw [er 1 (by omega) (by omega), er 2 (by omega) (by omega), er 4 (by omega) (by omega), er 5 (by omega) (by omega), er 6 (by omega) (by omega), er 7 (by omega) (by omega), er 8 (by omega) (by omega), er 9 (by omega) (by omega)]
            exact m3
          · obtain ⟨c1, c2, c3, c4, c5, c6, c7, c8, c9, c10, c11, c12, c13, c14⟩ := cc
            rw [er 1 (by omega) (by omega), er 4 (by omega) (by omega), er 5 (by omega) (by omega), er 6 (by omega) (by omega), er 7 (by omega) (by omega), er 8 (by omega) (by omega), er 9 (by omega) (by omega), er 10 (by omega) (by omega), er 11 (by omega) (by omega), er 12 (by omega) (by omega), er 13 (by omega) (by omega), er 14 (by omega) (by omega), er 15 (by omega) (by omega), er 16 (by omega) (by omega)]
            refine ⟨c1, c2, c3, c4, c5, c6, c7, c8, c9, c10, c11, fun hk => ?_, c13, ?_⟩
            · obtain ⟨d1, d0, d2, f, d3, d4⟩ := c12 hk
              exact ⟨d1, d0, d2, f, d3, fun k hk => by rw [er _ (by omega) (by omega)]; exact d4 k hk⟩
            · rcases c14 with c | ⟨d1, d2, d0, d3, f, d4, d5⟩
              · exact Or.inl c
              · exact Or.inr ⟨d1, d2, d0, d3, f, d4, fun k hk => by rw [er _ (by omega) (by omega)]; exact d5 k hk⟩
        · rw [if_neg z2] at hc ⊢; exact hc
theorem layer12 {s : e_S} {g : ps_G} {kind P k : Int32} {st pc n : Nat} (h1 : st < 25) (h2 : pc ≤ 24) (e1 : s.1 139 10 = Int32.ofNat st) (e2 : s.1 139 11 = Int32.ofNat pc) (hn : n ≤ 30) (e : s.2.1 142 35070 = Int32.ofNat n) : fX12_layer (e_g s g) 139 kind P k = if rg kind 0 5 = false ∨ (isP (s.2.1 142) P = true ∧ rg k 0 (Int32.ofNat (cnt (chL (s.2.1 142) P) 30)) = false) then some (0, e_g (sF s 139 0 1) g) else if isP (s.2.1 142) P then (if n = 30 then some (0, e_g (sF s 139 0 3) g) else some (Int32.ofNat n, e_g (fg12 (edM (sA (sF s 139 0 0) 142 (nlN (s.2.1 142) kind P k n)) st pc)) g)) else some (0, e_g (sF s 139 0 2) g) := by
  have i70 : (35070 : Int32).toNatClampNeg = 35070 := by decide
  have n70 : ¬ ((35070 : Int32) < 0 ∨ 35071 ≤ 35070) := by decide
  have c30 : Int32.ofNat n = 30 ↔ n = 30 := by
    rw [show (30 : Int32) = Int32.ofNat 30 from rfl, n_eq (by omega) (by omega)]
  have ed := fun s' q1 q2 => edited12 (s := s') (g := g) h1 h2 q1 q2
  have f1 : ∀ v : Int32, ¬ v ≤ 0 → jX12_layer_78 (e_g s g) 139 kind P k 139 v = some (0, e_g (sF s 139 0 v) g) := by
    intro v hv
    simp (decide := true) only [jX12_layer_78, w139_0, f139_0, hv, ob_n, b2_n, tc_rn, tc_ln, F_sF, A_sF, R_sF, L_sF, F_sA, A_sA, R_sA, L_sA, F_sR, A_sR, R_sR, L_sR, F_sL, A_sL, R_sL, L_sL, and_true, true_and, and_false, false_and, and_self, reduceIte, sF_sF, sA_sA, false_or, or_false, true_or, or_true, not_false_eq_true, not_true_eq_false, decide_true, decide_false, Bool.true_or, Bool.or_true, Bool.false_and, Bool.true_and, Bool.false_or, Bool.or_false, Bool.and_true, Bool.and_false]
  by_cases q1 : rg kind 0 5 = true
  · by_cases q2 : isP (s.2.1 142) P = true
    · by_cases q3 : rg k 0 (Int32.ofNat (cnt (chL (s.2.1 142) P) 30)) = true
      · rw [if_neg (by rw [q1, q2, q3]; simp), if_pos q2]
        by_cases q4 : n = 30
        · have e30 : Int32.ofNat n = 30 := c30.mpr q4
          rw [if_pos q4]
          simp (decide := true) only [fX12_layer, jX12_layer_38, jX12_layer_39, ob139, isParent12, q2, rin, q1, many12, q3, f139_8, a142, i70, n70, e, e30, f1 3 (by decide), ob_n, b2_n, tc_rn, tc_ln, F_sF, A_sF, R_sF, L_sF, F_sA, A_sA, R_sA, L_sA, F_sR, A_sR, R_sR, L_sR, F_sL, A_sL, R_sL, L_sL, and_true, true_and, and_false, false_and, and_self, reduceIte, sF_sF, sA_sA, false_or, or_false, true_or, or_true, not_false_eq_true, not_true_eq_false, decide_true, decide_false, Bool.true_or, Bool.or_true, Bool.false_and, Bool.true_and, Bool.false_or, Bool.or_false, Bool.and_true, Bool.and_false]
        · have e30 : ¬ Int32.ofNat n = 30 := fun z => q4 (c30.mp z)
          rw [if_neg q4]
          have nw := newLayer12 (s := sF s 139 0 0) (g := g) (kind := kind) (P := P) (k := k) (l := n) (by omega) (by rw [A_sF]; exact e)
          rw [A_sF] at nw
          have go : jX12_layer_78 (e_g s g) 139 kind P k 139 0 = some (Int32.ofNat n, e_g (fg12 (edM (sA (sF s 139 0 0) 142 (nlN (s.2.1 142) kind P k n)) st pc)) g) := by
            simp (decide := true) only [jX12_layer_78, w139_0, f139_0, ob139, nw, ob_n, b2_n, tc_rn, tc_ln, F_sF, A_sF, R_sF, L_sF, F_sA, A_sA, R_sA, L_sA, F_sR, A_sR, R_sR, L_sR, F_sL, A_sL, R_sL, L_sL, and_true, true_and, and_false, false_and, and_self, reduceIte, sF_sF, sA_sA, false_or, or_false, true_or, or_true, not_false_eq_true, not_true_eq_false, decide_true, decide_false, Bool.true_or, Bool.or_true, Bool.false_and, Bool.true_and, Bool.false_or, Bool.or_false, Bool.and_true, Bool.and_false]
            rw [ed _ (by simp (decide := true) only [ob_n, b2_n, tc_rn, tc_ln, F_sF, A_sF, R_sF, L_sF, F_sA, A_sA, R_sA, L_sA, F_sR, A_sR, R_sR, L_sR, F_sL, A_sL, R_sL, L_sL, and_true, true_and, and_false, false_and, and_self, reduceIte, sF_sF, sA_sA, false_or, or_false, true_or, or_true, not_false_eq_true, not_true_eq_false, decide_true, decide_false, Bool.true_or, Bool.or_true, Bool.false_and, Bool.true_and, Bool.false_or, Bool.or_false, Bool.and_true, Bool.and_false, e1]) (by simp (decide := true) only [ob_n, b2_n, tc_rn, tc_ln, F_sF, A_sF, R_sF, L_sF, F_sA, A_sA, R_sA, L_sA, F_sR, A_sR, R_sR, L_sR, F_sL, A_sL, R_sL, L_sL, and_true, true_and, and_false, false_and, and_self, reduceIte, sF_sF, sA_sA, false_or, or_false, true_or, or_true, not_false_eq_true, not_true_eq_false, decide_true, decide_false, Bool.true_or, Bool.or_true, Bool.false_and, Bool.true_and, Bool.false_or, Bool.or_false, Bool.and_true, Bool.and_false, e2])]
            simp (decide := true) only [ob_n, b2_n, tc_rn, tc_ln, F_sF, A_sF, R_sF, L_sF, F_sA, A_sA, R_sA, L_sA, F_sR, A_sR, R_sR, L_sR, F_sL, A_sL, R_sL, L_sL, and_true, true_and, and_false, false_and, and_self, reduceIte, sF_sF, sA_sA, false_or, or_false, true_or, or_true, not_false_eq_true, not_true_eq_false, decide_true, decide_false, Bool.true_or, Bool.or_true, Bool.false_and, Bool.true_and, Bool.false_or, Bool.or_false, Bool.and_true, Bool.and_false, ob139, forget12, fg12]
          simp (decide := true) only [fX12_layer, jX12_layer_38, jX12_layer_39, ob139, isParent12, q2, rin, q1, many12, q3, f139_8, a142, i70, n70, e, e30, go, ob_n, b2_n, tc_rn, tc_ln, F_sF, A_sF, R_sF, L_sF, F_sA, A_sA, R_sA, L_sA, F_sR, A_sR, R_sR, L_sR, F_sL, A_sL, R_sL, L_sL, and_true, true_and, and_false, false_and, and_self, reduceIte, sF_sF, sA_sA, false_or, or_false, true_or, or_true, not_false_eq_true, not_true_eq_false, decide_true, decide_false, Bool.true_or, Bool.or_true, Bool.false_and, Bool.true_and, Bool.false_or, Bool.or_false, Bool.and_true, Bool.and_false]
      · rw [if_pos (Or.inr ⟨q2, by simpa using q3⟩)]
        simp (decide := true) only [fX12_layer, jX12_layer_34, jX12_layer_39, ob139, isParent12, q2, rin, q1, many12, q3, f1 1 (by decide), ob_n, b2_n, tc_rn, tc_ln, F_sF, A_sF, R_sF, L_sF, F_sA, A_sA, R_sA, L_sA, F_sR, A_sR, R_sR, L_sR, F_sL, A_sL, R_sL, L_sL, and_true, true_and, and_false, false_and, and_self, reduceIte, sF_sF, sA_sA, false_or, or_false, true_or, or_true, not_false_eq_true, not_true_eq_false, decide_true, decide_false, Bool.true_or, Bool.or_true, Bool.false_and, Bool.true_and, Bool.false_or, Bool.or_false, Bool.and_true, Bool.and_false]
    · have q2' : isP (s.2.1 142) P = false := by simpa using q2
      rw [if_neg (by rw [q1, q2']; simp), if_neg (by rw [q2']; simp)]
      simp (decide := true) only [fX12_layer, jX12_layer_38, jX12_layer_39, ob139, isParent12, q2', rin, q1, f1 2 (by decide), ob_n, b2_n, tc_rn, tc_ln, F_sF, A_sF, R_sF, L_sF, F_sA, A_sA, R_sA, L_sA, F_sR, A_sR, R_sR, L_sR, F_sL, A_sL, R_sL, L_sL, and_true, true_and, and_false, false_and, and_self, reduceIte, sF_sF, sA_sA, false_or, or_false, true_or, or_true, not_false_eq_true, not_true_eq_false, decide_true, decide_false, Bool.true_or, Bool.or_true, Bool.false_and, Bool.true_and, Bool.false_or, Bool.or_false, Bool.and_true, Bool.and_false]
  · rw [if_pos (Or.inl (by simpa using q1))]
    simp (decide := true) only [fX12_layer, jX12_layer_34, jX12_layer_39, ob139, isParent12, rin, q1, f1 1 (by decide), ob_n, b2_n, tc_rn, tc_ln, F_sF, A_sF, R_sF, L_sF, F_sA, A_sA, R_sA, L_sA, F_sR, A_sR, R_sR, L_sR, F_sL, A_sL, R_sL, L_sL, and_true, true_and, and_false, false_and, and_self, reduceIte, sF_sF, sA_sA, false_or, or_false, true_or, or_true, not_false_eq_true, not_true_eq_false, decide_true, decide_false, Bool.true_or, Bool.or_true, Bool.false_and, Bool.true_and, Bool.false_or, Bool.or_false, Bool.and_true, Bool.and_false]
/-- the new LAYER of the class, and its row -/
theorem nlLy {g : ps_G} {N : Nat → Int32} {w h l : Nat} {kind P k : Int32} (hwh : w * h ≤ 576) (hg : 195 ≤ g.1) (hk : rg kind 0 5) : Ext g (nlG g l kind P) ∧ (nlG g l kind P).1 ≤ g.1 + 2 ∧ (nlG g l kind P).2.1 ≤ g.2.1 + 593 ∧ LyN (nlG g l kind P) g.1 w h l (lR (nlN N kind P k l) l) := by
  have e : ∀ j, j < 1169 → lR (nlN N kind P k l) l j = nlR kind P k j := fun j hj => nlN_l hj
  have v1 : nlR kind P k 1 = kind := rfl
  have v2 : nlR kind P k 2 = P := rfl
  have v4 : nlR kind P k 4 = 255 := rfl
  have v5 : nlR kind P k 5 = 0 := rfl
  have v6 : nlR kind P k 6 = 1 := rfl
  have v7 : nlR kind P k 7 = 0 := rfl
  have v8 : nlR kind P k 8 = 0 := rfl
  have v9 : nlR kind P k 9 = 0 := rfl
  have v10 : nlR kind P k 10 = 0 := rfl
  have v11 : nlR kind P k 11 = if ¬ kind = 5 then 0 else 8 := by
    by_cases z : kind = 5
    · rw [if_neg (fun q => q z)]
      show (if (11 : Nat) = 11 ∧ kind = 5 then (8 : Int32) else 0) = 8
      rw [if_pos ⟨rfl, z⟩]
    · rw [if_pos z]
      show (if (11 : Nat) = 11 ∧ kind = 5 then (8 : Int32) else 0) = 0
      rw [if_neg (fun q => z q.2)]
  have v12 : ∀ j, 12 ≤ j → nlR kind P k j = 0 := by
    intro j hj
    unfold nlR
    rw [if_neg (by omega), if_neg (by omega), if_neg (by omega), if_neg (by omega), if_neg (by omega), if_neg (by omega), if_neg (fun z => by omega)]
  have kk : kind = 0 ∨ kind = 1 ∨ kind = 2 ∨ kind = 3 ∨ kind = 4 ∨ kind = 5 := by
    rw [rg_i] at hk
    have h0 : 0 ≤ kind.toInt := hk.1
    have h1 : kind.toInt ≤ 5 := hk.2
    obtain ⟨n, rfl, hn⟩ : ∃ n : Nat, kind = Int32.ofNat n ∧ n < 6 := ⟨kind.toInt.toNat, n_of (by omega), by omega⟩
    have : n = 0 ∨ n = 1 ∨ n = 2 ∨ n = 3 ∨ n = 4 ∨ n = 5 := by omega
    rcases this with rfl | rfl | rfl | rfl | rfl | rfl <;> decide
  have core : ∀ (G : ps_G) (pa : Nat), g.1 < G.1 → G.2.2 g.1 = .inr (4, nlF l kind P pa) → (kind = 0 → e_fr pa ∧ 8 ≤ pa ∧ pa < G.1 ∧ ∃ f, G.2.2 pa = .inl (0, (576, .inl f)) ∧ ∀ k, k < w * h → f k = 0) → (¬ kind = 0 → pa = 0) → w * h ≤ 576 → LyN G g.1 w h l (lR (nlN N kind P k l) l) := by
    intro G pa hG hc h0 h1 hwh
    refine ⟨Or.inl hg, hG, (if ¬ kind = 5 then 0 else 8), 0, 0, 0, 0, 0, pa, 0, ?_, ?_, ?_, ?_, ?_, ?_, ?_, ?_, ?_, ?_, ?_, ?_, ?_, ⟨?_, by omega⟩, Or.inl ⟨?_, rfl⟩⟩
    · rw [e 1 (by omega), e 2 (by omega), e 4 (by omega), e 5 (by omega), e 6 (by omega), e 7 (by omega), e 8 (by omega), e 9 (by omega), v1, v2, v4, v5, v6, v7, v8, v9]
      exact hc
    · rw [e 1 (by omega), v1]; exact hk
    · rw [e 4 (by omega), v4]; decide
    · rw [e 5 (by omega), v5]; decide
    · rw [e 6 (by omega), v6]; decide
    · rw [e 7 (by omega), v7]; decide
    · rw [e 8 (by omega), v8]; decide
    · rw [e 9 (by omega), v9]; decide
    · rw [e 1 (by omega), v1, e 11 (by omega), v11, e 12 (by omega), v12 12 (by omega)]
      rcases kk with rfl | rfl | rfl | rfl | rfl | rfl <;> decide
    · rw [e 1 (by omega), v1, e 13 (by omega), e 14 (by omega), e 15 (by omega), e 16 (by omega), v12 13 (by omega), v12 14 (by omega), v12 15 (by omega), v12 16 (by omega)]
      rcases kk with rfl | rfl | rfl | rfl | rfl | rfl <;> decide
    · rw [e 1 (by omega), v1]
      rintro rfl; decide
    · rw [e 1 (by omega), v1]
      rintro rfl; decide
    · rw [e 1 (by omega), v1]
      intro z
      obtain ⟨d1, d2, d3, f, d4, d5⟩ := h0 z
      exact ⟨d1, d2, d3, f, d4, fun k hk => by rw [e _ (by omega), v12 _ (by omega)]; exact d5 k hk⟩
    · rw [e 1 (by omega), v1]; exact h1
    · rw [e 10 (by omega)]; exact v10
  unfold nlG
  by_cases z : kind = 0
  · rw [if_pos z]
    refine ⟨ext_mk2, Nat.le_refl _, Nat.le_refl _, core _ (g.1 + 1) (show g.1 < g.1 + 2 by omega) mk2_0 (fun _ => ⟨Or.inl (by omega), by omega, (show g.1 + 1 < g.1 + 2 by omega), _, mk2_1, fun _ _ => rfl⟩) (fun y => absurd z y) hwh⟩
  · rw [if_neg z]
    refine ⟨ext_mkL, (show g.1 + 1 ≤ g.1 + 2 by omega), (show g.2.1 + 17 ≤ g.2.1 + 593 by omega), core _ 0 (Nat.lt_succ_self _) nw_at (fun y => absurd y z) (fun _ => rfl) hwh⟩
theorem K_layer {s : e_S} {g : ps_G} {kind P k : Int32} (hR : Rel s g) : KI (fL_layer (e_g s g) 8 kind P k 194) (fun G => fX12_layer G 139 kind P k) g := by
  have hg := rel_g hR
  obtain ⟨h1, h2, h3, h4, h5, h6, ⟨w, h, h7, h8, h9⟩, h10, h11⟩ := id hR
  obtain ⟨a, st, pc, uc, f1, f2, f3, f4, f5, f6, f7, f8, f9, f10, f11, f12⟩ := h9
  have hwh := wh_le h7.2.1 h7.2.2.2.1
  obtain ⟨s0, s1, s5, sob⟩ := stW (s := s) f9
  obtain ⟨⟨n, ta1, ta2, ta3⟩, tb, tc, td, te⟩ := id f9.1
  obtain ⟨la, oa, sz, ly, od, o, hD⟩ := stN_d f9
  have am := among9 (s := s) (P := P) hD
  have hm0 := fun s' g e1 e2 e3 => layer12 (s := s') (g := g) (kind := kind) (P := P) (k := k) f1 (show pc ≤ 24 by omega) e1 e2 ta1 e3
  have ho9 := holds9 (s := s) (P := P) f9
  have e3 : ps_nw (e_g s g) 6 ps_e0 = e_g s (nx g) := e_nw hg
  by_cases q1 : rg kind 0 5
  · by_cases q2 : isP (s.2.1 142) P = true
    · have np : fX11_needParent (e_g s g) 8 P = some (.inr (), e_g s g) := by
        simp (decide := true) only [fX11_needParent, f8_0, f3, sob, ho9, q2, ob_n, b2_n, tc_rn, tc_ln, F_sF, A_sF, R_sF, L_sF, F_sA, A_sA, R_sA, L_sA, F_sR, A_sR, R_sR, L_sR, F_sL, A_sL, R_sL, L_sL, and_true, true_and, and_false, false_and, and_self, reduceIte, sF_sF, sA_sA, false_or, or_false, true_or, or_true, not_false_eq_true, not_true_eq_false, decide_true, decide_false, Bool.true_or, Bool.or_true, Bool.false_and, Bool.true_and, Bool.false_or, Bool.or_false, Bool.and_true, Bool.and_false]
      by_cases q3 : rg k 0 (Int32.ofNat (cnt (chL (s.2.1 142) P) 30)) = true
      · have n1 : ¬ (rg kind 0 5 = false ∨ (isP (s.2.1 142) P = true ∧ rg k 0 (Int32.ofNat (cnt (chL (s.2.1 142) P) 30)) = false)) := by rw [q1, q2, q3]; simp
        by_cases q4 : n = 30
        · refine KI_no (E := "java/lang/IndexOutOfBoundsException") (y := 3) hR ?_ (by decide +kernel) (by decide) ((hm0 _ _ f6 f7 ta2).trans ((if_neg n1).trans ((if_pos q2).trans (if_pos q4))))
          have l30 : ¬ Int32.ofNat n < 30 := by rw [q4]; decide
          simp (decide := true) only [fX11_layer, jX11_layer_24, fX11_needNumber, rng hg, q1, ob8, np, f8_0, f3, sob, am, q3, s5, ta2, l30, e3, ob_n, b2_n, tc_rn, tc_ln, F_sF, A_sF, R_sF, L_sF, F_sA, A_sA, R_sA, L_sA, F_sR, A_sR, R_sR, L_sR, F_sL, A_sL, R_sL, L_sL, and_true, true_and, and_false, false_and, and_self, reduceIte, sF_sF, sA_sA, false_or, or_false, true_or, or_true, not_false_eq_true, not_true_eq_false, decide_true, decide_false, Bool.true_or, Bool.or_true, Bool.false_and, Bool.true_and, Bool.false_or, Bool.or_false, Bool.and_true, Bool.and_false]
        · have l30 : Int32.ofNat n < 30 := by
            show Int32.ofNat n < Int32.ofNat 30
            rw [n_lt (by omega) (by omega)]; omega
          have kr := rg_i.mp q3
          have hc30 : cnt (chL (s.2.1 142) P) 30 ≤ 30 := cnt_le
          have k0 : 0 ≤ k.toInt := kr.1
          have k1 : k.toInt ≤ (cnt (chL (s.2.1 142) P) 30 : Nat) := by
            have := kr.2
            rw [n_int (by omega)] at this
            exact this
          obtain ⟨m, rfl, hm⟩ : ∃ m : Nat, k = Int32.ofNat m ∧ m ≤ cnt (chL (s.2.1 142) P) 30 := ⟨k.toInt.toNat, n_of (by omega), by omega⟩
          obtain ⟨x1, x2, x3, x4⟩ := nlLy (N := s.2.1 142) (l := n) (P := P) (k := Int32.ofNat m) hwh hg q1
          obtain ⟨g2, w1, w2, w3⟩ := addL11 (s := s) (N' := nlN (s.2.1 142) kind P (Int32.ofNat m) n) hwh hg x1 ⟨by omega, by omega⟩ f3 f4 (show pc ≤ 24 by omega) (fun i hi => (f11 i hi).imp fun b hb => ⟨_, hb.1, hb.2⟩) f9 (show n < 30 by omega) ta2 hm q2 x4 (by have := nlN_l (N := s.2.1 142) (kind := kind) (P := P) (k := Int32.ofNat m) (l := n) (j := 0) (by omega); exact this) (nlN_l (j := 2) (by omega)) (nlN_l (j := 3) (by omega)) (fun m j hm hne hj h3 => nlN_m hm hne hj h3) (fun i hi hne h1 => by
            rw [nlN_3 hi hne]
            by_cases z : s.2.1 142 (1169 * i + 2) = P ∧ ¬ s.2.1 142 (1169 * i + 3) < Int32.ofNat m
            · rw [if_pos z, if_pos ⟨h1, z⟩]
            · rw [if_neg z, if_neg (fun y => z y.2)]) (by rw [nlN_70 (by omega), ta2, n_suc])
          have e70 : (fgC (rmC s a (nlG g n kind P).1 pc)).2.1 142 = s.2.1 142 := by unfold fgC rmC; simp (decide := true) only [ob_n, b2_n, tc_rn, tc_ln, F_sF, A_sF, R_sF, L_sF, F_sA, A_sA, R_sA, L_sA, F_sR, A_sR, R_sR, L_sR, F_sL, A_sL, R_sL, L_sL, and_true, true_and, and_false, false_and, and_self, reduceIte, sF_sF, sA_sA, false_or, or_false, true_or, or_true, not_false_eq_true, not_true_eq_false, decide_true, decide_false, Bool.true_or, Bool.or_true, Bool.false_and, Bool.true_and, Bool.false_or, Bool.or_false, Bool.and_true, Bool.and_false, F_sRr, A_sRr]
          have hm1 := hm0 (pO (fgC (rmC s a (nlG g n kind P).1 pc)) (Int32.toInt64 (Int32.ofNat n))) g2 (by unfold pO fgC rmC; simp (decide := true) only [ob_n, b2_n, tc_rn, tc_ln, F_sF, A_sF, R_sF, L_sF, F_sA, A_sA, R_sA, L_sA, F_sR, A_sR, R_sR, L_sR, F_sL, A_sL, R_sL, L_sL, and_true, true_and, and_false, false_and, and_self, reduceIte, sF_sF, sA_sA, false_or, or_false, true_or, or_true, not_false_eq_true, not_true_eq_false, decide_true, decide_false, Bool.true_or, Bool.or_true, Bool.false_and, Bool.true_and, Bool.false_or, Bool.or_false, Bool.and_true, Bool.and_false, F_sRr, A_sRr]; exact f6) (by unfold pO fgC rmC; simp (decide := true) only [ob_n, b2_n, tc_rn, tc_ln, F_sF, A_sF, R_sF, L_sF, F_sA, A_sA, R_sA, L_sA, F_sR, A_sR, R_sR, L_sR, F_sL, A_sL, R_sL, L_sL, and_true, true_and, and_false, false_and, and_self, reduceIte, sF_sF, sA_sA, false_or, or_false, true_or, or_true, not_false_eq_true, not_true_eq_false, decide_true, decide_false, Bool.true_or, Bool.or_true, Bool.false_and, Bool.true_and, Bool.false_or, Bool.or_false, Bool.and_true, Bool.and_false, F_sRr, A_sRr]; exact f7) (by unfold pO; rw [A_sL, e70]; exact ta2)
          have e71 : (pO (fgC (rmC s a (nlG g n kind P).1 pc)) (Int32.toInt64 (Int32.ofNat n))).2.1 142 = s.2.1 142 := by unfold pO; rw [A_sL, e70]
          rw [e71, if_neg n1, if_pos q2, if_neg q4] at hm1
          refine KI_ed (N' := nlN (s.2.1 142) kind P (Int32.ofNat m) n) hR h7 f1 f2 f9 f10 f11 ?_ hm1 ?_ ?_ ?_ w2 w3
          · have nw : q_fR 11 0 (q_new 4 (e_g s g)) 8 = some (some a) := by
              have a0 : q_new 4 (e_g s g) = e_g s (ps_nw g 17 (.inr (4, [.int 0, .int 0, .int 0, .int 0, .int 0, .int 0, .int 0, .int 0, .int 0, .int 0, .int 0, .int 0, .int 0, .int 0, .int 0, .null, .null]))) := e_nw hg
              rw [a0, f8_0, f3]
            have nw5 : q_fI 9 5 (q_new 4 (e_g s g)) a = some (Int32.ofNat n) := by
              have a0 : q_new 4 (e_g s g) = e_g s (ps_nw g 17 (.inr (4, [.int 0, .int 0, .int 0, .int 0, .int 0, .int 0, .int 0, .int 0, .int 0, .int 0, .int 0, .int 0, .int 0, .int 0, .int 0, .null, .null]))) := e_nw hg
              rw [a0]
              have := (stW (s := s) (stN_ext (ext_mkL (fs := [.int 0, .int 0, .int 0, .int 0, .int 0, .int 0, .int 0, .int 0, .int 0, .int 0, .int 0, .int 0, .int 0, .int 0, .int 0, .null, .null])) f9)).2.2.1
              rw [ta2] at this
              exact this
            have e1 : (e_g s g).1 = g.1 := rfl
            simp (decide := true) only [fX11_layer, jX11_layer_24, fX11_needNumber, rng hg, q1, ob8, np, f8_0, f3, sob, am, q3, s5, ta2, l30, nw, nw5, e1, init4 hg, w1, ob_n, b2_n, tc_rn, tc_ln, F_sF, A_sF, R_sF, L_sF, F_sA, A_sA, R_sA, L_sA, F_sR, A_sR, R_sR, L_sR, F_sL, A_sL, R_sL, L_sL, and_true, true_and, and_false, false_and, and_self, reduceIte, sF_sF, sA_sA, false_or, or_false, true_or, or_true, not_false_eq_true, not_true_eq_false, decide_true, decide_false, Bool.true_or, Bool.or_true, Bool.false_and, Bool.true_and, Bool.false_or, Bool.or_false, Bool.and_true, Bool.and_false]
          · unfold fg12 edM pO fgC rmC; simp (decide := true) only [ob_n, b2_n, tc_rn, tc_ln, F_sF, A_sF, R_sF, L_sF, F_sA, A_sA, R_sA, L_sA, F_sR, A_sR, R_sR, L_sR, F_sL, A_sL, R_sL, L_sL, and_true, true_and, and_false, false_and, and_self, reduceIte, sF_sF, sA_sA, false_or, or_false, true_or, or_true, not_false_eq_true, not_true_eq_false, decide_true, decide_false, Bool.true_or, Bool.or_true, Bool.false_and, Bool.true_and, Bool.false_or, Bool.or_false, Bool.and_true, Bool.and_false, F_sRr, A_sRr]
          · unfold fg12 edM; simp (decide := true) only [ob_n, b2_n, tc_rn, tc_ln, F_sF, A_sF, R_sF, L_sF, F_sA, A_sA, R_sA, L_sA, F_sR, A_sR, R_sR, L_sR, F_sL, A_sL, R_sL, L_sL, and_true, true_and, and_false, false_and, and_self, reduceIte, sF_sF, sA_sA, false_or, or_false, true_or, or_true, not_false_eq_true, not_true_eq_false, decide_true, decide_false, Bool.true_or, Bool.or_true, Bool.false_and, Bool.true_and, Bool.false_or, Bool.or_false, Bool.and_true, Bool.and_false]
          · unfold edS
            refine sm_fg (sm_edM (sm_A2 (sm_F ?_ (by decide))))
            unfold pO
            exact sm_L sm_rf
      · refine KI_no (E := "java/lang/IllegalArgumentException") (y := 1) hR ?_ (by decide +kernel) (by decide) ((hm0 _ _ f6 f7 ta2).trans (if_pos (Or.inr ⟨q2, by simpa using q3⟩)))
        simp (decide := true) only [fX11_layer, rng hg, q1, ob8, np, f8_0, f3, sob, am, q3, ob_n, b2_n, tc_rn, tc_ln, F_sF, A_sF, R_sF, L_sF, F_sA, A_sA, R_sA, L_sA, F_sR, A_sR, R_sR, L_sR, F_sL, A_sL, R_sL, L_sL, and_true, true_and, and_false, false_and, and_self, reduceIte, sF_sF, sA_sA, false_or, or_false, true_or, or_true, not_false_eq_true, not_true_eq_false, decide_true, decide_false, Bool.true_or, Bool.or_true, Bool.false_and, Bool.true_and, Bool.false_or, Bool.or_false, Bool.and_true, Bool.and_false]
    · have q2' : isP (s.2.1 142) P = false := by simpa using q2
      refine KI_no (E := "java/util/NoSuchElementException") (y := 2) hR ?_ (by decide +kernel) (by decide) ((hm0 _ _ f6 f7 ta2).trans ((if_neg (by rw [q1, q2']; simp)).trans (if_neg (by rw [q2']; simp))))
      simp (decide := true) only [fX11_layer, fX11_needParent, rng hg, q1, ob8, f8_0, f3, sob, ho9, q2', e3, ob_n, b2_n, tc_rn, tc_ln, F_sF, A_sF, R_sF, L_sF, F_sA, A_sA, R_sA, L_sA, F_sR, A_sR, R_sR, L_sR, F_sL, A_sL, R_sL, L_sL, and_true, true_and, and_false, false_and, and_self, reduceIte, sF_sF, sA_sA, false_or, or_false, true_or, or_true, not_false_eq_true, not_true_eq_false, decide_true, decide_false, Bool.true_or, Bool.or_true, Bool.false_and, Bool.true_and, Bool.false_or, Bool.or_false, Bool.and_true, Bool.and_false]
  · refine KI_no (E := "java/lang/IllegalArgumentException") (y := 1) hR ?_ (by decide +kernel) (by decide) ((hm0 _ _ f6 f7 ta2).trans (if_pos (Or.inl (by simpa using q1))))
    simp (decide := true) only [fX11_layer, rng hg, q1, ob_n, b2_n, tc_rn, tc_ln, F_sF, A_sF, R_sF, L_sF, F_sA, A_sA, R_sA, L_sA, F_sR, A_sR, R_sR, L_sR, F_sL, A_sL, R_sL, L_sL, and_true, true_and, and_false, false_and, and_self, reduceIte, sF_sF, sA_sA, false_or, or_false, true_or, or_true, not_false_eq_true, not_true_eq_false, decide_true, decide_false, Bool.true_or, Bool.or_true, Bool.false_and, Bool.true_and, Bool.false_or, Bool.or_false, Bool.and_true, Bool.and_false]
