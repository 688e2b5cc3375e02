-- needs: 97zzk
theorem fw_B {A : Nat → Bool} {C F B E0 : Nat → Int32} {w h n : Nat} {di : Int32} (e : ∀ k, k < w * h → F k = B k) : ∀ k, k ≤ w * h → fwE A w h C F E0 n di k = fwE A w h C B E0 n di k := by
  intro k
  induction k with
  | zero => exact fun _ => rfl
  | succ k ih =>
    intro hk
    have ih := ih (by omega)
    have e0 := e k (by omega)
    have ea : alB F k = alB B k := by unfold alB; rw [e0]
    have es : ∀ E, stF A w h C F E n k = stF A w h C B E n k := fun E => by unfold stF clF chR chG chB; rw [e0]
    have u : ∀ B, fwE A w h C B E0 n di (k + 1) = if alB B k = false ∨ di = 0 then fwE A w h C B E0 n di k else stF A w h C B (fwE A w h C B E0 n di k) n k := fun _ => rfl
    rw [u, u, ea, ih, es]
theorem fwP_B {A : Nat → Bool} {C F B E0 : Nat → Int32} {w h n k : Nat} {di : Int32} (e : ∀ k, k < w * h → F k = B k) (hk : k < w * h) : fwP A w h C F E0 n di k = fwP A w h C B E0 n di k := by
  unfold fwP
  have ea : alB F k = alB B k := by unfold alB; rw [e k hk]
  have ec : ∀ E, clF C F E n k = clF C B E n k := fun E => by unfold clF chR chG chB; rw [e k hk]
  rw [fw_B e k (by omega), ea, ec, e k hk]
theorem K_few {s : e_S} {g : ps_G} {x M di : Int32} (hR : Rel s g) : KI (fL_few (e_g s g) 8 x M di 194) (fun G => fX12_few G 139 x M di) g := by
  have hg := rel_g hR
  obtain ⟨h1, h2, h3, h4, h5, h6, ⟨w, h, h7, h8, h9⟩, h10, h11⟩ := id hR
  obtain ⟨a, st, pc, uc, f1, f2, f3, f4, f5, f6, f7, f8, f9, f10, f11, f12⟩ := h9
  obtain ⟨d1, d2, d3, d4, d5, d6, d7, d8, d9⟩ := id h7
  have hwh := wh_le d2 d4
  have no : ∀ (y : Int32), ¬ y ≤ 0 → (if rg M 2 16 = false ∨ (isL (s.2.1 142) x = true ∧ ¬ s.2.1 142 (1169 * x.toInt.toNat + 1) = 0) then (1 : Int32) else if isL (s.2.1 142) x then 0 else 2) = y → fX12_few (e_g s (nx g)) 139 x M di = some (0, e_g (sF s 139 0 y) (nx g)) := fun y hy e => by
    unfold fX12_few
    rw [ob139, ob_n, rin, why12, ob_n, e, w139_0, ob_n, f139_0, F_sF, if_pos ⟨rfl, rfl⟩, ob_n, if_neg hy]
  by_cases q1 : rg M 2 16 = true
  · rw [q1] at no
    rcases knownPix11 (x := x) hg f3 f9 with ⟨k1, k2⟩ | ⟨l, b, rfl, hl, k1, k3, hLy, ⟨k4, k2⟩ | ⟨k4, k2⟩⟩
    · refine KI_no (E := "java/util/NoSuchElementException") (y := 2) (b := 0) hR ?_ (by decide +kernel) (by decide) (no 2 (by decide) (by rw [k1]; rfl))
      unfold fX11_few
      rw [rng hg, if_pos q1, tc_rn, ob8, ob_n, k2, tc_ln]
    · refine KI_no (E := "java/lang/IllegalArgumentException") (y := 1) (b := 0) hR ?_ (by decide +kernel) (by decide) (no 1 (by decide) (if_pos (Or.inr ⟨k1, by rw [n_int (by omega), Int.toNat_natCast]; exact k4⟩)))
      unfold fX11_few
      rw [rng hg, if_pos q1, tc_rn, ob8, ob_n, k2, tc_ln]
    · have wy0 : (if (true : Bool) = false ∨ (isL (s.2.1 142) (Int32.ofNat l) = true ∧ ¬ s.2.1 142 (1169 * (Int32.ofNat l).toInt.toNat + 1) = 0) then (1 : Int32) else if isL (s.2.1 142) (Int32.ofNat l) then 0 else 2) = 0 := by
        rw [if_neg, k1]
        · rfl
        · rw [n_int (by omega), Int.toNat_natCast]
          rintro (z | z)
          · cases z
          · exact z.2 k4
      obtain ⟨N, rfl, hN2, hN⟩ : ∃ N : Nat, M = Int32.ofNat N ∧ 2 ≤ N ∧ N ≤ 16 := by
        have z := rg_i.mp q1
        have z1 : 2 ≤ M.toInt := z.1
        have z2 : M.toInt ≤ 16 := z.2
        exact ⟨M.toInt.toNat, n_of (by omega), by omega, by omega⟩
      obtain ⟨y1, y2, pp, qq', x0, y0, x1, yy1, pa, ma, y3, z1, z2, z3, z4, z5, z6, z7, z8, z9, z10, z11, z12, z13, z14⟩ := id hLy
      obtain ⟨e1, e8, e2, F, e3, e4⟩ := z12 k4
      have f15 : q_fR 4 15 (e_g s g) b = some (some pa) := d_fR y1 y3 rfl
      have cl := d_cl (s := s) e1 e8 e3 hg
      have eF : ∀ k, k < w * h → F k = pxN (s.2.1 142) l k := fun k hk => e4 k hk
      have bx := fun (S : e_S) (g' : ps_G) (q1 : S.1 139 13 = Int32.ofNat w) (q2 : S.1 139 14 = Int32.ofNat h) (q3 : S.2.1 142 = s.2.1 142) => boxes_b (s := s) (S := S) (g := g) (g' := g') (F := F) (x3 := di) hg d2 d4 hl hN hN2 q1 q2 (by rw [q3]; exact eF)
      obtain ⟨s', S1', n, al1, Z1, c1, -, -, ⟨cn, c8, -⟩, ck, -, c0⟩ := bx s g d5 d6 rfl
      have rd := reduce3 (s := s') (g := g) (w := w) (h := h) (n := n) (di := di) (F := F) hg d2 d4 cn c8
      generalize hE0 : fl (s'.2.1 120) 1728 0 = E0 at rd
      have E0z : ∀ i, i < 1728 → E0 i = 0 := fun i hi => by rw [← hE0]; exact fl_lt hi
      have kc : Kfc s (sA s' 120 (fwE (fun _ => true) w h (s'.2.1 119) F E0 n di (h * w))) := kc_A ck (by omega)
      generalize hS1 : sA s' 120 (fwE (fun _ => true) w h (s'.2.1 119) F E0 n di (h * w)) = s1 at rd kc
      have r8 : s1.2.2.1 8 0 = some a := by rw [show s1.2.2.1 = s.2.2.1 from congrArg Prod.fst kc.2.1]; exact f3
      have r8' : s'.2.2.1 8 0 = some a := by rw [show s'.2.2.1 = s.2.2.1 from congrArg Prod.fst ck.2.1]; exact f3
      have sw := fun s' : e_S => stW (s := s') (stN_ext (ext_mkA (g := g) (f := F)) f9)
      refine KI_px2 (l := l) (b := b) (v := Int32.ofNat n) (φ := fwP (fun _ => true) w h (s'.2.1 119) F E0 n di) hR kc.1 h7 f1 f2 f3 f4 f9 f10 f11 hl k3 hLy k4 (cpT F (fwP (fun _ => true) w h (s'.2.1 119) F E0 n di) 0 (h * w)) (fun k hk => ?_) (fun g2 w1 => ?_) (fun g2 => ?_)
      · have := cpT_in (A := F) (N := fwP (fun _ => true) w h (s'.2.1 119) F E0 n di) (b := 0) (n := h * w) (k := k) (by rw [Nat.mul_comm]; exact hk)
        rw [Nat.zero_add] at this
        exact this
      · have e1' : (e_g s g).1 = g.1 := rfl
        unfold fX11_few
        rw [rng hg, if_pos q1, tc_rn, ob8, ob_n, k2, tc_rn, ob_n, f15, ob_n, ob_n, cl, ob_n, f8_10, ob_n, ob_n, f8_0, f3, ob_n, ob_n, (sw s).1, ob_n, ob_n, ob_n, (sw s).2.1, ob_n, ob111, ob_n, n_mul, e1', c1, b2_n, f8_10, ob_n, ob_n, f8_0, r8', ob_n, ob_n, (sw s').1, ob_n, ob_n, ob_n, (sw s').2.1, ob_n, ob111, ob_n, rd, ob_n, ob8, ob_n, w1, ob_n]
      · have eA : ∀ j, ¬ (116 ≤ j ∧ j ≤ 120) → ¬ j = 87 → ¬ j = 88 → (pO (fgC (rmC s1 a (g.1 + 2) pc)) (Int32.toInt64 (Int32.ofNat n))).2.1 j = s.2.1 j := fun j j1 j2 j3 => by
          unfold pO fgC rmC
          rw [A_sL, A_sA, if_neg j3, A_sA, if_neg j2, A_sF, A_sR, A_sF, A_sF, A_sRr]
          exact kc.2.2.2 j j1
        have eF' : ∀ j, (pO (fgC (rmC s1 a (g.1 + 2) pc)) (Int32.toInt64 (Int32.ofNat n))).1 139 j = s.1 139 j := fun j => by
          unfold pO fgC rmC
          rw [F_sL, F_sA, F_sA, F_sF, if_neg (by omega), F_sR, F_sF, if_neg (by omega), F_sF, if_neg (by omega), F_sRr]
          exact kc.2.2.1 139 j (by decide)
        have smP : Sm (fgC (rmC s1 a (g.1 + 2) pc)) (pO (fgC (rmC s1 a (g.1 + 2) pc)) (Int32.toInt64 (Int32.ofNat n))) := sm_L sm_rf
        generalize pO (fgC (rmC s1 a (g.1 + 2) pc)) (Int32.toInt64 (Int32.ofNat n)) = S at eA eF' smP
        have g142 : (sF S 139 0 0).2.1 142 = s.2.1 142 := by rw [A_sF]; exact eA _ (by omega) (by omega) (by omega)
        have gF : ∀ j, ¬ j = 0 → (sF S 139 0 0).1 139 j = s.1 139 j := fun j hj => by rw [F_sF, if_neg (fun z => hj z.2)]; exact eF' j
        obtain ⟨s'', S', n', al, Z, b1, b2, ⟨Z2, b3, b4⟩, ⟨bn, b8, bC⟩, bk, bm, b0⟩ := bx (sF S 139 0 0) g2 (by rw [gF _ (by omega)]; exact d5) (by rw [gF _ (by omega)]; exact d6) g142
        rw [c1] at b1
        have bi := Option.some.inj b1
        have en : n' = n := by
          have := (n_eq (by omega) (by omega)).mp (congrArg Prod.fst bi)
          omega
        subst en
        have er : ∀ j, j < n' → s'.2.1 119 j = s''.2.1 119 j := fun j hj => by
          have eg : e_g s' (mkA g F) = e_g s'' (mkA g F) := congrArg Prod.snd bi
          have z1 : q_aI (e_g s' (mkA g F)) 119 (Int32.ofNat j) = some (s'.2.1 119 j) := by
            rw [a119, n_idx (by omega), if_neg (n_in2 (show j < 16 by omega) (by decide))]
          have z2 : q_aI (e_g s'' (mkA g F)) 119 (Int32.ofNat j) = some (s''.2.1 119 j) := by
            rw [a119, n_idx (by omega), if_neg (n_in2 (show j < 16 by omega) (by decide))]
          rw [eg, z2] at z1
          exact (Option.some.inj z1).symm
        have S142 : S'.2.1 142 = s.2.1 142 := by rw [bm.2.2.2 142 (by omega)]; exact g142
        have SF : ∀ j, ¬ j = 0 → S'.1 139 j = s.1 139 j := fun j hj => by rw [bm.2.2.1]; exact gF j hj
        have lz := fillN (fun f => e_g (sA S' 179 f) g2) 0 1728 (fun _ => 0) (S'.2.1 179) (bO := fun t => bX12_few_168 139 (Int32.ofNat l) di (Int32.ofNat n') t.1 t.2) (fun f i hi _ => by
          show bX12_few_168 _ _ _ _ _ _ = _
          have c : ¬ (1728 : Int32) ≤ Int32.ofNat i := show ¬ Int32.ofNat 1728 ≤ Int32.ofNat i from nle hi (by omega)
          unfold bX12_few_168
          rw [if_neg c, f139_65, ob_n, ob_n, u179, n_idx (by omega), if_neg (n_in2 hi (by decide)), ob_n, n_suc, A_sA, if_pos rfl, sA_sA, Nat.zero_add]) (fun f => by
          show bX12_few_168 _ _ _ _ _ _ = _
          have c : (1728 : Int32) ≤ Int32.ofNat 1728 := by decide
          unfold bX12_few_168
          rw [if_pos c])
        rw [sA_id] at lz
        have k0 : ∀ i, i < 1728 → cpT (S'.2.1 179) (fun _ => 0) 0 1728 i = 0 := fun i hi => by rw [cpT_ge (by omega) (by omega)]
        generalize cpT (S'.2.1 179) (fun _ => 0) 0 1728 = E0' at lz k0
        have rr := reduce12 (s := S') (g := g2) (w := w) (h := h) (l := l) (n := n') (di := di) (E0 := E0') d1 d2 d4 hl bn (by rw [SF _ (by omega)]; exact d5) (by rw [SF _ (by omega)]; exact d6)
        rw [S142] at rr
        have pe : ∀ k, k < w * h → fwP (fun _ => true) w h (s'.2.1 119) F E0 n' di k = fwP (alB (pxN (s.2.1 142) l)) w h (S'.2.1 178) (pxN (s.2.1 142) l) E0' n' di k := fun k hk => by
          rw [fwP_B eF hk]
          refine fw_p (fun j hj => by rw [er j hj]; exact bC j hj) (fun z k hk => by rw [← eF k hk]; exact b0 z k hk) (fun k hk _ c hc => ?_) hk
          rw [E0z _ (by omega), k0 _ (by omega)]
        have ce : cpT (s.2.1 142) (fwP (fun _ => true) w h (s'.2.1 119) F E0 n' di) (1169 * l + 17) (h * w) = cpT (s.2.1 142) (fwP (alB (pxN (s.2.1 142) l)) w h (S'.2.1 178) (pxN (s.2.1 142) l) E0' n' di) (1169 * l + 17) (h * w) := cpT_cong (fun k hk => pe k (by rw [Nat.mul_comm]; exact hk))
        rw [← ce] at rr
        rw [sA_cm (show ¬ 142 = 179 by decide)] at rr
        generalize fwE (alB (pxN (s.2.1 142) l)) w h (S'.2.1 178) (pxN (s.2.1 142) l) E0' n' di (h * w) = EE at rr
        generalize cpT (s.2.1 142) (fwP (fun _ => true) w h (s'.2.1 119) F E0 n' di) (1169 * l + 17) (h * w) = NN at rr ⊢
        have ed := edited12 (s := sA (sA S' 179 EE) 142 NN) (g := g2) f1 (show pc ≤ 24 by omega) (by rw [F_sA, F_sA, SF _ (by omega)]; exact f6) (by rw [F_sA, F_sA, SF _ (by omega)]; exact f7)
        have wy := why12 (s := S) (g := g2) (x := Int32.ofNat l) (b := true)
        rw [eA 142 (by omega) (by omega) (by omega), wy0] at wy
        have wy' : fX12_why (e_g S g2) 139 (Int32.ofNat l) (if true = true then 1 else 0) = some 0 := wy
        refine ⟨fg12 (edM (sA (sA S' 179 EE) 142 NN) st pc), ?_, ?_, ?_, ?_⟩
        · show fX12_few (e_g S g2) 139 (Int32.ofNat l) (Int32.ofNat N) di = _
          unfold fX12_few jX12_few_143
          rw [ob139, ob_n, rin, q1, wy', ob_n, w139_0, ob_n, f139_0, F_sF, if_pos ⟨rfl, rfl⟩, ob_n, if_pos (show (0 : Int32) ≤ 0 by decide), b2, ob_n]
          dsimp only
          rw [f139_62, ob_n, ob_n, u176, if_neg (by decide), ob_n, f139_63, ob_n, ob_n, u177, if_neg (by decide), ob_n]
          have x177 : (sA Z 176 (upd (Z.2.1 176) (0 : Int32).toNatClampNeg 0)).2.1 177 = Z.2.1 177 := by rw [A_sA, if_neg (by decide)]
          have c0' : (0 : Int32).toNatClampNeg = 0 := by decide
          rw [x177, c0', b3, ob_n]
          dsimp only
          rw [b4, ob_n, lz, ob_n, rr, ob_n, ob139, ob_n, ed, ob_n, ob139, ob_n, forget12, ob_n]
          rfl
        · unfold fg12 edM
          simp (decide := true) only [ob_n, b2_n, tc_rn, tc_ln, F_sF, A_sF, R_sF, L_sF, F_sA, A_sA, R_sA, L_sA, F_sR, A_sR, R_sR, L_sR, F_sL, A_sL, R_sL, L_sL, and_true, true_and, and_false, false_and, and_self, reduceIte, sF_sF, sA_sA, false_or, or_false, true_or, or_true, not_false_eq_true, not_true_eq_false, decide_true, decide_false, Bool.true_or, Bool.or_true, Bool.false_and, Bool.true_and, Bool.false_or, Bool.or_false, Bool.and_true, Bool.and_false]
          rw [bm.2.2.1, F_sF, if_pos ⟨rfl, rfl⟩]
        · unfold fg12 edM
          simp (decide := true) only [ob_n, b2_n, tc_rn, tc_ln, F_sF, A_sF, R_sF, L_sF, F_sA, A_sA, R_sA, L_sA, F_sR, A_sR, R_sR, L_sR, F_sL, A_sL, R_sL, L_sL, and_true, true_and, and_false, false_and, and_self, reduceIte, sF_sF, sA_sA, false_or, or_false, true_or, or_true, not_false_eq_true, not_true_eq_false, decide_true, decide_false, Bool.true_or, Bool.or_true, Bool.false_and, Bool.true_and, Bool.false_or, Bool.or_false, Bool.and_true, Bool.and_false]
          rw [show S'.2.2.2 = (sF S 139 0 0).2.2.2 from congrArg Prod.snd bm.2.1, L_sF]
        · exact sm_fg (sm_edM (sm_A2 (sm_A (sm_tr smP (sm_tr (sm_F sm_rf (by decide)) bm.1)) (by decide))))
  · refine KI_no (E := "java/lang/IllegalArgumentException") (y := 1) (b := 0) hR ?_ (by decide +kernel) (by decide) (no 1 (by decide) (if_pos (Or.inl (by simpa using q1))))
    unfold fX11_few
    rw [rng hg, if_neg q1, tc_ln]
