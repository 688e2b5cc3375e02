-- needs: 97za
def gw (f0 : Nat → Int32) (F : Nat → Nat) : Nat → Int32 := fun k => if k < 576 then Int32.ofNat (F k) else f0 k
theorem measure6 {s : e_S} {g : ps_G} {n w h : Nat} {rule : Int32} (hn : n ≤ 400) (hw : w ≤ 24) (hh : h ≤ 24) (e10 : s.1 98 10 = Int32.ofNat n) (hB : ∀ k, k < n → Bd (s.2.1 105 k) ∧ Bd (s.2.1 106 k) ∧ Bd (s.2.1 107 k) ∧ Bd (s.2.1 108 k)) : ∃ T C, fX6_measure (e_g s g) 98 rule (Int32.ofNat w) (Int32.ofNat h) = some (e_g (sA (sA s 109 T) 110 C) g) ∧ ∀ y x, y < h → x < w → C (y * w + x) = (255 * Int32.ofNat (psV (inV rule (s.2.1 105) (s.2.1 106) (s.2.1 107) (s.2.1 108) n) y x 4) + 8) / 16 := by
  have hwh := wh_le hw hh
  generalize hb : inV rule (s.2.1 105) (s.2.1 106) (s.2.1 107) (s.2.1 108) n = b
  have i4 : ∀ k : Nat, (4 : Int32) * Int32.ofNat k = Int32.ofNat (4 * k) := fun k => n_mul (n := 4)
  have i42 : ∀ k : Nat, (4 : Int32) * Int32.ofNat k + 2 = Int32.ofNat (4 * k + 2) := fun k => by rw [i4]; exact n_add (m := 2)
  have sh2 : ∀ k : Nat, k < 100 → q_shr (Int32.ofNat k) 2 = Int32.ofNat (k / 4) := fun k hk => by
    have : ∀ k : Fin 100, q_shr (Int32.ofNat k.1) 2 = Int32.ofNat (k.1 / 4) := by decide +kernel
    exact this ⟨k, hk⟩
  have cell : ∀ R i, R < 4 * h → i < 4 * w → R / 4 * w + i / 4 < 576 := fun R i h1 h2 => by
    have := at_lt (show i / 4 < w by omega) (show R / 4 < h by omega)
    omega
  -- one row of points
  have row : ∀ R, R < 4 * h → ∀ (T : Nat → Int32) (F : Nat → Nat), (∀ i, i < 4 * w → (if rule = 0 then decide (¬ T i = 0) else decide (¬ T i &&& 1 = 0)) = b R i) → q_lp (fun t => bX6_measure_42 98 rule (Int32.ofNat w) (Int32.ofNat h) (Int32.ofNat R) t.1 t.2) ((0 : Int32), e_g (sA (sA s 109 T) 110 (gw (s.2.1 110) F)) g) = some (e_g (sA (sA s 109 T) 110 (gw (s.2.1 110) (mI b w F R (4 * w)))) g) := by
    intro R hR T F hT
    refine lp_0 (fun i => (Int32.ofNat i, e_g (sA (sA s 109 T) 110 (gw (s.2.1 110) (mI b w F R i))) g)) (4 * w) rfl (fun i hi => ?_) ?_
    · have c1 := cell R i hR hi
      have tb := hT i hi
      have g4 : ¬ Int32.ofNat (4 * w) ≤ Int32.ofNat i := nle hi (by omega)
      have g96 : ¬ (96 : Int32) ≤ Int32.ofNat i := nle (b := 96) (by omega) (by omega)
      have rT : q_aI (e_g (sA (sA s 109 T) 110 (gw (s.2.1 110) (mI b w F R i))) g) 109 (Int32.ofNat i) = some (T i) := by
        rw [a109, n_idx (by omega), if_neg (n_in2 (N := 96) (by omega) (by decide)), A_sA, if_neg (by decide), A_sA, if_pos rfl]
      have ix : q_shr (Int32.ofNat R) 2 * Int32.ofNat w + q_shr (Int32.ofNat i) 2 = Int32.ofNat (R / 4 * w + i / 4) := by
        rw [sh2 R (by omega), sh2 i (by omega), n_mul, n_add]
      have wr : ∀ k0 : Int32, (k0 = if b R i then 1 else 0) → jX6_measure_99_42 (e_g (sA (sA s 109 T) 110 (gw (s.2.1 110) (mI b w F R i))) g) 98 rule (Int32.ofNat w) (Int32.ofNat h) (Int32.ofNat R) (Int32.ofNat i) k0 = some (.inl (Int32.ofNat (i + 1), e_g (sA (sA s 109 T) 110 (gw (s.2.1 110) (mI b w F R (i + 1)))) g)) := by
        intro k0 hk
        have gv : gw (s.2.1 110) (mI b w F R i) (R / 4 * w + i / 4) = Int32.ofNat (mI b w F R i (R / 4 * w + i / 4)) := if_pos c1
        have kv : (if k0 = 0 then (0 : Int32) else 1) = Int32.ofNat (if b R i then 1 else 0) := by
          rw [hk]
          by_cases z : b R i = true
          · rw [if_pos z, if_pos z]; rfl
          · rw [if_neg z, if_neg z]; rfl
        have up : upd (gw (s.2.1 110) (mI b w F R i)) (R / 4 * w + i / 4) (Int32.ofNat (mI b w F R i (R / 4 * w + i / 4) + (if b R i then 1 else 0))) = gw (s.2.1 110) (mI b w F R (i + 1)) := by
          funext k
          rw [upd_r]
          unfold gw
          by_cases z : k = R / 4 * w + i / 4
          · have k5 : k < 576 := by rw [z]; exact c1
            rw [if_pos z, if_pos k5, z]
            show _ = Int32.ofNat (if R / 4 * w + i / 4 = R / 4 * w + i / 4 then _ else _)
            rw [if_pos rfl]
          · rw [if_neg z]
            by_cases z2 : k < 576
            · rw [if_pos z2, if_pos z2]
              show _ = Int32.ofNat (if k = R / 4 * w + i / 4 then _ else _)
              rw [if_neg z]
            · rw [if_neg z2, if_neg z2]
        unfold jX6_measure_99_42
        rw [f98_14, ob_n, ob_n, ix, a110, n_idx (by omega), if_neg (n_in2 c1 (by decide)), ob_n, A_sA, if_pos rfl, gv, kv, n_add, u110, n_idx (by omega), if_neg (n_in2 c1 (by decide)), ob_n, A_sA, if_pos rfl, sA_sA, up, n_suc]
      show bX6_measure_42 _ _ _ _ _ _ _ = _
      unfold bX6_measure_42
      dsimp only
      rw [i4, if_neg g4, f98_13, ob_n, ob_n, l109, ob_n, if_neg g96]
      by_cases r0 : rule = 0
      · rw [if_neg (fun z => z r0), ob_n, ob_n, rT, ob_n, wr]
        rw [if_pos r0] at tb
        rw [← tb]
        by_cases z : T i = 0
        · rw [if_pos z, decide_eq_false (fun y => y z)]; rfl
        · rw [if_neg z, decide_eq_true z]; rfl
      · rw [if_pos r0, ob_n, ob_n, rT, ob_n, wr]
        rw [if_neg r0] at tb
        rw [← tb]
        by_cases z : T i &&& 1 = 0
        · rw [if_pos z, decide_eq_false (fun y => y z)]; rfl
        · rw [if_neg z, decide_eq_true (show ¬ (T i &&& 1 = 0) from z)]; rfl
    · show bX6_measure_42 _ _ _ _ _ _ _ = _
      unfold bX6_measure_42
      dsimp only
      rw [i4, if_pos (nlr (by omega))]
  have lp := lp_n (b := fun t => bX6_measure_11 98 rule (Int32.ofNat w) (Int32.ofNat h) t.1 t.2) (fun R t => ∃ T, t = (Int32.ofNat R, e_g (sA (sA s 109 T) 110 (gw (s.2.1 110) (mO b w R))) g)) (fun r => ∃ T, r = e_g (sA (sA s 109 T) 110 (gw (s.2.1 110) (mO b w (4 * h)))) g) (4 * h) (s := ((0 : Int32), e_g (sA s 110 (fl (s.2.1 110) 576 0)) g)) (fun R t hR ht => ?_) (fun t ht => ?_) ⟨s.2.1 109, ?_⟩
  · obtain ⟨r, l1, T, l2⟩ := lp
    have l3 := fillN (fun C => e_g (sA (sA s 109 T) 110 C) g) 0 576 (fun k => (255 * (gw (s.2.1 110) (mO b w (4 * h))) k + 8) / 16) (gw (s.2.1 110) (mO b w (4 * h))) (bO := fun t => bX6_measure_145 98 t.1 t.2) (fun C i hi hC => ?_) (fun C => ?_)
    · refine ⟨T, cpT (gw (s.2.1 110) (mO b w (4 * h))) (fun k => (255 * (gw (s.2.1 110) (mO b w (4 * h))) k + 8) / 16) 0 576, ?_, ?_⟩
      · unfold fX6_measure jX6_measure_142
        rw [f98_14, ob_n, ob_n, fillI t110 (by omega) (by omega), ob_n, l1, ob_n, l2, l3, ob_n]
      · intro y x hy hx
        have hlt := at_lt hx hy
        have := cpT_in (A := gw (s.2.1 110) (mO b w (4 * h))) (N := fun k => (255 * (gw (s.2.1 110) (mO b w (4 * h))) k + 8) / 16) (b := 0) (n := 576) (k := y * w + x) (by omega)
        rw [Nat.zero_add] at this
        rw [this]
        have gv : gw (s.2.1 110) (mO b w (4 * h)) (y * w + x) = Int32.ofNat (mO b w (4 * h) (y * w + x)) := if_pos (by omega)
        rw [gv, mO_v hx, show min 4 (4 * h - 4 * y) = 4 by omega]
    · rw [Nat.zero_add] at hC
      have g5 : ¬ (576 : Int32) ≤ Int32.ofNat i := nle (b := 576) hi (by omega)
      show bX6_measure_145 _ _ _ = _
      unfold bX6_measure_145
      dsimp only
      rw [if_neg g5, f98_14, ob_n, ob_n, ob_n, ob_n, a110, n_idx (by omega), if_neg (n_in2 hi (by decide)), ob_n, A_sA, if_pos rfl, hC, u110, n_idx (by omega), if_neg (n_in2 hi (by decide)), ob_n, A_sA, if_pos rfl, sA_sA, n_suc, Nat.zero_add]
    · show bX6_measure_145 _ _ _ = _
      unfold bX6_measure_145
      dsimp only
      rw [if_pos (by decide)]
  · obtain ⟨T, rfl⟩ := ht
    have eA : ∀ j, ¬ j = 109 → ¬ j = 110 → (sA (sA s 109 T) 110 (gw (s.2.1 110) (mO b w R))).2.1 j = s.2.1 j := fun j h1 h2 => by rw [A_sA, if_neg h2, A_sA, if_neg h1]
    obtain ⟨T', c1, c2⟩ := countTurns6 (s := sA (sA s 109 T) 110 (gw (s.2.1 110) (mO b w R))) (g := g) (n := n) (c := 4 * w) (yy := 4 * R + 2) hn (by omega) (by omega) (by rw [F_sA, F_sA]; exact e10) (by rw [eA 105 (by decide) (by decide), eA 106 (by decide) (by decide), eA 107 (by decide) (by decide), eA 108 (by decide) (by decide)]; exact hB)
    rw [eA 105 (by decide) (by decide), eA 106 (by decide) (by decide), eA 107 (by decide) (by decide), eA 108 (by decide) (by decide)] at c2
    rw [sA_cm (i := 110) (j := 109) (by decide), sA_sA] at c1
    have gr : ¬ (Int32.ofNat (4 * h) ≤ Int32.ofNat R ∨ (96 : Int32) ≤ Int32.ofNat R) := by
      rintro (z | z)
      · exact nle hR (by omega) z
      · exact nle (b := 96) (show R < 96 by omega) (by omega) z
    have rw1 := row R hR T' (mO b w R) (fun i hi => by rw [c2 i hi, ← hb]; rfl)
    refine ⟨_, ?_, T', rfl⟩
    show bX6_measure_11 _ _ _ _ _ _ = _
    unfold bX6_measure_11 jX6_measure_136_11
    dsimp only
    rw [i4, if_neg gr, ob98, ob_n, i42, i4, c1, ob_n, rw1, ob_n, n_suc]
    rfl
  · obtain ⟨T, rfl⟩ := ht
    refine ⟨_, ?_, T, rfl⟩
    show bX6_measure_11 _ _ _ _ _ _ = _
    unfold bX6_measure_11
    dsimp only
    rw [i4, if_pos (Or.inl (nlr (by omega)))]
  · have e1 : fl (s.2.1 110) 576 0 = gw (s.2.1 110) (mO b w 0) := by
      funext k
      unfold gw
      by_cases z : k < 576
      · rw [fl_lt z, if_pos z]; rfl
      · rw [if_neg z]
        unfold fl
        rw [if_neg z]
    rw [sA_id, e1]
    rfl
