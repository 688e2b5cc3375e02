-- needs: 07 10 13 14 20 21 22 23 24 25 26 27 32 38 39 40
/-! ===== one LAYER changed ===== -/
theorem trN_e {N N' : Nat → Int32} (e : ∀ l c, l < 30 → c < 4 → N (1169 * l + c) = N' (1169 * l + c)) (e2 : N 35070 = N' 35070) (h : TrN N) : TrN N' := by
  have e0 : ∀ l, l < 30 → N (1169 * l) = N' (1169 * l) := fun l hl => e l 0 hl (by omega)
  obtain ⟨⟨n, a1, a2, a3⟩, b1, c1, ⟨d, d1⟩, f1⟩ := h
  refine ⟨⟨n, a1, by rw [← e2]; exact a2, fun l h1 h2 => by rw [← e0 l h2]; exact a3 l h1 h2⟩, fun l hl => by rw [← e0 l hl]; exact b1 l hl, fun l hl q => ?_, ⟨d, fun l hl q p hp q2 => ?_⟩, fun l hl q => ?_⟩
  · rw [← e0 l hl] at q
    rw [← e l 2 hl (by omega)]
    rcases c1 l hl q with z | ⟨p, z1, z2, z3, z4⟩
    · exact Or.inl z
    · exact Or.inr ⟨p, z1, z2, by rw [← e0 p z1]; exact z3, by rw [← e p 1 z1 (by omega)]; exact z4⟩
  · rw [← e0 l hl] at q
    rw [← e l 2 hl (by omega)] at q2
    exact d1 l hl q p hp q2
  · rw [← e0 l hl] at q
    obtain ⟨p, z1, z2, z3⟩ := f1 l hl q
    refine ⟨p, z1, by rw [← e l 3 hl (by omega)]; exact z2, fun i hi => ?_⟩
    obtain ⟨m, y1, y2, y3, y4⟩ := z3 i hi
    exact ⟨m, y1, by rw [← e0 m y1]; exact y2, by rw [← e m 2 y1 (by omega), ← e l 2 hl (by omega)]; exact y3, by rw [← e m 3 y1 (by omega)]; exact y4⟩
theorem orN_e {N N' : Nat → Int32} {sz : Nat} {od od' : Nat → Int32} (e : ∀ l c, l < 30 → c < 4 → N (1169 * l + c) = N' (1169 * l + c)) (eo : ∀ i, i < 30 → od i = od' i) (h : OrN N sz od) : OrN N' sz od' := by
  have e0 : ∀ l, l < 30 → N (1169 * l) = N' (1169 * l) := fun l hl => e l 0 hl (by omega)
  obtain ⟨a1, o, a2, a3, a4, a5⟩ := h
  refine ⟨a1, o, fun i hi => ?_, a3, fun l hl q => ?_, fun i j hij hj q => ?_⟩
  · obtain ⟨z1, z2, z3⟩ := a2 i hi
    exact ⟨by rw [← eo i (by omega)]; exact z1, z2, by rw [← e0 _ z2]; exact z3⟩
  · rw [← e0 l hl] at q
    exact a4 l hl q
  · have z1 := (a2 i (by omega)).2.1
    have z2 := (a2 j hj).2.1
    rw [← e _ 2 z1 (by omega), ← e _ 2 z2 (by omega)] at q
    rw [← e _ 3 z1 (by omega), ← e _ 3 z2 (by omega)]
    exact a5 i j hij hj q
/-- x is a LAYER's number -/
def isL (N : Nat → Int32) (x : Int32) : Bool := decide (0 ≤ x.toInt ∧ x.toInt < 30 ∧ N (1169 * x.toInt.toNat) = 1)
theorem isL_n {N : Nat → Int32} {x : Int32} (h : isL N x = true) : ∃ l : Nat, x = Int32.ofNat l ∧ l < 30 ∧ N (1169 * l) = 1 := by
  have h := of_decide_eq_true h
  exact ⟨x.toInt.toNat, n_of (by omega), by omega, h.2.2⟩
theorem isL_o {N : Nat → Int32} {l : Nat} (h : l < 30) : isL N (Int32.ofNat l) = decide (N (1169 * l) = 1) := by
  unfold isL
  rw [n_int (by omega), Int.toNat_natCast]
  congr 1
  apply propext
  constructor
  · exact fun q => q.2.2
  · exact fun q => ⟨by omega, by omega, q⟩
theorem row_at {l n : Nat} : (1169 : Int32) * Int32.ofNat l + OfNat.ofNat n = Int32.ofNat (1169 * l + n) := by
  show Int32.ofNat 1169 * Int32.ofNat l + Int32.ofNat n = _
  rw [n_mul, n_add]
theorem get12 {s : e_S} {g : ps_G} {l n : Nat} (hl : l < 30) (hn : n < 1169) : fX12_get (e_g s g) 139 (Int32.ofNat l) (OfNat.ofNat n) = some (s.2.1 142 (1169 * l + n)) := by
  have h : 1169 * l + n < 35071 := by omega
  simp (decide := true) only [fX12_get, f139_8, a142, ob_s, b2_s, tc_r, tc_l, F_sF, A_sF, R_sF, L_sF, F_sA, A_sA, R_sA, L_sA, F_sR, A_sR, R_sR, L_sR, F_sL, A_sL, R_sL, L_sL, and_true, true_and, and_false, false_and, and_self, reduceIte, sF_sF, sA_sA, false_or, or_false, true_or, or_true, not_false_eq_true, not_true_eq_false, decide_true, decide_false, Bool.true_or, Bool.or_true, Bool.false_and, Bool.true_and, Bool.false_or, Bool.or_false, Bool.and_true, Bool.and_false, row_at, n_in2 h (by decide), n_idx (show 1169 * l + n < 2147483648 by omega)]
theorem put12 {s : e_S} {g : ps_G} {l n : Nat} {v : Int32} (hl : l < 30) (hn : n < 1169) : fX12_put (e_g s g) 139 (Int32.ofNat l) (OfNat.ofNat n) v = some (e_g (sA s 142 (upd (s.2.1 142) (1169 * l + n) v)) g) := by
  have h : 1169 * l + n < 35071 := by omega
  simp (decide := true) only [fX12_put, f139_8, u142, ob_s, b2_s, tc_r, tc_l, F_sF, A_sF, R_sF, L_sF, F_sA, A_sA, R_sA, L_sA, F_sR, A_sR, R_sR, L_sR, F_sL, A_sL, R_sL, L_sL, and_true, true_and, and_false, false_and, and_self, reduceIte, sF_sF, sA_sA, false_or, or_false, true_or, or_true, not_false_eq_true, not_true_eq_false, decide_true, decide_false, Bool.true_or, Bool.or_true, Bool.false_and, Bool.true_and, Bool.false_or, Bool.or_false, Bool.and_true, Bool.and_false, row_at, n_in2 h (by decide), n_idx (show 1169 * l + n < 2147483648 by omega)]
theorem isLayer12 {s : e_S} {g : ps_G} {x : Int32} : fX12_isLayer (e_g s g) 139 x = some (if isL (s.2.1 142) x then 1 else 0) := by
  have b0 : q_bl 0 = some 0 := by decide
  have b1 : q_bl 1 = some 1 := by decide
  by_cases h : x < 0 ∨ 30 ≤ x
  · have q : isL (s.2.1 142) x = false := by
      unfold isL
      rw [decide_eq_false_iff_not]
      rw [i_lt, i_le] at h
      have e : (30 : Int32).toInt = 30 := rfl
      rw [e, i_0] at h
      omega
    simp (decide := true) only [fX12_isLayer, ob139, jX12_isLayer_24, jX12_isLayer_25, ob_s, b2_s, tc_r, tc_l, F_sF, A_sF, R_sF, L_sF, F_sA, A_sA, R_sA, L_sA, F_sR, A_sR, R_sR, L_sR, F_sL, A_sL, R_sL, L_sL, and_true, true_and, and_false, false_and, and_self, reduceIte, sF_sF, sA_sA, false_or, or_false, true_or, or_true, not_false_eq_true, not_true_eq_false, decide_true, decide_false, Bool.true_or, Bool.or_true, Bool.false_and, Bool.true_and, Bool.false_or, Bool.or_false, Bool.and_true, Bool.and_false, h, q, b0]
  · obtain ⟨l, rfl, hl⟩ : ∃ l : Nat, x = Int32.ofNat l ∧ l < 30 := by
      rw [i_lt, i_le] at h
      have e : (30 : Int32).toInt = 30 := rfl
      rw [e, i_0] at h
      exact ⟨x.toInt.toNat, n_of (by omega), by omega⟩
    have g0 := get12 (s := s) (g := g) (n := 0) hl (by omega)
    rw [Nat.add_zero] at g0
    by_cases q : s.2.1 142 (1169 * l) = 1 <;> simp (decide := true) only [fX12_isLayer, ob139, jX12_isLayer_24, jX12_isLayer_25, ob_s, b2_s, tc_r, tc_l, F_sF, A_sF, R_sF, L_sF, F_sA, A_sA, R_sA, L_sA, F_sR, A_sR, R_sR, L_sR, F_sL, A_sL, R_sL, L_sL, and_true, true_and, and_false, false_and, and_self, reduceIte, sF_sF, sA_sA, false_or, or_false, true_or, or_true, not_false_eq_true, not_true_eq_false, decide_true, decide_false, Bool.true_or, Bool.or_true, Bool.false_and, Bool.true_and, Bool.false_or, Bool.or_false, Bool.and_true, Bool.and_false, h, g0, q, isL_o hl, b0, b1]
theorem find9 {s : e_S} {g : ps_G} {a la : Nat} {w h sz nx : Int32} {oa : Nat} {ly : Nat → Option Nat} {x : Int32} (ha : e_fr a) (hla : e_fr la) (c1 : g.2.2 a = .inr (9, [.int w, .int h, .ref la, .ref oa, .int sz, .int nx])) (c2 : g.2.2 la = .inl (3, (30, .inr (.inr (.inr (.inr ly)))))) : fX9_find (e_g s g) a x = some (if 0 ≤ x.toInt ∧ x.toInt < 30 then ly x.toInt.toNat else none) := by
  have r2 : q_fR 9 2 (e_g s g) a = some (some la) := d_fR ha c1 rfl
  have e : (30 : Int32).toInt = 30 := rfl
  by_cases q : 0 ≤ x.toInt ∧ x.toInt < 30
  · have q1 : ¬ x < 0 ∧ x < 30 := by rw [i_lt, i_lt, e, i_0]; omega
    have q2 : ¬ (x < 0 ∨ 30 ≤ x.toNatClampNeg) := by rw [i_lt, i_idx, i_0]; omega
    have q3 : x.toNatClampNeg = x.toInt.toNat := rfl
    simp (decide := true) only [fX9_find, jX9_find_20, q1, r2, ob_s, b2_s, tc_r, tc_l, F_sF, A_sF, R_sF, L_sF, F_sA, A_sA, R_sA, L_sA, F_sR, A_sR, R_sR, L_sR, F_sL, A_sL, R_sL, L_sL, and_true, true_and, and_false, false_and, and_self, reduceIte, sF_sF, sA_sA, false_or, or_false, true_or, or_true, not_false_eq_true, not_true_eq_false, decide_true, decide_false, Bool.true_or, Bool.or_true, Bool.false_and, Bool.true_and, Bool.false_or, Bool.or_false, Bool.and_true, Bool.and_false, d_aR hla c2 (by decide), q, q3, show ¬ 30 ≤ x.toInt.toNat by omega]
  · have q1 : ¬ (¬ x < 0 ∧ x < 30) := by rw [i_lt, i_lt, e, i_0]; omega
    simp (decide := true) only [fX9_find, jX9_find_20, q1, ob_s, b2_s, tc_r, tc_l, F_sF, A_sF, R_sF, L_sF, F_sA, A_sA, R_sA, L_sA, F_sR, A_sR, R_sR, L_sR, F_sL, A_sL, R_sL, L_sL, and_true, true_and, and_false, false_and, and_self, reduceIte, sF_sF, sA_sA, false_or, or_false, true_or, or_true, not_false_eq_true, not_true_eq_false, decide_true, decide_false, Bool.true_or, Bool.or_true, Bool.false_and, Bool.true_and, Bool.false_or, Bool.or_false, Bool.and_true, Bool.and_false, q]
theorem known11 {s : e_S} {g : ps_G} {a w h : Nat} {N : Nat → Int32} {x : Int32} (hg : 195 ≤ g.1) (e0 : s.2.2.1 8 0 = some a) (hs : StN g a w h N) : (isL N x = false ∧ fX11_known (e_g s g) 8 x = some (.inl "java/util/NoSuchElementException", e_g s (nx g))) ∨ ∃ l b, x = Int32.ofNat l ∧ l < 30 ∧ isL N x = true ∧ N (1169 * l) = 1 ∧ fX11_known (e_g s g) 8 x = some (.inr (some b), e_g s g) ∧ LyN g b w h l (lR N l) := by
  have hob := (stW (s := s) hs).2.2.2
  obtain ⟨t, h1, h2, la, oa, sz, ly, od, c1, c0, c2, c3, c9, c4, c5, c6, c7, c8, c10⟩ := hs
  have e3 : ps_nw (e_g s g) 6 ps_e0 = e_g s (nx g) := e_nw hg
  have hf := find9 (s := s) (x := x) h1 c1 c5 c6
  by_cases q : 0 ≤ x.toInt ∧ x.toInt < 30
  · obtain ⟨l, rfl, hl⟩ : ∃ l : Nat, x = Int32.ofNat l ∧ l < 30 := ⟨x.toInt.toNat, n_of (by omega), by omega⟩
    rw [if_pos q, n_int (by omega), Int.toNat_natCast] at hf
    have hc := c10 l hl
    by_cases hN : N (1169 * l) = 1
    · rw [if_pos hN] at hc
      obtain ⟨b, b1, b2⟩ := hc
      have n0 : ¬ (some b = none) := nofun
      refine Or.inr ⟨l, b, rfl, hl, by rw [isL_o hl, decide_eq_true hN], hN, ?_, b2⟩
      simp (decide := true) only [fX11_known, f8_0, ob_s, b2_s, tc_r, tc_l, F_sF, A_sF, R_sF, L_sF, F_sA, A_sA, R_sA, L_sA, F_sR, A_sR, R_sR, L_sR, F_sL, A_sL, R_sL, L_sL, and_true, true_and, and_false, false_and, and_self, reduceIte, sF_sF, sA_sA, false_or, or_false, true_or, or_true, not_false_eq_true, not_true_eq_false, decide_true, decide_false, Bool.true_or, Bool.or_true, Bool.false_and, Bool.true_and, Bool.false_or, Bool.or_false, Bool.and_true, Bool.and_false, e0, hob, hf, b1, n0]
    · rw [if_neg hN] at hc
      refine Or.inl ⟨by rw [isL_o hl, decide_eq_false hN], ?_⟩
      simp (decide := true) only [fX11_known, f8_0, ob_s, b2_s, tc_r, tc_l, F_sF, A_sF, R_sF, L_sF, F_sA, A_sA, R_sA, L_sA, F_sR, A_sR, R_sR, L_sR, F_sL, A_sL, R_sL, L_sL, and_true, true_and, and_false, false_and, and_self, reduceIte, sF_sF, sA_sA, false_or, or_false, true_or, or_true, not_false_eq_true, not_true_eq_false, decide_true, decide_false, Bool.true_or, Bool.or_true, Bool.false_and, Bool.true_and, Bool.false_or, Bool.or_false, Bool.and_true, Bool.and_false, e0, hob, hf, hc, e3]
  · rw [if_neg q] at hf
    refine Or.inl ⟨?_, ?_⟩
    · unfold isL
      rw [decide_eq_false_iff_not]
      exact fun z => q ⟨z.1, z.2.1⟩
    · simp (decide := true) only [fX11_known, f8_0, ob_s, b2_s, tc_r, tc_l, F_sF, A_sF, R_sF, L_sF, F_sA, A_sA, R_sA, L_sA, F_sR, A_sR, R_sR, L_sR, F_sL, A_sL, R_sL, L_sL, and_true, true_and, and_false, false_and, and_self, reduceIte, sF_sF, sA_sA, false_or, or_false, true_or, or_true, not_false_eq_true, not_true_eq_false, decide_true, decide_false, Bool.true_or, Bool.or_true, Bool.false_and, Bool.true_and, Bool.false_or, Bool.or_false, Bool.and_true, Bool.and_false, e0, hob, hf, e3]
theorem okL_st {g : ps_G} {w h : Nat} {N : Nat → Int32} {ly : Nat → Option Nat} (c : ∀ l, l < 30 → if N (1169 * l) = 1 then ∃ b, ly l = some b ∧ LyN g b w h l (lR N l) else ly l = none) : ∀ k, k < 30 → okL g (ly k) := by
  intro k hk b hb
  have := c k hk
  by_cases hN : N (1169 * k) = 1
  · rw [if_pos hN] at this
    obtain ⟨b', b1, b2⟩ := this
    rw [hb] at b1
    cases b1
    obtain ⟨z1, z2, p, q, x0, y0, x1, y1, pa, ma, z3, -⟩ := b2
    exact ⟨z1, z2, _, z3⟩
  · rw [if_neg hN, hb] at this
    cases this
/-- the STAND with the LAYER c at l; c may lie behind g -/
theorem replace11 {s : e_S} {g g1 : ps_G} {a w h pc l c : Nat} {N N' : Nat → Int32} (hwh : w * h ≤ 576) (hg : 195 ≤ g.1) (hE : Ext g g1) (hE2 : g1.1 + 3 ≤ g.1 + 100 ∧ g1.2.1 + 66 ≤ g.2.1 + 10000) (e0 : s.2.2.1 8 0 = some a) (e1 : s.1 8 2 = Int32.ofNat pc) (h2 : pc ≤ 24) (hp : ∀ i, i < pc → ∃ b N'', s.2.2.1 12 i = some b ∧ StN g b w h N'') (hs : StN g a w h N) (hl : l < 30) (hl1 : N (1169 * l) = 1) (hc : LyN g1 c w h l (lR N' l)) (hN' : ∀ k, k < 35071 → (k < 1169 * l ∨ 1169 * l + 1169 ≤ k) → N k = N' k) (h03 : ∀ i, i < 4 → N (1169 * l + i) = N' (1169 * l + i)) : ∃ g2, fX11_replaceLayer (e_g s g1) 8 c = some (e_g (fgC (rmC s a g1.1 pc)) g2) ∧ Ext g g2 ∧ StN g2 g1.1 w h N' := by
  have hs1 := stN_ext hE hs
  have hg1 : 195 ≤ g1.1 := Nat.le_trans hg hE.1
  have hob := (stW (s := s) hs1).2.2.2
  obtain ⟨t, h1, h2', la, oa, sz, ly, od, c1, c0, c2, c3, c9, c4, c5, c6, c7, c8, c10⟩ := hs1
  obtain ⟨y1, y2, p, q, x0, y0, x1, yy1, pa, ma, y3, -⟩ := id hc
  have ag := again9 (s := s) hg1 h1 h2' c1 c2 c3 c4 c5 c6 c7 (okL_st c10)
  have ex := exch9 (s := s) (w := Int32.ofNat w) (h := Int32.ofNat h) (ly := cR ly 30) (od := cI od 30) (sz := Int32.ofNat sz) (nx := N 35070) hg1 y1 y2 y3 rfl hl
  have ob1 : ∀ ly od sz nx, q_ob 9 (e_g s (mkS g1 (Int32.ofNat w) (Int32.ofNat h) ly od sz nx)) g1.1 = some () := fun ly od sz nx => S_ob hg1
  have bc := become11 (s := s) (g := mkS g1 (Int32.ofNat w) (Int32.ofNat h) (rs (cR ly 30) l (some c)) (cI od 30) (Int32.ofNat sz) (N 35070)) (a := a) (b := g1.1) (pc := pc) h1 (by rw [mkS_lo h2']; exact c5) e0 e1 h2 (fun i hi => by
    obtain ⟨b, N'', z1, z2⟩ := hp i hi
    obtain ⟨fs, z3, z4⟩ := stN_cell (stN_ext hE z2)
    have z5 : b < g1.1 := (stN_ext hE z2).2.2.1
    exact ⟨b, fs, z1, z3, by rw [mkS_lo z5]; exact z4⟩)
  have hE3 : Ext g (mkS g1 (Int32.ofNat w) (Int32.ofNat h) (rs (cR ly 30) l (some c)) (cI od 30) (Int32.ofNat sz) (N 35070)) := ext_tr hE ⟨by show g1.1 ≤ g1.1 + 3; omega, hE2.1, by show g1.2.1 ≤ g1.2.1 + 66; omega, hE2.2, fun a ha => mkS_lo ha⟩
  have e70 : N 35070 = N' 35070 := hN' _ (by omega) (by omega)
  have e4 : ∀ m i, m < 30 → i < 4 → N (1169 * m + i) = N' (1169 * m + i) := by
    intro m i hm hi
    by_cases hml : m = l
    · rw [hml]; exact h03 i hi
    · exact hN' _ (by omega) (by omega)
  refine ⟨_, ?_, hE3, ?_⟩
  · simp (decide := true) only [fX11_replaceLayer, f8_0, ob8, ob_s, b2_s, tc_r, tc_l, F_sF, A_sF, R_sF, L_sF, F_sA, A_sA, R_sA, L_sA, F_sR, A_sR, R_sR, L_sR, F_sL, A_sL, R_sL, L_sL, and_true, true_and, and_false, false_and, and_self, reduceIte, sF_sF, sA_sA, false_or, or_false, true_or, or_true, not_false_eq_true, not_true_eq_false, decide_true, decide_false, Bool.true_or, Bool.or_true, Bool.false_and, Bool.true_and, Bool.false_or, Bool.or_false, Bool.and_true, Bool.and_false, e0, hob, ag, ob1, ex, bc]
  · refine ⟨trN_e e4 e70 t, Or.inl hg1, by show g1.1 < g1.1 + 3; omega, g1.1 + 1, g1.1 + 2, sz, _, _, Or.inl (by omega), by omega, by show g1.1 + 1 < g1.1 + 3; omega, Or.inl (by omega), by omega, by show g1.1 + 2 < g1.1 + 3; omega, by rw [← e70]; exact mkS_0, mkS_1, mkS_2, orN_e e4 (fun i hi => (cI_lt hi).symm) c8, fun m hm => ?_⟩
    have hm0 := e4 m 0 hm (by omega)
    rw [Nat.add_zero] at hm0
    have hcm := c10 m hm
    by_cases hml : m = l
    · subst hml
      rw [← hm0, if_pos hl1]
      exact ⟨c, rs_s, lyN_ext ext_mkS hc⟩
    · rw [hm0] at hcm
      by_cases hNm : N' (1169 * m) = 1
      · rw [if_pos hNm] at hcm ⊢
        obtain ⟨b, b1, b2⟩ := hcm
        refine ⟨b, by rw [rs_n hml, cR_lt hm]; exact b1, lyN_ext ext_mkS ?_⟩
        have er : ∀ k, k < 1169 → lR N m k = lR N' m k := fun k hk => hN' _ (by omega) (by omega)
        exact lyN_c hwh er b2
      · rw [if_neg hNm] at hcm ⊢
        rw [rs_n hml, cR_lt hm]; exact hcm
