-- needs: 07 10 13 14 20 21 22 23 24 25 26 27 32 33 34 36 38 39 40 41 42 43 44 46 47 48
/-! ===== pixels put anew ===== -/
theorem md {w x y : Nat} (hx : x < w) : (y * w + x) % w = x ∧ (y * w + x) / w = y := by
  constructor
  · rw [Nat.mul_comm, Nat.mul_add_mod]; exact Nat.mod_eq_of_lt hx
  · rw [Nat.mul_comm, Nat.mul_add_div (by omega), Nat.div_eq_of_lt hx, Nat.add_zero]
def mkA (g : ps_G) (f : Nat → Int32) : ps_G := ps_nw g 576 (.inl (0, (576, .inl f)))
theorem ext_mkA {g : ps_G} {f : Nat → Int32} : Ext g (mkA g f) := by
  refine ⟨Nat.le_succ _, ?_, Nat.le_add_right _ _, ?_, fun a ha => nw_lo ha⟩
  · show g.1 + 1 ≤ g.1 + 100; omega
  · show g.2.1 + 576 ≤ g.2.1 + 10000; omega
theorem nA_mk {s : e_S} {g : ps_G} (hg : 195 ≤ g.1) : q_nA .int (e_g s g) (576 : Int32) = some (e_g s (mkA g (cI (fun _ => 0) 0))) := by
  have e2 : (cI (fun _ => 0) 0) = fun _ => 0 := by funext k; unfold cI; rw [if_neg (by omega)]
  rw [e2]
  unfold q_nA
  rw [if_neg (by decide)]
  exact congrArg some (e_nw hg)
theorem wI_mk {s : e_S} {g : ps_G} {f : Nat → Int32} {i v : Int32} (hg : 195 ≤ g.1) : q_wI (e_g s (mkA g f)) g.1 i v = if i < 0 ∨ 576 ≤ i.toNatClampNeg then none else some (e_g s (mkA g (upd f i.toNatClampNeg v))) := by
  unfold mkA
  rw [d_wI (Or.inl hg) (by omega) nw_at, nw_up]
theorem knownPix11 {s : e_S} {g : ps_G} {a w h : Nat} {N : Nat → Int32} {x : Int32} (hg : 195 ≤ g.1) (e0 : s.2.2.1 8 0 = some a) (hs : StN g a w h N) : (isL N x = false ∧ fX11_knownPixels (e_g s g) 8 x = some (.inl "java/util/NoSuchElementException", e_g s (nx g))) ∨ ∃ l b, x = Int32.ofNat l ∧ l < 30 ∧ isL N x = true ∧ N (1169 * l) = 1 ∧ LyN g b w h l (lR N l) ∧ ((¬ N (1169 * l + 1) = 0 ∧ fX11_knownPixels (e_g s g) 8 x = some (.inl "java/lang/IllegalArgumentException", e_g s (nx g))) ∨ (N (1169 * l + 1) = 0 ∧ fX11_knownPixels (e_g s g) 8 x = some (.inr (some b), e_g s g))) := by
  have e3 : ps_nw (e_g s g) 6 ps_e0 = e_g s (nx g) := e_nw hg
  rcases known11 (x := x) hg e0 hs with ⟨k1, k2⟩ | ⟨l, b, rfl, hl, k1, k3, k2, hLy⟩
  · exact Or.inl ⟨k1, by simp (decide := true) only [fX11_knownPixels, ob8, k2, ob_s, b2_s, tc_r, tc_l, F_sF, A_sF, R_sF, L_sF, F_sA, A_sA, R_sA, L_sA, F_sR, A_sR, R_sR, L_sR, F_sL, A_sL, R_sL, L_sL, and_true, true_and, and_false, false_and, and_self, reduceIte, sF_sF, sA_sA, false_or, or_false, true_or, or_true, not_false_eq_true, not_true_eq_false, decide_true, decide_false, Bool.true_or, Bool.or_true, Bool.false_and, Bool.true_and, Bool.false_or, Bool.or_false, Bool.and_true, Bool.and_false]⟩
  · refine Or.inr ⟨l, b, rfl, hl, k1, k3, hLy, ?_⟩
    obtain ⟨y1, y2, p, q', x0, y0, x1, yy1, pa, ma, y3, z1, z2, z3, z4, z5, z6, z7, z8, z9, z10, z11, z12, -⟩ := id hLy
    have fk : q_fI 4 1 (e_g s g) b = some (N (1169 * l + 1)) := d_fI y1 y3 rfl
    by_cases hk : N (1169 * l + 1) = 0
    · obtain ⟨d1, d0, d2, f, d3, d4⟩ := z12 hk
      have f15 : q_fR 4 15 (e_g s g) b = some (some pa) := d_fR y1 y3 rfl
      have ln : q_len (e_g s g) pa = some (Int32.ofNat 576) := d_len d1 d3
      have l5 : Int32.ofNat 576 = 576 := rfl
      exact Or.inr ⟨hk, by simp (decide := true) only [fX11_knownPixels, ob8, k2, fk, hk, f15, ln, l5, ob_s, b2_s, tc_r, tc_l, F_sF, A_sF, R_sF, L_sF, F_sA, A_sA, R_sA, L_sA, F_sR, A_sR, R_sR, L_sR, F_sL, A_sL, R_sL, L_sL, and_true, true_and, and_false, false_and, and_self, reduceIte, sF_sF, sA_sA, false_or, or_false, true_or, or_true, not_false_eq_true, not_true_eq_false, decide_true, decide_false, Bool.true_or, Bool.or_true, Bool.false_and, Bool.true_and, Bool.false_or, Bool.or_false, Bool.and_true, Bool.and_false]⟩
    · exact Or.inl ⟨hk, by simp (decide := true) only [fX11_knownPixels, ob8, k2, fk, hk, e3, ob_s, b2_s, tc_r, tc_l, F_sF, A_sF, R_sF, L_sF, F_sA, A_sA, R_sA, L_sA, F_sR, A_sR, R_sR, L_sR, F_sL, A_sL, R_sL, L_sL, and_true, true_and, and_false, false_and, and_self, reduceIte, sF_sF, sA_sA, false_or, or_false, true_or, or_true, not_false_eq_true, not_true_eq_false, decide_true, decide_false, Bool.true_or, Bool.or_true, Bool.false_and, Bool.true_and, Bool.false_or, Bool.or_false, Bool.and_true, Bool.and_false]⟩
theorem why12 {s : e_S} {g : ps_G} {x : Int32} {b : Bool} : fX12_why (e_g s g) 139 x (if b then 1 else 0) = some (if b = false ∨ (isL (s.2.1 142) x = true ∧ ¬ s.2.1 142 (1169 * x.toInt.toNat + 1) = 0) then 1 else if isL (s.2.1 142) x then 0 else 2) := by
  have i0 := is12 (s := s) (g := g) (x := x) (k := 0)
  cases b
  · simp (decide := true) only [fX12_why, jX12_why_21, jX12_why_38, ob_s, b2_s, tc_r, tc_l, F_sF, A_sF, R_sF, L_sF, F_sA, A_sA, R_sA, L_sA, F_sR, A_sR, R_sR, L_sR, F_sL, A_sL, R_sL, L_sL, and_true, true_and, and_false, false_and, and_self, reduceIte, sF_sF, sA_sA, false_or, or_false, true_or, or_true, not_false_eq_true, not_true_eq_false, decide_true, decide_false, Bool.true_or, Bool.or_true, Bool.false_and, Bool.true_and, Bool.false_or, Bool.or_false, Bool.and_true, Bool.and_false]
  · by_cases hx : isL (s.2.1 142) x
    · by_cases hk : s.2.1 142 (1169 * x.toInt.toNat + 1) = 0
      · have q1 : isL (s.2.1 142) x = true ∧ s.2.1 142 (1169 * x.toInt.toNat + 1) = OfNat.ofNat 0 := ⟨hx, hk⟩
        rw [if_pos q1] at i0
        simp (decide := true) only [fX12_why, jX12_why_25, jX12_why_38, ob139, isLayer12, hx, i0, hk, ob_s, b2_s, tc_r, tc_l, F_sF, A_sF, R_sF, L_sF, F_sA, A_sA, R_sA, L_sA, F_sR, A_sR, R_sR, L_sR, F_sL, A_sL, R_sL, L_sL, and_true, true_and, and_false, false_and, and_self, reduceIte, sF_sF, sA_sA, false_or, or_false, true_or, or_true, not_false_eq_true, not_true_eq_false, decide_true, decide_false, Bool.true_or, Bool.or_true, Bool.false_and, Bool.true_and, Bool.false_or, Bool.or_false, Bool.and_true, Bool.and_false]
      · have q1 : ¬ (isL (s.2.1 142) x = true ∧ s.2.1 142 (1169 * x.toInt.toNat + 1) = OfNat.ofNat 0) := fun z => hk z.2
        rw [if_neg q1] at i0
        simp (decide := true) only [fX12_why, jX12_why_21, jX12_why_38, ob139, isLayer12, hx, i0, hk, ob_s, b2_s, tc_r, tc_l, F_sF, A_sF, R_sF, L_sF, F_sA, A_sA, R_sA, L_sA, F_sR, A_sR, R_sR, L_sR, F_sL, A_sL, R_sL, L_sL, and_true, true_and, and_false, false_and, and_self, reduceIte, sF_sF, sA_sA, false_or, or_false, true_or, or_true, not_false_eq_true, not_true_eq_false, decide_true, decide_false, Bool.true_or, Bool.or_true, Bool.false_and, Bool.true_and, Bool.false_or, Bool.or_false, Bool.and_true, Bool.and_false]
    · simp (decide := true) only [fX12_why, jX12_why_25, jX12_why_38, ob139, isLayer12, hx, ob_s, b2_s, tc_r, tc_l, F_sF, A_sF, R_sF, L_sF, F_sA, A_sA, R_sA, L_sA, F_sR, A_sR, R_sR, L_sR, F_sL, A_sL, R_sL, L_sL, and_true, true_and, and_false, false_and, and_self, reduceIte, sF_sF, sA_sA, false_or, or_false, true_or, or_true, not_false_eq_true, not_true_eq_false, decide_true, decide_false, Bool.true_or, Bool.or_true, Bool.false_and, Bool.true_and, Bool.false_or, Bool.or_false, Bool.and_true, Bool.and_false]
/-- the pixels of l -/
def pxN (N : Nat → Int32) (l : Nat) : Nat → Int32 := fun k => N (1169 * l + (17 + k))
theorem begin12 {s : e_S} {g : ps_G} {l : Nat} (hl : l < 30) : fX12_begin (e_g s g) 139 (Int32.ofNat l) = some (e_g (sA s 158 (cpT (s.2.1 158) (pxN (s.2.1 142) l) 0 576)) g) := by
  have hL : q_lp (fun t => bX12_begin_2 139 (Int32.ofNat l) t.1 t.2) ((0 : Int32), e_g s g) = some (e_g (sA s 158 (cpT (s.2.1 158) (pxN (s.2.1 142) l) 0 576)) g) := by
    refine lp_0 (fun i => (Int32.ofNat i, e_g (sA s 158 (cpT (s.2.1 158) (pxN (s.2.1 142) l) 0 i)) g)) 576 (by rw [cpT_0, sA_id]; rfl) (fun i hi => ?_) ?_
    · have q1 : ¬ (576 : Int32) ≤ Int32.ofNat i := by
        show ¬ Int32.ofNat 576 ≤ Int32.ofNat i
        rw [n_le (by omega) (by omega)]; omega
      have e9 : (17 : Int32) + Int32.ofNat i = Int32.ofNat (17 + i) := n_add (n := 17)
      have gg : ∀ (s' : e_S), fX12_get (e_g s' g) 139 (Int32.ofNat l) (Int32.ofNat (17 + i)) = some (s'.2.1 142 (1169 * l + (17 + i))) := fun s' => get12 (n := 17 + i) hl (by omega)
      have cu := cpT_up (A := s.2.1 158) (N := pxN (s.2.1 142) l) (b := 0) (n := i)
      rw [Nat.zero_add] at cu
      have ep : s.2.1 142 (1169 * l + (17 + i)) = pxN (s.2.1 142) l i := rfl
      simp (decide := true) only [bX12_begin_2, f139_35, u158, ob139, ob_s, b2_s, tc_r, tc_l, F_sF, A_sF, R_sF, L_sF, F_sA, A_sA, R_sA, L_sA, F_sR, A_sR, R_sR, L_sR, F_sL, A_sL, R_sL, L_sL, and_true, true_and, and_false, false_and, and_self, reduceIte, sF_sF, sA_sA, false_or, or_false, true_or, or_true, not_false_eq_true, not_true_eq_false, decide_true, decide_false, Bool.true_or, Bool.or_true, Bool.false_and, Bool.true_and, Bool.false_or, Bool.or_false, Bool.and_true, Bool.and_false, q1, e9, gg, n_in2 hi (by decide), n_idx (show i < 2147483648 by omega), ep, cu, n_suc]
    · simp (decide := true) only [bX12_begin_2, f139_35, u158, ob139, ob_s, b2_s, tc_r, tc_l, F_sF, A_sF, R_sF, L_sF, F_sA, A_sA, R_sA, L_sA, F_sR, A_sR, R_sR, L_sR, F_sL, A_sL, R_sL, L_sL, and_true, true_and, and_false, false_and, and_self, reduceIte, sF_sF, sA_sA, false_or, or_false, true_or, or_true, not_false_eq_true, not_true_eq_false, decide_true, decide_false, Bool.true_or, Bool.or_true, Bool.false_and, Bool.true_and, Bool.false_or, Bool.or_false, Bool.and_true, Bool.and_false]
  simp (decide := true) only [fX12_begin, hL, ob_s, b2_s, tc_r, tc_l, F_sF, A_sF, R_sF, L_sF, F_sA, A_sA, R_sA, L_sA, F_sR, A_sR, R_sR, L_sR, F_sL, A_sL, R_sL, L_sL, and_true, true_and, and_false, false_and, and_self, reduceIte, sF_sF, sA_sA, false_or, or_false, true_or, or_true, not_false_eq_true, not_true_eq_false, decide_true, decide_false, Bool.true_or, Bool.or_true, Bool.false_and, Bool.true_and, Bool.false_or, Bool.or_false, Bool.and_true, Bool.and_false]
theorem pixEdit {s : e_S} {g : ps_G} {a b w h pc l : Nat} {N N' f : Nat → Int32} (hwh : w * h ≤ 576) (hg : 195 ≤ g.1) (e0 : s.2.2.1 8 0 = some a) (e1 : s.1 8 2 = Int32.ofNat pc) (h2 : pc ≤ 24) (hp : ∀ i, i < pc → ∃ b N'', s.2.2.1 12 i = some b ∧ StN g b w h N'') (hs : StN g a w h N) (hl : l < 30) (hl1 : N (1169 * l) = 1) (hLy : LyN g b w h l (lR N l)) (hk : N (1169 * l + 1) = 0) (hN' : ∀ j, ¬ (1169 * l + 17 ≤ j ∧ j < 1169 * l + 593) → N j = N' j) (hf : ∀ k, k < w * h → f k = N' (1169 * l + (17 + k))) : ∃ g2, fX11_replacePixels (e_g s (mkA g f)) 8 b g.1 = some (e_g (fgC (rmC s a (g.1 + 2) pc)) g2) ∧ Ext g g2 ∧ StN g2 (g.1 + 2) w h N' := by
  have hLA := lyN_ext (ext_mkA (f := f)) hLy
  have hgA : 195 ≤ (mkA g f).1 := Nat.le_trans hg (Nat.le_succ _)
  obtain ⟨y1, y2, p, q, x0, y0, x1, yy1, pa, ma, y3, z1, z2, z3, z4, z5, z6, z7, z8, z9, z10, z11, z12, z13, z14⟩ := hLA
  have ag := again4 (s := s) hgA y1 y2 (rg01 z4) (rg01 z5) y3
  have ob4 : q_ob 4 (e_g s (mkA g f)) b = some () := d_ob y1 y3
  have u : ∀ j, j < 17 ∨ 593 ≤ j → lR N' l j = lR N l j := fun j hj => (hN' _ (by omega)).symm
  have k0 : lR N l 1 = 0 := hk
  have hE : Ext g (mkL (mkA g f) [.int (Int32.ofNat l), .int (lR N l 1), .int (lR N l 2), .int (lR N l 4), .int (lR N l 5), .int (lR N l 6), .int (lR N l 7), .int (lR N l 8), .int (lR N l 9), .int p, .int q, .int x0, .int y0, .int x1, .int yy1, .ref g.1, .ref ma]) := ext_tr ext_mkA ⟨Nat.le_succ _, by show g.1 + 1 + 1 ≤ _; omega, Nat.le_add_right _ _, by show g.2.1 + 576 + 17 ≤ _; omega, fun a ha => nw_lo ha⟩
  have hLN : LyN (mkL (mkA g f) [.int (Int32.ofNat l), .int (lR N l 1), .int (lR N l 2), .int (lR N l 4), .int (lR N l 5), .int (lR N l 6), .int (lR N l 7), .int (lR N l 8), .int (lR N l 9), .int p, .int q, .int x0, .int y0, .int x1, .int yy1, .ref g.1, .ref ma]) (mkA g f).1 w h l (lR N' l) := by
    refine ⟨Or.inl hgA, Nat.lt_succ_self _, p, q, x0, y0, x1, yy1, g.1, ma, ?_, ?_, ?_, ?_, ?_, ?_, ?_, ?_, ?_, ?_, ?_, ?_, ?_, ?_, ?_⟩
    · rw [u 1 (by omega), u 2 (by omega), u 4 (by omega), u 5 (by omega), u 6 (by omega), u 7 (by omega), u 8 (by omega), u 9 (by omega)]
      exact nw_at
    · rw [u 1 (by omega)]; exact z1
    · rw [u 4 (by omega)]; exact z2
    · rw [u 5 (by omega)]; exact z3
    · rw [u 6 (by omega)]; exact z4
    · rw [u 7 (by omega)]; exact z5
    · rw [u 8 (by omega)]; exact z6
    · rw [u 9 (by omega)]; exact z7
    · rw [u 1 (by omega), u 11 (by omega), u 12 (by omega)]; exact z8
    · rw [u 1 (by omega), u 13 (by omega), u 14 (by omega), u 15 (by omega), u 16 (by omega)]; exact z9
    · rw [u 1 (by omega)]; exact z10
    · rw [u 1 (by omega)]; exact z11
    · intro _
      refine ⟨Or.inl hg, Nat.le_trans (by decide) hg, Nat.lt_succ_of_lt (Nat.lt_succ_self _), f, ?_, hf⟩
      exact (nw_lo (Nat.lt_succ_self g.1)).trans nw_at
    · rw [u 1 (by omega)]; exact ⟨fun z => absurd k0 z, Nat.le_trans (by decide) hgA⟩
    · rw [u 10 (by omega)]
      rcases z14 with c | ⟨d1, d2, d0, d3, f', d4, d5⟩
      · exact Or.inl c
      · exact Or.inr ⟨d1, d2, d0, Nat.lt_succ_of_lt d3, f', by unfold mkL; rw [nw_lo d3]; exact d4, fun i hi => by rw [u _ (by omega)]; exact d5 i hi⟩
  obtain ⟨g2, w1, w2, w3⟩ := replace11 (s := s) (N' := N') hwh hg hE ⟨by show g.1 + 1 + 1 + 3 ≤ _; omega, by show g.2.1 + 576 + 17 + 66 ≤ _; omega⟩ e0 e1 h2 hp hs hl hl1 hLN (fun j hj hj2 => hN' j (by omega)) (fun i hi => hN' _ (by omega))
  refine ⟨g2, ?_, w2, w3⟩
  unfold mkL at ag w1
  simp (decide := true) only [fX11_replacePixels, ob4, ag, m_sR hgA, List.length_cons, List.length_nil, List.set_cons_zero, List.set_cons_succ, ob8, w1, ob_s, b2_s, tc_r, tc_l, F_sF, A_sF, R_sF, L_sF, F_sA, A_sA, R_sA, L_sA, F_sR, A_sR, R_sR, L_sR, F_sL, A_sL, R_sL, L_sL, and_true, true_and, and_false, false_and, and_self, reduceIte, sF_sF, sA_sA, false_or, or_false, true_or, or_true, not_false_eq_true, not_true_eq_false, decide_true, decide_false, Bool.true_or, Bool.or_true, Bool.false_and, Bool.true_and, Bool.false_or, Bool.or_false, Bool.and_true, Bool.and_false]
  rfl
