-- needs: 07 10 13 14 20 21 22 23 24 25 26 27 32 33 34 36 38 39 40 41 42 43 44 46 47 48
/-! ===== mask ===== -/
/-- the cells with a new LAYER and a new row of 576 behind it -/
def mk2 (g : ps_G) (fs : List Value) (f : Nat → Int32) : ps_G := (g.1 + 2, g.2.1 + 593, fun j => if j = g.1 then .inr (4, fs) else if j = g.1 + 1 then .inl (0, (576, .inl f)) else g.2.2 j)
theorem mk2_0 {g : ps_G} {fs : List Value} {f : Nat → Int32} : (mk2 g fs f).2.2 g.1 = .inr (4, fs) := if_pos rfl
theorem mk2_1 {g : ps_G} {fs : List Value} {f : Nat → Int32} : (mk2 g fs f).2.2 (g.1 + 1) = .inl (0, (576, .inl f)) := by
  show (if g.1 + 1 = g.1 then _ else if g.1 + 1 = g.1 + 1 then _ else _) = _
  rw [if_neg (by omega), if_pos rfl]
theorem mk2_lo {g : ps_G} {fs : List Value} {f : Nat → Int32} {a : Nat} (ha : a < g.1) : (mk2 g fs f).2.2 a = g.2.2 a := by
  show (if a = g.1 then _ else if a = g.1 + 1 then _ else g.2.2 a) = _
  rw [if_neg (by omega), if_neg (by omega)]
theorem ext_mk2 {g : ps_G} {fs : List Value} {f : Nat → Int32} : Ext g (mk2 g fs f) := by
  refine ⟨?_, ?_, ?_, ?_, fun a ha => mk2_lo ha⟩
  · show g.1 ≤ g.1 + 2; omega
  · show g.1 + 2 ≤ g.1 + 100; omega
  · show g.2.1 ≤ g.2.1 + 593; omega
  · show g.2.1 + 593 ≤ g.2.1 + 10000; omega
theorem mk2_nw {g : ps_G} {fs : List Value} {f : Nat → Int32} : ps_nw (mkL g fs) 576 (.inl (0, (576, .inl f))) = mk2 g fs f := by
  unfold mkL ps_nw mk2
  dsimp only
  congr 2
  funext j
  by_cases h : j = g.1
  · rw [if_neg (by omega), if_pos h, if_pos h]
  · rw [if_neg h, if_neg h]
theorem mk2_u0 {g : ps_G} {fs fs' : List Value} {f : Nat → Int32} : ps_up (mk2 g fs f) g.1 (.inr (4, fs')) = mk2 g fs' f := by
  unfold ps_up mk2
  congr 2
  funext j
  dsimp only
  by_cases h : j = g.1
  · rw [if_pos h, if_pos h]
  · rw [if_neg h, if_neg h, if_neg h]
theorem mk2_u1 {g : ps_G} {fs : List Value} {f f' : Nat → Int32} : ps_up (mk2 g fs f) (g.1 + 1) (.inl (0, (576, .inl f'))) = mk2 g fs f' := by
  unfold ps_up mk2
  congr 2
  funext j
  dsimp only
  by_cases h : j = g.1 + 1
  · rw [if_pos h, if_neg (by omega), if_pos h]
  · rw [if_neg h, if_neg h, if_neg h]
/-- what mask puts -/
def mkV (how : Int32) (A M : Nat → Int32) : Nat → Int32 := fun k => if how = 0 then 0 else if how = 1 then A k else if how = 2 then 255 - M k else 255
theorem mask12l {s : e_S} {g : ps_G} {l : Nat} {how : Int32} (hl : l < 30) : q_lp (fun t => bX12_mask_59 139 (Int32.ofNat l) how t.1 t.2) ((0 : Int32), e_g s g) = some (e_g (sA s 142 (cpT (s.2.1 142) (mkV how (s.2.1 155) (fun k => s.2.1 142 (1169 * l + 593 + k))) (1169 * l + 593) 576)) g) := by
  refine lp_0 (fun i => (Int32.ofNat i, e_g (sA s 142 (cpT (s.2.1 142) (mkV how (s.2.1 155) (fun k => s.2.1 142 (1169 * l + 593 + k))) (1169 * l + 593) i)) g)) 576 (by rw [cpT_0, sA_id]; rfl) (fun i hi => ?_) ?_
  · have q1 : ¬ (576 : Int32) ≤ Int32.ofNat i := by
      show ¬ Int32.ofNat 576 ≤ Int32.ofNat i
      rw [n_le (by omega) (by omega)]; omega
    have e9 : (593 : Int32) + Int32.ofNat i = Int32.ofNat (593 + i) := n_add (n := 593)
    have pp : ∀ (s' : e_S) v, fX12_put (e_g s' g) 139 (Int32.ofNat l) (Int32.ofNat (593 + i)) v = some (e_g (sA s' 142 (upd (s'.2.1 142) (1169 * l + (593 + i)) v)) g) := fun s' v => put12 (n := 593 + i) hl (by omega)
    have gg : ∀ (s' : e_S), fX12_get (e_g s' g) 139 (Int32.ofNat l) (Int32.ofNat (593 + i)) = some (s'.2.1 142 (1169 * l + (593 + i))) := fun s' => get12 (n := 593 + i) hl (by omega)
    have cu := cpT_up (A := s.2.1 142) (N := mkV how (s.2.1 155) (fun k => s.2.1 142 (1169 * l + 593 + k))) (b := 1169 * l + 593) (n := i)
    rw [Nat.add_assoc] at cu
    have co : cpT (s.2.1 142) (mkV how (s.2.1 155) (fun k => s.2.1 142 (1169 * l + 593 + k))) (1169 * l + 593) i (1169 * l + (593 + i)) = s.2.1 142 (1169 * l + 593 + i) := by
      rw [cpT_out (by omega), Nat.add_assoc]
    by_cases h0 : how = 0
    · have v : mkV how (s.2.1 155) (fun k => s.2.1 142 (1169 * l + 593 + k)) i = 0 := if_pos h0
      rw [v] at cu
      subst h0
      simp (decide := true) only [bX12_mask_59, jX12_mask_120_59, q1, e9, ob139, pp, n_suc, cu, ob_s, b2_s, tc_r, tc_l, F_sF, A_sF, R_sF, L_sF, F_sA, A_sA, R_sA, L_sA, F_sR, A_sR, R_sR, L_sR, F_sL, A_sL, R_sL, L_sL, and_true, true_and, and_false, false_and, and_self, reduceIte, sF_sF, sA_sA, false_or, or_false, true_or, or_true, not_false_eq_true, not_true_eq_false, decide_true, decide_false, Bool.true_or, Bool.or_true, Bool.false_and, Bool.true_and, Bool.false_or, Bool.or_false, Bool.and_true, Bool.and_false]
    · by_cases h1 : how = 1
      · have v : mkV how (s.2.1 155) (fun k => s.2.1 142 (1169 * l + 593 + k)) i = s.2.1 155 i := by unfold mkV; rw [if_neg h0, if_pos h1]
        rw [v] at cu
        subst h1
        simp (decide := true) only [bX12_mask_59, f139_31, a155, ob139, jX12_mask_120_59, ob_s, b2_s, tc_r, tc_l, F_sF, A_sF, R_sF, L_sF, F_sA, A_sA, R_sA, L_sA, F_sR, A_sR, R_sR, L_sR, F_sL, A_sL, R_sL, L_sL, and_true, true_and, and_false, false_and, and_self, reduceIte, sF_sF, sA_sA, false_or, or_false, true_or, or_true, not_false_eq_true, not_true_eq_false, decide_true, decide_false, Bool.true_or, Bool.or_true, Bool.false_and, Bool.true_and, Bool.false_or, Bool.or_false, Bool.and_true, Bool.and_false, q1, e9, n_in2 hi (by decide), n_idx (show i < 2147483648 by omega), pp, n_suc, cu]
      · by_cases h2 : how = 2
        · have v : mkV how (s.2.1 155) (fun k => s.2.1 142 (1169 * l + 593 + k)) i = 255 - s.2.1 142 (1169 * l + 593 + i) := by unfold mkV; rw [if_neg h0, if_neg h1, if_pos h2]
          rw [v] at cu
          subst h2
          simp (decide := true) only [bX12_mask_59, jX12_mask_120_59, q1, e9, ob139, gg, co, pp, n_suc, cu, ob_s, b2_s, tc_r, tc_l, F_sF, A_sF, R_sF, L_sF, F_sA, A_sA, R_sA, L_sA, F_sR, A_sR, R_sR, L_sR, F_sL, A_sL, R_sL, L_sL, and_true, true_and, and_false, false_and, and_self, reduceIte, sF_sF, sA_sA, false_or, or_false, true_or, or_true, not_false_eq_true, not_true_eq_false, decide_true, decide_false, Bool.true_or, Bool.or_true, Bool.false_and, Bool.true_and, Bool.false_or, Bool.or_false, Bool.and_true, Bool.and_false]
        · have v : mkV how (s.2.1 155) (fun k => s.2.1 142 (1169 * l + 593 + k)) i = 255 := by unfold mkV; rw [if_neg h0, if_neg h1, if_neg h2]
          rw [v] at cu
          simp (decide := true) only [bX12_mask_59, jX12_mask_120_59, q1, h0, h1, h2, e9, ob139, pp, n_suc, cu, ob_s, b2_s, tc_r, tc_l, F_sF, A_sF, R_sF, L_sF, F_sA, A_sA, R_sA, L_sA, F_sR, A_sR, R_sR, L_sR, F_sL, A_sL, R_sL, L_sL, and_true, true_and, and_false, false_and, and_self, reduceIte, sF_sF, sA_sA, false_or, or_false, true_or, or_true, not_false_eq_true, not_true_eq_false, decide_true, decide_false, Bool.true_or, Bool.or_true, Bool.false_and, Bool.true_and, Bool.false_or, Bool.or_false, Bool.and_true, Bool.and_false]
  · simp (decide := true) only [bX12_mask_59, ob_s, b2_s, tc_r, tc_l, F_sF, A_sF, R_sF, L_sF, F_sA, A_sA, R_sA, L_sA, F_sR, A_sR, R_sR, L_sR, F_sL, A_sL, R_sL, L_sL, and_true, true_and, and_false, false_and, and_self, reduceIte, sF_sF, sA_sA, false_or, or_false, true_or, or_true, not_false_eq_true, not_true_eq_false, decide_true, decide_false, Bool.true_or, Bool.or_true, Bool.false_and, Bool.true_and, Bool.false_or, Bool.or_false, Bool.and_true, Bool.and_false]
def mkN (N A : Nat → Int32) (l : Nat) (how : Int32) : Nat → Int32 := upd (cpT N (mkV how A (fun k => N (1169 * l + 593 + k))) (1169 * l + 593) 576) (1169 * l + 10) (if how = 0 then 0 else 1)
theorem mask12 {s : e_S} {g : ps_G} {x how : Int32} {st pc : Nat} (h1 : st < 25) (h2 : pc ≤ 24) (e1 : s.1 139 10 = Int32.ofNat st) (e2 : s.1 139 11 = Int32.ofNat pc) : fX12_mask (e_g s g) 139 x how = if rg how 0 3 then (if isL (s.2.1 142) x then (if how = 2 ∧ s.2.1 142 (1169 * x.toInt.toNat + 10) = 0 then some (e_g (sF s 139 0 3) g) else some (e_g (fg12 (edM (sA (sF s 139 0 0) 142 (mkN (s.2.1 142) (s.2.1 155) x.toInt.toNat how)) st pc)) g)) else some (e_g (sF s 139 0 2) g)) else some (e_g (sF s 139 0 1) g) := by
  by_cases q : rg how 0 3
  · by_cases hx : isL (s.2.1 142) x
    · obtain ⟨l, rfl, hl, hl1⟩ := isL_n hx
      rw [if_pos q, if_pos hx, n_int (by omega), Int.toNat_natCast]
      have g10 := get12 (s := s) (g := g) (n := 10) hl (by omega)
      have p10 := fun (s' : e_S) v => put12 (s := s') (g := g) (n := 10) (v := v) hl (by omega)
      have ed := fun s' q1 q2 => edited12 (s := s') (g := g) h1 h2 q1 q2
      have ei : (if ¬ how = 0 then (1 : Int32) else 0) = if how = 0 then 0 else 1 := by by_cases z : how = 0 <;> simp (decide := true) only [ob_s, b2_s, tc_r, tc_l, F_sF, A_sF, R_sF, L_sF, F_sA, A_sA, R_sA, L_sA, F_sR, A_sR, R_sR, L_sR, F_sL, A_sL, R_sL, L_sL, and_true, true_and, and_false, false_and, and_self, reduceIte, sF_sF, sA_sA, false_or, or_false, true_or, or_true, not_false_eq_true, not_true_eq_false, decide_true, decide_false, Bool.true_or, Bool.or_true, Bool.false_and, Bool.true_and, Bool.false_or, Bool.or_false, Bool.and_true, Bool.and_false, z]
      have go : jX12_mask_46 (e_g s g) 139 (Int32.ofNat l) how 139 0 = some (e_g (fg12 (edM (sA (sF s 139 0 0) 142 (mkN (s.2.1 142) (s.2.1 155) l how)) st pc)) g) := by
        simp (decide := true) only [jX12_mask_46, w139_0, f139_0, mask12l hl, ob139, p10, ei, ob_s, b2_s, tc_r, tc_l, F_sF, A_sF, R_sF, L_sF, F_sA, A_sA, R_sA, L_sA, F_sR, A_sR, R_sR, L_sR, F_sL, A_sL, R_sL, L_sL, and_true, true_and, and_false, false_and, and_self, reduceIte, sF_sF, sA_sA, false_or, or_false, true_or, or_true, not_false_eq_true, not_true_eq_false, decide_true, decide_false, Bool.true_or, Bool.or_true, Bool.false_and, Bool.true_and, Bool.false_or, Bool.or_false, Bool.and_true, Bool.and_false]
        rw [ed _ (by simp (decide := true) only [ob_s, b2_s, tc_r, tc_l, F_sF, A_sF, R_sF, L_sF, F_sA, A_sA, R_sA, L_sA, F_sR, A_sR, R_sR, L_sR, F_sL, A_sL, R_sL, L_sL, and_true, true_and, and_false, false_and, and_self, reduceIte, sF_sF, sA_sA, false_or, or_false, true_or, or_true, not_false_eq_true, not_true_eq_false, decide_true, decide_false, Bool.true_or, Bool.or_true, Bool.false_and, Bool.true_and, Bool.false_or, Bool.or_false, Bool.and_true, Bool.and_false, e1]) (by simp (decide := true) only [ob_s, b2_s, tc_r, tc_l, F_sF, A_sF, R_sF, L_sF, F_sA, A_sA, R_sA, L_sA, F_sR, A_sR, R_sR, L_sR, F_sL, A_sL, R_sL, L_sL, and_true, true_and, and_false, false_and, and_self, reduceIte, sF_sF, sA_sA, false_or, or_false, true_or, or_true, not_false_eq_true, not_true_eq_false, decide_true, decide_false, Bool.true_or, Bool.or_true, Bool.false_and, Bool.true_and, Bool.false_or, Bool.or_false, Bool.and_true, Bool.and_false, e2])]
        simp (decide := true) only [ob_s, b2_s, tc_r, tc_l, F_sF, A_sF, R_sF, L_sF, F_sA, A_sA, R_sA, L_sA, F_sR, A_sR, R_sR, L_sR, F_sL, A_sL, R_sL, L_sL, and_true, true_and, and_false, false_and, and_self, reduceIte, sF_sF, sA_sA, false_or, or_false, true_or, or_true, not_false_eq_true, not_true_eq_false, decide_true, decide_false, Bool.true_or, Bool.or_true, Bool.false_and, Bool.true_and, Bool.false_or, Bool.or_false, Bool.and_true, Bool.and_false, ob139, forget12, fg12, mkN]
      by_cases z2 : how = 2
      · by_cases z3 : s.2.1 142 (1169 * l + 10) = 0
        · rw [if_pos ⟨z2, z3⟩]
          simp (decide := true) only [fX12_mask, jX12_mask_46, rin, q, ob139, isLayer12, hx, z2, g10, z3, w139_0, f139_0, ob_s, b2_s, tc_r, tc_l, F_sF, A_sF, R_sF, L_sF, F_sA, A_sA, R_sA, L_sA, F_sR, A_sR, R_sR, L_sR, F_sL, A_sL, R_sL, L_sL, and_true, true_and, and_false, false_and, and_self, reduceIte, sF_sF, sA_sA, false_or, or_false, true_or, or_true, not_false_eq_true, not_true_eq_false, decide_true, decide_false, Bool.true_or, Bool.or_true, Bool.false_and, Bool.true_and, Bool.false_or, Bool.or_false, Bool.and_true, Bool.and_false]
        · rw [if_neg (fun y => z3 y.2)]
          have q' : rg 2 0 3 = true := by decide
          subst z2
          simp (decide := true) only [fX12_mask, jX12_mask_45, rin, q', ob139, isLayer12, hx, g10, z3, go, ob_s, b2_s, tc_r, tc_l, F_sF, A_sF, R_sF, L_sF, F_sA, A_sA, R_sA, L_sA, F_sR, A_sR, R_sR, L_sR, F_sL, A_sL, R_sL, L_sL, and_true, true_and, and_false, false_and, and_self, reduceIte, sF_sF, sA_sA, false_or, or_false, true_or, or_true, not_false_eq_true, not_true_eq_false, decide_true, decide_false, Bool.true_or, Bool.or_true, Bool.false_and, Bool.true_and, Bool.false_or, Bool.or_false, Bool.and_true, Bool.and_false]
      · rw [if_neg (fun y => z2 y.1)]
        simp (decide := true) only [fX12_mask, jX12_mask_45, rin, q, ob139, isLayer12, hx, z2, go, ob_s, b2_s, tc_r, tc_l, F_sF, A_sF, R_sF, L_sF, F_sA, A_sA, R_sA, L_sA, F_sR, A_sR, R_sR, L_sR, F_sL, A_sL, R_sL, L_sL, and_true, true_and, and_false, false_and, and_self, reduceIte, sF_sF, sA_sA, false_or, or_false, true_or, or_true, not_false_eq_true, not_true_eq_false, decide_true, decide_false, Bool.true_or, Bool.or_true, Bool.false_and, Bool.true_and, Bool.false_or, Bool.or_false, Bool.and_true, Bool.and_false]
    · simp (decide := true) only [fX12_mask, jX12_mask_46, rin, q, ob139, isLayer12, hx, w139_0, f139_0, ob_s, b2_s, tc_r, tc_l, F_sF, A_sF, R_sF, L_sF, F_sA, A_sA, R_sA, L_sA, F_sR, A_sR, R_sR, L_sR, F_sL, A_sL, R_sL, L_sL, and_true, true_and, and_false, false_and, and_self, reduceIte, sF_sF, sA_sA, false_or, or_false, true_or, or_true, not_false_eq_true, not_true_eq_false, decide_true, decide_false, Bool.true_or, Bool.or_true, Bool.false_and, Bool.true_and, Bool.false_or, Bool.or_false, Bool.and_true, Bool.and_false]
  · simp (decide := true) only [fX12_mask, jX12_mask_46, rin, q, w139_0, f139_0, ob_s, b2_s, tc_r, tc_l, F_sF, A_sF, R_sF, L_sF, F_sA, A_sA, R_sA, L_sA, F_sR, A_sR, R_sR, L_sR, F_sL, A_sL, R_sL, L_sL, and_true, true_and, and_false, false_and, and_self, reduceIte, sF_sF, sA_sA, false_or, or_false, true_or, or_true, not_false_eq_true, not_true_eq_false, decide_true, decide_false, Bool.true_or, Bool.or_true, Bool.false_and, Bool.true_and, Bool.false_or, Bool.or_false, Bool.and_true, Bool.and_false]
theorem nA_mk2 {s : e_S} {g : ps_G} {fs : List Value} (hg : 195 ≤ g.1) : q_nA .int (e_g s (mkL g fs)) (576 : Int32) = some (e_g s (mk2 g fs (fun _ => 0))) := by
  unfold q_nA
  rw [if_neg (by decide)]
  have h : 195 ≤ (mkL g fs).1 := Nat.le_trans hg (Nat.le_succ _)
  exact congrArg some ((e_nw h).trans (congrArg (e_g s) mk2_nw))
theorem mask11l {s : e_S} {g : ps_G} {b ma : Nat} {fs fsb : List Value} {how : Int32} {M : Nat → Int32} (hg : 195 ≤ g.1) (h0 : ¬ how = 0) (hf : fs[16]? = some (.ref (g.1 + 1))) (hb : how = 2 → e_fr b ∧ b < g.1 ∧ g.2.2 b = .inr (4, fsb) ∧ fsb[16]? = some (.ref ma) ∧ e_fr ma ∧ ma < g.1 ∧ g.2.2 ma = .inl (0, (576, .inl M))) : q_lp (fun t => bX11_mask_65 8 how (some b) (some g.1) t.1 t.2) ((0 : Int32), e_g s (mk2 g fs (fun _ => 0))) = some (e_g s (mk2 g fs (cI (mkV how (s.2.1 90) M) 576))) := by
  have r16 : ∀ f, q_fR 4 16 (e_g s (mk2 g fs f)) g.1 = some (some (g.1 + 1)) := fun f => d_fR (Or.inl hg) mk2_0 hf
  have ln : ∀ f, q_len (e_g s (mk2 g fs f)) (g.1 + 1) = some (Int32.ofNat 576) := fun f => d_len (Or.inl (by omega)) mk2_1
  have wr : ∀ f i v, q_wI (e_g s (mk2 g fs f)) (g.1 + 1) i v = if i < 0 ∨ 576 ≤ i.toNatClampNeg then none else some (e_g s (mk2 g fs (upd f i.toNatClampNeg v))) := fun f i v => by
    rw [d_wI (Or.inl (by omega)) (by omega) mk2_1, mk2_u1]
  refine lp_0 (fun i => (Int32.ofNat i, e_g s (mk2 g fs (cI (mkV how (s.2.1 90) M) i)))) 576 ?_ (fun i hi => ?_) ?_
  · have : cI (mkV how (s.2.1 90) M) 0 = fun _ => 0 := by funext k; unfold cI; rw [if_neg (by omega)]
    rw [this]; rfl
  · have q1 : ¬ Int32.ofNat 576 ≤ Int32.ofNat i := by rw [n_le (by omega) (by omega)]; omega
    have cu := @cI_up (mkV how (s.2.1 90) M) i
    by_cases h1 : how = 1
    · have v : mkV how (s.2.1 90) M i = s.2.1 90 i := by unfold mkV; rw [if_neg h0, if_pos h1]
      rw [v] at cu
      have r7 : ∀ g', q_fR 11 7 (e_g s g') 8 = some (some 89) := fun g' => f8_7
      simp (decide := true) only [bX11_mask_65, jX11_mask_123_65, r16, ln, q1, h1, f8_7, f89_2, a90, n_in2 hi (by decide), n_idx (show i < 2147483648 by omega), wr, n_suc, ob_s, b2_s, tc_r, tc_l, F_sF, A_sF, R_sF, L_sF, F_sA, A_sA, R_sA, L_sA, F_sR, A_sR, R_sR, L_sR, F_sL, A_sL, R_sL, L_sL, and_true, true_and, and_false, false_and, and_self, reduceIte, sF_sF, sA_sA, false_or, or_false, true_or, or_true, not_false_eq_true, not_true_eq_false, decide_true, decide_false, Bool.true_or, Bool.or_true, Bool.false_and, Bool.true_and, Bool.false_or, Bool.or_false, Bool.and_true, Bool.and_false]
      subst h1
      rw [cu]
    · by_cases h2 : how = 2
      · have v : mkV how (s.2.1 90) M i = 255 - M i := by unfold mkV; rw [if_neg h0, if_neg h1, if_pos h2]
        rw [v] at cu
        obtain ⟨b1, b2, b3, b4, b5, b6, b7⟩ := hb h2
        have rb : ∀ f, q_fR 4 16 (e_g s (mk2 g fs f)) b = some (some ma) := fun f => d_fR b1 (by rw [mk2_lo b2]; exact b3) b4
        have ra : ∀ f i, q_aI (e_g s (mk2 g fs f)) ma i = if i < 0 ∨ 576 ≤ i.toNatClampNeg then none else some (M i.toNatClampNeg) := fun f i => d_aI b5 (by rw [mk2_lo b6]; exact b7)
        simp (decide := true) only [bX11_mask_65, jX11_mask_123_65, r16, ln, q1, h2, rb, ra, n_in2 hi (by decide), n_idx (show i < 2147483648 by omega), wr, n_suc, ob_s, b2_s, tc_r, tc_l, F_sF, A_sF, R_sF, L_sF, F_sA, A_sA, R_sA, L_sA, F_sR, A_sR, R_sR, L_sR, F_sL, A_sL, R_sL, L_sL, and_true, true_and, and_false, false_and, and_self, reduceIte, sF_sF, sA_sA, false_or, or_false, true_or, or_true, not_false_eq_true, not_true_eq_false, decide_true, decide_false, Bool.true_or, Bool.or_true, Bool.false_and, Bool.true_and, Bool.false_or, Bool.or_false, Bool.and_true, Bool.and_false]
        subst h2
        rw [cu]
      · have v : mkV how (s.2.1 90) M i = 255 := by unfold mkV; rw [if_neg h0, if_neg h1, if_neg h2]
        rw [v] at cu
        simp (decide := true) only [bX11_mask_65, jX11_mask_123_65, r16, ln, q1, h1, h2, n_in2 hi (by decide), n_idx (show i < 2147483648 by omega), wr, n_suc, cu, ob_s, b2_s, tc_r, tc_l, F_sF, A_sF, R_sF, L_sF, F_sA, A_sA, R_sA, L_sA, F_sR, A_sR, R_sR, L_sR, F_sL, A_sL, R_sL, L_sL, and_true, true_and, and_false, false_and, and_self, reduceIte, sF_sF, sA_sA, false_or, or_false, true_or, or_true, not_false_eq_true, not_true_eq_false, decide_true, decide_false, Bool.true_or, Bool.or_true, Bool.false_and, Bool.true_and, Bool.false_or, Bool.or_false, Bool.and_true, Bool.and_false]
  · have q1 : Int32.ofNat 576 ≤ Int32.ofNat 576 := by decide
    simp (decide := true) only [bX11_mask_65, r16, ln, q1, ob_s, b2_s, tc_r, tc_l, F_sF, A_sF, R_sF, L_sF, F_sA, A_sA, R_sA, L_sA, F_sR, A_sR, R_sR, L_sR, F_sL, A_sL, R_sL, L_sL, and_true, true_and, and_false, false_and, and_self, reduceIte, sF_sF, sA_sA, false_or, or_false, true_or, or_true, not_false_eq_true, not_true_eq_false, decide_true, decide_false, Bool.true_or, Bool.or_true, Bool.false_and, Bool.true_and, Bool.false_or, Bool.or_false, Bool.and_true, Bool.and_false]
theorem i255 {v : Int32} (h : rg v 0 255 = true) : rg (255 - v) 0 255 = true := by
  have q := rg_i.mp h
  have q1 : 0 ≤ v.toInt := q.1
  have q2 : v.toInt ≤ 255 := q.2
  have e : (255 : Int32).toInt = 255 := rfl
  rw [rg_i, i_sub (by rw [e]; omega) (by rw [e]; omega), e, i_0]
  omega
theorem mask_row {g g1 : ps_G} {b w h l c ma' : Nat} {r r' : Nat → Int32} (hwh : w * h ≤ 576) (hg : 195 ≤ g.1) (hE : Ext g g1) (hL : LyN g b w h l r) (hu : ∀ j, j < 1169 → ¬ j = 10 → (j < 593) → r' j = r j) (hc : e_fr c ∧ 8 ≤ c ∧ c < g1.1) (p q x0 y0 x1 y1 : Int32) (pa ma : Nat) (h3 : g.2.2 b = .inr (4, [.int (Int32.ofNat l), .int (r 1), .int (r 2), .int (r 4), .int (r 5), .int (r 6), .int (r 7), .int (r 8), .int (r 9), .int p, .int q, .int x0, .int y0, .int x1, .int y1, .ref pa, .ref ma])) (hcell : g1.2.2 c = .inr (4, [.int (Int32.ofNat l), .int (r 1), .int (r 2), .int (r 4), .int (r 5), .int (r 6), .int (r 7), .int (r 8), .int (r 9), .int p, .int q, .int x0, .int y0, .int x1, .int y1, .ref pa, .ref ma'])) (hm : (r' 10 = 0 ∧ ma' = 0) ∨ (r' 10 = 1 ∧ e_fr ma' ∧ 8 ≤ ma' ∧ ma' < g1.1 ∧ ∃ f, g1.2.2 ma' = .inl (0, (576, .inl f)) ∧ ∀ k, k < 576 → f k = r' (593 + k) ∧ rg (f k) 0 255)) : LyN g1 c w h l r' := by
  obtain ⟨y1', y2, p', q', x0', y0', x1', yy1', pa', ma'', y3, z1, z2, z3, z4, z5, z6, z7, z8, z9, z10, z11, z12, z13, z14⟩ := hL
  rw [h3] at y3
  cases y3
  have u := fun j h1 h2 => hu j h1 h2
  refine ⟨hc.1, hc.2.2, p, q, x0, y0, x1, y1, pa, ma', ?_, ?_, ?_, ?_, ?_, ?_, ?_, ?_, ?_, ?_, ?_, ?_, ?_, ?_, hm⟩
  · rw [hcell, hu 1 (by omega) (by omega) (by omega), hu 2 (by omega) (by omega) (by omega), hu 4 (by omega) (by omega) (by omega), hu 5 (by omega) (by omega) (by omega), hu 6 (by omega) (by omega) (by omega), hu 7 (by omega) (by omega) (by omega), hu 8 (by omega) (by omega) (by omega), hu 9 (by omega) (by omega) (by omega)]
  · rw [hu 1 (by omega) (by omega) (by omega)]; exact z1
  · rw [hu 4 (by omega) (by omega) (by omega)]; exact z2
  · rw [hu 5 (by omega) (by omega) (by omega)]; exact z3
  · rw [hu 6 (by omega) (by omega) (by omega)]; exact z4
  · rw [hu 7 (by omega) (by omega) (by omega)]; exact z5
  · rw [hu 8 (by omega) (by omega) (by omega)]; exact z6
  · rw [hu 9 (by omega) (by omega) (by omega)]; exact z7
  · rw [hu 1 (by omega) (by omega) (by omega), hu 11 (by omega) (by omega) (by omega), hu 12 (by omega) (by omega) (by omega)]; exact z8
  · rw [hu 1 (by omega) (by omega) (by omega), hu 13 (by omega) (by omega) (by omega), hu 14 (by omega) (by omega) (by omega), hu 15 (by omega) (by omega) (by omega), hu 16 (by omega) (by omega) (by omega)]; exact z9
  · rw [hu 1 (by omega) (by omega) (by omega)]; exact z10
  · rw [hu 1 (by omega) (by omega) (by omega)]; exact z11
  · rw [hu 1 (by omega) (by omega) (by omega)]
    intro z
    obtain ⟨d1, d0, d2, f, d3, d4⟩ := z12 z
    exact ⟨d1, d0, Nat.lt_of_lt_of_le d2 hE.1, f, by rw [hE.2.2.2.2 pa d2]; exact d3, fun k hk => by rw [hu (17 + k) (by omega) (by omega) (by omega)]; exact d4 k hk⟩
  · rw [hu 1 (by omega) (by omega) (by omega)]; exact ⟨z13.1, hc.2.1⟩
theorem K_mask {s : e_S} {g : ps_G} {x how : Int32} (hR : Rel s g) : KV (fL_mask (e_g s g) 8 x how) (fun G => fX12_mask G 139 x how) g := by
  have hg := rel_g hR
  obtain ⟨h1, h2, h3, h4, h5, h6, ⟨w, h, h7, h8, h9⟩, h10, h11⟩ := id hR
  obtain ⟨a, st, pc, uc, f1, f2, f3, f4, f5, f6, f7, f8, f9, f10, f11, f12⟩ := h9
  have hwh := wh_le h7.2.1 h7.2.2.2.1
  have h79 := h7.2.2.2.2.2.2.2.2
  have hm0 := fun g => mask12 (s := s) (g := g) (x := x) (how := how) f1 (show pc ≤ 24 by omega) f6 f7
  by_cases q : rg how 0 3
  · rcases known11 (x := x) hg f3 f9 with ⟨k1, k2⟩ | ⟨l, b, rfl, hl, k1, k3, k2, hLy⟩
    · refine KV_no (E := "java/util/NoSuchElementException") (y := 2) hR ?_ (by decide +kernel) ((hm0 _).trans ((if_pos q).trans (if_neg (by rw [k1]; decide))))
      simp (decide := true) only [fX11_mask, rng hg, q, ob8, k2, ob_s, b2_s, tc_r, tc_l, F_sF, A_sF, R_sF, L_sF, F_sA, A_sA, R_sA, L_sA, F_sR, A_sR, R_sR, L_sR, F_sL, A_sL, R_sL, L_sL, and_true, true_and, and_false, false_and, and_self, reduceIte, sF_sF, sA_sA, false_or, or_false, true_or, or_true, not_false_eq_true, not_true_eq_false, decide_true, decide_false, Bool.true_or, Bool.or_true, Bool.false_and, Bool.true_and, Bool.false_or, Bool.or_false, Bool.and_true, Bool.and_false]
    · obtain ⟨y1, y2, p, q', x0, y0, x1, yy1, pa, ma, y3, z1, z2, z3, z4, z5, z6, z7, z8, z9, z10, z11, z12, z13, z14⟩ := id hLy
      have r16 : q_fR 4 16 (e_g s g) b = some (some ma) := d_fR y1 y3 rfl
      have e10 : lR (s.2.1 142) l 10 = s.2.1 142 (1169 * l + 10) := rfl
      have hcl : fX11_mask (e_g s g) 8 (Int32.ofNat l) how = if how = 2 ∧ s.2.1 142 (1169 * l + 10) = 0 then some (.inl "java/lang/IllegalStateException", e_g s (nx g)) else jX11_mask_33 (e_g s g) 8 how (some b) 0 := by
        by_cases w2 : how = 2
        · rcases z14 with ⟨c1, c2⟩ | ⟨c1, c2, c0, c3, f, c4, c5⟩
          · rw [e10] at c1
            subst c2
            have q' : rg 2 0 3 = true := by decide
            simp (decide := true) only [fX11_mask, jX11_mask_33, rng hg, w2, q', ob8, k2, r16, none_len h11, refuse11 hg, c1, ob_s, b2_s, tc_r, tc_l, F_sF, A_sF, R_sF, L_sF, F_sA, A_sA, R_sA, L_sA, F_sR, A_sR, R_sR, L_sR, F_sL, A_sL, R_sL, L_sL, and_true, true_and, and_false, false_and, and_self, reduceIte, sF_sF, sA_sA, false_or, or_false, true_or, or_true, not_false_eq_true, not_true_eq_false, decide_true, decide_false, Bool.true_or, Bool.or_true, Bool.false_and, Bool.true_and, Bool.false_or, Bool.or_false, Bool.and_true, Bool.and_false]
          · have n10 : ¬ s.2.1 142 (1169 * l + 10) = 0 := by rw [← e10, c1]; decide
            have ln : q_len (e_g s g) ma = some (Int32.ofNat 576) := d_len c2 c4
            have l5 : Int32.ofNat 576 = 576 := rfl
            have q' : rg 2 0 3 = true := by decide
            simp (decide := true) only [fX11_mask, jX11_mask_32, rng hg, w2, q', ob8, k2, r16, ln, l5, n10, ob_s, b2_s, tc_r, tc_l, F_sF, A_sF, R_sF, L_sF, F_sA, A_sA, R_sA, L_sA, F_sR, A_sR, R_sR, L_sR, F_sL, A_sL, R_sL, L_sL, and_true, true_and, and_false, false_and, and_self, reduceIte, sF_sF, sA_sA, false_or, or_false, true_or, or_true, not_false_eq_true, not_true_eq_false, decide_true, decide_false, Bool.true_or, Bool.or_true, Bool.false_and, Bool.true_and, Bool.false_or, Bool.or_false, Bool.and_true, Bool.and_false]
        · simp (decide := true) only [fX11_mask, jX11_mask_32, rng hg, w2, q, ob8, k2, ob_s, b2_s, tc_r, tc_l, F_sF, A_sF, R_sF, L_sF, F_sA, A_sA, R_sA, L_sA, F_sR, A_sR, R_sR, L_sR, F_sL, A_sL, R_sL, L_sL, and_true, true_and, and_false, false_and, and_self, reduceIte, sF_sF, sA_sA, false_or, or_false, true_or, or_true, not_false_eq_true, not_true_eq_false, decide_true, decide_false, Bool.true_or, Bool.or_true, Bool.false_and, Bool.true_and, Bool.false_or, Bool.or_false, Bool.and_true, Bool.and_false]
      by_cases hb : how = 2 ∧ s.2.1 142 (1169 * l + 10) = 0
      · exact KV_no hR (hcl.trans (if_pos hb)) (by decide +kernel) ((hm0 _).trans ((if_pos q).trans ((if_pos k1).trans (if_pos (by rw [n_int (by omega), Int.toNat_natCast]; exact hb)))))
      · have ag := again4 (s := s) hg y1 y2 (rg01 z4) (rg01 z5) y3
        have ob4 : q_ob 4 (e_g s g) b = some () := d_ob y1 y3
        have hNo : ∀ j, ¬ j = 1169 * l + 10 → ¬ (1169 * l + 593 ≤ j ∧ j < 1169 * l + 593 + 576) → s.2.1 142 j = mkN (s.2.1 142) (s.2.1 155) l how j := by
          intro j j1 j2
          unfold mkN
          rw [upd_n j1, cpT_out j2]
        have hN10 : mkN (s.2.1 142) (s.2.1 155) l how (1169 * l + 10) = if how = 0 then 0 else 1 := upd_s
        have hNm : ∀ k, k < 576 → mkN (s.2.1 142) (s.2.1 155) l how (1169 * l + (593 + k)) = mkV how (s.2.1 155) (fun k => s.2.1 142 (1169 * l + 593 + k)) k := by
          intro k hk
          unfold mkN
          rw [upd_n (by omega), ← Nat.add_assoc, cpT_in hk]
        have fin : ∀ g1, Ext g g1 → g1.1 + 3 ≤ g.1 + 100 ∧ g1.2.1 + 66 ≤ g.2.1 + 10000 → LyN g1 g.1 w h l (lR (mkN (s.2.1 142) (s.2.1 155) l how) l) → (∀ g2, fX11_replaceLayer (e_g s g1) 8 g.1 = some (e_g (fgC (rmC s a g1.1 pc)) g2) → jX11_mask_33 (e_g s g) 8 how (some b) 0 = some (.inr (), e_g (fgC (rmC s a g1.1 pc)) g2)) → KV (fL_mask (e_g s g) 8 (Int32.ofNat l) how) (fun G => fX12_mask G 139 (Int32.ofNat l) how) g := by
          intro g1 hE hE2 hLN hj
          obtain ⟨g2, w1, w2, w3⟩ := replace11 (s := s) (N' := mkN (s.2.1 142) (s.2.1 155) l how) hwh hg hE hE2 f3 f4 (by omega) (fun i hi => by obtain ⟨b, z1, z2⟩ := f11 i hi; exact ⟨b, _, z1, z2⟩) f9 hl k3 hLN (fun j hj hj2 => hNo j (by omega) (by omega)) (fun i hi => hNo _ (by omega) (by omega))
          have hm := mask12 (s := fgC (rmC s a g1.1 pc)) (g := g2) (x := Int32.ofNat l) (how := how) f1 (show pc ≤ 24 by omega) (by simp (decide := true) only [ob_s, b2_s, tc_r, tc_l, F_sF, A_sF, R_sF, L_sF, F_sA, A_sA, R_sA, L_sA, F_sR, A_sR, R_sR, L_sR, F_sL, A_sL, R_sL, L_sL, and_true, true_and, and_false, false_and, and_self, reduceIte, sF_sF, sA_sA, false_or, or_false, true_or, or_true, not_false_eq_true, not_true_eq_false, decide_true, decide_false, Bool.true_or, Bool.or_true, Bool.false_and, Bool.true_and, Bool.false_or, Bool.or_false, Bool.and_true, Bool.and_false, fgC, rmC, F_sRr, f6]) (by simp (decide := true) only [ob_s, b2_s, tc_r, tc_l, F_sF, A_sF, R_sF, L_sF, F_sA, A_sA, R_sA, L_sA, F_sR, A_sR, R_sR, L_sR, F_sL, A_sL, R_sL, L_sL, and_true, true_and, and_false, false_and, and_self, reduceIte, sF_sF, sA_sA, false_or, or_false, true_or, or_true, not_false_eq_true, not_true_eq_false, decide_true, decide_false, Bool.true_or, Bool.or_true, Bool.false_and, Bool.true_and, Bool.false_or, Bool.or_false, Bool.and_true, Bool.and_false, fgC, rmC, F_sRr, f7])
          have hN0 : (fgC (rmC s a g1.1 pc)).2.1 142 = s.2.1 142 := by simp (decide := true) only [ob_s, b2_s, tc_r, tc_l, F_sF, A_sF, R_sF, L_sF, F_sA, A_sA, R_sA, L_sA, F_sR, A_sR, R_sR, L_sR, F_sL, A_sL, R_sL, L_sL, and_true, true_and, and_false, false_and, and_self, reduceIte, sF_sF, sA_sA, false_or, or_false, true_or, or_true, not_false_eq_true, not_true_eq_false, decide_true, decide_false, Bool.true_or, Bool.or_true, Bool.false_and, Bool.true_and, Bool.false_or, Bool.or_false, Bool.and_true, Bool.and_false, fgC, rmC, A_sRr]
          have hN1 : (fgC (rmC s a g1.1 pc)).2.1 155 = s.2.1 155 := by simp (decide := true) only [ob_s, b2_s, tc_r, tc_l, F_sF, A_sF, R_sF, L_sF, F_sA, A_sA, R_sA, L_sA, F_sR, A_sR, R_sR, L_sR, F_sL, A_sL, R_sL, L_sL, and_true, true_and, and_false, false_and, and_self, reduceIte, sF_sF, sA_sA, false_or, or_false, true_or, or_true, not_false_eq_true, not_true_eq_false, decide_true, decide_false, Bool.true_or, Bool.or_true, Bool.false_and, Bool.true_and, Bool.false_or, Bool.or_false, Bool.and_true, Bool.and_false, fgC, rmC, A_sRr]
          rw [hN0, hN1, n_int (by omega), Int.toNat_natCast, if_pos q, if_pos k1, if_neg hb] at hm
          exact KV_ed hR h7 f1 f2 f9 f10 f11 ((hcl.trans (if_neg hb)).trans (hj g2 w1)) hm (by simp (decide := true) only [ob_s, b2_s, tc_r, tc_l, F_sF, A_sF, R_sF, L_sF, F_sA, A_sA, R_sA, L_sA, F_sR, A_sR, R_sR, L_sR, F_sL, A_sL, R_sL, L_sL, and_true, true_and, and_false, false_and, and_self, reduceIte, sF_sF, sA_sA, false_or, or_false, true_or, or_true, not_false_eq_true, not_true_eq_false, decide_true, decide_false, Bool.true_or, Bool.or_true, Bool.false_and, Bool.true_and, Bool.false_or, Bool.or_false, Bool.and_true, Bool.and_false, fg12, edM]) (sm_fg (sm_edM (sm_A2 (sm_F sm_rf (by decide))))) w2 w3
        have hu : ∀ j, j < 1169 → ¬ j = 10 → j < 593 → lR (mkN (s.2.1 142) (s.2.1 155) l how) l j = lR (s.2.1 142) l j := fun j j1 j2 j3 => (hNo _ (by omega) (by omega)).symm
        by_cases h0 : how = 0
        · refine fin (mkL g [.int (Int32.ofNat l), .int (lR (s.2.1 142) l 1), .int (lR (s.2.1 142) l 2), .int (lR (s.2.1 142) l 4), .int (lR (s.2.1 142) l 5), .int (lR (s.2.1 142) l 6), .int (lR (s.2.1 142) l 7), .int (lR (s.2.1 142) l 8), .int (lR (s.2.1 142) l 9), .int p, .int q', .int x0, .int y0, .int x1, .int yy1, .ref pa, .ref 0]) ext_mkL ⟨by show g.1 + 1 + 3 ≤ _; omega, by show g.2.1 + 17 + 66 ≤ _; omega⟩ ?_ ?_
          · refine mask_row hwh hg ext_mkL hLy hu ⟨Or.inl hg, by omega, Nat.lt_succ_self _⟩ p q' x0 y0 x1 yy1 pa ma y3 nw_at (Or.inl ⟨?_, rfl⟩)
            show mkN _ _ _ _ (1169 * l + 10) = 0
            rw [hN10, if_pos h0]
          · intro g2 w1
            have lp : ∀ G, q_len G 0 = some 0 → q_fR 4 16 G g.1 = some (some 0) → q_lp (fun t => bX11_mask_65 8 how (some b) (some g.1) t.1 t.2) ((0 : Int32), G) = some G := by
              intro G g1 g2
              refine lp_end ?_
              simp (decide := true) only [bX11_mask_65, g1, g2, ob_s, b2_s, tc_r, tc_l, F_sF, A_sF, R_sF, L_sF, F_sA, A_sA, R_sA, L_sA, F_sR, A_sR, R_sR, L_sR, F_sL, A_sL, R_sL, L_sL, and_true, true_and, and_false, false_and, and_self, reduceIte, sF_sF, sA_sA, false_or, or_false, true_or, or_true, not_false_eq_true, not_true_eq_false, decide_true, decide_false, Bool.true_or, Bool.or_true, Bool.false_and, Bool.true_and, Bool.false_or, Bool.or_false, Bool.and_true, Bool.and_false]
            unfold mkL at ag w1
            have ln0 := none_len (s := s) (G11_ext (ext_mkL (fs := [.int (Int32.ofNat l), .int (lR (s.2.1 142) l 1), .int (lR (s.2.1 142) l 2), .int (lR (s.2.1 142) l 4), .int (lR (s.2.1 142) l 5), .int (lR (s.2.1 142) l 6), .int (lR (s.2.1 142) l 7), .int (lR (s.2.1 142) l 8), .int (lR (s.2.1 142) l 9), .int p, .int q', .int x0, .int y0, .int x1, .int yy1, .ref pa, .ref 0])) h11)
            unfold mkL at ln0
            have rf0 : q_fR 4 16 (e_g s (ps_nw g 17 (.inr (4, [.int (Int32.ofNat l), .int (lR (s.2.1 142) l 1), .int (lR (s.2.1 142) l 2), .int (lR (s.2.1 142) l 4), .int (lR (s.2.1 142) l 5), .int (lR (s.2.1 142) l 6), .int (lR (s.2.1 142) l 7), .int (lR (s.2.1 142) l 8), .int (lR (s.2.1 142) l 9), .int p, .int q', .int x0, .int y0, .int x1, .int yy1, .ref pa, .ref 0])))) g.1 = some (some 0) := d_fR (Or.inl hg) nw_at rfl
            have lp' := lp _ ln0 rf0
            subst h0
            simp (decide := true) only [jX11_mask_33, jX11_mask_59, refuse11 hg, ob4, ag, m_sR hg, List.length_cons, List.length_nil, List.set_cons_zero, List.set_cons_succ, lp', ob8, w1, ob_s, b2_s, tc_r, tc_l, F_sF, A_sF, R_sF, L_sF, F_sA, A_sA, R_sA, L_sA, F_sR, A_sR, R_sR, L_sR, F_sL, A_sL, R_sL, L_sL, and_true, true_and, and_false, false_and, and_self, reduceIte, sF_sF, sA_sA, false_or, or_false, true_or, or_true, not_false_eq_true, not_true_eq_false, decide_true, decide_false, Bool.true_or, Bool.or_true, Bool.false_and, Bool.true_and, Bool.false_or, Bool.or_false, Bool.and_true, Bool.and_false]
            rfl
        · refine fin (mk2 g [.int (Int32.ofNat l), .int (lR (s.2.1 142) l 1), .int (lR (s.2.1 142) l 2), .int (lR (s.2.1 142) l 4), .int (lR (s.2.1 142) l 5), .int (lR (s.2.1 142) l 6), .int (lR (s.2.1 142) l 7), .int (lR (s.2.1 142) l 8), .int (lR (s.2.1 142) l 9), .int p, .int q', .int x0, .int y0, .int x1, .int yy1, .ref pa, .ref (g.1 + 1)] (cI (mkV how (s.2.1 90) (fun k => s.2.1 142 (1169 * l + 593 + k))) 576)) ext_mk2 ⟨by show g.1 + 2 + 3 ≤ _; omega, by show g.2.1 + 593 + 66 ≤ _; omega⟩ ?_ ?_
          · refine mask_row hwh hg ext_mk2 hLy hu ⟨Or.inl hg, by omega, by show g.1 < g.1 + 2; omega⟩ p q' x0 y0 x1 yy1 pa ma y3 mk2_0 (Or.inr ⟨?_, Or.inl (by omega), by omega, by show g.1 + 1 < g.1 + 2; omega, _, mk2_1, fun k hk => ?_⟩)
            · show mkN _ _ _ _ (1169 * l + 10) = 1
              rw [hN10, if_neg h0]
            · rw [cI_lt hk]
              have hm5 := hNm k hk
              have e90 := h79 k hk
              have ev : mkV how (s.2.1 90) (fun k => s.2.1 142 (1169 * l + 593 + k)) k = mkV how (s.2.1 155) (fun k => s.2.1 142 (1169 * l + 593 + k)) k := by
                unfold mkV
                rw [e90.1]
              refine ⟨?_, ?_⟩
              · rw [ev]; exact hm5.symm
              · unfold mkV
                rw [if_neg h0]
                by_cases w1 : how = 1
                · rw [if_pos w1, e90.1]; exact e90.2
                · rw [if_neg w1]
                  by_cases w2 : how = 2
                  · rw [if_pos w2]
                    rcases z14 with ⟨c1, c2⟩ | ⟨c1, c2, c0, c3, f, c4, c5⟩
                    · exact absurd ⟨w2, c1⟩ hb
                    · have c6 := c5 k hk
                      have e593 : lR (s.2.1 142) l (593 + k) = s.2.1 142 (1169 * l + 593 + k) := by show s.2.1 142 (1169 * l + (593 + k)) = _; rw [Nat.add_assoc]
                      rw [e593] at c6
                      rw [c6.1] at c6
                      exact i255 c6.2
                  · rw [if_neg w2]; decide
          · intro g2 w1
            have sR16 : ∀ f, q_sR 4 16 (e_g s (mk2 g [.int (Int32.ofNat l), .int (lR (s.2.1 142) l 1), .int (lR (s.2.1 142) l 2), .int (lR (s.2.1 142) l 4), .int (lR (s.2.1 142) l 5), .int (lR (s.2.1 142) l 6), .int (lR (s.2.1 142) l 7), .int (lR (s.2.1 142) l 8), .int (lR (s.2.1 142) l 9), .int p, .int q', .int x0, .int y0, .int x1, .int yy1, .ref pa, .ref ma] f)) g.1 (some (g.1 + 1)) = some (e_g s (mk2 g [.int (Int32.ofNat l), .int (lR (s.2.1 142) l 1), .int (lR (s.2.1 142) l 2), .int (lR (s.2.1 142) l 4), .int (lR (s.2.1 142) l 5), .int (lR (s.2.1 142) l 6), .int (lR (s.2.1 142) l 7), .int (lR (s.2.1 142) l 8), .int (lR (s.2.1 142) l 9), .int p, .int q', .int x0, .int y0, .int x1, .int yy1, .ref pa, .ref (g.1 + 1)] f)) := by
              intro f
              rw [d_sR (Or.inl hg) mk2_0 (Nat.le_of_ble_eq_true rfl)]
              exact congrArg some (congrArg (e_g s) mk2_u0)
            have lpm : q_lp (fun t => bX11_mask_65 8 how (some b) (some g.1) t.1 t.2) ((0 : Int32), e_g s (mk2 g [.int (Int32.ofNat l), .int (lR (s.2.1 142) l 1), .int (lR (s.2.1 142) l 2), .int (lR (s.2.1 142) l 4), .int (lR (s.2.1 142) l 5), .int (lR (s.2.1 142) l 6), .int (lR (s.2.1 142) l 7), .int (lR (s.2.1 142) l 8), .int (lR (s.2.1 142) l 9), .int p, .int q', .int x0, .int y0, .int x1, .int yy1, .ref pa, .ref (g.1 + 1)] (fun _ => 0))) = some (e_g s (mk2 g [.int (Int32.ofNat l), .int (lR (s.2.1 142) l 1), .int (lR (s.2.1 142) l 2), .int (lR (s.2.1 142) l 4), .int (lR (s.2.1 142) l 5), .int (lR (s.2.1 142) l 6), .int (lR (s.2.1 142) l 7), .int (lR (s.2.1 142) l 8), .int (lR (s.2.1 142) l 9), .int p, .int q', .int x0, .int y0, .int x1, .int yy1, .ref pa, .ref (g.1 + 1)] (cI (mkV how (s.2.1 90) (fun k => s.2.1 142 (1169 * l + 593 + k))) 576))) := by
              rcases z14 with ⟨c1, c2⟩ | ⟨c1, c2, c0, c3, f, c4, c5⟩
              · exact mask11l (ma := ma) (fsb := []) hg h0 rfl (fun z => absurd ⟨z, c1⟩ hb)
              · have := mask11l (s := s) (g := g) (b := b) (ma := ma) (how := how) (M := f) (fs := [.int (Int32.ofNat l), .int (lR (s.2.1 142) l 1), .int (lR (s.2.1 142) l 2), .int (lR (s.2.1 142) l 4), .int (lR (s.2.1 142) l 5), .int (lR (s.2.1 142) l 6), .int (lR (s.2.1 142) l 7), .int (lR (s.2.1 142) l 8), .int (lR (s.2.1 142) l 9), .int p, .int q', .int x0, .int y0, .int x1, .int yy1, .ref pa, .ref (g.1 + 1)]) hg h0 rfl (fun z => ⟨y1, y2, y3, rfl, c2, c3, c4⟩)
                rw [this]
                have ev : cI (mkV how (s.2.1 90) f) 576 = cI (mkV how (s.2.1 90) (fun k => s.2.1 142 (1169 * l + 593 + k))) 576 := by
                  funext k
                  unfold cI
                  by_cases hk : k < 576
                  · rw [if_pos hk, if_pos hk]
                    unfold mkV
                    have := (c5 k hk).1
                    have e593 : lR (s.2.1 142) l (593 + k) = s.2.1 142 (1169 * l + 593 + k) := by show s.2.1 142 (1169 * l + (593 + k)) = _; rw [Nat.add_assoc]
                    rw [e593] at this
                    rw [this]
                  · rw [if_neg hk, if_neg hk]
                rw [ev]
            have e1 : ∀ fs, (e_g s (mkL g fs)).1 = g.1 + 1 := fun fs => rfl
            simp (decide := true) only [jX11_mask_33, jX11_mask_59, refuse11 hg, ob4, ag, h0, nA_mk2 hg, e1, sR16, lpm, ob8, w1, ob_s, b2_s, tc_r, tc_l, F_sF, A_sF, R_sF, L_sF, F_sA, A_sA, R_sA, L_sA, F_sR, A_sR, R_sR, L_sR, F_sL, A_sL, R_sL, L_sL, and_true, true_and, and_false, false_and, and_self, reduceIte, sF_sF, sA_sA, false_or, or_false, true_or, or_true, not_false_eq_true, not_true_eq_false, decide_true, decide_false, Bool.true_or, Bool.or_true, Bool.false_and, Bool.true_and, Bool.false_or, Bool.or_false, Bool.and_true, Bool.and_false]
  · refine KV_no (E := "java/lang/IllegalArgumentException") (y := 1) hR ?_ (by decide +kernel) ((hm0 _).trans (if_neg q))
    simp (decide := true) only [fX11_mask, rng hg, q, ob_s, b2_s, tc_r, tc_l, F_sF, A_sF, R_sF, L_sF, F_sA, A_sA, R_sA, L_sA, F_sR, A_sR, R_sR, L_sR, F_sL, A_sL, R_sL, L_sL, and_true, true_and, and_false, false_and, and_self, reduceIte, sF_sF, sA_sA, false_or, or_false, true_or, or_true, not_false_eq_true, not_true_eq_false, decide_true, decide_false, Bool.true_or, Bool.or_true, Bool.false_and, Bool.true_and, Bool.false_or, Bool.or_false, Bool.and_true, Bool.and_false]
