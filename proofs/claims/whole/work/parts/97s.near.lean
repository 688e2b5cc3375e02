-- needs: 07 10 13 14 20 21 22 23 24 25 26 27 32 33 34 36 38 39 40 41 42 43 44 46 47 48 49 50 52 53 54 97h
/-! ===== convert: the nearest level ===== -/
/-- an EDIT of pixels, with rows set aside on both sides -/
theorem KV_px2 {hs : List ps_H} {c : Option ((String ⊕ Unit) × ps_G)} {m : ps_G → Option ps_G} {s s1 : e_S} {g : ps_G} {w h a b st pc uc l : Nat} {φ : Nat → Int32} (hR : Rel s g) (sm : Sm s s1) (h7 : G7 s w h) (f1 : st < 25) (f2 : pc + uc ≤ 24) (f3 : s.2.2.1 8 0 = some a) (f4 : s.1 8 2 = Int32.ofNat pc) (f9 : StN g a w h (s.2.1 142)) (f10 : ∀ k, k < 35071 → s.2.1 143 (35071 * ((st + pc) % 25) + k) = s.2.1 142 k) (f11 : ∀ i, i < pc → ∃ b, s.2.2.1 12 i = some b ∧ StN g b w h (kp (s.2.1 143) st i)) (hl : l < 30) (hl1 : s.2.1 142 (1169 * l) = 1) (hLy : LyN g b w h l (lR (s.2.1 142) l)) (hk : s.2.1 142 (1169 * l + 1) = 0) (f : Nat → Int32) (hf : ∀ k, k < w * h → f k = φ k) (hc : ∀ g2, fX11_replacePixels (e_g s1 (mkA g f)) 8 b g.1 = some (e_g (fgC (rmC s1 a (g.1 + 2) pc)) g2) → c = some (.inr (), e_g (fgC (rmC s1 a (g.1 + 2) pc)) g2)) (hm : ∀ g2, ∃ s2, m (e_g (fgC (rmC s1 a (g.1 + 2) pc)) g2) = some (e_g s2 g2) ∧ s2.1 139 0 = 0 ∧ Sm (fg12 (edM (sA (fgC (rmC s1 a (g.1 + 2) pc)) 142 (cpT (s.2.1 142) φ (1169 * l + 17) (h * w))) st pc)) s2) : KV (Option.bind (q_ob 11 (e_g s g) 8) fun _ => q_wr hs c (fun v g1 => some ((0 : Int32), g1))) m g := by
  have hg := rel_g hR
  have hwh := wh_le h7.2.1 h7.2.2.2.1
  have r8 : s1.2.2.1 8 = s.2.2.1 8 := sm.2.2 8 (Or.inl rfl)
  have r12 : s1.2.2.1 12 = s.2.2.1 12 := sm.2.2 12 (Or.inr (Or.inl rfl))
  have f82 : s1.1 8 2 = s.1 8 2 := sm.2.1 (8, 2) (by decide)
  obtain ⟨g2, w1, w2, w3⟩ := pixEdit (s := s1) (N' := cpT (s.2.1 142) φ (1169 * l + 17) (h * w)) (f := f) hwh hg (by rw [r8]; exact f3) (by rw [f82]; exact f4) (show pc ≤ 24 by omega) (fun i hi => (f11 i hi).imp fun b hb => ⟨_, by rw [r12]; exact hb.1, hb.2⟩) f9 hl hl1 hLy hk (fun j hj => by rw [cpT_out (by rw [Nat.mul_comm h w]; omega)]) (fun k hk => by
    rw [hf k hk, ← Nat.add_assoc, cpT_in (by rw [Nat.mul_comm]; exact hk)])
  obtain ⟨s2, m1, m2, m3⟩ := hm g2
  refine KV_r (hc g2 w1) m1 m2 (rel_sm (rel_edit hR h7 f1 f2 f9 f10 f11 w2 w3) (sm_tr ?_ m3)) w2
  unfold edS
  exact sm_fg (sm_edM (sm_A2 (sm_frC sm)))
theorem i64_lt {a b : Int64} : a < b ↔ a.toInt < b.toInt := Int64.lt_iff_toInt_lt
theorem i64_le {a b : Int64} : a ≤ b ↔ a.toInt ≤ b.toInt := Int64.le_iff_toInt_le
def clV (v : Int64) : Int64 := if 0 ≤ lg_cmp v 0 then (if lg_cmp v 4095 ≤ 0 then v else 4095) else 0
theorem clV_b {v : Int64} : 0 ≤ (clV v).toInt ∧ (clV v).toInt ≤ 4095 := by
  have e0 : (0 : Int64).toInt = 0 := by decide
  have e4 : (4095 : Int64).toInt = 4095 := by decide
  unfold clV
  by_cases q : 0 ≤ lg_cmp v 0
  · rw [if_pos q]
    rw [lg_cmp_ge, i64_le, e0] at q
    by_cases q2 : lg_cmp v 4095 ≤ 0
    · rw [if_pos q2]
      rw [lg_cmp_le, i64_le, e4] at q2
      omega
    · rw [if_neg q2, e4]; omega
  · rw [if_neg q, e0]; omega
theorem clV_m {v : Int64} : fJ9_max_f86c9 0 (fJ9_min_f86c9 4095 v) = clV v := by
  have e0 : (0 : Int64).toInt = 0 := by decide
  have e4 : (4095 : Int64).toInt = 4095 := by decide
  unfold fJ9_max_f86c9 fJ9_min_f86c9 clV
  simp only [lg_cmp_gt, lg_cmp_lt, lg_cmp_ge, lg_cmp_le, i64_lt, i64_le, e0, e4]
  by_cases q : v.toInt < 4095
  · rw [if_pos q, if_pos (show v.toInt ≤ 4095 by omega)]
    by_cases q2 : 0 < v.toInt
    · rw [if_pos q2, if_pos (by omega)]
    · rw [if_neg q2]
      by_cases q3 : 0 ≤ v.toInt
      · rw [if_pos q3]
        apply Int64.toInt_inj.mp
        rw [e0]; omega
      · rw [if_neg q3]
  · rw [if_neg q, e4, if_pos (by omega), if_pos (by omega)]
    by_cases q2 : v.toInt ≤ 4095
    · rw [if_pos q2]
      apply Int64.toInt_inj.mp
      rw [e4]; omega
    · rw [if_neg q2]
theorem lvl_e {a c : Int32} : fX12_light a c = fX3_level a c := rfl
theorem lvl_b {a : Int32} {c : Nat} (ha : rg a 0 2) (hc : c < 256) : 0 ≤ (fX3_level a (Int32.ofNat c)).toInt ∧ (fX3_level a (Int32.ofNat c)).toInt ≤ 4095 := by
  have hh : ∀ c : Fin 256, (0 ≤ (fX3_level 0 (Int32.ofNat c.1)).toInt ∧ (fX3_level 0 (Int32.ofNat c.1)).toInt ≤ 4095) ∧ (0 ≤ (fX3_level 1 (Int32.ofNat c.1)).toInt ∧ (fX3_level 1 (Int32.ofNat c.1)).toInt ≤ 4095) ∧ (0 ≤ (fX3_level 2 (Int32.ofNat c.1)).toInt ∧ (fX3_level 2 (Int32.ofNat c.1)).toInt ≤ 4095) := by decide +kernel
  have := hh ⟨c, hc⟩
  rcases rg02 ha with rfl | rfl | rfl
  · exact this.1
  · exact this.2.1
  · exact this.2.2
/-- the nearest of the levels L, the first of those -/
def nrV (L : Nat → Int) (v : Int) : Nat → Nat
  | 0 => 0
  | c + 1 => if (L (nrV L v c) - v).natAbs ≤ (L (c + 1) - v).natAbs then nrV L v c else c + 1
theorem nrV_l {L : Nat → Int} {v : Int} : ∀ c, nrV L v c ≤ c
  | 0 => Nat.le_refl _
  | c + 1 => by
    have ih := nrV_l (L := L) (v := v) c
    unfold nrV
    by_cases q : (L (nrV L v c) - v).natAbs ≤ (L (c + 1) - v).natAbs
    · rw [if_pos q]; exact Nat.le_succ_of_le ih
    · rw [if_neg q]; exact Nat.le_refl _
theorem abs_i {a : Int32} (h : -100000 ≤ a.toInt) : (fJ9_abs_0f7a4 a).toInt = a.toInt.natAbs := by
  have e0 : (0 : Int32).toInt = 0 := rfl
  have := @i_max a
  unfold fJ9_abs_0f7a4
  by_cases q : 0 ≤ a
  · rw [if_pos q]
    rw [i_le, e0] at q
    omega
  · rw [if_neg q]
    rw [i_le, e0] at q
    rw [Int32.toInt_neg, i_bm (by omega) (by omega)]
    omega
theorem nearestLevel3 {s : e_S} {g : ps_G} {a v : Int32} (ha : rg a 0 2) (hL : ∀ c, c < 256 → s.2.1 114 c = fX3_level a (Int32.ofNat c)) (hv : 0 ≤ v.toInt ∧ v.toInt ≤ 4095) : fX3_nearestLevel (e_g s g) 111 v = some (Int32.ofNat (nrV (fun c => (fX3_level a (Int32.ofNat c)).toInt) v.toInt 255)) := by
  have rd : ∀ k, k < 256 → q_aI (e_g s g) 114 (Int32.ofNat k) = some (fX3_level a (Int32.ofNat k)) := fun k hk => by
    rw [a114, n_idx (by omega), if_neg (n_in2 hk (by decide)), hL k hk]
  have lp : q_lp (fun t => bX3_nearestLevel_4 (e_g s g) 111 v t.1 t.2) ((0 : Int32), (1 : Int32)) = some (Int32.ofNat (nrV (fun c => (fX3_level a (Int32.ofNat c)).toInt) v.toInt 255)) := by
    refine lp_0 (fun i => (Int32.ofNat (nrV (fun c => (fX3_level a (Int32.ofNat c)).toInt) v.toInt i), Int32.ofNat (i + 1))) 255 rfl (fun i hi => ?_) ?_
    · have nl := nrV_l (L := fun c => (fX3_level a (Int32.ofNat c)).toInt) (v := v.toInt) i
      have b1 := lvl_b ha (show i + 1 < 256 by omega)
      have b2 := lvl_b ha (show nrV (fun c => (fX3_level a (Int32.ofNat c)).toInt) v.toInt i < 256 by omega)
      have s1 := i_sub (a := fX3_level a (Int32.ofNat (i + 1))) (b := v) (by omega) (by omega)
      have s2 := i_sub (a := fX3_level a (Int32.ofNat (nrV (fun c => (fX3_level a (Int32.ofNat c)).toInt) v.toInt i))) (b := v) (by omega) (by omega)
      have ab1 := abs_i (a := fX3_level a (Int32.ofNat (i + 1)) - v) (by omega)
      have ab2 := abs_i (a := fX3_level a (Int32.ofNat (nrV (fun c => (fX3_level a (Int32.ofNat c)).toInt) v.toInt i)) - v) (by omega)
      rw [s1] at ab1
      rw [s2] at ab2
      have st : nrV (fun c => (fX3_level a (Int32.ofNat c)).toInt) v.toInt (i + 1) = if ((fX3_level a (Int32.ofNat (nrV (fun c => (fX3_level a (Int32.ofNat c)).toInt) v.toInt i))).toInt - v.toInt).natAbs ≤ ((fX3_level a (Int32.ofNat (i + 1))).toInt - v.toInt).natAbs then nrV (fun c => (fX3_level a (Int32.ofNat c)).toInt) v.toInt i else i + 1 := rfl
      show bX3_nearestLevel_4 _ _ _ _ _ = _
      unfold bX3_nearestLevel_4
      dsimp only
      rw [if_neg (show ¬ (256 : Int32) ≤ Int32.ofNat (i + 1) from nle (b := 256) (by omega) (by omega)), f111_2, ob_n, ob_n, rd _ (by omega), ob_n, ob_n, ob_n, rd _ (by omega), ob_n, st, n_suc]
      by_cases q : ((fX3_level a (Int32.ofNat (nrV (fun c => (fX3_level a (Int32.ofNat c)).toInt) v.toInt i))).toInt - v.toInt).natAbs ≤ ((fX3_level a (Int32.ofNat (i + 1))).toInt - v.toInt).natAbs
      · rw [if_pos q, if_pos (by rw [i_le, ab1, ab2]; omega)]
      · rw [if_neg q, if_neg (by rw [i_le, ab1, ab2]; omega)]
    · show bX3_nearestLevel_4 _ _ _ _ _ = _
      unfold bX3_nearestLevel_4
      dsimp only
      rw [if_pos (by decide)]
  unfold fX3_nearestLevel
  rw [lp, ob_n]
theorem i64_of {a : Int32} : (Int32.toInt64 a).toInt = a.toInt := by simp
theorem nearest12 {g : ps_G} {a : Int32} {v : Int64} (ha : rg a 0 2) (hv : 0 ≤ v.toInt ∧ v.toInt ≤ 4095) : fX12_nearestLight g 139 a v = some (Int32.ofNat (nrV (fun c => (fX3_level a (Int32.ofNat c)).toInt) v.toInt 255)) := by
  have e0 : (0 : Int64).toInt = 0 := by decide
  have dist : ∀ c, c < 256 → ((if 0 ≤ (lg_cmp ((Int32.toInt64 (fX12_light a (Int32.ofNat c))) - v) (0 : Int64)) then (Int32.toInt64 (fX12_light a (Int32.ofNat c))) - v else -((Int32.toInt64 (fX12_light a (Int32.ofNat c))) - v))).toInt = (((fX3_level a (Int32.ofNat c)).toInt - v.toInt).natAbs : Int) := by
    intro c hc
    have b1 := lvl_b ha hc
    have s1 : (Int32.toInt64 (fX12_light a (Int32.ofNat c)) - v).toInt = (fX3_level a (Int32.ofNat c)).toInt - v.toInt := by
      rw [Int64.toInt_sub, i64_of, lvl_e]
      apply Int.bmod_eq_of_le <;> omega
    have cg : 0 ≤ (lg_cmp ((Int32.toInt64 (fX12_light a (Int32.ofNat c))) - v) (0 : Int64)) ↔ 0 ≤ (fX3_level a (Int32.ofNat c)).toInt - v.toInt := by rw [lg_cmp_ge, i64_le, e0, s1]
    by_cases q : 0 ≤ (fX3_level a (Int32.ofNat c)).toInt - v.toInt
    · rw [if_pos (cg.mpr q), s1]; omega
    · rw [if_neg (fun z => q (cg.mp z)), Int64.toInt_neg, s1]
      have : (-((fX3_level a (Int32.ofNat c)).toInt - v.toInt)).bmod (2 ^ 64) = -((fX3_level a (Int32.ofNat c)).toInt - v.toInt) := by
        apply Int.bmod_eq_of_le <;> omega
      rw [this]; omega
  generalize hDf : (fun c : Nat => (if 0 ≤ (lg_cmp ((Int32.toInt64 (fX12_light a (Int32.ofNat c))) - v) (0 : Int64)) then (Int32.toInt64 (fX12_light a (Int32.ofNat c))) - v else -((Int32.toInt64 (fX12_light a (Int32.ofNat c))) - v))) = Df
  have dd : ∀ c, (if 0 ≤ (lg_cmp ((Int32.toInt64 (fX12_light a (Int32.ofNat c))) - v) (0 : Int64)) then (Int32.toInt64 (fX12_light a (Int32.ofNat c))) - v else -((Int32.toInt64 (fX12_light a (Int32.ofNat c))) - v)) = Df c := fun c => by rw [← hDf]
  simp only [dd] at dist
  have lp : q_lp (fun t => bX12_nearestLight_11 g a v t.1 t.2.1 t.2.2) ((0 : Int32), (-1 : Int64), (0 : Int32)) = some (Int32.ofNat (nrV (fun c => (fX3_level a (Int32.ofNat c)).toInt) v.toInt 255)) := by
    refine lp_0 (fun i => if i = 0 then ((0 : Int32), (-1 : Int64), (0 : Int32)) else (Int32.ofNat (nrV (fun c => (fX3_level a (Int32.ofNat c)).toInt) v.toInt (i - 1)), Df (nrV (fun c => (fX3_level a (Int32.ofNat c)).toInt) v.toInt (i - 1)), Int32.ofNat i)) 256 rfl (fun i hi => ?_) ?_
    · have hd := dd i
      have b1 := dist i hi
      by_cases i0 : i = 0
      · subst i0
        rw [if_pos rfl, if_neg (by omega)]
        show bX12_nearestLight_11 _ _ _ _ _ _ = _
        unfold bX12_nearestLight_11 jX12_nearestLight_60_11 jX12_nearestLight_68_11
        dsimp only
        have hd' : (if 0 ≤ (lg_cmp ((Int32.toInt64 (fX12_light a 0)) - v) (0 : Int64)) then (Int32.toInt64 (fX12_light a 0)) - v else -((Int32.toInt64 (fX12_light a 0)) - v)) = Df 0 := hd
        rw [if_neg (by decide), if_pos (by decide), hd']
        rfl
      · rw [if_neg i0, if_neg (by omega)]
        obtain ⟨j, rfl⟩ : ∃ j, i = j + 1 := ⟨i - 1, by omega⟩
        have nl := nrV_l (L := fun c => (fX3_level a (Int32.ofNat c)).toInt) (v := v.toInt) j
        have b2 := dist (nrV (fun c => (fX3_level a (Int32.ofNat c)).toInt) v.toInt j) (by omega)
        have st : nrV (fun c => (fX3_level a (Int32.ofNat c)).toInt) v.toInt (j + 1) = if ((fX3_level a (Int32.ofNat (nrV (fun c => (fX3_level a (Int32.ofNat c)).toInt) v.toInt j))).toInt - v.toInt).natAbs ≤ ((fX3_level a (Int32.ofNat (j + 1))).toInt - v.toInt).natAbs then nrV (fun c => (fX3_level a (Int32.ofNat c)).toInt) v.toInt j else j + 1 := rfl
        show bX12_nearestLight_11 _ _ _ _ _ _ = _
        unfold bX12_nearestLight_11 jX12_nearestLight_60_11 jX12_nearestLight_68_11
        rw [show j + 1 - 1 = j from rfl, show j + 1 + 1 - 1 = j + 1 from rfl, st]
        generalize nrV (fun c => (fX3_level a (Int32.ofNat c)).toInt) v.toInt j = k at nl b2
        dsimp only
        rw [if_neg (show ¬ (256 : Int32) ≤ Int32.ofNat (j + 1) from nle (b := 256) (by omega) (by omega)), if_neg (by rw [lg_cmp_lt, i64_lt, b2, e0]; omega), hd, n_suc]
        by_cases q : ((fX3_level a (Int32.ofNat k)).toInt - v.toInt).natAbs ≤ ((fX3_level a (Int32.ofNat (j + 1))).toInt - v.toInt).natAbs
        · rw [if_pos q, if_neg (by rw [lg_cmp_lt, i64_lt, b1, b2]; omega)]
        · rw [if_neg q, if_pos (by rw [lg_cmp_lt, i64_lt, b1, b2]; omega)]
    · rw [if_neg (by omega)]
      show bX12_nearestLight_11 _ _ _ _ _ _ = _
      unfold bX12_nearestLight_11
      dsimp only
      rw [if_pos (by decide)]
  unfold fX12_nearestLight
  rw [lp, ob_n]
theorem toI32 {v : Int64} (hv : 0 ≤ v.toInt ∧ v.toInt ≤ 4095) : (Int64.toInt32 v).toInt = v.toInt := by
  rw [Int64.toInt_toInt32]
  apply Int.bmod_eq_of_le <;> omega
