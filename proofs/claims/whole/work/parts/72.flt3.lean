-- needs: 07 10 13 14 20 21 22 23 24 25 26 27 32 38 52 53 54 58 70 71
/-! ===== FILTERS: samples one by one ===== -/
theorem hi_b (i : Nat) (h : i < 32) : (BitVec.ofNat 32 4278190080).getLsbD i = decide (24 ≤ i) := by
  have : ∀ i : Fin 32, (BitVec.ofNat 32 4278190080).getLsbD i.1 = decide (24 ≤ i.1) := by decide
  exact this ⟨i, h⟩
theorem hi_a {c : Int32} : q_shl (q_ush c 24) 24 = c &&& -16777216 := by
  apply Int32.toBitVec_inj.mp
  apply BitVec.eq_of_getLsbD_eq
  intro i hi
  have e1 : ((24 : Int32) &&& 31) = 24 := by decide
  have e2 : (Int32.toUInt32 24 &&& Int32.toUInt32 31) = 24 := by decide
  have e3 : (-16777216 : Int32).toBitVec = BitVec.ofNat 32 4278190080 := by decide
  unfold q_shl q_ush
  rw [e1, e2, Int32.toBitVec_and, BitVec.getLsbD_and, e3, hi_b i hi, Int32.toBitVec_shiftLeft]
  have e4 : ((24 : Int32).toBitVec.smod 32) = 24#32 := by decide
  rw [e4]
  show ((c.toUInt32 >>> 24).toBitVec <<< (24#32)).getLsbD i = _
  rw [UInt32.toBitVec_shiftRight]
  have e5 : ((24 : UInt32).toBitVec % 32) = 24#32 := by decide
  rw [e5, BitVec.shiftLeft_eq', BitVec.getLsbD_shiftLeft]
  have e6 : (24#32).toNat = 24 := by decide
  rw [e6]
  by_cases z : 24 ≤ i
  · rw [BitVec.ushiftRight_eq', e6, BitVec.getLsbD_ushiftRight, show 24 + (i - 24) = i by omega]
    simp [z, hi]
  · simp [z]
def c3 (a s0 s1 s2 : Int32) : Int32 := a ||| q_shl s0 16 ||| q_shl s1 8 ||| q_shl s2 0
theorem pack_c3 {a r g b : Int32} : fX11_pack a r g b = c3 (q_shl a 24) r g b := by
  unfold fX11_pack c3
  rw [shl_0]
theorem colour_p {a r g b : Int32} : fX12_colour r g b a = fX11_pack a r g b := rfl
theorem sh3 {b : Int32 × Int32 → Option ((Int32 × Int32) ⊕ Int32)} {S : Int32 → Int32} {a : Int32} (hs : ∀ acc sh, (sh = 16 ∨ sh = 8 ∨ sh = 0) → b (acc, sh) = some (.inl (acc ||| q_shl (S sh) sh, sh + -8))) (he : ∀ acc, b (acc, -8) = some (.inr acc)) : q_lp b (a, 16) = some (c3 a (S 16) (S 8) (S 0)) := by
  rw [lp_go (hs a 16 (Or.inl rfl)), z_168, lp_go (hs _ 8 (Or.inr (Or.inl rfl))), z_88, lp_go (hs _ 0 (Or.inr (Or.inr rfl))), z_08]
  exact lp_end (he _)
theorem smp3 {s : e_S} {g : ps_G} {kind n x y c a q d s0 s1 s2 : Int32} (h0 : fX12_sampled (e_g s g) 139 kind n (q_shr c 16 &&& 255) (q_shr q 16 &&& 255) d x y 0 = some s0) (h1 : fX12_sampled (e_g s g) 139 kind n (q_shr c 8 &&& 255) (q_shr q 8 &&& 255) d x y 1 = some s1) (h2 : fX12_sampled (e_g s g) 139 kind n (q_shr c 0 &&& 255) (q_shr q 0 &&& 255) d x y 2 = some s2) : jX12_filtered_274 (e_g s g) 139 kind n x y c a q d = some (c3 a s0 s1 s2, e_g s g) := by
  have p : ∀ c : Int32, fX12_part c 0 = q_shr c 16 &&& 255 ∧ fX12_part c 1 = q_shr c 8 &&& 255 ∧ fX12_part c 2 = q_shr c 0 &&& 255 := fun c => by
    refine ⟨?_, ?_, ?_⟩ <;> simp (decide := true) only [fX12_part, reduceIte, z_160, z_161, z_162, z_163, z_168, z_88, z_08, z_01, z_11, z_21, z_31]
  have lp : q_lp (fun t => bX12_filtered_279 (e_g s g) 139 kind n x y c q d t.1 t.2) (a, (0 : Int32)) = some (c3 a s0 s1 s2) := by
    rw [lp_go (s' := (a ||| q_shl s0 16, (1 : Int32))) (by simp (decide := true) only [bX12_filtered_279, ob139, p, h0, z_160, z_161, z_162, z_163, z_168, z_88, z_08, z_01, z_11, z_21, z_31, ob_n, b2_n, tc_rn, tc_ln, F_sF, A_sF, R_sF, L_sF, F_sA, A_sA, R_sA, L_sA, F_sR, A_sR, R_sR, L_sR, F_sL, A_sL, R_sL, L_sL, and_true, true_and, and_false, false_and, and_self, reduceIte, sF_sF, sA_sA, false_or, or_false, true_or, or_true, not_false_eq_true, not_true_eq_false, decide_true, decide_false, Bool.true_or, Bool.or_true, Bool.false_and, Bool.true_and, Bool.false_or, Bool.or_false, Bool.and_true, Bool.and_false])]
    rw [lp_go (s' := (a ||| q_shl s0 16 ||| q_shl s1 8, (2 : Int32))) (by simp (decide := true) only [bX12_filtered_279, ob139, p, h1, z_160, z_161, z_162, z_163, z_168, z_88, z_08, z_01, z_11, z_21, z_31, ob_n, b2_n, tc_rn, tc_ln, F_sF, A_sF, R_sF, L_sF, F_sA, A_sA, R_sA, L_sA, F_sR, A_sR, R_sR, L_sR, F_sL, A_sL, R_sL, L_sL, and_true, true_and, and_false, false_and, and_self, reduceIte, sF_sF, sA_sA, false_or, or_false, true_or, or_true, not_false_eq_true, not_true_eq_false, decide_true, decide_false, Bool.true_or, Bool.or_true, Bool.false_and, Bool.true_and, Bool.false_or, Bool.or_false, Bool.and_true, Bool.and_false])]
    rw [lp_go (s' := (a ||| q_shl s0 16 ||| q_shl s1 8 ||| q_shl s2 0, (3 : Int32))) (by simp (decide := true) only [bX12_filtered_279, ob139, p, h2, z_160, z_161, z_162, z_163, z_168, z_88, z_08, z_01, z_11, z_21, z_31, ob_n, b2_n, tc_rn, tc_ln, F_sF, A_sF, R_sF, L_sF, F_sA, A_sA, R_sA, L_sA, F_sR, A_sR, R_sR, L_sR, F_sL, A_sL, R_sL, L_sL, and_true, true_and, and_false, false_and, and_self, reduceIte, sF_sF, sA_sA, false_or, or_false, true_or, or_true, not_false_eq_true, not_true_eq_false, decide_true, decide_false, Bool.true_or, Bool.or_true, Bool.false_and, Bool.true_and, Bool.false_or, Bool.or_false, Bool.and_true, Bool.and_false])]
    exact lp_end (by simp (decide := true) only [bX12_filtered_279, c3, ob_n, b2_n, tc_rn, tc_ln, F_sF, A_sF, R_sF, L_sF, F_sA, A_sA, R_sA, L_sA, F_sR, A_sR, R_sR, L_sR, F_sL, A_sL, R_sL, L_sL, and_true, true_and, and_false, false_and, and_self, reduceIte, sF_sF, sA_sA, false_or, or_false, true_or, or_true, not_false_eq_true, not_true_eq_false, decide_true, decide_false, Bool.true_or, Bool.or_true, Bool.false_and, Bool.true_and, Bool.false_or, Bool.or_false, Bool.and_true, Bool.and_false])
  simp (decide := true) only [jX12_filtered_274, lp, ob_n, b2_n, tc_rn, tc_ln, F_sF, A_sF, R_sF, L_sF, F_sA, A_sA, R_sA, L_sA, F_sR, A_sR, R_sR, L_sR, F_sL, A_sL, R_sL, L_sL, and_true, true_and, and_false, false_and, and_self, reduceIte, sF_sF, sA_sA, false_or, or_false, true_or, or_true, not_false_eq_true, not_true_eq_false, decide_true, decide_false, Bool.true_or, Bool.or_true, Bool.false_and, Bool.true_and, Bool.false_or, Bool.or_false, Bool.and_true, Bool.and_false]
/-- the sum of the own KERNEL -/
def ksN (K : Nat → Int32) (R : Int32 → Int32 → Int32) (x y sh : Int32) : Nat → Int32
  | 0 => 0
  | k + 1 => ksN K R x y sh k + K k * (q_shr (ar9 R x y k) sh &&& 255)
def gnV (x y n : Int32) : Int32 := q_rem (q_ush ((((x * 374761393 + y * 668265263 + n) * 1274126177) ^^^ q_ush ((x * 374761393 + y * 668265263 + n) * 1274126177) 13) * 1103515245) 24) (2 * q_shr n 3 + 1) - q_shr n 3
/-- one sample of a FILTER that takes samples one by one -/
noncomputable def fsV (kind n : Int32) (R : Int32 → Int32 → Int32) (K : Nat → Int32) (dv os x y sh : Int32) : Int32 :=
  if kind = 1 then fX11_clip ((q_shr (R x y) sh &&& 255) + q_shr (((q_shr (R x y) sh &&& 255) - (q_shr (sfV R 1 x y) sh &&& 255)) * n) 6)
  else if kind = 4 then fX11_clip (128 + (q_shr (R (x + 1) (y + 1)) sh &&& 255) - (q_shr (R (x - 1) (y - 1)) sh &&& 255))
  else if kind = 6 then (if fX11_luma (R x y) < n then 0 else 255)
  else if kind = 7 then (((q_shr (R x y) sh &&& 255) * (n - 1) + 127) / 255 * 255 + (n - 1) / 2) / (n - 1)
  else if kind = 8 then 255 - (q_shr (R x y) sh &&& 255)
  else if kind = 9 then fX11_clip ((q_shr (R x y) sh &&& 255) + gnV x y n)
  else if kind = 10 then fX11_clip (ksN K R x y sh 9 / dv + os)
  else if kind = 11 then fX11_luma (R x y)
  else fX11_clip (fX11_luma (R x y) + q_shr (((q_shr (R x y) sh &&& 255) - fX11_luma (R x y)) * n) 6)
noncomputable def fcV (kind n : Int32) (R : Int32 → Int32 → Int32) (K : Nat → Int32) (dv os x y : Int32) : Int32 := c3 (R x y &&& -16777216) (fsV kind n R K dv os x y 16) (fsV kind n R K dv os x y 8) (fsV kind n R K dv os x y 0)
theorem shl_n {kind k : Int32} (h : ¬ kind = k) : (kind = k) = False := eq_false h
theorem sharp5 {g : ps_G} {R : Int32 → Int32 → Int32} {K : Nat → Int32} {n dv os x y : Int32} : fX5_sharp g (R x y) (sfV R 1 x y) n = some (fcV 1 n R K dv os x y) := by
  have lp := sh3 (b := fun t => bX5_sharp_9 g (R x y) (sfV R 1 x y) n t.1 t.2) (S := fsV 1 n R K dv os x y) (a := R x y &&& -16777216) (fun acc sh hs => by
    have hn : ¬ sh < 0 := by rcases hs with rfl | rfl | rfl <;> decide
    simp (decide := true) only [bX5_sharp_9, hn, fsV, ob_n, b2_n, tc_rn, tc_ln, F_sF, A_sF, R_sF, L_sF, F_sA, A_sA, R_sA, L_sA, F_sR, A_sR, R_sR, L_sR, F_sL, A_sL, R_sL, L_sL, and_true, true_and, and_false, false_and, and_self, reduceIte, sF_sF, sA_sA, false_or, or_false, true_or, or_true, not_false_eq_true, not_true_eq_false, decide_true, decide_false, Bool.true_or, Bool.or_true, Bool.false_and, Bool.true_and, Bool.false_or, Bool.or_false, Bool.and_true, Bool.and_false]) (fun acc => by simp (decide := true) only [bX5_sharp_9, ob_n, b2_n, tc_rn, tc_ln, F_sF, A_sF, R_sF, L_sF, F_sA, A_sA, R_sA, L_sA, F_sR, A_sR, R_sR, L_sR, F_sL, A_sL, R_sL, L_sL, and_true, true_and, and_false, false_and, and_self, reduceIte, sF_sF, sA_sA, false_or, or_false, true_or, or_true, not_false_eq_true, not_true_eq_false, decide_true, decide_false, Bool.true_or, Bool.or_true, Bool.false_and, Bool.true_and, Bool.false_or, Bool.or_false, Bool.and_true, Bool.and_false])
  unfold fX5_sharp
  rw [lp, ob_n]; rfl
theorem alone5 {g : ps_G} {R : Int32 → Int32 → Int32} {K : Nat → Int32} {kind n dv os x y : Int32} (hk : kind = 6 ∨ kind = 7 ∨ kind = 8 ∨ kind = 11 ∨ kind = 13) (h7 : kind = 7 → ¬ n ≤ 1 ∧ ¬ n - 1 = 0) : fX5_alone g kind n (R x y) = some (fcV kind n R K dv os x y) := by
  have lp := sh3 (b := fun t => bX5_alone_15 g kind n (R x y) (fX11_luma (R x y)) t.1 t.2) (S := fsV kind n R K dv os x y) (a := R x y &&& -16777216) (fun acc sh hs => by
    have hn : ¬ sh < 0 := by rcases hs with rfl | rfl | rfl <;> decide
    rcases hk with rfl | rfl | rfl | rfl | rfl
    · simp (decide := true) only [bX5_alone_15, jX5_alone_175_15, hn, fsV, ob_n, b2_n, tc_rn, tc_ln, F_sF, A_sF, R_sF, L_sF, F_sA, A_sA, R_sA, L_sA, F_sR, A_sR, R_sR, L_sR, F_sL, A_sL, R_sL, L_sL, and_true, true_and, and_false, false_and, and_self, reduceIte, sF_sF, sA_sA, false_or, or_false, true_or, or_true, not_false_eq_true, not_true_eq_false, decide_true, decide_false, Bool.true_or, Bool.or_true, Bool.false_and, Bool.true_and, Bool.false_or, Bool.or_false, Bool.and_true, Bool.and_false]
    · obtain ⟨a1, a2⟩ := h7 rfl
      simp (decide := true) only [bX5_alone_15, jX5_alone_131_15, jX5_alone_175_15, hn, a1, a2, q_div, fsV, ob_n, b2_n, tc_rn, tc_ln, F_sF, A_sF, R_sF, L_sF, F_sA, A_sA, R_sA, L_sA, F_sR, A_sR, R_sR, L_sR, F_sL, A_sL, R_sL, L_sL, and_true, true_and, and_false, false_and, and_self, reduceIte, sF_sF, sA_sA, false_or, or_false, true_or, or_true, not_false_eq_true, not_true_eq_false, decide_true, decide_false, Bool.true_or, Bool.or_true, Bool.false_and, Bool.true_and, Bool.false_or, Bool.or_false, Bool.and_true, Bool.and_false]
    · simp (decide := true) only [bX5_alone_15, jX5_alone_175_15, hn, fsV, ob_n, b2_n, tc_rn, tc_ln, F_sF, A_sF, R_sF, L_sF, F_sA, A_sA, R_sA, L_sA, F_sR, A_sR, R_sR, L_sR, F_sL, A_sL, R_sL, L_sL, and_true, true_and, and_false, false_and, and_self, reduceIte, sF_sF, sA_sA, false_or, or_false, true_or, or_true, not_false_eq_true, not_true_eq_false, decide_true, decide_false, Bool.true_or, Bool.or_true, Bool.false_and, Bool.true_and, Bool.false_or, Bool.or_false, Bool.and_true, Bool.and_false]
    · simp (decide := true) only [bX5_alone_15, jX5_alone_175_15, hn, fsV, ob_n, b2_n, tc_rn, tc_ln, F_sF, A_sF, R_sF, L_sF, F_sA, A_sA, R_sA, L_sA, F_sR, A_sR, R_sR, L_sR, F_sL, A_sL, R_sL, L_sL, and_true, true_and, and_false, false_and, and_self, reduceIte, sF_sF, sA_sA, false_or, or_false, true_or, or_true, not_false_eq_true, not_true_eq_false, decide_true, decide_false, Bool.true_or, Bool.or_true, Bool.false_and, Bool.true_and, Bool.false_or, Bool.or_false, Bool.and_true, Bool.and_false]
    · simp (decide := true) only [bX5_alone_15, jX5_alone_175_15, hn, fsV, ob_n, b2_n, tc_rn, tc_ln, F_sF, A_sF, R_sF, L_sF, F_sA, A_sA, R_sA, L_sA, F_sR, A_sR, R_sR, L_sR, F_sL, A_sL, R_sL, L_sL, and_true, true_and, and_false, false_and, and_self, reduceIte, sF_sF, sA_sA, false_or, or_false, true_or, or_true, not_false_eq_true, not_true_eq_false, decide_true, decide_false, Bool.true_or, Bool.or_true, Bool.false_and, Bool.true_and, Bool.false_or, Bool.or_false, Bool.and_true, Bool.and_false]) (fun acc => by simp (decide := true) only [bX5_alone_15, ob_n, b2_n, tc_rn, tc_ln, F_sF, A_sF, R_sF, L_sF, F_sA, A_sA, R_sA, L_sA, F_sR, A_sR, R_sR, L_sR, F_sL, A_sL, R_sL, L_sL, and_true, true_and, and_false, false_and, and_self, reduceIte, sF_sF, sA_sA, false_or, or_false, true_or, or_true, not_false_eq_true, not_true_eq_false, decide_true, decide_false, Bool.true_or, Bool.or_true, Bool.false_and, Bool.true_and, Bool.false_or, Bool.or_false, Bool.and_true, Bool.and_false])
  unfold fX5_alone
  rw [lp, ob_n]; rfl
theorem raised5 {s : e_S} {g : ps_G} {R : Int32 → Int32 → Int32} {K : Nat → Int32} {n dv os x y : Int32} (hR : ∀ x y, fX5_near (e_g s g) 14 x y = some (R x y)) : fX5_raised (e_g s g) 14 x y = some (fcV 4 n R K dv os x y) := by
  have e : ∀ c, fX11_blue c = q_shr c 0 &&& 255 := fun c => by unfold fX11_blue; rw [shr_0]
  simp (decide := true) only [fX5_raised, ob14, hR, pack_c3, hi_a, fcV, fsV, fX11_red, fX11_green, e, ob_n, b2_n, tc_rn, tc_ln, F_sF, A_sF, R_sF, L_sF, F_sA, A_sA, R_sA, L_sA, F_sR, A_sR, R_sR, L_sR, F_sL, A_sL, R_sL, L_sL, and_true, true_and, and_false, false_and, and_self, reduceIte, sF_sF, sA_sA, false_or, or_false, true_or, or_true, not_false_eq_true, not_true_eq_false, decide_true, decide_false, Bool.true_or, Bool.or_true, Bool.false_and, Bool.true_and, Bool.false_or, Bool.or_false, Bool.and_true, Bool.and_false]
theorem kern5 {s : e_S} {g : ps_G} {R : Int32 → Int32 → Int32} {n x y : Int32} (hR : ∀ x y, fX5_near (e_g s g) 14 x y = some (R x y)) (hd : 0 < (s.1 14 4).toInt) : fX5_ownKernel (e_g s g) 14 x y = some (fcV 10 n R (s.2.1 18) (s.1 14 4) (s.1 14 5) x y) := by
  have e0 : (0 : Int32).toInt = 0 := rfl
  have d1 : ¬ s.1 14 4 ≤ 0 := by rw [i_le, e0]; omega
  have d2 : ¬ s.1 14 4 = 0 := by rw [i_eq, e0]; omega
  have inn : ∀ acc sh, q_lp (fun t => bX5_ownKernel_25 (e_g s g) 14 x y acc sh t.1 t.2) ((0 : Int32), (0 : Int32)) = some (ksN (s.2.1 18) R x y sh 9) := by
    intro acc sh
    refine lp_0 (fun k => (ksN (s.2.1 18) R x y sh k, Int32.ofNat k)) 9 rfl (fun k hk => ?_) ?_
    · have q1 : ¬ (9 : Int32) ≤ Int32.ofNat k := nle (b := 9) hk (by decide)
      have r1 : q_rem (Int32.ofNat k) 3 = Int32.ofNat (k % 3) := n_rem (b := 3) (by omega) (by omega)
      have r2 : Int32.ofNat k / 3 = Int32.ofNat (k / 3) := n_div (b := 3) (by omega) (by omega)
      have ear : R (x + Int32.ofNat (k % 3) - 1) (y + Int32.ofNat (k / 3) - 1) = ar9 R x y k := rfl
      have ek : ksN (s.2.1 18) R x y sh (k + 1) = ksN (s.2.1 18) R x y sh k + s.2.1 18 k * (q_shr (ar9 R x y k) sh &&& 255) := rfl
      simp (decide := true) only [bX5_ownKernel_25, q1, f14_3, a18, n_in2 hk (by decide), n_idx (show k < 2147483648 by omega), ob14, r1, r2, hR, ear, ek, n_suc, ob_n, b2_n, tc_rn, tc_ln, F_sF, A_sF, R_sF, L_sF, F_sA, A_sA, R_sA, L_sA, F_sR, A_sR, R_sR, L_sR, F_sL, A_sL, R_sL, L_sL, and_true, true_and, and_false, false_and, and_self, reduceIte, sF_sF, sA_sA, false_or, or_false, true_or, or_true, not_false_eq_true, not_true_eq_false, decide_true, decide_false, Bool.true_or, Bool.or_true, Bool.false_and, Bool.true_and, Bool.false_or, Bool.or_false, Bool.and_true, Bool.and_false]
    · simp (decide := true) only [bX5_ownKernel_25, ob_n, b2_n, tc_rn, tc_ln, F_sF, A_sF, R_sF, L_sF, F_sA, A_sA, R_sA, L_sA, F_sR, A_sR, R_sR, L_sR, F_sL, A_sL, R_sL, L_sL, and_true, true_and, and_false, false_and, and_self, reduceIte, sF_sF, sA_sA, false_or, or_false, true_or, or_true, not_false_eq_true, not_true_eq_false, decide_true, decide_false, Bool.true_or, Bool.or_true, Bool.false_and, Bool.true_and, Bool.false_or, Bool.or_false, Bool.and_true, Bool.and_false]
  have lp := sh3 (b := fun t => bX5_ownKernel_14 (e_g s g) 14 x y t.1 t.2) (S := fsV 10 n R (s.2.1 18) (s.1 14 4) (s.1 14 5) x y) (a := R x y &&& -16777216) (fun acc sh hs => by
    have hn : ¬ sh < 0 := by rcases hs with rfl | rfl | rfl <;> decide
    simp (decide := true) only [bX5_ownKernel_14, jX5_ownKernel_98_14, hn, inn, f14_4, f14_5, d1, d2, q_div, fsV, ob_n, b2_n, tc_rn, tc_ln, F_sF, A_sF, R_sF, L_sF, F_sA, A_sA, R_sA, L_sA, F_sR, A_sR, R_sR, L_sR, F_sL, A_sL, R_sL, L_sL, and_true, true_and, and_false, false_and, and_self, reduceIte, sF_sF, sA_sA, false_or, or_false, true_or, or_true, not_false_eq_true, not_true_eq_false, decide_true, decide_false, Bool.true_or, Bool.or_true, Bool.false_and, Bool.true_and, Bool.false_or, Bool.or_false, Bool.and_true, Bool.and_false]) (fun acc => by simp (decide := true) only [bX5_ownKernel_14, ob_n, b2_n, tc_rn, tc_ln, F_sF, A_sF, R_sF, L_sF, F_sA, A_sA, R_sA, L_sA, F_sR, A_sR, R_sR, L_sR, F_sL, A_sL, R_sL, L_sL, and_true, true_and, and_false, false_and, and_self, reduceIte, sF_sF, sA_sA, false_or, or_false, true_or, or_true, not_false_eq_true, not_true_eq_false, decide_true, decide_false, Bool.true_or, Bool.or_true, Bool.false_and, Bool.true_and, Bool.false_or, Bool.or_false, Bool.and_true, Bool.and_false])
  simp (decide := true) only [fX5_ownKernel, ob14, hR, lp, fcV, ob_n, b2_n, tc_rn, tc_ln, F_sF, A_sF, R_sF, L_sF, F_sA, A_sA, R_sA, L_sA, F_sR, A_sR, R_sR, L_sR, F_sL, A_sL, R_sL, L_sL, and_true, true_and, and_false, false_and, and_self, reduceIte, sF_sF, sA_sA, false_or, or_false, true_or, or_true, not_false_eq_true, not_true_eq_false, decide_true, decide_false, Bool.true_or, Bool.or_true, Bool.false_and, Bool.true_and, Bool.false_or, Bool.or_false, Bool.and_true, Bool.and_false]
theorem gn_m {n : Int32} (hn : rg n 0 255) : fJ9_max_7cf53 n 0 = n ∧ ¬ 2 * q_shr n 3 + 1 = 0 := by
  have e0 : (0 : Int32).toInt = 0 := rfl
  have e5 : (255 : Int32).toInt = 255 := rfl
  have e2 : (2 : Int32).toInt = 2 := rfl
  have e1 : (1 : Int32).toInt = 1 := rfl
  rw [rg_i, e0, e5] at hn
  have sk : (q_shr n 3).toInt = n.toInt / 8 := by rw [shr_k (n := 3) (by decide)]; rfl
  have m : (2 * q_shr n 3).toInt = 2 * (n.toInt / 8) := by rw [i_mul (by rw [e2, sk]; omega) (by rw [e2, sk]; omega), e2, sk]
  refine ⟨?_, ?_⟩
  · unfold fJ9_max_7cf53
    rw [if_neg (by rw [i_lt, e0]; omega)]
  · rw [i_eq, i_add (by rw [m, e1]; omega) (by rw [m, e1]; omega), m, e1, e0]; omega
theorem lifted5 {g : ps_G} {R : Int32 → Int32 → Int32} {K : Nat → Int32} {n dv os x y : Int32} (hn : rg n 0 255) : fX5_grain g x y n = some (gnV x y n) ∧ fX5_lifted (R x y) (gnV x y n) = fcV 9 n R K dv os x y := by
  obtain ⟨a, b⟩ := gn_m hn
  have e : ∀ c, fX11_blue c = q_shr c 0 &&& 255 := fun c => by unfold fX11_blue; rw [shr_0]
  refine ⟨?_, ?_⟩
  · simp (decide := true) only [fX5_grain, a, q_mod, b, gnV, ob_n, b2_n, tc_rn, tc_ln, F_sF, A_sF, R_sF, L_sF, F_sA, A_sA, R_sA, L_sA, F_sR, A_sR, R_sR, L_sR, F_sL, A_sL, R_sL, L_sL, and_true, true_and, and_false, false_and, and_self, reduceIte, sF_sF, sA_sA, false_or, or_false, true_or, or_true, not_false_eq_true, not_true_eq_false, decide_true, decide_false, Bool.true_or, Bool.or_true, Bool.false_and, Bool.true_and, Bool.false_or, Bool.or_false, Bool.and_true, Bool.and_false]
  · simp (decide := true) only [fX5_lifted, pack_c3, hi_a, fcV, fsV, fX11_red, fX11_green, e, ob_n, b2_n, tc_rn, tc_ln, F_sF, A_sF, R_sF, L_sF, F_sA, A_sA, R_sA, L_sA, F_sR, A_sR, R_sR, L_sR, F_sL, A_sL, R_sL, L_sL, and_true, true_and, and_false, false_and, and_self, reduceIte, sF_sF, sA_sA, false_or, or_false, true_or, or_true, not_false_eq_true, not_true_eq_false, decide_true, decide_false, Bool.true_or, Bool.or_true, Bool.false_and, Bool.true_and, Bool.false_or, Bool.or_false, Bool.and_true, Bool.and_false]
theorem grain12 {s : e_S} {g : ps_G} {n x y : Int32} (hn : rg n 0 255) : fX12_grain (e_g s g) 139 x y n = some (gnV x y n) := by
  obtain ⟨a, b⟩ := gn_m hn
  simp (decide := true) only [fX12_grain, q_mod, b, gnV, ob_n, b2_n, tc_rn, tc_ln, F_sF, A_sF, R_sF, L_sF, F_sA, A_sA, R_sA, L_sA, F_sR, A_sR, R_sR, L_sR, F_sL, A_sL, R_sL, L_sL, and_true, true_and, and_false, false_and, and_self, reduceIte, sF_sF, sA_sA, false_or, or_false, true_or, or_true, not_false_eq_true, not_true_eq_false, decide_true, decide_false, Bool.true_or, Bool.or_true, Bool.false_and, Bool.true_and, Bool.false_or, Bool.or_false, Bool.and_true, Bool.and_false]
/-! hue -/
theorem mx_i {a b : Int32} : (fJ9_max_7cf53 a b).toInt = if a.toInt < b.toInt then b.toInt else a.toInt := by
  unfold fJ9_max_7cf53
  by_cases z : a < b
  · rw [if_pos z, if_pos (i_lt.mp z)]
  · rw [if_neg z, if_neg (fun q => z (i_lt.mpr q))]
theorem mn_i {a b : Int32} : (fJ9_min_7cf53 a b).toInt = if b.toInt < a.toInt then b.toInt else a.toInt := by
  unfold fJ9_min_7cf53
  by_cases z : b < a
  · rw [if_pos z, if_pos (i_lt.mp z)]
  · rw [if_neg z, if_neg (fun q => z (i_lt.mpr q))]
theorem mx3 {r g b : Int32} : (if r ≤ g then (if g ≤ b then b else g) else (if r ≤ b then b else r)) = fJ9_max_7cf53 r (fJ9_max_7cf53 g b) := by
  rw [i_eq, mx_i, mx_i, max_2, max_2]
  by_cases z : r ≤ g
  · rw [if_pos z, mx_i]
    rw [i_le] at z
    split <;> split <;> omega
  · rw [if_neg z, mx_i]
    rw [i_le] at z
    (repeat' split) <;> omega
theorem mn3 {r g b : Int32} : (if g ≤ r then (if b ≤ g then b else g) else (if b ≤ r then b else r)) = fJ9_min_7cf53 r (fJ9_min_7cf53 g b) := by
  rw [i_eq, mn_i, mn_i, min_2, min_2]
  by_cases z : g ≤ r
  · rw [if_pos z, mn_i]
    rw [i_le] at z
    split <;> split <;> omega
  · rw [if_neg z, mn_i]
    rw [i_le] at z
    (repeat' split) <;> omega
theorem rem_i {x : Int32} : (q_rem x 1536).toInt = x.toInt.tmod 1536 := by
  have e : (1536 : Int32).toInt = 1536 := rfl
  unfold q_rem
  have h1 : (x / 1536).toInt = x.toInt.tdiv 1536 := by rw [i_div (by rw [e]; omega), e]
  have hx1 := @i_min x
  have hx2 := @i_max x
  have hd := Int.tmod_add_mul_tdiv x.toInt 1536
  have hm1 : -1536 < x.toInt.tmod 1536 := Int.lt_tmod_of_pos _ (by decide)
  have hm2 : x.toInt.tmod 1536 < 1536 := Int.tmod_lt_of_pos _ (by decide)
  have hq : x.toInt.tdiv 1536 = if 0 ≤ x.toInt then x.toInt / 1536 else -((-x.toInt) / 1536) := by
    split
    · exact Int.tdiv_eq_ediv_of_nonneg (by assumption)
    · rw [← Int.tdiv_eq_ediv_of_nonneg (show 0 ≤ -x.toInt by omega), Int.neg_tdiv, Int.neg_neg]
  have hb : -2147483648 ≤ x.toInt.tdiv 1536 * 1536 ∧ x.toInt.tdiv 1536 * 1536 < 2147483648 := by
    rw [hq]
    split <;> omega
  have m : (x / 1536 * 1536).toInt = x.toInt.tdiv 1536 * 1536 := by rw [i_mul (by rw [h1, e]; omega) (by rw [h1, e]; omega), h1, e]
  rw [i_sub (by rw [m]; omega) (by rw [m]; omega), m]
  omega
theorem fm_eq {g : ps_G} {x : Int32} : fJ9_floorMod_7cf53 g x 1536 = some (q_rem (q_rem x 1536 + 1536) 1536) := by
  have e : (1536 : Int32).toInt = 1536 := rfl
  have e0 : (0 : Int32).toInt = 0 := rfl
  have hm1 : -1536 < x.toInt.tmod 1536 := Int.lt_tmod_of_pos _ (by decide)
  have hm2 : x.toInt.tmod 1536 < 1536 := Int.tmod_lt_of_pos _ (by decide)
  have ea : (q_rem x 1536 + 1536).toInt = x.toInt.tmod 1536 + 1536 := by rw [i_add (by rw [rem_i, e]; omega) (by rw [rem_i, e]; omega), rem_i, e]
  have er : (q_rem (q_rem x 1536 + 1536) 1536).toInt = if x.toInt.tmod 1536 < 0 then x.toInt.tmod 1536 + 1536 else x.toInt.tmod 1536 := by
    rw [rem_i, ea, Int.tmod_eq_emod_of_nonneg (by omega)]
    split <;> omega
  have sg : 0 ≤ x ^^^ 1536 ↔ 0 ≤ x := by
    have key : ∀ z : Int32, 0 ≤ z ↔ z.toBitVec.getLsbD 31 = false := by
      intro z
      rw [i_le, e0]
      show 0 ≤ z.toBitVec.toInt ↔ _
      have h1 := BitVec.msb_eq_toInt (x := z.toBitVec)
      rw [BitVec.msb_eq_getLsbD_last] at h1
      rw [h1, decide_eq_false_iff_not]
      omega
    rw [key, key, Int32.toBitVec_xor, BitVec.getLsbD_xor]
    have : (1536 : Int32).toBitVec.getLsbD 31 = false := by decide
    rw [this, Bool.xor_false]
  unfold fJ9_floorMod_7cf53 q_mod
  rw [if_neg (by decide), ob_n]
  have hs : 0 ≤ x → 0 ≤ x.toInt.tmod 1536 := fun h => Int.tmod_nonneg _ (by rw [i_le, e0] at h; exact h)
  have hs2 : ¬ 0 ≤ x → x.toInt.tmod 1536 ≤ 0 := fun h => by
    rw [i_le, e0] at h
    have h2 := Int.neg_tmod x.toInt 1536
    have h3 : 0 ≤ (-x.toInt).tmod 1536 := Int.tmod_nonneg _ (by omega)
    omega
  by_cases z : 0 ≤ x ^^^ 1536 ∨ q_rem x 1536 = 0
  · rw [if_pos z]
    refine congrArg some ?_
    rw [i_eq, er, rem_i, if_neg]
    rcases z with z | z
    · have := hs (sg.mp z); omega
    · rw [i_eq, rem_i, e0] at z; omega
  · rw [if_neg z]
    refine congrArg some ?_
    have z1 : ¬ 0 ≤ x := fun q => z (Or.inl (sg.mpr q))
    have z2 : ¬ x.toInt.tmod 1536 = 0 := fun q => z (Or.inr (by rw [i_eq, rem_i, e0]; exact q))
    have := hs2 z1
    rw [i_eq, er, if_pos (by omega), ea]
noncomputable def huV (c n : Int32) : Int32 := (fX5_hue cmG c n).getD 0
theorem hue_j {g : ps_G} {c n a b d k : Int32} : ∃ v, jX5_hue_112 g c n a b d k = some v ∧ (∀ g', jX5_hue_112 g' c n a b d k = some v) ∧ ∀ g', jX12_hue_169 g' c n a b d k = some v := by
  unfold jX5_hue_112 jX12_hue_169
  simp only [fm_eq, ob_n, fX12_alpha, colour_p]
  split
  · exact ⟨_, rfl, fun _ => rfl, fun _ => rfl⟩
  · split
    · exact ⟨_, rfl, fun _ => rfl, fun _ => rfl⟩
    · split
      · exact ⟨_, rfl, fun _ => rfl, fun _ => rfl⟩
      · split
        · exact ⟨_, rfl, fun _ => rfl, fun _ => rfl⟩
        · split
          · exact ⟨_, rfl, fun _ => rfl, fun _ => rfl⟩
          · exact ⟨_, rfl, fun _ => rfl, fun _ => rfl⟩
theorem hue_all {c n : Int32} : ∃ v, (∀ g, fX5_hue g c n = some v) ∧ ∀ g, fX12_hue g 139 c n = some v := by
  have e0 : (0 : Int32).toInt = 0 := rfl
  generalize hmx : fJ9_max_7cf53 (fX11_red c) (fJ9_max_7cf53 (fX11_green c) (fX11_blue c)) = mx
  generalize hmn : fJ9_min_7cf53 (fX11_red c) (fJ9_min_7cf53 (fX11_green c) (fX11_blue c)) = mn
  have rr := @and_255 (q_shr c 16)
  have rg' := @and_255 (q_shr c 8)
  have rb := @and_255 c
  have r1 : (fX11_red c).toInt = (q_shr c 16 &&& 255).toInt := rfl
  have r2 : (fX11_green c).toInt = (q_shr c 8 &&& 255).toInt := rfl
  have r3 : (fX11_blue c).toInt = (c &&& 255).toInt := rfl
  have hx : 0 ≤ mx.toInt - mn.toInt ∧ mx.toInt - mn.toInt ≤ 255 := by
    rw [← hmx, ← hmn, mx_i, mx_i, mn_i, mn_i, r1, r2, r3]
    split <;> split <;> split <;> split <;> omega
  have hd : (mx - mn).toInt = mx.toInt - mn.toInt := i_sub (by omega) (by omega)
  have c0 : 0 < mx - mn ↔ ¬ mx - mn = 0 := by rw [i_lt, i_eq, e0, hd]; omega
  by_cases z : mx - mn = 0
  · refine ⟨c, fun g => ?_, fun g => ?_⟩
    · simp (decide := true) only [fX5_hue, hmx, hmn, z, ob_n, b2_n, tc_rn, tc_ln, F_sF, A_sF, R_sF, L_sF, F_sA, A_sA, R_sA, L_sA, F_sR, A_sR, R_sR, L_sR, F_sL, A_sL, R_sL, L_sL, and_true, true_and, and_false, false_and, and_self, reduceIte, sF_sF, sA_sA, false_or, or_false, true_or, or_true, not_false_eq_true, not_true_eq_false, decide_true, decide_false, Bool.true_or, Bool.or_true, Bool.false_and, Bool.true_and, Bool.false_or, Bool.or_false, Bool.and_true, Bool.and_false]
    · simp (decide := true) only [fX12_hue, part_k, mx3, mn3, hmx, hmn, z, ob_n, b2_n, tc_rn, tc_ln, F_sF, A_sF, R_sF, L_sF, F_sA, A_sA, R_sA, L_sA, F_sR, A_sR, R_sR, L_sR, F_sL, A_sL, R_sL, L_sL, and_true, true_and, and_false, false_and, and_self, reduceIte, sF_sF, sA_sA, false_or, or_false, true_or, or_true, not_false_eq_true, not_true_eq_false, decide_true, decide_false, Bool.true_or, Bool.or_true, Bool.false_and, Bool.true_and, Bool.false_or, Bool.or_false, Bool.and_true, Bool.and_false]
  · by_cases y1 : mx = fX11_red c
    · have y1' : (fX11_red c = mx) = True := eq_true y1.symm
      have y1 := eq_true y1
      obtain ⟨v, -, v2, v3⟩ := hue_j (g := cmG) (c := c) (n := n) (a := mx) (b := mn) (d := mx - mn) (k := 256 * (fX11_green c - fX11_blue c) / (mx - mn))
      refine ⟨v, fun g => ?_, fun g => ?_⟩
      · simp (decide := true) only [fX5_hue, hmx, hmn, c0, z, y1, q_div, v2, ob_n, b2_n, tc_rn, tc_ln, F_sF, A_sF, R_sF, L_sF, F_sA, A_sA, R_sA, L_sA, F_sR, A_sR, R_sR, L_sR, F_sL, A_sL, R_sL, L_sL, and_true, true_and, and_false, false_and, and_self, reduceIte, sF_sF, sA_sA, false_or, or_false, true_or, or_true, not_false_eq_true, not_true_eq_false, decide_true, decide_false, Bool.true_or, Bool.or_true, Bool.false_and, Bool.true_and, Bool.false_or, Bool.or_false, Bool.and_true, Bool.and_false]
      · simp (decide := true) only [fX12_hue, part_k, mx3, mn3, hmx, hmn, z, y1', q_div, v3, ob_n, b2_n, tc_rn, tc_ln, F_sF, A_sF, R_sF, L_sF, F_sA, A_sA, R_sA, L_sA, F_sR, A_sR, R_sR, L_sR, F_sL, A_sL, R_sL, L_sL, and_true, true_and, and_false, false_and, and_self, reduceIte, sF_sF, sA_sA, false_or, or_false, true_or, or_true, not_false_eq_true, not_true_eq_false, decide_true, decide_false, Bool.true_or, Bool.or_true, Bool.false_and, Bool.true_and, Bool.false_or, Bool.or_false, Bool.and_true, Bool.and_false]
    · have y1' : ¬ fX11_red c = mx := fun e => y1 e.symm
      by_cases y2 : mx = fX11_green c
      · have y2' : (fX11_green c = mx) = True := eq_true y2.symm
        have y2 := eq_true y2
        obtain ⟨v, -, v2, v3⟩ := hue_j (g := cmG) (c := c) (n := n) (a := mx) (b := mn) (d := mx - mn) (k := 512 + 256 * (fX11_blue c - fX11_red c) / (mx - mn))
        refine ⟨v, fun g => ?_, fun g => ?_⟩
        · simp (decide := true) only [fX5_hue, hmx, hmn, c0, z, y1, y2, q_div, v2, ob_n, b2_n, tc_rn, tc_ln, F_sF, A_sF, R_sF, L_sF, F_sA, A_sA, R_sA, L_sA, F_sR, A_sR, R_sR, L_sR, F_sL, A_sL, R_sL, L_sL, and_true, true_and, and_false, false_and, and_self, reduceIte, sF_sF, sA_sA, false_or, or_false, true_or, or_true, not_false_eq_true, not_true_eq_false, decide_true, decide_false, Bool.true_or, Bool.or_true, Bool.false_and, Bool.true_and, Bool.false_or, Bool.or_false, Bool.and_true, Bool.and_false]
        · simp (decide := true) only [fX12_hue, part_k, mx3, mn3, hmx, hmn, z, y1', y2', q_div, v3, ob_n, b2_n, tc_rn, tc_ln, F_sF, A_sF, R_sF, L_sF, F_sA, A_sA, R_sA, L_sA, F_sR, A_sR, R_sR, L_sR, F_sL, A_sL, R_sL, L_sL, and_true, true_and, and_false, false_and, and_self, reduceIte, sF_sF, sA_sA, false_or, or_false, true_or, or_true, not_false_eq_true, not_true_eq_false, decide_true, decide_false, Bool.true_or, Bool.or_true, Bool.false_and, Bool.true_and, Bool.false_or, Bool.or_false, Bool.and_true, Bool.and_false]
      · have y2' : ¬ fX11_green c = mx := fun e => y2 e.symm
        obtain ⟨v, -, v2, v3⟩ := hue_j (g := cmG) (c := c) (n := n) (a := mx) (b := mn) (d := mx - mn) (k := 1024 + 256 * (fX11_red c - fX11_green c) / (mx - mn))
        refine ⟨v, fun g => ?_, fun g => ?_⟩
        · simp (decide := true) only [fX5_hue, hmx, hmn, c0, z, y1, y2, q_div, v2, ob_n, b2_n, tc_rn, tc_ln, F_sF, A_sF, R_sF, L_sF, F_sA, A_sA, R_sA, L_sA, F_sR, A_sR, R_sR, L_sR, F_sL, A_sL, R_sL, L_sL, and_true, true_and, and_false, false_and, and_self, reduceIte, sF_sF, sA_sA, false_or, or_false, true_or, or_true, not_false_eq_true, not_true_eq_false, decide_true, decide_false, Bool.true_or, Bool.or_true, Bool.false_and, Bool.true_and, Bool.false_or, Bool.or_false, Bool.and_true, Bool.and_false]
        · simp (decide := true) only [fX12_hue, part_k, mx3, mn3, hmx, hmn, z, y1', y2', q_div, v3, ob_n, b2_n, tc_rn, tc_ln, F_sF, A_sF, R_sF, L_sF, F_sA, A_sA, R_sA, L_sA, F_sR, A_sR, R_sR, L_sR, F_sL, A_sL, R_sL, L_sL, and_true, true_and, and_false, false_and, and_self, reduceIte, sF_sF, sA_sA, false_or, or_false, true_or, or_true, not_false_eq_true, not_true_eq_false, decide_true, decide_false, Bool.true_or, Bool.or_true, Bool.false_and, Bool.true_and, Bool.false_or, Bool.or_false, Bool.and_true, Bool.and_false]
theorem hue5 {g : ps_G} {c n : Int32} : fX5_hue g c n = some (huV c n) := by
  obtain ⟨v, v1, v2⟩ := @hue_all c n
  unfold huV
  rw [v1, v1]; rfl
theorem hue12 {g : ps_G} {c n : Int32} : fX12_hue g 139 c n = some (huV c n) := by
  obtain ⟨v, v1, v2⟩ := @hue_all c n
  unfold huV
  rw [v2, v1]; rfl
