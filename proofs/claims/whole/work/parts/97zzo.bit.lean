-- needs: 97zzn
/-! ===== made: bits put out ===== -/
/-- bytes put out, bits held, how many -/
def btV (T : ((Nat → Int32) × Nat) × Int32 × Nat) (b : Int32) : ((Nat → Int32) × Nat) × Int32 × Nat := if T.2.2 + 1 = 8 then (obV T.1 (T.2.1 ||| q_shl b (Int32.ofNat T.2.2)), 0, 0) else (T.1, T.2.1 ||| q_shl b (Int32.ofNat T.2.2), T.2.2 + 1)
def bC (s : e_S) (T : ((Nat → Int32) × Nat) × Int32 × Nat) : e_S := oC (sF (sF s 122 4 T.2.1) 122 5 (Int32.ofNat T.2.2)) T.1
def bM (s : e_S) (T : ((Nat → Int32) × Nat) × Int32 × Nat) : e_S := oM (sF (sF s 139 76 T.2.1) 139 77 (Int32.ofNat T.2.2)) T.1
theorem oC_F {s : e_S} {P : (Nat → Int32) × Nat} {k : Nat} {v : Int32} (hk : ¬ k = 1) : sF (oC s P) 122 k v = oC (sF s 122 k v) P := by
  unfold oC
  rw [sF_cm (by omega), sA_sF]
theorem oM_F {s : e_S} {P : (Nat → Int32) × Nat} {k : Nat} {v : Int32} (hk : ¬ k = 7) : sF (oM s P) 139 k v = oM (sF s 139 k v) P := by
  unfold oM
  rw [sF_cm (by omega), sA_sF]
theorem bC_f {s : e_S} {T : ((Nat → Int32) × Nat) × Int32 × Nat} : (bC s T).1 122 4 = T.2.1 ∧ (bC s T).1 122 5 = Int32.ofNat T.2.2 := by
  unfold bC oC
  rw [F_sF, if_neg (by decide), F_sA, F_sF, if_neg (by decide), F_sF, if_pos ⟨rfl, rfl⟩, F_sF, if_neg (by decide), F_sA, F_sF, if_pos ⟨rfl, rfl⟩]
  exact ⟨rfl, rfl⟩
theorem bM_f {s : e_S} {T : ((Nat → Int32) × Nat) × Int32 × Nat} : (bM s T).1 139 76 = T.2.1 ∧ (bM s T).1 139 77 = Int32.ofNat T.2.2 := by
  unfold bM oM
  rw [F_sF, if_neg (by decide), F_sA, F_sF, if_neg (by decide), F_sF, if_pos ⟨rfl, rfl⟩, F_sF, if_neg (by decide), F_sA, F_sF, if_pos ⟨rfl, rfl⟩]
  exact ⟨rfl, rfl⟩
theorem bC_4 {s : e_S} {T : ((Nat → Int32) × Nat) × Int32 × Nat} {v : Int32} : sF (bC s T) 122 4 v = bC s (T.1, v, T.2.2) := by
  unfold bC
  rw [oC_F (by decide), sF_cm (show ¬ (122 = 122 ∧ 5 = 4) by decide), sF_sF]
theorem bC_5 {s : e_S} {T : ((Nat → Int32) × Nat) × Int32 × Nat} {m : Nat} : sF (bC s T) 122 5 (Int32.ofNat m) = bC s (T.1, T.2.1, m) := by
  unfold bC
  rw [oC_F (by decide), sF_sF]
theorem bM_4 {s : e_S} {T : ((Nat → Int32) × Nat) × Int32 × Nat} {v : Int32} : sF (bM s T) 139 76 v = bM s (T.1, v, T.2.2) := by
  unfold bM
  rw [oM_F (by decide), sF_cm (show ¬ (139 = 139 ∧ 77 = 76) by decide), sF_sF]
theorem bM_5 {s : e_S} {T : ((Nat → Int32) × Nat) × Int32 × Nat} {m : Nat} : sF (bM s T) 139 77 (Int32.ofNat m) = bM s (T.1, T.2.1, m) := by
  unfold bM
  rw [oM_F (by decide), sF_sF]
theorem outBit12 {s : e_S} {g : ps_G} {T : ((Nat → Int32) × Nat) × Int32 × Nat} {b : Int32} (h : T.1.2 < 3000) (hm : T.2.2 < 8) : fX12_outBit (e_g (bM s T) g) 139 b = some (e_g (bM s (btV T b)) g) := by
  unfold fX12_outBit btV
  rw [f139_76, bM_f.1, ob_n, f139_77, bM_f.2, ob_n, w139_76, ob_n, bM_4, f139_77, bM_f.2, ob_n, n_suc, w139_77, ob_n, bM_5, f139_77, bM_f.2, ob_n]
  by_cases q : T.2.2 + 1 = 8
  · have c : (8 : Int32) ≤ Int32.ofNat (T.2.2 + 1) := by rw [q]; decide
    have ob := outByte12 (s := sF (sF s 139 76 (T.2.1 ||| q_shl b (Int32.ofNat T.2.2))) 139 77 (Int32.ofNat (T.2.2 + 1))) (g := g) (P := T.1) (b := T.2.1 ||| q_shl b (Int32.ofNat T.2.2)) h
    have ob' : fX12_outByte (e_g (bM s (T.1, T.2.1 ||| q_shl b (Int32.ofNat T.2.2), T.2.2 + 1)) g) 139 (T.2.1 ||| q_shl b (Int32.ofNat T.2.2)) = some (e_g (bM s (obV T.1 (T.2.1 ||| q_shl b (Int32.ofNat T.2.2)), T.2.1 ||| q_shl b (Int32.ofNat T.2.2), T.2.2 + 1)) g) := ob
    have z0 : sF (bM s (obV T.1 (T.2.1 ||| q_shl b (Int32.ofNat T.2.2)), 0, T.2.2 + 1)) 139 77 0 = bM s (obV T.1 (T.2.1 ||| q_shl b (Int32.ofNat T.2.2)), 0, 0) := bM_5 (m := 0)
    rw [if_pos c, if_pos q, f139_76, bM_f.1, ob_n, ob139, ob_n, ob', ob_n, w139_76, ob_n, bM_4, w139_77, ob_n, z0]
  · have c : ¬ (8 : Int32) ≤ Int32.ofNat (T.2.2 + 1) := show ¬ Int32.ofNat 8 ≤ Int32.ofNat (T.2.2 + 1) from nle (by omega) (by omega)
    rw [if_neg c, if_neg q]
/-- the low n bits of v -/
def blV' (v : Int32) (T : ((Nat → Int32) × Nat) × Int32 × Nat) : Nat → ((Nat → Int32) × Nat) × Int32 × Nat
  | 0 => T
  | k + 1 => btV (blV' v T k) (q_shr v (Int32.ofNat k) &&& 1)
/-- how many bits there are in all -/
def bnV (T : ((Nat → Int32) × Nat) × Int32 × Nat) : Nat := 8 * T.1.2 + T.2.2
theorem bn_1 {T : ((Nat → Int32) × Nat) × Int32 × Nat} {b : Int32} (hm : T.2.2 < 8) : bnV (btV T b) = bnV T + 1 ∧ (btV T b).2.2 < 8 := by
  unfold btV bnV
  split
  · refine ⟨?_, by show 0 < 8; omega⟩
    show 8 * (T.1.2 + 1) + 0 = 8 * T.1.2 + T.2.2 + 1
    omega
  · refine ⟨rfl, ?_⟩
    show T.2.2 + 1 < 8
    omega
theorem bn_l {v : Int32} {T : ((Nat → Int32) × Nat) × Int32 × Nat} (hm : T.2.2 < 8) : ∀ k, bnV (blV' v T k) = bnV T + k ∧ (blV' v T k).2.2 < 8 := by
  intro k
  induction k with
  | zero => exact ⟨rfl, hm⟩
  | succ k ih =>
    have := bn_1 (b := q_shr v (Int32.ofNat k) &&& 1) ih.2
    refine ⟨?_, this.2⟩
    show bnV (btV (blV' v T k) _) = bnV T + (k + 1)
    rw [this.1, ih.1, Nat.add_assoc]
theorem outLow12 {s : e_S} {g : ps_G} {T : ((Nat → Int32) × Nat) × Int32 × Nat} {v : Int32} {n : Nat} (hm : T.2.2 < 8) (hb : bnV T + n < 24000) : fX12_outLow (e_g (bM s T) g) 139 v (Int32.ofNat n) = some (e_g (bM s (blV' v T n)) g) := by
  have bl := bn_l (v := v) hm
  have lp := lp_0 (b := fun t => bX12_outLow_2 139 v (Int32.ofNat n) t.1 t.2) (s := ((0 : Int32), e_g (bM s T) g)) (r := e_g (bM s (blV' v T n)) g) (fun k => (Int32.ofNat k, e_g (bM s (blV' v T k)) g)) n rfl (fun k hk => ?_) ?_
  · unfold fX12_outLow
    rw [lp, ob_n]
  · have b1 := bl k
    have lt : (blV' v T k).1.2 < 3000 := by unfold bnV at b1 hb; omega
    show bX12_outLow_2 _ _ _ _ _ = _
    unfold bX12_outLow_2
    dsimp only
    rw [if_neg (nle hk (by unfold bnV at hb; omega)), ob139, ob_n, outBit12 lt b1.2, ob_n, n_suc]
    rfl
  · show bX12_outLow_2 _ _ _ _ _ = _
    unfold bX12_outLow_2
    dsimp only
    rw [if_pos (nlr (by unfold bnV at hb; omega))]
theorem addBits7 {s : e_S} {g : ps_G} {T : ((Nat → Int32) × Nat) × Int32 × Nat} {v : Int32} {n : Nat} (hm : T.2.2 < 8) (hb : bnV T + n < 24000) : fX7_addBits (e_g (bC s T) g) 122 v (Int32.ofNat n) = some (e_g (bC s (blV' v T n)) g) := by
  have bl := bn_l (v := v) hm
  have lp := lp_0 (b := fun t => bX7_addBits_2 122 v (Int32.ofNat n) t.1 t.2) (s := ((0 : Int32), e_g (bC s T) g)) (r := e_g (bC s (blV' v T n)) g) (fun k => (Int32.ofNat k, e_g (bC s (blV' v T k)) g)) n rfl (fun k hk => ?_) ?_
  · unfold fX7_addBits
    rw [lp, ob_n]
  · have b1 := bl k
    have lt : (blV' v T k).1.2 < 3000 := by unfold bnV at b1 hb; omega
    have eb : blV' v T (k + 1) = btV (blV' v T k) (q_shr v (Int32.ofNat k) &&& 1) := rfl
    have l8 := b1.2
    rw [eb]
    generalize blV' v T k = U at *
    show bX7_addBits_2 _ _ _ _ _ = _
    unfold bX7_addBits_2 jX7_addBits_63_2 btV
    dsimp only
    rw [if_neg (nle hk (by unfold bnV at hb; omega)), f122_4, bC_f.1, ob_n, f122_5, bC_f.2, ob_n, w122_4, ob_n, bC_4, f122_5, bC_f.2, ob_n, n_suc, w122_5, ob_n, bC_5, f122_5, bC_f.2, ob_n]
    dsimp only
    by_cases q : U.2.2 + 1 = 8
    · have c : Int32.ofNat (U.2.2 + 1) = 8 := by rw [q]; decide
      have ob := octet7 (s := sF (sF s 122 4 (U.2.1 ||| q_shl (q_shr v (Int32.ofNat k) &&& 1) (Int32.ofNat U.2.2))) 122 5 (Int32.ofNat (U.2.2 + 1))) (g := g) (P := U.1) (b := U.2.1 ||| q_shl (q_shr v (Int32.ofNat k) &&& 1) (Int32.ofNat U.2.2)) lt
      generalize U.2.1 ||| q_shl (q_shr v (Int32.ofNat k) &&& 1) (Int32.ofNat U.2.2) = H at *
      have ob' : fX7_octet (e_g (bC s (U.1, H, U.2.2 + 1)) g) 122 H = some (e_g (bC s (obV U.1 H, H, U.2.2 + 1)) g) := ob
      have z0 : sF (bC s (obV U.1 H, 0, U.2.2 + 1)) 122 5 0 = bC s (obV U.1 H, 0, 0) := bC_5 (m := 0)
      rw [if_neg (fun z => z c), if_pos q, f122_4, bC_f.1, ob_n, ob122, ob_n, ob', ob_n, w122_4, ob_n, bC_4, w122_5, ob_n, z0, n_suc]
    · have c : ¬ Int32.ofNat (U.2.2 + 1) = 8 := fun z => by
        have := (n_eq (b := 8) (by omega) (by omega)).mp z
        omega
      rw [if_pos c, if_neg q, n_suc]
  · show bX7_addBits_2 _ _ _ _ _ = _
    unfold bX7_addBits_2
    dsimp only
    rw [if_pos (nlr (by unfold bnV at hb; omega))]
