-- needs: 97zzx
/-! ===== made: the packed bits to their end ===== -/
def fnV (T : ((Nat → Int32) × Nat) × Int32 × Nat) : ((Nat → Int32) × Nat) × Int32 × Nat := if T.2.2 = 0 then T else blV' 0 T (8 - T.2.2)
noncomputable def deV (R P : (Nat → Int32) × Nat) : ((Nat → Int32) × Nat) × Int32 × Nat := fnV (syV (dfT R R.2 0 (blV' 3 (P, 0, 0) 3)) 256)
theorem fn_i {T : ((Nat → Int32) × Nat) × Int32 × Nat} (hm : T.2.2 < 8) (hB : ByO T.1) : (fnV T).2.2 = 0 ∧ bnV T ≤ bnV (fnV T) ∧ bnV (fnV T) ≤ bnV T + 7 ∧ ByO (fnV T).1 := by
  unfold fnV
  by_cases q : T.2.2 = 0
  · rw [if_pos q]
    exact ⟨q, Nat.le_refl _, by omega, hB⟩
  · rw [if_neg q]
    have z := bn_l (v := 0) hm (8 - T.2.2)
    have z2 := by_bl (v := 0) hB (8 - T.2.2)
    generalize blV' 0 T (8 - T.2.2) = T' at z z2 ⊢
    have e := z.1
    unfold bnV at e ⊢
    have := z.2
    exact ⟨by omega, by omega, by omega, z2⟩
theorem de_i {R P : (Nat → Int32) × Nat} (hR : R.2 ≤ 2328) (hP : P.2 ≤ 45) (hB : ByO P) : (deV R P).2.2 = 0 ∧ P.2 ≤ (deV R P).1.2 ∧ (deV R P).1.2 ≤ 2965 ∧ ByO (deV R P).1 := by
  have b0 : bnV (P, (0 : Int32), 0) = 8 * P.2 := rfl
  have z1 := bn_l (v := 3) (T := (P, (0 : Int32), 0)) (by show 0 < 8; omega) 3
  have z2 := df_i hR R.2 0 (blV' 3 (P, 0, 0) 3) (by omega) z1.2 (by omega) (by_bl hB 3)
  have s1 := sy_n (T := dfT R R.2 0 (blV' 3 (P, 0, 0) 3)) (x := 256) z2.1
  have s0 := sy_m (T := dfT R R.2 0 (blV' 3 (P, 0, 0) 3)) (x := 256) z2.1
  have z3 := fn_i s1.2 (by_sy z2.2.2.2)
  have u : deV R P = fnV (syV (dfT R R.2 0 (blV' 3 (P, 0, 0) 3)) 256) := rfl
  rw [u]
  have a1 := z3.2.1
  have a2 := z3.2.2.1
  have a3 := z3.1
  have a4 := z3.2.2.2
  generalize fnV (syV (dfT R R.2 0 (blV' 3 (P, 0, 0) 3)) 256) = T' at a1 a2 a3 a4 ⊢
  have e : bnV T' = 8 * T'.1.2 + T'.2.2 := rfl
  exact ⟨a3, by omega, by omega, a4⟩
theorem z_sh {k : Nat} (hk : k < 8) : q_shr 0 (Int32.ofNat k) &&& 1 = 0 := by
  have : ∀ k : Fin 8, q_shr 0 (Int32.ofNat k.1) &&& 1 = 0 := by decide
  exact this ⟨k, hk⟩
theorem fin7 {s : e_S} {g : ps_G} {T : ((Nat → Int32) × Nat) × Int32 × Nat} (hm : T.2.2 < 8) (hb : bnV T + 16 < 24000) : jX7_deflate_103 (e_g (bC s T) g) 122 = some (e_g (bC s (fnV (syV T 256))) g) := by
  have s1 := sy_n (T := T) (x := 256) hm
  unfold jX7_deflate_103 jX7_deflate_129
  rw [ob122, ob_n, addSymbol7 hm (by omega), ob_n, f122_5, bC_f.2, ob_n, ob_n]
  unfold fnV
  have hm2 := s1.2
  by_cases q : (syV T 256).2.2 = 0
  · have c : Int32.ofNat (syV T 256).2.2 ≤ (0 : Int32) := show _ ≤ Int32.ofNat 0 from (n_le (by omega) (by omega)).mpr (by omega)
    rw [if_pos c, if_pos q]
  · have c : ¬ Int32.ofNat (syV T 256).2.2 ≤ (0 : Int32) := show ¬ _ ≤ Int32.ofNat 0 from nle (by omega) (by omega)
    have sb : (8 : Int32) - Int32.ofNat (syV T 256).2.2 = Int32.ofNat (8 - (syV T 256).2.2) := sb_n (x := 8) (by omega) (by omega)
    rw [if_neg c, if_neg q, ob122, ob_n, sb, addBits7 hm2 (by omega), ob_n]
theorem fin12 {s : e_S} {g : ps_G} {T : ((Nat → Int32) × Nat) × Int32 × Nat} (hm : T.2.2 < 8) (hb : bnV T + 8 < 24000) : q_lp (fun t => bX12_deflate_246 139 t) (e_g (bM s T) g) = some (e_g (bM s (fnV T)) g) := by
  unfold fnV
  by_cases q : T.2.2 = 0
  · rw [if_pos q]
    refine lp_end ?_
    show bX12_deflate_246 _ _ = _
    unfold bX12_deflate_246
    have c : Int32.ofNat T.2.2 ≤ (0 : Int32) := show _ ≤ Int32.ofNat 0 from (n_le (by omega) (by omega)).mpr (by omega)
    rw [f139_77, bM_f.2, ob_n, if_pos c]
  · rw [if_neg q]
    refine lp_0 (fun k => e_g (bM s (blV' 0 T k)) g) (8 - T.2.2) rfl (fun k hk => ?_) ?_
    · have z := bn_l (v := 0) hm k
      have hn : (blV' 0 T k).2.2 = T.2.2 + k := by
        have e := z.1
        have e2 := z.2
        generalize blV' 0 T k = T' at e e2 ⊢
        unfold bnV at e
        omega
      have hc : (blV' 0 T k).1.2 < 3000 := by
        have e := z.1
        generalize blV' 0 T k = T' at e ⊢
        have e3 : bnV T' = 8 * T'.1.2 + T'.2.2 := rfl
        omega
      show bX12_deflate_246 _ _ = _
      unfold bX12_deflate_246
      have c : ¬ Int32.ofNat (blV' 0 T k).2.2 ≤ (0 : Int32) := show ¬ _ ≤ Int32.ofNat 0 from nle (by omega) (by omega)
      have st : blV' 0 T (k + 1) = btV (blV' 0 T k) 0 := by
        show btV (blV' 0 T k) (q_shr 0 (Int32.ofNat k) &&& 1) = _
        rw [z_sh (by omega)]
      rw [f139_77, bM_f.2, ob_n, if_neg c, ob139, ob_n, outBit12 hc z.2, ob_n, st]
    · have z := bn_l (v := 0) hm (8 - T.2.2)
      have hn : (blV' 0 T (8 - T.2.2)).2.2 = 0 := by
        have e := z.1
        have e2 := z.2
        generalize blV' 0 T (8 - T.2.2) = T' at e e2 ⊢
        unfold bnV at e
        omega
      show bX12_deflate_246 _ _ = _
      unfold bX12_deflate_246
      rw [f139_77, bM_f.2, ob_n, hn, if_pos (show Int32.ofNat 0 ≤ (0 : Int32) by decide)]
theorem st3 {T : ((Nat → Int32) × Nat) × Int32 × Nat} : blV' 1 (blV' 1 T 1) 2 = blV' 3 T 3 := by
  have a : q_shr 1 (Int32.ofNat 0) &&& 1 = q_shr 3 (Int32.ofNat 0) &&& 1 := by decide
  have b : q_shr 1 (Int32.ofNat 0) &&& 1 = q_shr 3 (Int32.ofNat 1) &&& 1 := by decide
  have c : q_shr 1 (Int32.ofNat 1) &&& 1 = q_shr 3 (Int32.ofNat 2) &&& 1 := by decide
  show btV (btV (btV T (q_shr 1 (Int32.ofNat 0) &&& 1)) (q_shr 1 (Int32.ofNat 0) &&& 1)) (q_shr 1 (Int32.ofNat 1) &&& 1) = btV (btV (btV T (q_shr 3 (Int32.ofNat 0) &&& 1)) (q_shr 3 (Int32.ofNat 1) &&& 1)) (q_shr 3 (Int32.ofNat 2) &&& 1)
  rw [← c, ← b, ← a]
theorem deflate7 {s : e_S} {g : ps_G} {R P : (Nat → Int32) × Nat} (hT : TbC g) (hR : RwC s R) (hP : P.2 ≤ 45) (hB : ByO P) : fX7_deflate (e_g (oC s P) g) 122 = some (e_g (bC s (deV R P)) g) := by
  have hn := hR.1
  have b0 : bnV (P, (0 : Int32), 0) = 8 * P.2 := rfl
  have m0 : (P, (0 : Int32), 0).2.2 < 8 := by show 0 < 8; omega
  have z0 := bn_l (v := 1) (T := (P, (0 : Int32), 0)) m0 1
  have z1 := bn_l (v := 3) (T := (P, (0 : Int32), 0)) m0 3
  have z2 := df_i hn R.2 0 (blV' 3 (P, 0, 0) 3) (by omega) z1.2 (by omega) (by_bl hB 3)
  have e0 : sF (sF (oC s P) 122 4 0) 122 5 0 = bC s (P, 0, 0) := by
    rw [oC_F (by decide), oC_F (by decide)]
    rfl
  have a1 : fX7_addBits (e_g (bC s (P, 0, 0)) g) 122 1 1 = some (e_g (bC s (blV' 1 (P, 0, 0) 1)) g) := addBits7 (n := 1) m0 (by omega)
  have a2 : fX7_addBits (e_g (bC s (blV' 1 (P, 0, 0) 1)) g) 122 1 2 = some (e_g (bC s (blV' 3 (P, 0, 0) 3)) g) := by
    rw [← st3]
    exact addBits7 (n := 2) z0.2 (by omega)
  have lp : q_lp (fun t => bX7_deflate_26 122 t.1 t.2.1 t.2.2) ((0 : Int32), (0 : Int32), e_g (bC s (blV' 3 (P, 0, 0) 3)) g) = some (e_g (bC s (dfT R R.2 0 (blV' 3 (P, 0, 0) 3))) g) := defl7 hT hR R.2 0 0 _ (by omega) (by omega) (by omega) z1.2 (by omega)
  unfold fX7_deflate
  rw [w122_4, ob_n, w122_5, ob_n, e0, ob122, ob_n, a1, ob_n, ob122, ob_n, a2, ob_n, lp, ob_n, fin7 z2.1 (by omega)]
  rfl
theorem deflate12 {s : e_S} {g : ps_G} {R P : (Nat → Int32) × Nat} (hT : TbM s) (hR : RwM s R) (hP : P.2 ≤ 45) (hB : ByO P) : fX12_deflate (e_g (oM s P) g) 139 = some (e_g (bM s (deV R P)) g) := by
  have hn := hR.1
  have b0 : bnV (P, (0 : Int32), 0) = 8 * P.2 := rfl
  have m0 : (P, (0 : Int32), 0).2.2 < 8 := by show 0 < 8; omega
  have z1 := bn_l (v := 3) (T := (P, (0 : Int32), 0)) m0 3
  have z2 := df_i hn R.2 0 (blV' 3 (P, 0, 0) 3) (by omega) z1.2 (by omega) (by_bl hB 3)
  have s1 := sy_n (T := dfT R R.2 0 (blV' 3 (P, 0, 0) 3)) (x := 256) z2.1
  have e0 : sF (sF (oM s P) 139 76 0) 139 77 0 = bM s (P, 0, 0) := by
    rw [oM_F (by decide), oM_F (by decide)]
    rfl
  have a1 : fX12_outLow (e_g (bM s (P, 0, 0)) g) 139 3 3 = some (e_g (bM s (blV' 3 (P, 0, 0) 3)) g) := outLow12 (n := 3) m0 (by omega)
  have lp : q_lp (fun t => bX12_deflate_18 139 t.1 t.2) ((0 : Int32), e_g (bM s (blV' 3 (P, 0, 0) 3)) g) = some (e_g (bM s (dfT R R.2 0 (blV' 3 (P, 0, 0) 3))) g) := defl12 hT hR R.2 0 _ (by omega) (by omega) z1.2 (by omega)
  unfold fX12_deflate
  rw [w139_76, ob_n, w139_77, ob_n, e0, ob139, ob_n, a1, ob_n, lp, ob_n, ob139, ob_n, outSymbol12 z2.1 (by omega), ob_n, fin12 s1.2 (by omega), ob_n]
  rfl
