-- needs: 97zzza
/-! ===== made: the file ===== -/
def sgV (P : (Nat → Int32) × Nat) : (Nat → Int32) × Nat := w4V (w4V P (-1991225785)) 218765834
def hdV (P : (Nat → Int32) × Nat) (w h : Int32) : (Nat → Int32) × Nat := csV (obV (obV (obV (obV (obV (w4V (w4V (opV (sgV P) 1229472850) w) h) 8) 6) 0) 0) 0) 8
def daV (P : (Nat → Int32) × Nat) (w h : Int32) : (Nat → Int32) × Nat := obV (obV (opV (hdV P w h) 1229209940) 120) 1
noncomputable def dbP (P : (Nat → Int32) × Nat) (w h : Int32) (R : (Nat → Int32) × Nat) : (Nat → Int32) × Nat := csV (w4V (deV R (daV P w h)).1 ((adV R.1 R.2).2 * 65536 + (adV R.1 R.2).1)) 33
noncomputable def mkP (P : (Nat → Int32) × Nat) (w h : Int32) (R : (Nat → Int32) × Nat) : (Nat → Int32) × Nat := csV (opV (dbP P w h R) 1229278788) (dbP P w h R).2
theorem hd_n {A : Nat → Int32} {w h : Int32} : (hdV (A, 0) w h).2 = 33 ∧ (daV (A, 0) w h).2 = 43 := ⟨rfl, rfl⟩
theorem by_0 {A : Nat → Int32} : ByO (A, 0) := fun i hi => absurd hi (Nat.not_lt_zero i)
theorem by_hd {A : Nat → Int32} {w h : Int32} : ByO (hdV (A, 0) w h) := by_cs (by_o (by_o (by_o (by_o (by_o (by_4 (by_4 (by_4 (by_4 (by_4 (by_4 by_0)))))))))))
theorem by_da {A : Nat → Int32} {w h : Int32} : ByO (daV (A, 0) w h) := by_o (by_o (by_4 (by_4 by_hd)))
theorem ag_da {A A' : Nat → Int32} {w h : Int32} : AgR (daV (A, 0) w h) (daV (A', 0) w h) := by
  have z : AgR (A, 0) (A', 0) := ⟨rfl, fun i hi => absurd hi (Nat.not_lt_zero i)⟩
  refine ag_o (ag_o (ag_op (ag_cs ?_ (ag_o (ag_o (ag_o (ag_o (ag_o (ag_4 (ag_4 (ag_op (ag_4 (ag_4 z)))))))))))))
  show 8 + 4 ≤ 29
  omega
theorem cs_2 {P : (Nat → Int32) × Nat} {p : Nat} : (csV P p).2 = P.2 + 4 := by
  unfold csV
  rw [w4_tp]
  rfl
theorem w4_2 {P : (Nat → Int32) × Nat} {v : Int32} : (w4V P v).2 = P.2 + 4 := rfl
theorem op_2 {P : (Nat → Int32) × Nat} {v : Int32} : (opV P v).2 = P.2 + 8 := rfl
theorem db_i {A : Nat → Int32} {w h : Int32} {R : (Nat → Int32) × Nat} (hR : R.2 ≤ 2328) : (dbP (A, 0) w h R).2 ≤ 2973 ∧ ByO (dbP (A, 0) w h R) ∧ 43 ≤ (deV R (daV (A, 0) w h)).1.2 ∧ (deV R (daV (A, 0) w h)).1.2 ≤ 2965 := by
  have d := de_i (R := R) (P := daV (A, 0) w h) hR (by rw [hd_n.2]; omega) by_da
  have n1 := hd_n (A := A) (w := w) (h := h)
  refine ⟨?_, by_cs (by_4 d.2.2.2), by omega, d.2.2.1⟩
  unfold dbP
  rw [cs_2, w4_2]
  omega
theorem mk_i {A A' : Nat → Int32} {w h : Int32} {R : (Nat → Int32) × Nat} (hR : R.2 ≤ 2328) : (mkP (A, 0) w h R).2 ≤ 3000 ∧ ByO (mkP (A, 0) w h R) ∧ AgR (mkP (A, 0) w h R) (mkP (A', 0) w h R) := by
  have d := db_i (A := A) (w := w) (h := h) hR
  have g1 : AgR (dbP (A, 0) w h R) (dbP (A', 0) w h R) := by
    have t := at_de (R := R) (ag_da (A := A) (A' := A') (w := w) (h := h))
    exact ag_cs (by rw [w4_2]; omega) (ag_4 t.1)
  refine ⟨?_, by_cs (by_4 (by_4 d.2.1)), ?_⟩
  · unfold mkP
    rw [cs_2, op_2]
    omega
  · unfold mkP
    rw [← g1.1]
    exact ag_cs (by rw [op_2]; omega) (ag_op g1)
theorem ob_c {P : (Nat → Int32) × Nat} {b b' : Int32} (h : b &&& 255 = b' &&& 255) : obV P b = obV P b' := by
  unfold obV
  rw [h]
def s8V (A : Nat → Int32) : Nat → (Nat → Int32) × Nat
  | 0 => (A, 0)
  | k + 1 => obV (s8V A k) (tbV 1 k)
theorem s8_n {A : Nat → Int32} : ∀ k, (s8V A k).2 = k := by
  intro k
  induction k with
  | zero => rfl
  | succ k ih => show (s8V A k).2 + 1 = k + 1; rw [ih]
theorem s8_e {A : Nat → Int32} : s8V A 8 = sgV (A, 0) := by
  show obV (obV (obV (obV (obV (obV (obV (obV (A, 0) (tbV 1 0)) (tbV 1 1)) (tbV 1 2)) (tbV 1 3)) (tbV 1 4)) (tbV 1 5)) (tbV 1 6)) (tbV 1 7) = obV (obV (obV (obV (obV (obV (obV (obV (A, 0) (q_ush (-1991225785) 24)) (q_ush (-1991225785) 16)) (q_ush (-1991225785) 8)) (-1991225785)) (q_ush 218765834 24)) (q_ush 218765834 16)) (q_ush 218765834 8)) 218765834
  rw [ob_c (b := tbV 1 0) (b' := q_ush (-1991225785) 24) (by decide), ob_c (b := tbV 1 1) (b' := q_ush (-1991225785) 16) (by decide), ob_c (b := tbV 1 2) (b' := q_ush (-1991225785) 8) (by decide), ob_c (b := tbV 1 3) (b' := (-1991225785)) (by decide), ob_c (b := tbV 1 4) (b' := q_ush 218765834 24) (by decide), ob_c (b := tbV 1 5) (b' := q_ush 218765834 16) (by decide), ob_c (b := tbV 1 6) (b' := q_ush 218765834 8) (by decide), ob_c (b := tbV 1 7) (b' := 218765834) (by decide)]
theorem sig7 {s : e_S} {g : ps_G} {A : Nat → Int32} {a : Nat} {x2 x3 : Int32} (hT : TbC g) : q_lp (fun t => bX7_write_8 122 a x2 x3 t.1 t.2) ((0 : Int32), e_g (oC s (A, 0)) g) = some (e_g (oC s (sgV (A, 0))) g) := by
  have ln : ∀ S, q_len (e_g S g) 1 = some 8 := fun S => d_len (n := 8) (Or.inr (Or.inl (by decide))) (hT 1 (by decide))
  rw [← s8_e]
  refine lp_0 (fun k => (Int32.ofNat k, e_g (oC s (s8V A k)) g)) 8 rfl (fun k hk => ?_) ?_
  · show bX7_write_8 _ _ _ _ _ _ = _
    unfold bX7_write_8
    dsimp only
    have c : ¬ (8 : Int32) ≤ Int32.ofNat k := show ¬ Int32.ofNat 8 ≤ Int32.ofNat k from nle hk (by omega)
    have n8 := s8_n (A := A) k
    rw [ln, ob_n, if_neg c, tb_r (j := 1) hT (by decide) (show k < 8 from hk) (by omega), ob_n, ob122, ob_n, octet7 (by omega), ob_n, n_suc]
    rfl
  · show bX7_write_8 _ _ _ _ _ _ = _
    unfold bX7_write_8
    dsimp only
    rw [ln, ob_n, if_pos (show (8 : Int32) ≤ Int32.ofNat 8 by decide)]
theorem rC_oC {s : e_S} {P R : (Nat → Int32) × Nat} : rC (oC s P) R = oC (rC s R) P := by
  unfold rC oC
  rw [sA_sF, sA_cm (by decide), sF_cm (by decide), sA_sF]
theorem rM_oM {s : e_S} {P R : (Nat → Int32) × Nat} : rM (oM s P) R = oM (rM s R) P := by
  unfold rM oM
  rw [sA_sF, sA_cm (by decide), sF_cm (by decide), sA_sF]
def wrC (s : e_S) (R : (Nat → Int32) × Nat) (T : ((Nat → Int32) × Nat) × Int32 × Nat) : e_S := sF (sF (rC s R) 122 4 T.2.1) 122 5 (Int32.ofNat T.2.2)
theorem row_le {w h : Nat} (hw : w ≤ 24) (hh : h ≤ 24) : h * (4 * w + 1) ≤ 2328 := by
  have : h * (4 * w + 1) ≤ 24 * 97 := Nat.mul_le_mul hh (by omega)
  omega
theorem write7 {s : e_S} {g : ps_G} {a w h : Nat} {B : Nat → Int32} (hT : TbC g) (hRd : ∀ S : e_S, S.2.1 86 = s.2.1 86 → RdB (e_g S g) a B) (hw : w ≤ 24) (hh : h ≤ 24) : ∃ T, fX7_write (e_g s g) 122 a (Int32.ofNat w) (Int32.ofNat h) = some (e_g (oC (wrC s (rowV B w (s.2.1 124) h) T) (mkP (s.2.1 123, 0) (Int32.ofNat w) (Int32.ofNat h) (rowV B w (s.2.1 124) h))) g) := by
  have z : sF s 122 1 0 = oC s (s.2.1 123, 0) := by
    show _ = sF (sA s 123 (s.2.1 123)) 122 1 (Int32.ofNat 0)
    rw [sA_id]
    rfl
  generalize s.2.1 123 = A at z ⊢
  have hn := row_n (B := B) (O := s.2.1 124) (w := w) h
  have hl := row_le hw hh
  generalize eR : rowV B w (s.2.1 124) h = R at hn ⊢
  have hR2 : R.2 ≤ 2328 := by omega
  have hR : RwC (rC s R) R := by
    refine ⟨hR2, ?_, fun i hi => ?_⟩
    · unfold rC; rw [F_sF, if_pos ⟨rfl, rfl⟩]
    · unfold rC; rw [A_sF, A_sA, if_pos rfl]
  have rows : fX7_filterRows (e_g (oC s (daV (A, 0) (Int32.ofNat w) (Int32.ofNat h))) g) 122 a (Int32.ofNat w) (Int32.ofNat h) = some (e_g (oC (rC s R) (daV (A, 0) (Int32.ofNat w) (Int32.ofNat h))) g) := by
    have q := rows7 (s := oC s (daV (A, 0) (Int32.ofNat w) (Int32.ofNat h))) (g := g) (a := a) (w := w) (h := h) (B := B) (fun P => hRd _ (by
      unfold rC oC
      rw [A_sF, A_sA, if_neg (by decide), A_sF, A_sA, if_neg (by decide)])) hw hh
    have e : (oC s (daV (A, 0) (Int32.ofNat w) (Int32.ofNat h))).2.1 124 = s.2.1 124 := by
      unfold oC
      rw [A_sF, A_sA, if_neg (by decide)]
    rw [e, eR, rC_oC] at q
    exact q
  have b1 := db_i (A := A) (w := Int32.ofNat w) (h := Int32.ofNat h) hR2
  have n1 := hd_n (A := A) (w := Int32.ofNat w) (h := Int32.ofNat h)
  refine ⟨deV R (daV (A, 0) (Int32.ofNat w) (Int32.ofNat h)), ?_⟩
  unfold fX7_write
  rw [w122_1, ob_n, z, sig7 hT, ob_n, ob122, ob_n, open7 (show 8 + 8 ≤ 3000 by omega), b2_n, ob122, ob_n, four7 (show 16 + 4 ≤ 3000 by omega), ob_n, ob122, ob_n, four7 (show 20 + 4 ≤ 3000 by omega), ob_n, ob122, ob_n, octet7 (show 24 < 3000 by omega), ob_n]
  unfold jX7_write_57
  rw [ob122, ob_n, octet7 (show 25 < 3000 by omega), ob_n, ob122, ob_n, octet7 (show 26 < 3000 by omega), ob_n, ob122, ob_n, octet7 (show 27 < 3000 by omega), ob_n, ob122, ob_n, octet7 (show 28 < 3000 by omega), ob_n]
  unfold jX7_write_78
  have c1 := close7 (s := s) (g := g) (P := obV (obV (obV (obV (obV (w4V (w4V (opV (sgV (A, 0)) 1229472850) (Int32.ofNat w)) (Int32.ofNat h)) 8) 6) 0) 0) 0) (p := (sgV (A, 0)).2) (show 8 + 8 ≤ 29 by omega) (show 29 + 4 ≤ 3000 by omega)
  have sg8 : (sgV (A, 0)).2 = 8 := rfl
  rw [sg8] at c1
  rw [sg8, ob122, ob_n, c1, ob_n, ob122, ob_n, open7 (show 33 + 8 ≤ 3000 by omega), b2_n, ob122, ob_n, octet7 (show 41 < 3000 by omega), ob_n, ob122, ob_n, octet7 (show 42 < 3000 by omega), ob_n]
  unfold jX7_write_103
  have dd := deflate7 (g := g) hT hR (P := daV (A, 0) (Int32.ofNat w) (Int32.ofNat h)) (by rw [n1.2]; omega) by_da
  have rows' : fX7_filterRows (e_g (oC s (obV (obV (opV (csV (obV (obV (obV (obV (obV (w4V (w4V (opV (sgV (A, 0)) 1229472850) (Int32.ofNat w)) (Int32.ofNat h)) 8) 6) 0) 0) 0) 8) 1229209940) 120) 1)) g) 122 a (Int32.ofNat w) (Int32.ofNat h) = some (e_g (oC (rC s R) (daV (A, 0) (Int32.ofNat w) (Int32.ofNat h))) g) := rows
  have f3 : (bC (rC s R) (deV R (daV (A, 0) (Int32.ofNat w) (Int32.ofNat h)))).1 122 3 = Int32.ofNat R.2 := (rwC_b hR).2.1
  rw [ob122, ob_n, rows', ob_n, ob122, ob_n, dd, ob_n, f122_2, ob_n, ob_n, f122_3, f3, ob_n, adlerC (rwC_b hR), ob_n, ob122, ob_n]
  have e : bC (rC s R) (deV R (daV (A, 0) (Int32.ofNat w) (Int32.ofNat h))) = oC (wrC s R (deV R (daV (A, 0) (Int32.ofNat w) (Int32.ofNat h)))) (deV R (daV (A, 0) (Int32.ofNat w) (Int32.ofNat h))).1 := rfl
  have o33 : Int32.ofNat (csV (obV (obV (obV (obV (obV (w4V (w4V (opV (sgV (A, 0)) 1229472850) (Int32.ofNat w)) (Int32.ofNat h)) 8) 6) 0) 0) 0) 8).2 = Int32.ofNat 33 := rfl
  rw [e, four7 (by omega), ob_n, o33]
  unfold jX7_write_129
  rw [ob122, ob_n, close7 (by rw [w4_2]; omega) (by rw [w4_2]; omega), ob_n, ob122, ob_n]
  have op := open7 (s := wrC s R (deV R (daV (A, 0) (Int32.ofNat w) (Int32.ofNat h)))) (g := g) (P := dbP (A, 0) (Int32.ofNat w) (Int32.ofNat h) R) (v := 1229278788) (by omega)
  show q_b2 (fX7_beginChunk (e_g (oC (wrC s R (deV R (daV (A, 0) (Int32.ofNat w) (Int32.ofNat h)))) (dbP (A, 0) (Int32.ofNat w) (Int32.ofNat h) R)) g) 122 1229278788) _ = _
  rw [op, b2_n, ob122, ob_n, close7 (by rw [op_2]; omega) (by rw [op_2]; omega), ob_n]
  rfl
