-- needs: 97zzr
/-! ===== made: the rows written ===== -/
def puV (P : (Nat → Int32) × Nat) (v : Int32) : (Nat → Int32) × Nat := (upd P.1 P.2 v, P.2 + 1)
def rC (s : e_S) (P : (Nat → Int32) × Nat) : e_S := sF (sA s 124 P.1) 122 3 (Int32.ofNat P.2)
def rM (s : e_S) (P : (Nat → Int32) × Nat) : e_S := sF (sA s 187 P.1) 139 75 (Int32.ofNat P.2)
def roR (B : Nat → Int32) (w y b : Nat) (P : (Nat → Int32) × Nat) : Nat → (Nat → Int32) × Nat
  | 0 => puV P (Int32.ofNat b)
  | i + 1 => puV (roR B w y b P i) (rsW B w b i y)
def rowV (B : Nat → Int32) (w : Nat) (O : Nat → Int32) : Nat → (Nat → Int32) × Nat
  | 0 => (O, 0)
  | y + 1 => roR B w y (bsR B w y 5).1 (rowV B w O y) (4 * w)
theorem ro_n {B : Nat → Int32} {w y b : Nat} {P : (Nat → Int32) × Nat} : ∀ i, (roR B w y b P i).2 = P.2 + 1 + i := by
  intro i
  induction i with
  | zero => rfl
  | succ i ih =>
    show (roR B w y b P i).2 + 1 = _
    rw [ih]; omega
theorem row_n {B O : Nat → Int32} {w : Nat} : ∀ y, (rowV B w O y).2 = y * (4 * w + 1) := by
  intro y
  induction y with
  | zero => rw [Nat.zero_mul]; rfl
  | succ y ih =>
    show (roR B w y _ (rowV B w O y) (4 * w)).2 = _
    have e : (y + 1) * (4 * w + 1) = y * (4 * w + 1) + (4 * w + 1) := Nat.succ_mul _ _
    rw [ro_n, ih, e]; omega
theorem rowByte7 {s : e_S} {g : ps_G} {P : (Nat → Int32) × Nat} {v : Int32} (h : P.2 < 2328) : fX7_rowByte (e_g (rC s P) g) 122 v = some (e_g (rC s (puV P v)) g) := by
  have f1 : (rC s P).1 122 3 = Int32.ofNat P.2 := by unfold rC; rw [F_sF, if_pos ⟨rfl, rfl⟩]
  have c : ¬ (2328 : Int32) ≤ Int32.ofNat P.2 := show ¬ Int32.ofNat 2328 ≤ Int32.ofNat P.2 from nle h (by omega)
  have ar : (rC s P).2.1 124 = P.1 := by unfold rC; rw [A_sF, A_sA, if_pos rfl]
  unfold fX7_rowByte jX7_rowByte_30
  rw [f122_3, f1, ob_n, if_neg c, f122_2, ob_n, ob_n, ob_n, u124, n_idx (by omega), if_neg (n_in2 h (by decide)), ob_n, f122_3, F_sA, f1, ob_n, n_suc, w122_3, ob_n, ar]
  unfold rC puV
  rw [sA_sF, sA_sA, sF_sF]
theorem rows7 {s : e_S} {g : ps_G} {a w h : Nat} {B : Nat → Int32} (hR : ∀ P, RdB (e_g (rC s P) g) a B) (hw : w ≤ 24) (hh : h ≤ 24) : fX7_filterRows (e_g s g) 122 a (Int32.ofNat w) (Int32.ofNat h) = some (e_g (rC s (rowV B w (s.2.1 124) h)) g) := by
  have n4 : (4 : Int32) * Int32.ofNat w = Int32.ofNat (4 * w) := n_mul (n := 4)
  have e0 : sF s 122 3 0 = rC s (rowV B w (s.2.1 124) 0) := by
    show _ = sF (sA s 124 (s.2.1 124)) 122 3 (Int32.ofNat 0)
    rw [sA_id]; rfl
  have bd : ∀ y, y < h → y * (4 * w + 1) + (4 * w + 1) ≤ 2328 := fun y hy => by
    have h1 : (y + 1) * (4 * w + 1) ≤ 24 * 97 := Nat.mul_le_mul (by omega) (by omega)
    rw [Nat.succ_mul] at h1
    exact h1
  have lp := lp_0 (b := fun t => bX7_filterRows_8 122 a (Int32.ofNat w) (Int32.ofNat h) t.1 t.2) (s := ((0 : Int32), e_g (rC s (rowV B w (s.2.1 124) 0)) g)) (r := e_g (rC s (rowV B w (s.2.1 124) h)) g) (fun y => (Int32.ofNat y, e_g (rC s (rowV B w (s.2.1 124) y)) g)) h rfl (fun y hy => ?_) ?_
  · unfold fX7_filterRows
    rw [w122_3, ob_n, e0, lp, ob_n]
  · have rn := row_n (B := B) (O := s.2.1 124) (w := w) y
    have b := bd y hy
    have er : rowV B w (s.2.1 124) (y + 1) = roR B w y (bsR B w y 5).1 (rowV B w (s.2.1 124) y) (4 * w) := rfl
    have b5 := (bs_r (B := B) (y := y) hw 5).1
    rw [er]
    generalize rowV B w (s.2.1 124) y = P at *
    have be := best7 (x3 := Int32.ofNat h) (hR P) hw hh hy
    generalize (bsR B w y 5).1 = bb at *
    have ro := fun i => ro_n (B := B) (w := w) (y := y) (b := bb) (P := P) i
    have inn := lp_0 (b := fun t => bX7_filterRows_117 122 a (Int32.ofNat w) (Int32.ofNat h) (Int32.ofNat y) (Int32.ofNat bb) t.1 t.2) (s := ((0 : Int32), e_g (rC s (puV P (Int32.ofNat bb))) g)) (r := e_g (rC s (roR B w y bb P (4 * w))) g) (fun i => (Int32.ofNat i, e_g (rC s (roR B w y bb P i)) g)) (4 * w) rfl (fun i hi => ?_) ?_
    · show bX7_filterRows_8 _ _ _ _ _ _ = _
      unfold bX7_filterRows_8
      dsimp only
      rw [if_neg (nle hy (by omega)), be, ob_n, ob122, ob_n, rowByte7 (show P.2 < 2328 by omega), ob_n, inn, ob_n, n_suc]
    · have ri := ro i
      show bX7_filterRows_117 _ _ _ _ _ _ _ _ = _
      unfold bX7_filterRows_117
      dsimp only
      rw [n4, if_neg (nle hi (by omega)), less7 (hR _) (show bb < 5 by omega) hw hh hi hy, ob_n, ob122, ob_n, rowByte7 (show (roR B w y bb P i).2 < 2328 by omega), ob_n, n_suc]
      rfl
    · show bX7_filterRows_117 _ _ _ _ _ _ _ _ = _
      unfold bX7_filterRows_117
      dsimp only
      rw [n4, if_pos (nlr (by omega))]
  · show bX7_filterRows_8 _ _ _ _ _ _ = _
    unfold bX7_filterRows_8
    dsimp only
    rw [if_pos (nlr (by omega))]
theorem rows12 {s : e_S} {g : ps_G} {w h : Nat} (hw : w ≤ 24) (hh : h ≤ 24) (e1 : s.1 139 13 = Int32.ofNat w) (e2 : s.1 139 14 = Int32.ofNat h) : fX12_makeRows (e_g s g) 139 = some (e_g (rM s (rowV (s.2.1 158) w (s.2.1 187) h)) g) := by
  have n4 : (4 : Int32) * Int32.ofNat w = Int32.ofNat (4 * w) := n_mul (n := 4)
  have e0 : sF s 139 75 0 = rM s (rowV (s.2.1 158) w (s.2.1 187) 0) := by
    show _ = sF (sA s 187 (s.2.1 187)) 139 75 (Int32.ofNat 0)
    rw [sA_id]; rfl
  have bd : ∀ y, y < h → y * (4 * w + 1) + (4 * w + 1) ≤ 2328 := fun y hy => by
    have h1 : (y + 1) * (4 * w + 1) ≤ 24 * 97 := Nat.mul_le_mul (by omega) (by omega)
    rw [Nat.succ_mul] at h1
    exact h1
  have z13 : ∀ P, (rM s P).1 139 13 = Int32.ofNat w := fun P => by unfold rM; rw [F_sF, if_neg (by decide), F_sA]; exact e1
  have z14 : ∀ P, (rM s P).1 139 14 = Int32.ofNat h := fun P => by unfold rM; rw [F_sF, if_neg (by decide), F_sA]; exact e2
  have z158 : ∀ P, (rM s P).2.1 158 = s.2.1 158 := fun P => by unfold rM; rw [A_sF, A_sA, if_neg (by decide)]
  have z187 : ∀ P : (Nat → Int32) × Nat, (rM s P).2.1 187 = P.1 := fun P => by unfold rM; rw [A_sF, A_sA, if_pos rfl]
  have z75 : ∀ P : (Nat → Int32) × Nat, (rM s P).1 139 75 = Int32.ofNat P.2 := fun P => by unfold rM; rw [F_sF, if_pos ⟨rfl, rfl⟩]
  have pu : ∀ (P : (Nat → Int32) × Nat) (v : Int32), P.2 < 2328 → q_wI (e_g (rM s P) g) 187 (Int32.ofNat P.2) v = some (e_g (sA (rM s P) 187 (upd P.1 P.2 v)) g) ∧ sF (sA (rM s P) 187 (upd P.1 P.2 v)) 139 75 (Int32.ofNat (P.2 + 1)) = rM s (puV P v) ∧ (sA (rM s P) 187 (upd P.1 P.2 v)).1 139 75 = Int32.ofNat P.2 := fun P v hp => by
    refine ⟨?_, ?_, ?_⟩
    · rw [u187, n_idx (by omega), if_neg (n_in2 (show P.2 < 2400 by omega) (by decide)), z187]
    · unfold rM puV
      rw [sA_sF, sA_sA, sF_sF]
    · rw [F_sA]; exact z75 P
  have lp := lp_0 (b := fun t => bX12_makeRows_7 139 t.1 t.2) (s := ((0 : Int32), e_g (rM s (rowV (s.2.1 158) w (s.2.1 187) 0)) g)) (r := e_g (rM s (rowV (s.2.1 158) w (s.2.1 187) h)) g) (fun y => (Int32.ofNat y, e_g (rM s (rowV (s.2.1 158) w (s.2.1 187) y)) g)) h rfl (fun y hy => ?_) ?_
  · unfold fX12_makeRows
    rw [w139_75, ob_n, e0, lp, ob_n]
  · have rn := row_n (B := s.2.1 158) (O := s.2.1 187) (w := w) y
    have b := bd y hy
    have er : rowV (s.2.1 158) w (s.2.1 187) (y + 1) = roR (s.2.1 158) w y (bsR (s.2.1 158) w y 5).1 (rowV (s.2.1 158) w (s.2.1 187) y) (4 * w) := rfl
    have b5 := (bs_r (B := s.2.1 158) (y := y) hw 5).1
    rw [er]
    generalize rowV (s.2.1 158) w (s.2.1 187) y = P at *
    have be := best12 (s := rM s P) (g := g) hw hh (z13 P) hy
    rw [z158] at be
    generalize (bsR (s.2.1 158) w y 5).1 = bb at *
    have ro := fun i => ro_n (B := s.2.1 158) (w := w) (y := y) (b := bb) (P := P) i
    have inn := lp_0 (b := fun t => bX12_makeRows_133 139 (Int32.ofNat y) (Int32.ofNat bb) t.1 t.2) (s := ((0 : Int32), e_g (rM s (puV P (Int32.ofNat bb))) g)) (r := e_g (rM s (roR (s.2.1 158) w y bb P (4 * w))) g) (fun i => (Int32.ofNat i, e_g (rM s (roR (s.2.1 158) w y bb P i)) g)) (4 * w) rfl (fun i hi => ?_) ?_
    · obtain ⟨p1, p2, p3⟩ := pu P (Int32.ofNat bb) (by omega)
      show bX12_makeRows_7 _ _ _ = _
      unfold bX12_makeRows_7
      dsimp only
      rw [f139_14, z14, ob_n, if_neg (nle hy (by omega)), be, ob_n, f139_74, ob_n, ob_n, f139_75, z75, ob_n, p1, ob_n, f139_75, p3, ob_n, n_suc, w139_75, ob_n, p2, inn, ob_n, n_suc]
    · have ri := ro i
      have re := rest12 (s := rM s (roR (s.2.1 158) w y bb P i)) (g := g) (f := bb) hw hh (z13 _) hi hy
      rw [z158] at re
      have ei : roR (s.2.1 158) w y bb P (i + 1) = puV (roR (s.2.1 158) w y bb P i) (rsW (s.2.1 158) w bb i y) := rfl
      obtain ⟨p1, p2, p3⟩ := pu (roR (s.2.1 158) w y bb P i) (rsW (s.2.1 158) w bb i y) (by omega)
      show bX12_makeRows_133 _ _ _ _ _ = _
      unfold bX12_makeRows_133
      dsimp only
      rw [f139_13, z13, ob_n, n4, if_neg (nle hi (by omega)), f139_74, ob_n, ob_n, f139_75, z75, ob_n, ob139, ob_n, re, ob_n, p1, ob_n, f139_75, p3, ob_n, n_suc, w139_75, ob_n, p2, n_suc, ei]
    · show bX12_makeRows_133 _ _ _ _ _ = _
      unfold bX12_makeRows_133
      dsimp only
      rw [f139_13, z13, ob_n, n4, if_pos (nlr (by omega))]
  · show bX12_makeRows_7 _ _ _ = _
    unfold bX12_makeRows_7
    dsimp only
    rw [f139_14, z14, ob_n, if_pos (nlr (by omega))]
