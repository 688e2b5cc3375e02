-- needs: 97zzl
/-! ===== made: bytes put out ===== -/
/-- a row of bytes and how many there are -/
def obV (P : (Nat → Int32) × Nat) (b : Int32) : (Nat → Int32) × Nat := (upd P.1 P.2 (b &&& 255), P.2 + 1)
def w4V (P : (Nat → Int32) × Nat) (v : Int32) : (Nat → Int32) × Nat := obV (obV (obV (obV P (q_ush v 24)) (q_ush v 16)) (q_ush v 8)) v
def oC (s : e_S) (P : (Nat → Int32) × Nat) : e_S := sF (sA s 123 P.1) 122 1 (Int32.ofNat P.2)
def oM (s : e_S) (P : (Nat → Int32) × Nat) : e_S := sF (sA s 141 P.1) 139 7 (Int32.ofNat P.2)
theorem octet7 {s : e_S} {g : ps_G} {P : (Nat → Int32) × Nat} {b : Int32} (h : P.2 < 3000) : fX7_octet (e_g (oC s P) g) 122 b = some (e_g (oC s (obV P b)) g) := by
  have f1 : (oC s P).1 122 1 = Int32.ofNat P.2 := by unfold oC; rw [F_sF, if_pos ⟨rfl, rfl⟩]
  have c : ¬ (3000 : Int32) ≤ Int32.ofNat P.2 := show ¬ Int32.ofNat 3000 ≤ Int32.ofNat P.2 from nle h (by omega)
  have ar : (oC s P).2.1 123 = P.1 := by unfold oC; rw [A_sF, A_sA, if_pos rfl]
  unfold fX7_octet jX7_octet_34
  rw [f122_1, f1, ob_n, if_neg c, f122_0, ob_n, ob_n, ob_n, u123, n_idx (by omega), if_neg (n_in2 h (by decide)), ob_n, f122_1, F_sA, f1, ob_n, n_suc, w122_1, ob_n, ar]
  unfold oC obV
  rw [sA_sF, sA_sA, sF_sF]
theorem outByte12 {s : e_S} {g : ps_G} {P : (Nat → Int32) × Nat} {b : Int32} (h : P.2 < 3000) : fX12_outByte (e_g (oM s P) g) 139 b = some (e_g (oM s (obV P b)) g) := by
  have f1 : (oM s P).1 139 7 = Int32.ofNat P.2 := by unfold oM; rw [F_sF, if_pos ⟨rfl, rfl⟩]
  have ar : (oM s P).2.1 141 = P.1 := by unfold oM; rw [A_sF, A_sA, if_pos rfl]
  unfold fX12_outByte
  rw [f139_6, ob_n, ob_n, f139_7, f1, ob_n, u141, n_idx (by omega), if_neg (n_in2 (show P.2 < 16000 by omega) (by decide)), ob_n, f139_7, F_sA, f1, ob_n, n_suc, w139_7, ob_n, ar]
  unfold oM obV
  rw [sA_sF, sA_sA, sF_sF]
theorem four7 {s : e_S} {g : ps_G} {P : (Nat → Int32) × Nat} {v : Int32} (h : P.2 + 4 ≤ 3000) : fX7_four (e_g (oC s P) g) 122 v = some (e_g (oC s (w4V P v)) g) := by
  have h0 : P.2 < 3000 := by omega
  have h1 : (obV P (q_ush v 24)).2 < 3000 := show P.2 + 1 < 3000 by omega
  have h2 : (obV (obV P (q_ush v 24)) (q_ush v 16)).2 < 3000 := show P.2 + 1 + 1 < 3000 by omega
  have h3 : (obV (obV (obV P (q_ush v 24)) (q_ush v 16)) (q_ush v 8)).2 < 3000 := show P.2 + 1 + 1 + 1 < 3000 by omega
  unfold fX7_four
  rw [ob122, ob_n, octet7 h0, ob_n, ob122, ob_n, octet7 h1, ob_n, ob122, ob_n, octet7 h2, ob_n, ob122, ob_n, octet7 h3, ob_n]
  rfl
theorem outWord12 {s : e_S} {g : ps_G} {P : (Nat → Int32) × Nat} {v : Int32} (h : P.2 + 4 ≤ 3000) : fX12_outWord (e_g (oM s P) g) 139 v = some (e_g (oM s (w4V P v)) g) := by
  have h0 : P.2 < 3000 := by omega
  have h1 : (obV P (q_ush v 24)).2 < 3000 := show P.2 + 1 < 3000 by omega
  have h2 : (obV (obV P (q_ush v 24)) (q_ush v 16)).2 < 3000 := show P.2 + 1 + 1 < 3000 by omega
  have h3 : (obV (obV (obV P (q_ush v 24)) (q_ush v 16)) (q_ush v 8)).2 < 3000 := show P.2 + 1 + 1 + 1 < 3000 by omega
  have st : ∀ (P Q : (Nat → Int32) × Nat) (k : Int32), P.2 < 3000 → ¬ k < 0 → obV P (q_shr v k) = Q → bX12_outWord_3 139 v k (e_g (oM s P) g) = some (.inl (k + -8, e_g (oM s Q) g)) := fun P Q k hp hk e => by
    unfold bX12_outWord_3
    rw [if_neg hk, ob139, ob_n, outByte12 hp, ob_n, e]
  have e1 : obV P (q_shr v 24) = obV P (q_ush v 24) := by unfold obV; rw [n_sh.1]
  have e2 : ∀ P, obV P (q_shr v 16) = obV P (q_ush v 16) := fun P => by unfold obV; rw [n_sh.2.1]
  have e3 : ∀ P, obV P (q_shr v 8) = obV P (q_ush v 8) := fun P => by unfold obV; rw [n_sh.2.2.1]
  have lp : q_lp (fun t => bX12_outWord_3 139 v t.1 t.2) ((24 : Int32), e_g (oM s P) g) = some (e_g (oM s (w4V P v)) g) := by
    rw [lp_go (b := fun t => bX12_outWord_3 139 v t.1 t.2) (s := ((24 : Int32), e_g (oM s P) g)) (st P _ 24 h0 (by decide) e1)]
    rw [lp_go (b := fun t => bX12_outWord_3 139 v t.1 t.2) (s := ((24 : Int32) + -8, e_g (oM s (obV P (q_ush v 24))) g)) (st _ _ 16 h1 (by decide) (e2 _))]
    rw [lp_go (b := fun t => bX12_outWord_3 139 v t.1 t.2) (s := ((16 : Int32) + -8, e_g (oM s (obV (obV P (q_ush v 24)) (q_ush v 16))) g)) (st _ _ 8 h2 (by decide) (e3 _))]
    rw [lp_go (b := fun t => bX12_outWord_3 139 v t.1 t.2) (s := ((8 : Int32) + -8, e_g (oM s (obV (obV (obV P (q_ush v 24)) (q_ush v 16)) (q_ush v 8))) g)) (st _ (w4V P v) 0 h3 (by decide) (by rw [shr_0]; rfl))]
    refine lp_end ?_
    show bX12_outWord_3 _ _ _ _ = _
    unfold bX12_outWord_3
    dsimp only
    rw [if_pos (by decide)]
  unfold fX12_outWord
  rw [lp, ob_n]
/-! the check of a chunk -/
def c1V (c : Int32) : Nat → Int32
  | 0 => c
  | k + 1 => if c1V c k &&& 1 = 0 then q_ush (c1V c k) 1 else q_ush (c1V c k) 1 ^^^ -306674912
def ckV (O : Nat → Int32) (a : Nat) : Nat → Int32
  | 0 => -1
  | k + 1 => c1V (ckV O a k ^^^ (O (a + k) &&& 255)) 8
theorem crcl {g : ps_G} {x0 : Nat} {x2 x4 c : Int32} : q_lp (fun t => bX11_crc_36 g x0 x2 x4 t.1 t.2) (c, (0 : Int32)) = some (c1V c 8) := by
  refine lp_0 (fun k => (c1V c k, Int32.ofNat k)) 8 rfl (fun k hk => ?_) ?_
  · have q : ¬ (8 : Int32) ≤ Int32.ofNat k := show ¬ Int32.ofNat 8 ≤ Int32.ofNat k from nle hk (by omega)
    show bX11_crc_36 _ _ _ _ _ _ = _
    unfold bX11_crc_36
    dsimp only
    rw [if_neg q, n_suc]
    rfl
  · show bX11_crc_36 _ _ _ _ _ _ = _
    unfold bX11_crc_36
    dsimp only
    rw [if_pos (show (8 : Int32) ≤ Int32.ofNat 8 by decide)]
theorem crc7 {s : e_S} {g : ps_G} {P : (Nat → Int32) × Nat} {a n : Nat} (h : a + n ≤ 3000) : fX11_crc (e_g (oC s P) g) 123 (Int32.ofNat a) (Int32.ofNat (a + n)) = some (ckV P.1 a n ^^^ -1) := by
  have ar : (oC s P).2.1 123 = P.1 := by unfold oC; rw [A_sF, A_sA, if_pos rfl]
  have mx : fJ9_max_7cf53 (Int32.ofNat a) 0 = Int32.ofNat a := by
    have e0 : (0 : Int32).toInt = 0 := by decide
    rw [i_eq, mx_i, e0, n_int (by omega)]
    split <;> omega
  have lp := lp_0 (b := fun t => bX11_crc_9 (e_g (oC s P) g) 123 (Int32.ofNat (a + n)) t.1 t.2) (s := ((-1 : Int32), Int32.ofNat a)) (r := ckV P.1 a n) (fun k => (ckV P.1 a k, Int32.ofNat (a + k))) n rfl (fun k hk => ?_) ?_
  · unfold fX11_crc jX11_crc_75
    rw [mx, lp, ob_n]
  · have q : ¬ (3000 : Int32) ≤ Int32.ofNat (a + k) := show ¬ Int32.ofNat 3000 ≤ Int32.ofNat (a + k) from nle (by omega) (by omega)
    show bX11_crc_9 _ _ _ _ _ = _
    unfold bX11_crc_9
    dsimp only
    rw [if_neg (nle (by omega) (by omega)), l123, ob_n, if_neg q, a123, n_idx (by omega), if_neg (n_in2 (show a + k < 3000 by omega) (by decide)), ob_n, ar, crcl, ob_n, n_suc]
    rfl
  · show bX11_crc_9 _ _ _ _ _ = _
    unfold bX11_crc_9
    dsimp only
    rw [if_pos (nlr (by omega))]
