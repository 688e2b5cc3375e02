-- needs: 97zzs
/-! ===== made: the sum of the rows ===== -/
def adV (R : Nat → Int32) : Nat → Int32 × Int32
  | 0 => (1, 0)
  | k + 1 => (q_rem ((adV R k).1 + R k) 65521, q_rem ((adV R k).2 + q_rem ((adV R k).1 + R k) 65521) 65521)
theorem adler7 {s : e_S} {g : ps_G} {P : (Nat → Int32) × Nat} (h : P.2 ≤ 2328) : fX11_adler (e_g (rC s P) g) 124 (Int32.ofNat P.2) = some ((adV P.1 P.2).2 * 65536 + (adV P.1 P.2).1) := by
  have ar : (rC s P).2.1 124 = P.1 := by unfold rC; rw [A_sF, A_sA, if_pos rfl]
  have lp := lp_0 (b := fun t => bX11_adler_7 (e_g (rC s P) g) 124 (Int32.ofNat P.2) t.1 t.2.1 t.2.2) (s := ((1 : Int32), (0 : Int32), (0 : Int32))) (r := ((adV P.1 P.2).1, (adV P.1 P.2).2)) (fun k => ((adV P.1 k).1, (adV P.1 k).2, Int32.ofNat k)) P.2 rfl (fun k hk => ?_) ?_
  · unfold fX11_adler jX11_adler_45
    rw [lp, ob_n]
  · have c : ¬ (2328 : Int32) ≤ Int32.ofNat k := show ¬ Int32.ofNat 2328 ≤ Int32.ofNat k from nle (by omega) (by omega)
    show bX11_adler_7 _ _ _ _ _ _ = _
    unfold bX11_adler_7
    dsimp only
    rw [if_neg (nle hk (by omega)), l124, ob_n, if_neg c, a124, n_idx (by omega), if_neg (n_in2 (show k < 2328 by omega) (by decide)), ob_n, ar, n_suc]
    rfl
  · show bX11_adler_7 _ _ _ _ _ _ = _
    unfold bX11_adler_7
    dsimp only
    rw [if_pos (nlr (by omega))]
theorem adler12 {s : e_S} {g : ps_G} {P : (Nat → Int32) × Nat} (h : P.2 ≤ 2328) : fX12_sumOfRows (e_g (rM s P) g) 139 = some (q_shl (adV P.1 P.2).2 16 ||| (adV P.1 P.2).1) := by
  have ar : (rM s P).2.1 187 = P.1 := by unfold rM; rw [A_sF, A_sA, if_pos rfl]
  have f1 : (rM s P).1 139 75 = Int32.ofNat P.2 := by unfold rM; rw [F_sF, if_pos ⟨rfl, rfl⟩]
  have lp := lp_0 (b := fun t => bX12_sumOfRows_6 (e_g (rM s P) g) 139 t.1 t.2.1 t.2.2) (s := ((1 : Int32), (0 : Int32), (0 : Int32))) (r := ((adV P.1 P.2).1, (adV P.1 P.2).2)) (fun k => ((adV P.1 k).1, (adV P.1 k).2, Int32.ofNat k)) P.2 rfl (fun k hk => ?_) ?_
  · unfold fX12_sumOfRows fX12_adler
    rw [lp, ob_n]
  · show bX12_sumOfRows_6 _ _ _ _ _ = _
    unfold bX12_sumOfRows_6
    dsimp only
    rw [f139_75, f1, ob_n, if_neg (nle hk (by omega)), f139_74, ob_n, ob_n, a187, n_idx (by omega), if_neg (n_in2 (show k < 2400 by omega) (by decide)), ob_n, ar, n_suc]
    rfl
  · show bX12_sumOfRows_6 _ _ _ _ _ = _
    unfold bX12_sumOfRows_6
    dsimp only
    rw [f139_75, f1, ob_n, if_pos (nlr (by omega))]
