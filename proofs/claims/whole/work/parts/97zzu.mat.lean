-- needs: 97zzt
/-! ===== made: how far two places are alike ===== -/
def mtN (R : Nat → Int32) (n p d : Nat) : Nat → Nat → Nat
  | 0, k => k
  | m + 1, k => if 258 ≤ k ∨ n ≤ p + k then k else if R (p + k) = R (p + k - d) then mtN R n p d m (k + 1) else k
theorem mt_i {R : Nat → Int32} {n p d : Nat} : ∀ m k, k ≤ 258 → k ≤ mtN R n p d m k ∧ mtN R n p d m k ≤ 258 := by
  intro m
  induction m with
  | zero => exact fun k hk => ⟨Nat.le_refl _, hk⟩
  | succ m ih =>
    intro k hk
    by_cases q : 258 ≤ k ∨ n ≤ p + k
    · have e : mtN R n p d (m + 1) k = k := if_pos q
      rw [e]; omega
    · by_cases q2 : R (p + k) = R (p + k - d)
      · have e : mtN R n p d (m + 1) k = mtN R n p d m (k + 1) := by
          show (if 258 ≤ k ∨ n ≤ p + k then k else if R (p + k) = R (p + k - d) then mtN R n p d m (k + 1) else k) = _
          rw [if_neg q, if_pos q2]
        have := ih (k + 1) (by omega)
        rw [e]; omega
      · have e : mtN R n p d (m + 1) k = k := by
          show (if 258 ≤ k ∨ n ≤ p + k then k else if R (p + k) = R (p + k - d) then mtN R n p d m (k + 1) else k) = _
          rw [if_neg q, if_neg q2]
        rw [e]; omega
theorem match12 {s : e_S} {g : ps_G} {P : (Nat → Int32) × Nat} {p d : Nat} {x2 x3 : Int32} (h : P.2 ≤ 2328) (hp : p < P.2) (hd : d ≤ p) : ∀ m k, k + m = 259 → q_lp (fun t => bX12_deflate_42 (e_g (rM s P) g) 139 (Int32.ofNat p) x2 x3 (Int32.ofNat d) t) (Int32.ofNat k) = some (Int32.ofNat (mtN P.1 P.2 p d m k)) := by
  have ar : (rM s P).2.1 187 = P.1 := by unfold rM; rw [A_sF, A_sA, if_pos rfl]
  have f1 : (rM s P).1 139 75 = Int32.ofNat P.2 := by unfold rM; rw [F_sF, if_pos ⟨rfl, rfl⟩]
  have rd : ∀ i, i < 2400 → q_aI (e_g (rM s P) g) 187 (Int32.ofNat i) = some (P.1 i) := fun i hi => by
    rw [a187, n_idx (by omega), if_neg (n_in2 hi (by decide)), ar]
  intro m
  induction m with
  | zero =>
    intro k hk
    refine lp_end ?_
    show bX12_deflate_42 _ _ _ _ _ _ _ = _
    unfold bX12_deflate_42
    have c : (258 : Int32) ≤ Int32.ofNat k := show Int32.ofNat 258 ≤ Int32.ofNat k from (n_le (by omega) (by omega)).mpr (by omega)
    rw [if_pos c]
    rfl
  | succ m ih =>
    intro k hk
    have u : mtN P.1 P.2 p d (m + 1) k = if 258 ≤ k ∨ P.2 ≤ p + k then k else if P.1 (p + k) = P.1 (p + k - d) then mtN P.1 P.2 p d m (k + 1) else k := rfl
    by_cases q1 : 258 ≤ k
    · rw [u, if_pos (Or.inl q1)]
      refine lp_end ?_
      show bX12_deflate_42 _ _ _ _ _ _ _ = _
      unfold bX12_deflate_42
      have c : (258 : Int32) ≤ Int32.ofNat k := show Int32.ofNat 258 ≤ Int32.ofNat k from (n_le (by omega) (by omega)).mpr q1
      rw [if_pos c]
    · have c1 : ¬ (258 : Int32) ≤ Int32.ofNat k := show ¬ Int32.ofNat 258 ≤ Int32.ofNat k from nle (by omega) (by omega)
      by_cases q2 : P.2 ≤ p + k
      · rw [u, if_pos (Or.inr q2)]
        refine lp_end ?_
        show bX12_deflate_42 _ _ _ _ _ _ _ = _
        unfold bX12_deflate_42
        rw [if_neg c1, f139_75, f1, ob_n, n_add, if_pos ((n_le (by omega) (by omega)).mpr q2)]
      · have sb : Int32.ofNat (p + k) - Int32.ofNat d = Int32.ofNat (p + k - d) := sb_n (by omega) (by omega)
        rw [u, if_neg (fun z => z.elim q1 q2)]
        by_cases q3 : P.1 (p + k) = P.1 (p + k - d)
        · have st : bX12_deflate_42 (e_g (rM s P) g) 139 (Int32.ofNat p) x2 x3 (Int32.ofNat d) (Int32.ofNat k) = some (.inl (Int32.ofNat (k + 1))) := by
            unfold bX12_deflate_42
            rw [if_neg c1, f139_75, f1, ob_n, n_add, if_neg (nle (by omega) (by omega)), f139_74, ob_n, ob_n, rd _ (by omega), ob_n, ob_n, ob_n, sb, rd _ (by omega), ob_n, if_neg (fun z => z q3), n_suc]
          rw [if_pos q3, lp_go (b := fun t => bX12_deflate_42 (e_g (rM s P) g) 139 (Int32.ofNat p) x2 x3 (Int32.ofNat d) t) st]
          exact ih (k + 1) (by omega)
        · rw [if_neg q3]
          refine lp_end ?_
          show bX12_deflate_42 _ _ _ _ _ _ _ = _
          unfold bX12_deflate_42
          rw [if_neg c1, f139_75, f1, ob_n, n_add, if_neg (nle (by omega) (by omega)), f139_74, ob_n, ob_n, rd _ (by omega), ob_n, ob_n, ob_n, sb, rd _ (by omega), ob_n, if_pos q3]
