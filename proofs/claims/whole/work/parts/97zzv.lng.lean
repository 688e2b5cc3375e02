-- needs: 97zzu
/-! ===== made: the longest match ===== -/
theorem mt_c {R R' : Nat → Int32} {n p d : Nat} (h : ∀ i, i < n → R i = R' i) : ∀ m k, mtN R n p d m k = mtN R' n p d m k := by
  intro m
  induction m with
  | zero => exact fun k => rfl
  | succ m ih =>
    intro k
    show (if 258 ≤ k ∨ n ≤ p + k then k else if R (p + k) = R (p + k - d) then mtN R n p d m (k + 1) else k) = (if 258 ≤ k ∨ n ≤ p + k then k else if R' (p + k) = R' (p + k - d) then mtN R' n p d m (k + 1) else k)
    by_cases q : 258 ≤ k ∨ n ≤ p + k
    · rw [if_pos q, if_pos q]
    · rw [if_neg q, if_neg q, h (p + k) (by omega), h (p + k - d) (by omega), ih (k + 1)]
noncomputable def MtM (R : (Nat → Int32) × Nat) (p : Nat) : Nat → Nat := Classical.choose (⟨_, rfl⟩ : ∃ f : Nat → Nat, f = fun d => mtN R.1 R.2 p d 259 0)
theorem mm_e {R : (Nat → Int32) × Nat} {p d : Nat} : MtM R p d = mtN R.1 R.2 p d 259 0 := congrFun (Classical.choose_spec (⟨_, rfl⟩ : ∃ f : Nat → Nat, f = fun d => mtN R.1 R.2 p d 259 0)) d
def RwM (S : e_S) (R : (Nat → Int32) × Nat) : Prop := R.2 ≤ 2328 ∧ S.1 139 75 = Int32.ofNat R.2 ∧ ∀ i, i < R.2 → S.2.1 187 i = R.1 i
def RwC (S : e_S) (R : (Nat → Int32) × Nat) : Prop := R.2 ≤ 2328 ∧ S.1 122 3 = Int32.ofNat R.2 ∧ ∀ i, i < R.2 → S.2.1 124 i = R.1 i
theorem mm_i {R : (Nat → Int32) × Nat} {p : Nat} : ∀ d, MtM R p d ≤ 258 := fun d => by
  rw [mm_e]
  exact (mt_i 259 0 (by omega)).2
theorem rM_i {S : e_S} {R : (Nat → Int32) × Nat} (hR : RwM S R) : rM S (S.2.1 187, R.2) = S := by
  obtain ⟨h1, f1, ar⟩ := hR
  show sF (sA S 187 (S.2.1 187)) 139 75 (Int32.ofNat R.2) = S
  rw [sA_id, ← f1, sF_id]
theorem rC_i {S : e_S} {R : (Nat → Int32) × Nat} (hR : RwC S R) : rC S (S.2.1 124, R.2) = S := by
  obtain ⟨h1, f1, ar⟩ := hR
  show sF (sA S 124 (S.2.1 124)) 122 3 (Int32.ofNat R.2) = S
  rw [sA_id, ← f1, sF_id]
theorem matchM {S : e_S} {g : ps_G} {R : (Nat → Int32) × Nat} {p d : Nat} {x2 x3 : Int32} (hR : RwM S R) (hp : p < R.2) (hd : d ≤ p) : q_lp (fun t => bX12_deflate_42 (e_g S g) 139 (Int32.ofNat p) x2 x3 (Int32.ofNat d) t) 0 = some (Int32.ofNat (MtM R p d)) := by
  have e := rM_i hR
  obtain ⟨h1, f1, ar⟩ := hR
  have z := match12 (s := S) (g := g) (P := (S.2.1 187, R.2)) (p := p) (d := d) (x2 := x2) (x3 := x3) h1 hp hd 259 0 rfl
  rw [e] at z
  rw [mm_e]
  exact z.trans (congrArg (fun t => some (Int32.ofNat t)) (mt_c ar 259 0))
theorem match7 {S : e_S} {g : ps_G} {R : (Nat → Int32) × Nat} {p d : Nat} (hR : RwC S R) (hp : p < R.2) (hd : d ≤ p) : fX7_matchAt (e_g S g) 122 (Int32.ofNat p) (Int32.ofNat d) = some (Int32.ofNat (MtM R p d)) := by
  obtain ⟨h, f1, ar⟩ := hR
  have rd : ∀ i, i < R.2 → q_aI (e_g S g) 124 (Int32.ofNat i) = some (R.1 i) := fun i hi => by
    rw [a124, n_idx (by omega), if_neg (n_in2 (show i < 2328 by omega) (by decide)), ar i hi]
  have lp : ∀ m k, k + m = 259 → q_lp (fun t => bX7_matchAt_2 (e_g S g) 122 (Int32.ofNat p) (Int32.ofNat d) t) (Int32.ofNat k) = some (Int32.ofNat (mtN R.1 R.2 p d m k)) := by
    intro m
    induction m with
    | zero =>
      intro k hk
      refine lp_end ?_
      show bX7_matchAt_2 _ _ _ _ _ = _
      unfold bX7_matchAt_2
      have c : (258 : Int32) ≤ Int32.ofNat k := show Int32.ofNat 258 ≤ Int32.ofNat k from (n_le (by omega) (by omega)).mpr (by omega)
      rw [if_pos c]
      rfl
    | succ m ih =>
      intro k hk
      have u : mtN R.1 R.2 p d (m + 1) k = if 258 ≤ k ∨ R.2 ≤ p + k then k else if R.1 (p + k) = R.1 (p + k - d) then mtN R.1 R.2 p d m (k + 1) else k := rfl
      by_cases q1 : 258 ≤ k
      · rw [u, if_pos (Or.inl q1)]
        refine lp_end ?_
        show bX7_matchAt_2 _ _ _ _ _ = _
        unfold bX7_matchAt_2
        have c : (258 : Int32) ≤ Int32.ofNat k := show Int32.ofNat 258 ≤ Int32.ofNat k from (n_le (by omega) (by omega)).mpr q1
        rw [if_pos c]
      · have c1 : ¬ (258 : Int32) ≤ Int32.ofNat k := show ¬ Int32.ofNat 258 ≤ Int32.ofNat k from nle (by omega) (by omega)
        by_cases q2 : R.2 ≤ p + k
        · rw [u, if_pos (Or.inr q2)]
          refine lp_end ?_
          show bX7_matchAt_2 _ _ _ _ _ = _
          unfold bX7_matchAt_2
          rw [if_neg c1, f122_3, f1, ob_n, n_add, if_pos (Or.inl ((n_le (by omega) (by omega)).mpr q2))]
        · have sb : Int32.ofNat (p + k) - Int32.ofNat d = Int32.ofNat (p + k - d) := sb_n (by omega) (by omega)
          have c2 : ¬ (Int32.ofNat R.2 ≤ Int32.ofNat (p + k) ∨ ((2328 : Int32) ≤ Int32.ofNat (p + k) ∨ Int32.ofNat p < Int32.ofNat d)) := by
            rintro (z | z | z)
            · exact absurd ((n_le (by omega) (by omega)).mp z) q2
            · have z' : Int32.ofNat 2328 ≤ Int32.ofNat (p + k) := z
              exact absurd ((n_le (by omega) (by omega)).mp z') (by omega)
            · exact absurd ((n_lt (by omega) (by omega)).mp z) (by omega)
          rw [u, if_neg (fun z => z.elim q1 q2)]
          by_cases q3 : R.1 (p + k) = R.1 (p + k - d)
          · have st : bX7_matchAt_2 (e_g S g) 122 (Int32.ofNat p) (Int32.ofNat d) (Int32.ofNat k) = some (.inl (Int32.ofNat (k + 1))) := by
              unfold bX7_matchAt_2
              rw [if_neg c1, f122_3, f1, ob_n, n_add, if_neg c2, f122_2, ob_n, ob_n, rd _ (by omega), ob_n, ob_n, ob_n, sb, rd _ (by omega), ob_n, if_neg (fun z => z q3), n_suc]
            rw [if_pos q3, lp_go (b := fun t => bX7_matchAt_2 (e_g S g) 122 (Int32.ofNat p) (Int32.ofNat d) t) st]
            exact ih (k + 1) (by omega)
          · rw [if_neg q3]
            refine lp_end ?_
            show bX7_matchAt_2 _ _ _ _ _ = _
            unfold bX7_matchAt_2
            rw [if_neg c1, f122_3, f1, ob_n, n_add, if_neg c2, f122_2, ob_n, ob_n, rd _ (by omega), ob_n, ob_n, ob_n, sb, rd _ (by omega), ob_n, if_pos q3]
  unfold fX7_matchAt jX7_matchAt_60
  have l0 := lp 259 0 rfl
  have l1 : q_lp (fun t => bX7_matchAt_2 (e_g S g) 122 (Int32.ofNat p) (Int32.ofNat d) t) 0 = some (Int32.ofNat (MtM R p d)) := by
    rw [mm_e]
    exact l0
  rw [l1, ob_n]
def ngN (M : Nat → Nat) : Nat → Nat × Nat
  | 0 => (0, 0)
  | k + 1 => if (ngN M k).1 < M (k + 1) then (M (k + 1), k + 1) else ngN M k
theorem ng_i {M : Nat → Nat} (hM : ∀ d, M d ≤ 258) : ∀ k, (ngN M k).1 ≤ 258 ∧ ((ngN M k).1 = 0 ∧ (ngN M k).2 = 0 ∨ 1 ≤ (ngN M k).1 ∧ 1 ≤ (ngN M k).2 ∧ (ngN M k).2 ≤ k ∧ (ngN M k).1 = M (ngN M k).2) := by
  intro k
  induction k with
  | zero => exact ⟨Nat.zero_le _, Or.inl ⟨rfl, rfl⟩⟩
  | succ k ih =>
    have u : ngN M (k + 1) = if (ngN M k).1 < M (k + 1) then (M (k + 1), k + 1) else ngN M k := rfl
    by_cases q : (ngN M k).1 < M (k + 1)
    · rw [u, if_pos q]
      have := hM (k + 1)
      exact ⟨this, Or.inr ⟨by show 1 ≤ M (k + 1); omega, by show 1 ≤ k + 1; omega, Nat.le_refl _, rfl⟩⟩
    · rw [u, if_neg q]
      refine ⟨ih.1, ih.2.elim Or.inl (fun z => Or.inr ⟨z.1, z.2.1, ?_, z.2.2.2⟩)⟩
      have := z.2.2.1
      omega
theorem ng_s {M : Nat → Nat} (hM : ∀ d, M d ≤ 258) {k : Nat} (h : 258 ≤ (ngN M k).1) : ∀ j, ngN M (k + j) = ngN M k := by
  intro j
  induction j with
  | zero => rfl
  | succ j ih =>
    have u : ngN M (k + (j + 1)) = if (ngN M (k + j)).1 < M (k + j + 1) then (M (k + j + 1), k + j + 1) else ngN M (k + j) := rfl
    have := hM (k + j + 1)
    rw [u, ih, if_neg (by omega)]
theorem nearM {S : e_S} {g : ps_G} {R : (Nat → Int32) × Nat} {p : Nat} (hR : RwM S R) (hp : p < R.2) : q_lp (fun t => bX12_deflate_33 (e_g S g) 139 (Int32.ofNat p) t.1 t.2.1 t.2.2) ((0 : Int32), (0 : Int32), (1 : Int32)) = some (Int32.ofNat (ngN (MtM R p) p).1, Int32.ofNat (ngN (MtM R p) p).2) := by
  have h1 := hR.1
  refine lp_0 (fun k => (Int32.ofNat (ngN (MtM R p) k).1, Int32.ofNat (ngN (MtM R p) k).2, Int32.ofNat (k + 1))) p rfl (fun k hk => ?_) ?_
  · show bX12_deflate_33 _ _ _ _ _ _ = _
    unfold bX12_deflate_33
    dsimp only
    have c : ¬ Int32.ofNat p < Int32.ofNat (k + 1) := fun z => absurd ((n_lt (by omega) (by omega)).mp z) (by omega)
    rw [if_neg c, matchM hR hp (show k + 1 ≤ p by omega), ob_n]
    unfold jX12_deflate_91_33
    have u : ngN (MtM R p) (k + 1) = if (ngN (MtM R p) k).1 < MtM R p (k + 1) then (MtM R p (k + 1), k + 1) else ngN (MtM R p) k := rfl
    have b1 := (ng_i (M := MtM R p) mm_i k).1
    have b2 := mm_i (R := R) (p := p) (k + 1)
    by_cases q : (ngN (MtM R p) k).1 < MtM R p (k + 1)
    · have c2 := (n_lt (show (ngN (MtM R p) k).1 < 2147483648 by omega) (show MtM R p (k + 1) < 2147483648 by omega)).mpr q
      rw [u, if_pos q, if_pos c2, if_pos c2, n_suc]
    · have c2 : ¬ Int32.ofNat (ngN (MtM R p) k).1 < Int32.ofNat (MtM R p (k + 1)) := fun z => q ((n_lt (by omega) (by omega)).mp z)
      rw [u, if_neg q, if_neg c2, if_neg c2, n_suc]
  · show bX12_deflate_33 _ _ _ _ _ _ = _
    unfold bX12_deflate_33
    dsimp only
    rw [if_pos ((n_lt (by omega) (by omega)).mpr (by omega))]
theorem near7 {S : e_S} {g : ps_G} {R : (Nat → Int32) × Nat} {p : Nat} (hR : RwC S R) (hp : p < R.2) : fX7_nearestLongest (e_g S g) 122 (Int32.ofNat p) = some (Int32.ofNat (ngN (MtM R p) p).2) := by
  have h1 := hR.1
  have lp : ∀ j k, k + j = p → q_lp (fun t => bX7_nearestLongest_7 (e_g S g) 122 (Int32.ofNat p) t.1 t.2.1 t.2.2) (Int32.ofNat (ngN (MtM R p) k).2, Int32.ofNat (ngN (MtM R p) k).1, Int32.ofNat (k + 1)) = some (Int32.ofNat (ngN (MtM R p) p).2) := by
    intro j
    induction j with
    | zero =>
      intro k hk
      have e : k = p := hk
      subst e
      refine lp_end ?_
      show bX7_nearestLongest_7 _ _ _ _ _ _ = _
      unfold bX7_nearestLongest_7
      rw [if_pos (Or.inl ((n_lt (by omega) (by omega)).mpr (by omega)))]
    | succ j ih =>
      intro k hk
      have b1 := (ng_i (M := MtM R p) mm_i k).1
      have b2 := mm_i (R := R) (p := p) (k + 1)
      by_cases q0 : 258 ≤ (ngN (MtM R p) k).1
      · have e := ng_s (M := MtM R p) mm_i q0 (j + 1)
        rw [hk] at e
        rw [e]
        refine lp_end ?_
        show bX7_nearestLongest_7 _ _ _ _ _ _ = _
        unfold bX7_nearestLongest_7
        dsimp only
        have c : (258 : Int32) ≤ Int32.ofNat (ngN (MtM R p) k).1 := show Int32.ofNat 258 ≤ Int32.ofNat (ngN (MtM R p) k).1 from (n_le (by omega) (by omega)).mpr q0
        rw [if_pos (Or.inr c)]
      · have c : ¬ (Int32.ofNat p < Int32.ofNat (k + 1) ∨ (258 : Int32) ≤ Int32.ofNat (ngN (MtM R p) k).1) := by
          rintro (z | z)
          · exact absurd ((n_lt (by omega) (by omega)).mp z) (by omega)
          · have z' : Int32.ofNat 258 ≤ Int32.ofNat (ngN (MtM R p) k).1 := z
            exact q0 ((n_le (by omega) (by omega)).mp z')
        have u : ngN (MtM R p) (k + 1) = if (ngN (MtM R p) k).1 < MtM R p (k + 1) then (MtM R p (k + 1), k + 1) else ngN (MtM R p) k := rfl
        have st : bX7_nearestLongest_7 (e_g S g) 122 (Int32.ofNat p) (Int32.ofNat (ngN (MtM R p) k).2) (Int32.ofNat (ngN (MtM R p) k).1) (Int32.ofNat (k + 1)) = some (.inl (Int32.ofNat (ngN (MtM R p) (k + 1)).2, Int32.ofNat (ngN (MtM R p) (k + 1)).1, Int32.ofNat (k + 1 + 1))) := by
          unfold bX7_nearestLongest_7
          rw [if_neg c, ob122, ob_n, match7 hR hp (show k + 1 ≤ p by omega), ob_n]
          by_cases q : (ngN (MtM R p) k).1 < MtM R p (k + 1)
          · have c2 : ¬ Int32.ofNat (MtM R p (k + 1)) ≤ Int32.ofNat (ngN (MtM R p) k).1 := nle q (by omega)
            rw [u, if_pos q, if_neg c2, if_neg c2, n_suc]
          · have c2 := (n_le (show MtM R p (k + 1) < 2147483648 by omega) (show (ngN (MtM R p) k).1 < 2147483648 by omega)).mpr (by omega)
            rw [u, if_neg q, if_pos c2, if_pos c2, n_suc]
        have ih' := ih (k + 1) (by omega)
        generalize ngN (MtM R p) (k + 1) = N1 at st ih'
        exact (lp_go (b := fun t => bX7_nearestLongest_7 (e_g S g) 122 (Int32.ofNat p) t.1 t.2.1 t.2.2) (s := (Int32.ofNat (ngN (MtM R p) k).2, Int32.ofNat (ngN (MtM R p) k).1, Int32.ofNat (k + 1))) (s' := (Int32.ofNat N1.2, Int32.ofNat N1.1, Int32.ofNat (k + 1 + 1))) st).trans ih'
  unfold fX7_nearestLongest jX7_nearestLongest_47
  have l0 := lp p 0 (by omega)
  have l2 : ((0 : Int32), (0 : Int32), (1 : Int32)) = (Int32.ofNat (ngN (MtM R p) 0).2, Int32.ofNat (ngN (MtM R p) 0).1, Int32.ofNat (0 + 1)) := rfl
  rw [l2, l0, ob_n]
