-- needs: 97zzv
/-! ===== made: the codes of a match ===== -/
def tbV (j : Nat) : Nat → Int32 := fun i => (ps_sv j).getD i 0
def xbV (j i : Nat) : Nat := (tbV j i).toInt.toNat
def ixN (B : Nat → Int32) (v : Int32) : Nat → Nat
  | 0 => 0
  | k + 1 => if B (k + 1) ≤ v then k + 1 else ixN B v k
theorem ix_i {B : Nat → Int32} {v : Int32} : ∀ k, ixN B v k ≤ k ∧ (ixN B v k = 0 ∨ B (ixN B v k) ≤ v) := by
  intro k
  induction k with
  | zero => exact ⟨Nat.le_refl _, Or.inl rfl⟩
  | succ k ih =>
    have u : ixN B v (k + 1) = if B (k + 1) ≤ v then k + 1 else ixN B v k := rfl
    by_cases q : B (k + 1) ≤ v
    · rw [u, if_pos q]
      exact ⟨Nat.le_refl _, Or.inr q⟩
    · rw [u, if_neg q]
      exact ⟨by have := ih.1; omega, ih.2⟩
/-- the tables of the class and of the reference -/
def TbC (g : ps_G) : Prop := ∀ j, j < 7 → g.2.2 j = .inl (0, ((ps_sv j).length, .inl fun i => (ps_sv j).getD i 0))
def TbM (s : e_S) : Prop := (∀ i, i < 29 → s.2.1 182 i = tbV 2 i ∧ s.2.1 183 i = tbV 3 i) ∧ (∀ i, i < 30 → s.2.1 184 i = tbV 4 i ∧ s.2.1 185 i = tbV 5 i)
theorem tb_r {S : e_S} {g : ps_G} {j i : Nat} (hT : TbC g) (hj : j < 7) (hi : i < (ps_sv j).length) (h2 : i < 1000) : q_aI (e_g S g) j (Int32.ofNat i) = some (tbV j i) := by
  rw [d_aI (Or.inr (Or.inl (by omega))) (hT j hj), n_idx (by omega), if_neg]
  · rfl
  · rintro (z | z)
    · exact absurd z (n_neg (by omega))
    · omega
theorem tb_2 {S : e_S} {g : ps_G} {i : Nat} (hT : TbC g) (hi : i < 29) : q_aI (e_g S g) 2 (Int32.ofNat i) = some (tbV 2 i) := tb_r hT (by decide) hi (by omega)
theorem tb_3 {S : e_S} {g : ps_G} {i : Nat} (hT : TbC g) (hi : i < 29) : q_aI (e_g S g) 3 (Int32.ofNat i) = some (tbV 3 i) := tb_r hT (by decide) hi (by omega)
theorem tb_4 {S : e_S} {g : ps_G} {i : Nat} (hT : TbC g) (hi : i < 30) : q_aI (e_g S g) 4 (Int32.ofNat i) = some (tbV 4 i) := tb_r hT (by decide) hi (by omega)
theorem tb_5 {S : e_S} {g : ps_G} {i : Nat} (hT : TbC g) (hi : i < 30) : q_aI (e_g S g) 5 (Int32.ofNat i) = some (tbV 5 i) := tb_r hT (by decide) hi (by omega)
theorem tb_l2 {S : e_S} {g : ps_G} (hT : TbC g) : q_len (e_g S g) 2 = some 29 := d_len (Or.inr (Or.inl (by decide))) (hT 2 (by decide))
theorem tb_l4 {S : e_S} {g : ps_G} (hT : TbC g) : q_len (e_g S g) 4 = some 30 := d_len (Or.inr (Or.inl (by decide))) (hT 4 (by decide))
theorem xb_3 {i : Nat} (hi : i < 29) : tbV 3 i = Int32.ofNat (xbV 3 i) ∧ xbV 3 i ≤ 5 := by
  have : ∀ i : Fin 29, tbV 3 i.1 = Int32.ofNat (xbV 3 i.1) ∧ xbV 3 i.1 ≤ 5 := by decide +kernel
  exact this ⟨i, hi⟩
theorem xb_5 {i : Nat} (hi : i < 30) : tbV 5 i = Int32.ofNat (xbV 5 i) ∧ (i ≤ 22 → xbV 5 i ≤ 10) ∧ (22 < i → (2328 : Int32) < tbV 4 i) := by
  have : ∀ i : Fin 30, tbV 5 i.1 = Int32.ofNat (xbV 5 i.1) ∧ (i.1 ≤ 22 → xbV 5 i.1 ≤ 10) ∧ (22 < i.1 → (2328 : Int32) < tbV 4 i.1) := by decide +kernel
  exact this ⟨i, hi⟩
theorem ixl7 {S : e_S} {g : ps_G} {x1 x2 : Int32} (hT : TbC g) : ∀ k, k < 29 → q_lp (fun t => bX7_addMatch_7 (e_g S g) 122 x1 x2 t) (Int32.ofNat k) = some (Int32.ofNat (ixN (tbV 2) x1 k)) := by
  intro k
  induction k with
  | zero =>
    intro hk
    refine lp_end ?_
    show bX7_addMatch_7 _ _ _ _ _ = _
    unfold bX7_addMatch_7
    have c : Int32.ofNat 0 ≤ (0 : Int32) := by decide
    rw [if_pos c]
    rfl
  | succ k ih =>
    intro hk
    have c : ¬ Int32.ofNat (k + 1) ≤ (0 : Int32) := show ¬ Int32.ofNat (k + 1) ≤ Int32.ofNat 0 from nle (by omega) (by omega)
    have u : ixN (tbV 2) x1 (k + 1) = if tbV 2 (k + 1) ≤ x1 then k + 1 else ixN (tbV 2) x1 k := rfl
    by_cases q : tbV 2 (k + 1) ≤ x1
    · rw [u, if_pos q]
      refine lp_end ?_
      show bX7_addMatch_7 _ _ _ _ _ = _
      unfold bX7_addMatch_7
      rw [if_neg c, tb_2 hT hk, ob_n, if_pos q]
    · rw [u, if_neg q]
      have st : bX7_addMatch_7 (e_g S g) 122 x1 x2 (Int32.ofNat (k + 1)) = some (.inl (Int32.ofNat k)) := by
        unfold bX7_addMatch_7
        rw [if_neg c, tb_2 hT hk, ob_n, if_neg q, n_prd (by omega)]
      rw [lp_go (b := fun t => bX7_addMatch_7 (e_g S g) 122 x1 x2 t) st]
      exact ih (by omega)
theorem ixd7 {S : e_S} {g : ps_G} {x2 : Int32} (hT : TbC g) : ∀ k, k < 30 → q_lp (fun t => bX7_addMatch_59 (e_g S g) 122 x2 t) (Int32.ofNat k) = some (Int32.ofNat (ixN (tbV 4) x2 k)) := by
  intro k
  induction k with
  | zero =>
    intro hk
    refine lp_end ?_
    show bX7_addMatch_59 _ _ _ _ = _
    unfold bX7_addMatch_59
    have c : Int32.ofNat 0 ≤ (0 : Int32) := by decide
    rw [if_pos c]
    rfl
  | succ k ih =>
    intro hk
    have c : ¬ Int32.ofNat (k + 1) ≤ (0 : Int32) := show ¬ Int32.ofNat (k + 1) ≤ Int32.ofNat 0 from nle (by omega) (by omega)
    have u : ixN (tbV 4) x2 (k + 1) = if tbV 4 (k + 1) ≤ x2 then k + 1 else ixN (tbV 4) x2 k := rfl
    by_cases q : tbV 4 (k + 1) ≤ x2
    · rw [u, if_pos q]
      refine lp_end ?_
      show bX7_addMatch_59 _ _ _ _ = _
      unfold bX7_addMatch_59
      rw [if_neg c, tb_4 hT hk, ob_n, if_pos q]
    · rw [u, if_neg q]
      have st : bX7_addMatch_59 (e_g S g) 122 x2 (Int32.ofNat (k + 1)) = some (.inl (Int32.ofNat k)) := by
        unfold bX7_addMatch_59
        rw [if_neg c, tb_4 hT hk, ob_n, if_neg q, n_prd (by omega)]
      rw [lp_go (b := fun t => bX7_addMatch_59 (e_g S g) 122 x2 t) st]
      exact ih (by omega)
theorem ixl12 {S : e_S} {g : ps_G} {x1 x2 x3 : Int32} (hT : TbM S) (h0 : tbV 2 0 ≤ x2) : ∀ k, k < 29 → q_lp (fun t => bX12_deflate_137 (e_g S g) 139 x1 x2 x3 t) (Int32.ofNat k) = some (Int32.ofNat (ixN (tbV 2) x2 k)) := by
  have rd : ∀ i, i < 29 → q_aI (e_g S g) 182 (Int32.ofNat i) = some (tbV 2 i) := fun i hi => by
    rw [a182, n_idx (by omega), if_neg (n_in2 hi (by decide)), (hT.1 i hi).1]
  intro k
  induction k with
  | zero =>
    intro hk
    refine lp_end ?_
    show bX12_deflate_137 _ _ _ _ _ _ = _
    unfold bX12_deflate_137
    rw [f139_68, ob_n, ob_n, rd 0 hk, ob_n, if_pos h0]
    rfl
  | succ k ih =>
    intro hk
    have u : ixN (tbV 2) x2 (k + 1) = if tbV 2 (k + 1) ≤ x2 then k + 1 else ixN (tbV 2) x2 k := rfl
    by_cases q : tbV 2 (k + 1) ≤ x2
    · rw [u, if_pos q]
      refine lp_end ?_
      show bX12_deflate_137 _ _ _ _ _ _ = _
      unfold bX12_deflate_137
      rw [f139_68, ob_n, ob_n, rd _ hk, ob_n, if_pos q]
    · rw [u, if_neg q]
      have st : bX12_deflate_137 (e_g S g) 139 x1 x2 x3 (Int32.ofNat (k + 1)) = some (.inl (Int32.ofNat k)) := by
        unfold bX12_deflate_137
        rw [f139_68, ob_n, ob_n, rd _ hk, ob_n, if_neg q, n_prd (by omega)]
      rw [lp_go (b := fun t => bX12_deflate_137 (e_g S g) 139 x1 x2 x3 t) st]
      exact ih (by omega)
theorem ixd12 {S : e_S} {g : ps_G} {x1 x2 x3 : Int32} (hT : TbM S) (h0 : tbV 4 0 ≤ x3) : ∀ k, k < 30 → q_lp (fun t => bX12_deflate_188 (e_g S g) 139 x1 x2 x3 t) (Int32.ofNat k) = some (Int32.ofNat (ixN (tbV 4) x3 k)) := by
  have rd : ∀ i, i < 30 → q_aI (e_g S g) 184 (Int32.ofNat i) = some (tbV 4 i) := fun i hi => by
    rw [a184, n_idx (by omega), if_neg (n_in2 hi (by decide)), (hT.2 i hi).1]
  intro k
  induction k with
  | zero =>
    intro hk
    refine lp_end ?_
    show bX12_deflate_188 _ _ _ _ _ _ = _
    unfold bX12_deflate_188
    rw [f139_70, ob_n, ob_n, rd 0 hk, ob_n, if_pos h0]
    rfl
  | succ k ih =>
    intro hk
    have u : ixN (tbV 4) x3 (k + 1) = if tbV 4 (k + 1) ≤ x3 then k + 1 else ixN (tbV 4) x3 k := rfl
    by_cases q : tbV 4 (k + 1) ≤ x3
    · rw [u, if_pos q]
      refine lp_end ?_
      show bX12_deflate_188 _ _ _ _ _ _ = _
      unfold bX12_deflate_188
      rw [f139_70, ob_n, ob_n, rd _ hk, ob_n, if_pos q]
    · rw [u, if_neg q]
      have st : bX12_deflate_188 (e_g S g) 139 x1 x2 x3 (Int32.ofNat (k + 1)) = some (.inl (Int32.ofNat k)) := by
        unfold bX12_deflate_188
        rw [f139_70, ob_n, ob_n, rd _ hk, ob_n, if_neg q, n_prd (by omega)]
      rw [lp_go (b := fun t => bX12_deflate_188 (e_g S g) 139 x1 x2 x3 t) st]
      exact ih (by omega)
/-- a match put out -/
def mlV (T : ((Nat → Int32) × Nat) × Int32 × Nat) (m : Nat) : ((Nat → Int32) × Nat) × Int32 × Nat := blV' (Int32.ofNat m - tbV 2 (ixN (tbV 2) (Int32.ofNat m) 28)) (syV T (257 + Int32.ofNat (ixN (tbV 2) (Int32.ofNat m) 28))) (xbV 3 (ixN (tbV 2) (Int32.ofNat m) 28))
def mdT (T : ((Nat → Int32) × Nat) × Int32 × Nat) (d : Nat) : ((Nat → Int32) × Nat) × Int32 × Nat := blV' (Int32.ofNat d - tbV 4 (ixN (tbV 4) (Int32.ofNat d) 29)) (cdV (Int32.ofNat (ixN (tbV 4) (Int32.ofNat d) 29)) T 5) (xbV 5 (ixN (tbV 4) (Int32.ofNat d) 29))
theorem sy_m {T : ((Nat → Int32) × Nat) × Int32 × Nat} {x : Int32} (hm : T.2.2 < 8) : bnV T ≤ bnV (syV T x) := by
  unfold syV
  split
  · split
    · split
      · have := bn_c (v := 192 + x - 280) 8 T hm; omega
      · have := bn_c (v := x - 256) 7 T hm; omega
    · have := bn_c (v := 400 + x - 144) 9 T hm; omega
  · have := bn_c (v := 48 + x) 8 T hm; omega
theorem by_bt {T : ((Nat → Int32) × Nat) × Int32 × Nat} {b : Int32} (h : ByO T.1) : ByO (btV T b).1 := by
  unfold btV
  split
  · exact by_o h
  · exact h
theorem by_bl {T : ((Nat → Int32) × Nat) × Int32 × Nat} {v : Int32} (h : ByO T.1) : ∀ k, ByO (blV' v T k).1 := by
  intro k
  induction k with
  | zero => exact h
  | succ k ih => exact by_bt ih
theorem by_cd {v : Int32} : ∀ (n : Nat) (T : ((Nat → Int32) × Nat) × Int32 × Nat), ByO T.1 → ByO (cdV v T n).1 := by
  intro n
  induction n with
  | zero => exact fun T h => h
  | succ n ih => exact fun T h => ih _ (by_bt h)
theorem by_sy {T : ((Nat → Int32) × Nat) × Int32 × Nat} {x : Int32} (h : ByO T.1) : ByO (syV T x).1 := by
  unfold syV
  split
  · split
    · split
      · exact by_cd 8 T h
      · exact by_cd 7 T h
    · exact by_cd 9 T h
  · exact by_cd 8 T h
theorem ml_n {T : ((Nat → Int32) × Nat) × Int32 × Nat} {m : Nat} (hm : T.2.2 < 8) : bnV (mlV T m) ≤ bnV T + 14 ∧ bnV T ≤ bnV (mlV T m) ∧ (mlV T m).2.2 < 8 := by
  have i1 := (ix_i (B := tbV 2) (v := Int32.ofNat m) 28).1
  have x1 := (xb_3 (i := ixN (tbV 2) (Int32.ofNat m) 28) (by omega)).2
  have s1 := sy_n (T := T) (x := 257 + Int32.ofNat (ixN (tbV 2) (Int32.ofNat m) 28)) hm
  have s0 := sy_m (T := T) (x := 257 + Int32.ofNat (ixN (tbV 2) (Int32.ofNat m) 28)) hm
  have l1 := bn_l (v := Int32.ofNat m - tbV 2 (ixN (tbV 2) (Int32.ofNat m) 28)) s1.2 (xbV 3 (ixN (tbV 2) (Int32.ofNat m) 28))
  refine ⟨?_, ?_, l1.2⟩
  · show bnV (blV' _ _ _) ≤ _
    rw [l1.1]; omega
  · show _ ≤ bnV (blV' _ _ _)
    rw [l1.1]; omega
theorem md_n {T : ((Nat → Int32) × Nat) × Int32 × Nat} {d : Nat} (hm : T.2.2 < 8) (hd : d ≤ 2328) : bnV (mdT T d) ≤ bnV T + 15 ∧ bnV T ≤ bnV (mdT T d) ∧ (mdT T d).2.2 < 8 := by
  have i1 := ix_i (B := tbV 4) (v := Int32.ofNat d) 29
  have x1 := xb_5 (i := ixN (tbV 4) (Int32.ofNat d) 29) (by omega)
  have le : ixN (tbV 4) (Int32.ofNat d) 29 ≤ 22 := by
    by_cases q : 22 < ixN (tbV 4) (Int32.ofNat d) 29
    · rcases i1.2 with z | z
      · omega
      · have a := x1.2.2 q
        have e1 : (2328 : Int32).toInt = 2328 := by decide
        have e2 : (Int32.ofNat d).toInt = d := n_int (by omega)
        rw [i_lt, e1] at a
        rw [i_le, e2] at z
        omega
    · omega
  have c1 := bn_c (v := Int32.ofNat (ixN (tbV 4) (Int32.ofNat d) 29)) 5 T hm
  have l1 := bn_l (v := Int32.ofNat d - tbV 4 (ixN (tbV 4) (Int32.ofNat d) 29)) c1.2 (xbV 5 (ixN (tbV 4) (Int32.ofNat d) 29))
  have x2 := x1.2.1 le
  refine ⟨?_, ?_, l1.2⟩
  · show bnV (blV' _ _ _) ≤ _
    rw [l1.1, c1.1]; omega
  · show _ ≤ bnV (blV' _ _ _)
    rw [l1.1, c1.1]; omega
theorem addMatch7 {s : e_S} {g : ps_G} {T : ((Nat → Int32) × Nat) × Int32 × Nat} {m d : Nat} (hT : TbC g) (hm : T.2.2 < 8) (hd : d ≤ 2328) (hb : bnV T + 29 < 24000) : fX7_addMatch (e_g (bC s T) g) 122 (Int32.ofNat m) (Int32.ofNat d) = some (e_g (bC s (mdT (mlV T m) d)) g) := by
  have i1 := (ix_i (B := tbV 2) (v := Int32.ofNat m) 28).1
  have i2 := (ix_i (B := tbV 4) (v := Int32.ofNat d) 29).1
  have x1 := xb_3 (i := ixN (tbV 2) (Int32.ofNat m) 28) (by omega)
  have x2 := xb_5 (i := ixN (tbV 4) (Int32.ofNat d) 29) (by omega)
  have s1 := sy_n (T := T) (x := 257 + Int32.ofNat (ixN (tbV 2) (Int32.ofNat m) 28)) hm
  have l0 := ml_n (m := m) hm
  have c1 := bn_c (v := Int32.ofNat (ixN (tbV 4) (Int32.ofNat d) 29)) 5 (mlV T m) l0.2.2
  have d0 := md_n (d := d) l0.2.2 hd
  have d1 : bnV (mdT (mlV T m) d) = bnV (cdV (Int32.ofNat (ixN (tbV 4) (Int32.ofNat d) 29)) (mlV T m) 5) + xbV 5 (ixN (tbV 4) (Int32.ofNat d) 29) := (bn_l c1.2 _).1
  have k1 : (29 : Int32) - 1 = Int32.ofNat 28 := by decide
  have k2 : (30 : Int32) - 1 = Int32.ofNat 29 := by decide
  have five : (5 : Int32) = Int32.ofNat 5 := rfl
  unfold fX7_addMatch
  rw [tb_l2 hT, ob_n, k1, ixl7 hT 28 (by omega), ob_n]
  unfold jX7_addMatch_26
  rw [ob122, ob_n, addSymbol7 hm (by omega), ob_n, tb_2 hT (by omega), ob_n, tb_3 hT (by omega), ob_n, ob122, ob_n, x1.1, addBits7 s1.2 (by omega), ob_n, tb_l4 hT, ob_n, k2, ixd7 hT 29 (by omega), ob_n]
  unfold jX7_addMatch_80
  have a5 : fX7_addCode (e_g (bC s (mlV T m)) g) 122 (Int32.ofNat (ixN (tbV 4) (Int32.ofNat d) 29)) 5 = some (e_g (bC s (cdV (Int32.ofNat (ixN (tbV 4) (Int32.ofNat d) 29)) (mlV T m) 5)) g) := addCode7 (n := 5) l0.2.2 (by omega)
  rw [ob122, ob_n]
  show Option.bind (fX7_addCode (e_g (bC s (mlV T m)) g) 122 (Int32.ofNat (ixN (tbV 4) (Int32.ofNat d) 29)) 5) _ = _
  rw [a5, ob_n, tb_4 hT (by omega), ob_n, tb_5 hT (by omega), ob_n, ob122, ob_n, x2.1, addBits7 c1.2 (by omega), ob_n]
  rfl
