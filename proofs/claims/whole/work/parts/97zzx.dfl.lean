-- needs: 97zzw
/-! ===== made: all rows packed ===== -/
theorem by_ml {T : ((Nat → Int32) × Nat) × Int32 × Nat} {m : Nat} (h : ByO T.1) : ByO (mlV T m).1 := by_bl (by_sy h) _
theorem by_md {T : ((Nat → Int32) × Nat) × Int32 × Nat} {d : Nat} (h : ByO T.1) : ByO (mdT T d).1 := by_bl (by_cd 5 T h) _
theorem mt_n {R : Nat → Int32} {n p d : Nat} : ∀ m k, p + k ≤ n → p + mtN R n p d m k ≤ n := by
  intro m
  induction m with
  | zero => exact fun k hk => hk
  | succ m ih =>
    intro k hk
    have u : mtN R n p d (m + 1) k = if 258 ≤ k ∨ n ≤ p + k then k else if R (p + k) = R (p + k - d) then mtN R n p d m (k + 1) else k := rfl
    rw [u]
    split
    · exact hk
    · split
      · exact ih (k + 1) (by omega)
      · exact hk
theorem ng_n {R : (Nat → Int32) × Nat} {p : Nat} (hp : p < R.2) : p + (ngN (MtM R p) p).1 ≤ R.2 := by
  rcases (ng_i (M := MtM R p) mm_i p).2 with z | z
  · omega
  · have e : MtM R p (ngN (MtM R p) p).2 = mtN R.1 R.2 p (ngN (MtM R p) p).2 259 0 := mm_e
    rw [z.2.2.2, e]
    exact mt_n 259 0 (by omega)
noncomputable def dfT (R : (Nat → Int32) × Nat) : Nat → Nat → (((Nat → Int32) × Nat) × Int32 × Nat) → ((Nat → Int32) × Nat) × Int32 × Nat
  | 0, _, T => T
  | m + 1, p, T => if R.2 ≤ p then T else if (ngN (MtM R p) p).1 < 3 then dfT R m (p + 1) (syV T (R.1 p)) else dfT R m (p + (ngN (MtM R p) p).1) (mdT (mlV T (ngN (MtM R p) p).1) (ngN (MtM R p) p).2)
theorem df_1 {R : (Nat → Int32) × Nat} {p : Nat} {T : ((Nat → Int32) × Nat) × Int32 × Nat} (hR : R.2 ≤ 2328) (hp : p < R.2) (hm : T.2.2 < 8) (hb : bnV T ≤ 10 * p + 400) (h3 : ¬ (ngN (MtM R p) p).1 < 3) : (mdT (mlV T (ngN (MtM R p) p).1) (ngN (MtM R p) p).2).2.2 < 8 ∧ bnV T ≤ bnV (mdT (mlV T (ngN (MtM R p) p).1) (ngN (MtM R p) p).2) ∧ bnV (mdT (mlV T (ngN (MtM R p) p).1) (ngN (MtM R p) p).2) ≤ 10 * (p + (ngN (MtM R p) p).1) + 400 := by
  have a := (ng_i (M := MtM R p) mm_i p).2
  generalize ngN (MtM R p) p = b at a h3 ⊢
  have l0 := ml_n (m := b.1) hm
  have d0 := md_n (d := b.2) l0.2.2 (by omega)
  exact ⟨d0.2.2, by omega, by omega⟩
theorem df_i {R : (Nat → Int32) × Nat} (hR : R.2 ≤ 2328) : ∀ (m p : Nat) (T : ((Nat → Int32) × Nat) × Int32 × Nat), p ≤ R.2 → T.2.2 < 8 → bnV T ≤ 10 * p + 400 → ByO T.1 → (dfT R m p T).2.2 < 8 ∧ bnV T ≤ bnV (dfT R m p T) ∧ bnV (dfT R m p T) ≤ 10 * R.2 + 400 ∧ ByO (dfT R m p T).1 := by
  intro m
  induction m with
  | zero =>
    intro p T hp hm hb hB
    exact ⟨hm, Nat.le_refl _, by show bnV T ≤ _; omega, hB⟩
  | succ m ih =>
    intro p T hp hm hb hB
    have u : dfT R (m + 1) p T = if R.2 ≤ p then T else if (ngN (MtM R p) p).1 < 3 then dfT R m (p + 1) (syV T (R.1 p)) else dfT R m (p + (ngN (MtM R p) p).1) (mdT (mlV T (ngN (MtM R p) p).1) (ngN (MtM R p) p).2) := rfl
    by_cases q : R.2 ≤ p
    · rw [u, if_pos q]
      exact ⟨hm, Nat.le_refl _, by omega, hB⟩
    · by_cases q3 : (ngN (MtM R p) p).1 < 3
      · have s1 := sy_n (T := T) (x := R.1 p) hm
        have s0 := sy_m (T := T) (x := R.1 p) hm
        have z := ih (p + 1) (syV T (R.1 p)) (by omega) s1.2 (by omega) (by_sy hB)
        rw [u, if_neg q, if_pos q3]
        exact ⟨z.1, by omega, z.2.2⟩
      · have s1 := df_1 hR (by omega) hm hb q3
        have n1 := ng_n (R := R) (p := p) (by omega)
        have z := ih (p + (ngN (MtM R p) p).1) (mdT (mlV T (ngN (MtM R p) p).1) (ngN (MtM R p) p).2) n1 s1.1 s1.2.2 (by_md (by_ml hB))
        rw [u, if_neg q, if_neg q3]
        exact ⟨z.1, by omega, z.2.2⟩
theorem rwC_b {s : e_S} {R : (Nat → Int32) × Nat} (hR : RwC s R) {T : ((Nat → Int32) × Nat) × Int32 × Nat} : RwC (bC s T) R := by
  have e1 : (bC s T).1 122 3 = s.1 122 3 := by
    unfold bC oC
    rw [F_sF, if_neg (by decide), F_sA, F_sF, if_neg (by decide), F_sF, if_neg (by decide)]
  have e2 : (bC s T).2.1 124 = s.2.1 124 := by
    unfold bC oC
    rw [A_sF, A_sA, if_neg (by decide), A_sF, A_sF]
  refine ⟨hR.1, e1.trans hR.2.1, fun i hi => ?_⟩
  rw [e2]
  exact hR.2.2 i hi
theorem rwM_b {s : e_S} {R : (Nat → Int32) × Nat} (hR : RwM s R) {T : ((Nat → Int32) × Nat) × Int32 × Nat} : RwM (bM s T) R := by
  have e1 : (bM s T).1 139 75 = s.1 139 75 := by
    unfold bM oM
    rw [F_sF, if_neg (by decide), F_sA, F_sF, if_neg (by decide), F_sF, if_neg (by decide)]
  have e2 : (bM s T).2.1 187 = s.2.1 187 := by
    unfold bM oM
    rw [A_sF, A_sA, if_neg (by decide), A_sF, A_sF]
  refine ⟨hR.1, e1.trans hR.2.1, fun i hi => ?_⟩
  rw [e2]
  exact hR.2.2 i hi
theorem tbM_b {s : e_S} (hT : TbM s) {T : ((Nat → Int32) × Nat) × Int32 × Nat} : TbM (bM s T) := by
  have e : ∀ a, ¬ a = 141 → (bM s T).2.1 a = s.2.1 a := fun a ha => by
    unfold bM oM
    rw [A_sF, A_sA, if_neg ha, A_sF, A_sF]
  unfold TbM
  rw [e 182 (by decide), e 183 (by decide), e 184 (by decide), e 185 (by decide)]
  exact hT
theorem defl7 {s : e_S} {g : ps_G} {R : (Nat → Int32) × Nat} (hT : TbC g) (hR : RwC s R) : ∀ (m p c : Nat) (T : ((Nat → Int32) × Nat) × Int32 × Nat), R.2 ≤ p + m → c ≤ p → p ≤ R.2 → T.2.2 < 8 → bnV T ≤ 10 * p + 400 → q_lp (fun t => bX7_deflate_26 122 t.1 t.2.1 t.2.2) (Int32.ofNat p, Int32.ofNat c, e_g (bC s T) g) = some (e_g (bC s (dfT R m p T)) g) := by
  have hn := hR.1
  have e1 : ∀ T, (bC s T).1 122 3 = Int32.ofNat R.2 := fun T => (rwC_b hR (T := T)).2.1
  have fin : ∀ (p c : Nat) (T : ((Nat → Int32) × Nat) × Int32 × Nat), R.2 ≤ p → p ≤ R.2 → q_lp (fun t => bX7_deflate_26 122 t.1 t.2.1 t.2.2) (Int32.ofNat p, Int32.ofNat c, e_g (bC s T) g) = some (e_g (bC s T) g) := by
    intro p c T h1 h2
    refine lp_end ?_
    show bX7_deflate_26 _ _ _ _ = _
    unfold bX7_deflate_26
    by_cases q : (2328 : Int32) ≤ Int32.ofNat c
    · rw [if_pos q]
    · rw [if_neg q, f122_3, e1, ob_n, if_pos ((n_le (by omega) (by omega)).mpr h1)]
  intro m
  induction m with
  | zero => exact fun p c T h1 h2 h3 h4 h5 => fin p c T h1 h3
  | succ m ih =>
    intro p c T h1 h2 h3 h4 h5
    have u : dfT R (m + 1) p T = if R.2 ≤ p then T else if (ngN (MtM R p) p).1 < 3 then dfT R m (p + 1) (syV T (R.1 p)) else dfT R m (p + (ngN (MtM R p) p).1) (mdT (mlV T (ngN (MtM R p) p).1) (ngN (MtM R p) p).2) := rfl
    by_cases q : R.2 ≤ p
    · rw [u, if_pos q]
      exact fin p c T q h3
    · have hp : p < R.2 := by omega
      have c1 : ¬ (2328 : Int32) ≤ Int32.ofNat c := show ¬ Int32.ofNat 2328 ≤ Int32.ofNat c from nle (by omega) (by omega)
      have c2 : ¬ Int32.ofNat R.2 ≤ Int32.ofNat p := nle hp (by omega)
      have hRT := rwC_b hR (T := T)
      have hng := ng_i (M := MtM R p) mm_i p
      have j1 : ∀ k0 : Nat, k0 = (ngN (MtM R p) p).1 → ∀ x3, x3 = Int32.ofNat (ngN (MtM R p) p).2 → jX7_deflate_61_26 (e_g (bC s T) g) 122 (Int32.ofNat p) (Int32.ofNat c) x3 (Int32.ofNat k0) = some (.inl (if (ngN (MtM R p) p).1 < 3 then (Int32.ofNat (p + 1), Int32.ofNat (c + 1), e_g (bC s (syV T (R.1 p))) g) else (Int32.ofNat (p + (ngN (MtM R p) p).1), Int32.ofNat (c + 1), e_g (bC s (mdT (mlV T (ngN (MtM R p) p).1) (ngN (MtM R p) p).2)) g))) := by
        intro k0 hk x3 hx
        unfold jX7_deflate_61_26 jX7_deflate_97_26
        by_cases q3 : (ngN (MtM R p) p).1 < 3
        · have c3 : Int32.ofNat k0 < (3 : Int32) := show Int32.ofNat k0 < Int32.ofNat 3 from (n_lt (by omega) (by omega)).mpr (by omega)
          have rd : q_aI (e_g (bC s T) g) 124 (Int32.ofNat p) = some (R.1 p) := by
            rw [a124, n_idx (by omega), if_neg (n_in2 (show p < 2328 by omega) (by decide)), hRT.2.2 p hp]
          rw [if_pos c3, if_pos q3, f122_2, ob_n, ob_n, rd, ob_n, ob122, ob_n, addSymbol7 h4 (by omega), ob_n, n_suc, n_suc]
        · have c3 : ¬ Int32.ofNat k0 < (3 : Int32) := fun z => by
            have z' : Int32.ofNat k0 < Int32.ofNat 3 := z
            have := (n_lt (by omega) (by omega)).mp z'
            omega
          rw [if_neg c3, if_neg q3, ob122, ob_n, hk, hx, addMatch7 hT h4 (by omega) (by omega), ob_n, n_suc, n_add]
      have st : bX7_deflate_26 122 (Int32.ofNat p) (Int32.ofNat c) (e_g (bC s T) g) = some (.inl (if (ngN (MtM R p) p).1 < 3 then (Int32.ofNat (p + 1), Int32.ofNat (c + 1), e_g (bC s (syV T (R.1 p))) g) else (Int32.ofNat (p + (ngN (MtM R p) p).1), Int32.ofNat (c + 1), e_g (bC s (mdT (mlV T (ngN (MtM R p) p).1) (ngN (MtM R p) p).2)) g))) := by
        unfold bX7_deflate_26
        rw [if_neg c1, f122_3, e1, ob_n, if_neg c2, ob122, ob_n, near7 hRT hp, ob_n]
        rcases hng.2 with z | z
        · have c4 : Int32.ofNat (ngN (MtM R p) p).2 ≤ (0 : Int32) := show _ ≤ Int32.ofNat 0 from (n_le (by omega) (by omega)).mpr (by omega)
          rw [if_pos c4]
          exact j1 0 (by omega) _ rfl
        · have c4 : ¬ Int32.ofNat (ngN (MtM R p) p).2 ≤ (0 : Int32) := show ¬ _ ≤ Int32.ofNat 0 from nle (by omega) (by omega)
          rw [if_neg c4, ob_n, match7 hRT hp (by omega), ob_n]
          exact j1 _ z.2.2.2.symm _ rfl
      rw [u, if_neg q, lp_go (b := fun t => bX7_deflate_26 122 t.1 t.2.1 t.2.2) st]
      by_cases q3 : (ngN (MtM R p) p).1 < 3
      · rw [if_pos q3, if_pos q3]
        have s1 := sy_n (T := T) (x := R.1 p) h4
        exact ih (p + 1) (c + 1) _ (by omega) (by omega) (by omega) s1.2 (by omega)
      · rw [if_neg q3, if_neg q3]
        have s1 := df_1 hn hp h4 h5 q3
        exact ih _ (c + 1) _ (by omega) (by omega) (ng_n hp) s1.1 s1.2.2
theorem defl12 {s : e_S} {g : ps_G} {R : (Nat → Int32) × Nat} (hT : TbM s) (hR : RwM s R) : ∀ (m p : Nat) (T : ((Nat → Int32) × Nat) × Int32 × Nat), R.2 ≤ p + m → p ≤ R.2 → T.2.2 < 8 → bnV T ≤ 10 * p + 400 → q_lp (fun t => bX12_deflate_18 139 t.1 t.2) (Int32.ofNat p, e_g (bM s T) g) = some (e_g (bM s (dfT R m p T)) g) := by
  have hn := hR.1
  have e1 : ∀ T, (bM s T).1 139 75 = Int32.ofNat R.2 := fun T => (rwM_b hR (T := T)).2.1
  have fin : ∀ (p : Nat) (T : ((Nat → Int32) × Nat) × Int32 × Nat), R.2 ≤ p → p ≤ R.2 → q_lp (fun t => bX12_deflate_18 139 t.1 t.2) (Int32.ofNat p, e_g (bM s T) g) = some (e_g (bM s T) g) := by
    intro p T h1 h2
    refine lp_end ?_
    show bX12_deflate_18 _ _ _ = _
    unfold bX12_deflate_18
    rw [f139_75, e1, ob_n, if_pos ((n_le (by omega) (by omega)).mpr h1)]
  intro m
  induction m with
  | zero => exact fun p T h1 h3 h4 h5 => fin p T h1 h3
  | succ m ih =>
    intro p T h1 h3 h4 h5
    have u : dfT R (m + 1) p T = if R.2 ≤ p then T else if (ngN (MtM R p) p).1 < 3 then dfT R m (p + 1) (syV T (R.1 p)) else dfT R m (p + (ngN (MtM R p) p).1) (mdT (mlV T (ngN (MtM R p) p).1) (ngN (MtM R p) p).2) := rfl
    by_cases q : R.2 ≤ p
    · rw [u, if_pos q]
      exact fin p T q h3
    · have hp : p < R.2 := by omega
      have c2 : ¬ Int32.ofNat R.2 ≤ Int32.ofNat p := nle hp (by omega)
      have hRT := rwM_b hR (T := T)
      have hng := ng_i (M := MtM R p) mm_i p
      have nm := nearM (g := g) hRT hp
      by_cases q3 : (ngN (MtM R p) p).1 < 3
      · have st : bX12_deflate_18 139 (Int32.ofNat p) (e_g (bM s T) g) = some (.inl (Int32.ofNat (p + 1), e_g (bM s (syV T (R.1 p))) g)) := by
          unfold bX12_deflate_18
          have c3 : ¬ (3 : Int32) ≤ Int32.ofNat (ngN (MtM R p) p).1 := show ¬ Int32.ofNat 3 ≤ _ from nle (by omega) (by omega)
          have rd : q_aI (e_g (bM s T) g) 187 (Int32.ofNat p) = some (R.1 p) := by
            rw [a187, n_idx (by omega), if_neg (n_in2 (show p < 2400 by omega) (by decide)), hRT.2.2 p hp]
          rw [f139_75, e1, ob_n, if_neg c2, nm, ob_n]
          dsimp only
          rw [if_neg c3, f139_74, ob_n, ob_n, rd, ob_n, ob139, ob_n, outSymbol12 h4 (by omega), ob_n, n_suc]
        have s1 := sy_n (T := T) (x := R.1 p) h4
        rw [u, if_neg q, if_pos q3, lp_go (b := fun t => bX12_deflate_18 139 t.1 t.2) st]
        exact ih (p + 1) _ (by omega) (by omega) s1.2 (by omega)
      · have s1 := df_1 hn hp h4 h5 q3
        have n1 := ng_n (R := R) (p := p) hp
        have st : bX12_deflate_18 139 (Int32.ofNat p) (e_g (bM s T) g) = some (.inl (Int32.ofNat (p + (ngN (MtM R p) p).1), e_g (bM s (mdT (mlV T (ngN (MtM R p) p).1) (ngN (MtM R p) p).2)) g)) := by
          unfold bX12_deflate_18
          have c3 : (3 : Int32) ≤ Int32.ofNat (ngN (MtM R p) p).1 := show Int32.ofNat 3 ≤ _ from (n_le (by omega) (by omega)).mpr (by omega)
          rw [f139_75, e1, ob_n, if_neg c2, nm, ob_n]
          dsimp only
          rw [if_pos c3]
          generalize ngN (MtM R p) p = b at hng q3 n1 c3 ⊢
          obtain ⟨m1, d⟩ := b
          dsimp only at hng q3 n1 c3 ⊢
          have hd : 1 ≤ d ∧ d ≤ 2328 := by omega
          have i1 := (ix_i (B := tbV 2) (v := Int32.ofNat m1) 28).1
          have i2 := (ix_i (B := tbV 4) (v := Int32.ofNat d) 29).1
          have x1 := xb_3 (i := ixN (tbV 2) (Int32.ofNat m1) 28) (by omega)
          have x2 := xb_5 (i := ixN (tbV 4) (Int32.ofNat d) 29) (by omega)
          have sy := sy_n (T := T) (x := 257 + Int32.ofNat (ixN (tbV 2) (Int32.ofNat m1) 28)) h4
          have l0 := ml_n (m := m1) h4
          have cc := bn_c (v := Int32.ofNat (ixN (tbV 4) (Int32.ofNat d) 29)) 5 (mlV T m1) l0.2.2
          have d0 := md_n (d := d) l0.2.2 hd.2
          have d1 : bnV (mdT (mlV T m1) d) = bnV (cdV (Int32.ofNat (ixN (tbV 4) (Int32.ofNat d) 29)) (mlV T m1) 5) + xbV 5 (ixN (tbV 4) (Int32.ofNat d) 29) := (bn_l cc.2 _).1
          have t1 : tbV 2 0 ≤ Int32.ofNat m1 := show Int32.ofNat 3 ≤ _ from (n_le (by omega) (by omega)).mpr (by omega)
          have t2 : tbV 4 0 ≤ Int32.ofNat d := show Int32.ofNat 1 ≤ _ from (n_le (by omega) (by omega)).mpr hd.1
          have lA : q_lp (fun t => bX12_deflate_137 (e_g (bM s T) g) 139 (Int32.ofNat p) (Int32.ofNat m1) (Int32.ofNat d) t) 28 = some (Int32.ofNat (ixN (tbV 2) (Int32.ofNat m1) 28)) := ixl12 (tbM_b hT) t1 28 (by omega)
          have lB : q_lp (fun t => bX12_deflate_188 (e_g (bM s (mlV T m1)) g) 139 (Int32.ofNat p) (Int32.ofNat m1) (Int32.ofNat d) t) 29 = some (Int32.ofNat (ixN (tbV 4) (Int32.ofNat d) 29)) := ixd12 (tbM_b hT) t2 29 (by omega)
          have rA : ∀ T', q_aI (e_g (bM s T') g) 182 (Int32.ofNat (ixN (tbV 2) (Int32.ofNat m1) 28)) = some (tbV 2 (ixN (tbV 2) (Int32.ofNat m1) 28)) := fun T' => by
            rw [a182, n_idx (by omega), if_neg (n_in2 (show _ < 29 by omega) (by decide)), ((tbM_b hT (T := T')).1 _ (by omega)).1]
          have rB : ∀ T', q_aI (e_g (bM s T') g) 183 (Int32.ofNat (ixN (tbV 2) (Int32.ofNat m1) 28)) = some (tbV 3 (ixN (tbV 2) (Int32.ofNat m1) 28)) := fun T' => by
            rw [a183, n_idx (by omega), if_neg (n_in2 (show _ < 29 by omega) (by decide)), ((tbM_b hT (T := T')).1 _ (by omega)).2]
          have rD : ∀ T', q_aI (e_g (bM s T') g) 184 (Int32.ofNat (ixN (tbV 4) (Int32.ofNat d) 29)) = some (tbV 4 (ixN (tbV 4) (Int32.ofNat d) 29)) := fun T' => by
            rw [a184, n_idx (by omega), if_neg (n_in2 (show _ < 30 by omega) (by decide)), ((tbM_b hT (T := T')).2 _ (by omega)).1]
          have rE : ∀ T', q_aI (e_g (bM s T') g) 185 (Int32.ofNat (ixN (tbV 4) (Int32.ofNat d) 29)) = some (tbV 5 (ixN (tbV 4) (Int32.ofNat d) 29)) := fun T' => by
            rw [a185, n_idx (by omega), if_neg (n_in2 (show _ < 30 by omega) (by decide)), ((tbM_b hT (T := T')).2 _ (by omega)).2]
          have a5 : fX12_outCode (e_g (bM s (mlV T m1)) g) 139 (Int32.ofNat (ixN (tbV 4) (Int32.ofNat d) 29)) 5 = some (e_g (bM s (cdV (Int32.ofNat (ixN (tbV 4) (Int32.ofNat d) 29)) (mlV T m1) 5)) g) := outCode12 (n := 5) l0.2.2 (by omega)
          have a6 : fX12_outLow (e_g (bM s (syV T (257 + Int32.ofNat (ixN (tbV 2) (Int32.ofNat m1) 28)))) g) 139 (Int32.ofNat m1 - tbV 2 (ixN (tbV 2) (Int32.ofNat m1) 28)) (tbV 3 (ixN (tbV 2) (Int32.ofNat m1) 28)) = some (e_g (bM s (mlV T m1)) g) := by
            rw [x1.1]
            exact outLow12 sy.2 (by omega)
          have a7 : fX12_outLow (e_g (bM s (cdV (Int32.ofNat (ixN (tbV 4) (Int32.ofNat d) 29)) (mlV T m1) 5)) g) 139 (Int32.ofNat d - tbV 4 (ixN (tbV 4) (Int32.ofNat d) 29)) (tbV 5 (ixN (tbV 4) (Int32.ofNat d) 29)) = some (e_g (bM s (mdT (mlV T m1) d)) g) := by
            rw [x2.1]
            exact outLow12 cc.2 (by omega)
          rw [lA, ob_n, ob139, ob_n, outSymbol12 h4 (by omega), ob_n, f139_68, ob_n, ob_n, rA, ob_n, f139_69, ob_n, ob_n, rB, ob_n, ob139, ob_n, a6, ob_n, lB, ob_n, ob139, ob_n, a5, ob_n, f139_70, ob_n, ob_n, rD, ob_n, f139_71, ob_n, ob_n, rE, ob_n, ob139, ob_n, a7, ob_n, n_add]
        rw [u, if_neg q, if_neg q3, lp_go (b := fun t => bX12_deflate_18 139 t.1 t.2) st]
        exact ih _ _ (by omega) n1 s1.1 s1.2.2
