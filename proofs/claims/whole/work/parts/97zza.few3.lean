-- needs: 97zz
theorem and_M {x : Int32} (h : 0 ≤ x.toInt ∧ x.toInt ≤ 16777215) : x &&& 16777215 = x := by
  have hb : x.toBitVec.toNat ≤ 16777215 := by
    have := h.2
    have e : x.toInt = x.toBitVec.toInt := rfl
    rw [e] at h
    have e2 := BitVec.toInt_eq_toNat_cond x.toBitVec
    have lt := x.toBitVec.isLt
    rw [e2] at h
    split at h <;> omega
  apply Int32.toBitVec_inj.mp
  apply BitVec.eq_of_toNat_eq
  rw [Int32.toBitVec_and, BitVec.toNat_and]
  have e : (16777215 : Int32).toBitVec.toNat = 2 ^ 24 - 1 := by decide
  rw [e, Nat.and_two_pow_sub_one_eq_mod]
  exact Nat.mod_eq_of_lt (by omega)
theorem less_v {c v : Int32} {k : Nat} (hk : k < 3) (hc : 0 ≤ c.toInt ∧ c.toInt ≤ 16777215) (hv : 0 ≤ v.toInt ∧ v.toInt ≤ 16777215) : fX12_less c v (Int32.ofNat k) = if lssB k c v then 1 else 0 := by
  unfold fX12_less
  rw [part_v hk, part_v hk, and_M hc, and_M hv]
  by_cases q1 : vl k c = vl k v
  · rw [if_pos q1]
    by_cases q2 : v ≤ c
    · have n : ¬ lssB k c v = true := fun z => by
        rcases of_decide_eq_true z with z | z
        · rw [q1, i_lt] at z; omega
        · have := z.2; rw [i_lt] at this; rw [i_le] at q2; omega
      rw [if_pos q2, if_neg n]
    · have y : lssB k c v = true := decide_eq_true (Or.inr ⟨q1, by rw [i_le] at q2; rw [i_lt]; omega⟩)
      rw [if_neg q2, if_pos y]
  · rw [if_neg q1]
    by_cases q2 : vl k v ≤ vl k c
    · have n : ¬ lssB k c v = true := fun z => by
        rcases of_decide_eq_true z with z | z
        · rw [i_lt] at z; rw [i_le] at q2; omega
        · exact q1 z.1
      rw [if_pos q2, if_neg n]
    · have y : lssB k c v = true := decide_eq_true (Or.inl (by rw [i_le] at q2; rw [i_lt]; omega))
      rw [if_neg q2, if_pos y]
theorem sortl12 {s : e_S} {g : ps_G} {k fr al : Nat} {c x1 x4 : Int32} (hk : k < 3) (hal : al ≤ 576) (hc : 0 ≤ c.toInt ∧ c.toInt ≤ 16777215) : ∀ d R, fr + d < al → Sh R al → q_lp (fun t => bX12_sortBox_38 139 x1 (Int32.ofNat k) (Int32.ofNat fr) x4 c t.1 t.2) (Int32.ofNat (fr + d), e_g (sA s 175 R) g) = some (Int32.ofNat (siN k c fr d R).1, e_g (sA s 175 (siN k c fr d R).2) g) := by
  intro d
  induction d with
  | zero =>
    intro R hd hS
    refine lp_end ?_
    show bX12_sortBox_38 _ _ _ _ _ _ _ _ = _
    unfold bX12_sortBox_38
    dsimp only
    rw [Nat.add_zero, if_pos (nlr (by omega))]
    rfl
  | succ d ih =>
    intro R hd hS
    have c0 : ¬ Int32.ofNat (fr + (d + 1)) ≤ Int32.ofNat fr := nle (by omega) (by omega)
    have rd : q_aI (e_g (sA s 175 R) g) 175 (Int32.ofNat (fr + d)) = some (R (fr + d)) := by
      rw [a175, n_idx (by omega), if_neg (n_in2 (show fr + d < 576 by omega) (by decide)), A_sA, if_pos rfl]
    have ls := less_v (c := c) (v := R (fr + d)) hk hc (hS _ (by omega))
    by_cases q : lssB k c (R (fr + d))
    · have e : siN k c fr (d + 1) R = siN k c fr d (upd R (fr + d + 1) (R (fr + d))) := if_pos q
      rw [if_pos q] at ls
      have st : bX12_sortBox_38 139 x1 (Int32.ofNat k) (Int32.ofNat fr) x4 c (Int32.ofNat (fr + (d + 1))) (e_g (sA s 175 R) g) = some (.inl (Int32.ofNat (fr + d), e_g (sA s 175 (upd R (fr + d + 1) (R (fr + d)))) g)) := by
        unfold bX12_sortBox_38
        rw [if_neg c0, ← Nat.add_assoc, f139_61, ob_n, ob_n, pm1.1, rd, ob_n, ls, if_neg (by decide), ob_n, ob_n, ob_n, ob_n, rd, ob_n, u175, n_idx (by omega), if_neg (n_in2 (show fr + d + 1 < 576 by omega) (by decide)), ob_n, pm1.2, A_sA, if_pos rfl, sA_sA]
      rw [e, lp_go (b := fun t => bX12_sortBox_38 139 x1 (Int32.ofNat k) (Int32.ofNat fr) x4 c t.1 t.2) (s := (Int32.ofNat (fr + (d + 1)), e_g (sA s 175 R) g)) st]
      exact ih _ (by omega) (sh_u hS (hS _ (by omega)))
    · have e : siN k c fr (d + 1) R = (fr + d + 1, R) := if_neg q
      rw [if_neg q] at ls
      rw [e]
      refine lp_end ?_
      show bX12_sortBox_38 _ _ _ _ _ _ _ _ = _
      unfold bX12_sortBox_38
      dsimp only
      rw [if_neg c0, ← Nat.add_assoc, f139_61, ob_n, ob_n, pm1.1, rd, ob_n, ls, if_pos rfl]
theorem sort12 {s : e_S} {g : ps_G} {k n al b : Nat} {Fr Mn : Nat → Nat} (hB : BxO (s.2.1 176) (s.2.1 177) n al Fr Mn) (hS : Sh (s.2.1 175) al) (hb : b < n) (hk : k < 3) : fX12_sortBox (e_g s g) 139 (Int32.ofNat b) (Int32.ofNat k) = some (e_g (sA s 175 (soN k (Fr b) (s.2.1 175) (Mn b - 1))) g) := by
  obtain ⟨h1, h2, h3⟩ := hB
  obtain ⟨c1, c2, c3, c4⟩ := h3 b hb
  generalize Fr b = fr at *
  generalize Mn b = m at *
  have so := so_sh (k := k) hS c3
  have rf : q_aI (e_g s g) 176 (Int32.ofNat b) = some (Int32.ofNat fr) := by
    rw [a176, n_idx (by omega), if_neg (n_in2 (show b < 16 by omega) (by decide)), c1]
  have rm : ∀ R, q_aI (e_g (sA s 175 R) g) 177 (Int32.ofNat b) = some (Int32.ofNat m) := fun R => by
    rw [a177, n_idx (by omega), if_neg (n_in2 (show b < 16 by omega) (by decide)), A_sA, if_neg (by decide), c2]
  have lp := lp_0 (b := fun t => bX12_sortBox_12 139 (Int32.ofNat b) (Int32.ofNat k) (Int32.ofNat fr) t.1 t.2) (s := (Int32.ofNat (fr + 1), e_g s g)) (r := e_g (sA s 175 (soN k fr (s.2.1 175) (m - 1))) g) (fun j => (Int32.ofNat (fr + j + 1), e_g (sA s 175 (soN k fr (s.2.1 175) j)) g)) (m - 1) ?_ (fun j hj => ?_) ?_
  · unfold fX12_sortBox
    rw [f139_62, ob_n, ob_n, rf, ob_n, n_suc, lp, ob_n]
  · show _ = (_, e_g (sA s 175 (s.2.1 175)) g)
    rw [sA_id]
  · have hR' := so j (by omega)
    generalize hR : soN k fr (s.2.1 175) j = R at hR'
    have rd : q_aI (e_g (sA s 175 R) g) 175 (Int32.ofNat (fr + j + 1)) = some (R (fr + j + 1)) := by
      rw [a175, n_idx (by omega), if_neg (n_in2 (show fr + j + 1 < 576 by omega) (by decide)), A_sA, if_pos rfl]
    have si := sortl12 (s := s) (g := g) (k := k) (fr := fr) (al := al) (c := R (fr + j + 1)) (x1 := Int32.ofNat b) (x4 := Int32.ofNat (fr + j + 1)) hk h1 (hR' _ (by omega)) (j + 1) R (by omega) hR'
    have sp := si_p (k := k) (fr := fr) (c := R (fr + j + 1)) (j + 1) R
    have es : soN k fr (s.2.1 175) (j + 1) = in1 k (R (fr + j + 1)) fr (j + 1) R := by rw [← hR]; rfl
    have ei : fr + (j + 1) = fr + j + 1 := by omega
    rw [ei] at si
    show bX12_sortBox_12 _ _ _ _ _ _ = _
    unfold bX12_sortBox_12 jX12_sortBox_84_12
    dsimp only
    rw [f139_63, ob_n, ob_n, rm, ob_n, n_add, if_neg (nle (by omega) (by omega)), f139_61, ob_n, ob_n, rd, ob_n, si, ob_n, f139_61, ob_n, ob_n, u175, n_idx (by omega), if_neg (n_in2 (show (siN k (R (fr + j + 1)) fr (j + 1) R).1 < 576 by omega) (by decide)), ob_n, n_suc, A_sA, if_pos rfl, sA_sA, es]
    rfl
  · show bX12_sortBox_12 _ _ _ _ _ _ = _
    unfold bX12_sortBox_12
    dsimp only
    rw [f139_63, ob_n, ob_n, rm, ob_n, n_add, if_pos (by rw [show fr + (m - 1) + 1 = fr + m by omega]; exact nlr (by omega))]
