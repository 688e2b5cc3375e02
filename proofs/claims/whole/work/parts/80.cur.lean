-- needs: 07 10 13 14 20 21 22 23 24 25 26 27 32 38 52 53 54 70 73
/-! ===== CURVES: what a curve makes of a part ===== -/
def lc (x : Nat → Int32) (v : Int32) : Nat → Nat → Nat
  | 0, i => i
  | m + 1, i => if v < x i then i else lc x v m (i + 1)
theorem lc_p {x : Nat → Int32} {v : Int32} : ∀ m i, i ≤ lc x v m i ∧ lc x v m i ≤ i + m ∧ (∀ j, i ≤ j → j < lc x v m i → ¬ v < x j) ∧ (lc x v m i < i + m → v < x (lc x v m i))
  | 0, i => ⟨Nat.le_refl _, Nat.le_refl _, fun j h1 h2 => absurd h2 (by show ¬ j < i; omega), fun h => absurd h (by show ¬ i < i + 0; omega)⟩
  | m + 1, i => by
    by_cases h : v < x i
    · have e : lc x v (m + 1) i = i := if_pos h
      rw [e]
      exact ⟨Nat.le_refl _, by omega, fun j h1 h2 => absurd h2 (by omega), fun _ => h⟩
    · have e : lc x v (m + 1) i = lc x v m (i + 1) := if_neg h
      obtain ⟨p1, p2, p3, p4⟩ := lc_p (x := x) (v := v) m (i + 1)
      rw [e]
      refine ⟨by omega, by omega, fun j h1 h2 => ?_, fun h2 => p4 (by omega)⟩
      by_cases q : j = i
      · rw [q]; exact h
      · exact p3 j (by omega) h2
theorem lc_c {x x' : Nat → Int32} {v : Int32} : ∀ m i, (∀ j, i ≤ j → j < i + m → x j = x' j) → lc x v m i = lc x' v m i
  | 0, _, _ => rfl
  | m + 1, i, h => by
    show (if v < x i then i else lc x v m (i + 1)) = if v < x' i then i else lc x' v m (i + 1)
    rw [h i (Nat.le_refl _) (by omega), lc_c m (i + 1) (fun j h1 h2 => h j (by omega) (by omega))]
noncomputable def crF (X Y : Nat → Int32) (c j : Nat) (v : Int32) : Int32 := Y (8 * c + (j - 1)) + (Y (8 * c + j) - Y (8 * c + (j - 1))) * (v - X (8 * c + (j - 1))) / (X (8 * c + j) - X (8 * c + (j - 1)))
def crJ (M X : Nat → Int32) (c : Nat) (v : Int32) : Nat := lc (fun i => X (8 * c + i)) v (M c).toInt.toNat 0
noncomputable def crV (M X Y : Nat → Int32) (c : Nat) (v : Int32) : Int32 := if M c = 0 then v else if crJ M X c v = 0 then Y (8 * c) else if crJ M X c v = (M c).toInt.toNat then Y (8 * c + (crJ M X c v - 1)) else crF X Y c (crJ M X c v) v
def CuN (M X Y : Nat → Int32) : Prop := ∀ c, c < 32 → ∃ n : Nat, n ≤ 8 ∧ M c = Int32.ofNat n ∧ ∀ k, k < n → rg (X (8 * c + k)) 0 255 ∧ rg (Y (8 * c + k)) 0 255 ∧ (0 < k → X (8 * c + (k - 1)) < X (8 * c + k))
theorem cuN_4 {s : e_S} (h : G4 s) : CuN (s.2.1 152) (s.2.1 153) (s.2.1 154) := by
  intro c hc
  obtain ⟨_, n, hn, e, h2⟩ := h c hc
  refine ⟨n, hn, e, fun k hk => ⟨(h2 k hk).2.2.1, (h2 k hk).2.2.2.1, fun h0 => ?_⟩⟩
  have := (h2 k hk).2.2.2.2 h0
  rwa [show 8 * c + k - 1 = 8 * c + (k - 1) by omega] at this
theorem cuN_5 {s : e_S} (h : G4 s) : CuN (s.2.1 17) (s.2.1 15) (s.2.1 16) := by
  intro c hc
  obtain ⟨e0, n, hn, e, h2⟩ := h c hc
  refine ⟨n, hn, e0.trans e, fun k hk => ⟨?_, ?_, fun h0 => ?_⟩⟩
  · rw [(h2 k hk).1]; exact (h2 k hk).2.2.1
  · rw [(h2 k hk).2.1]; exact (h2 k hk).2.2.2.1
  · have := (h2 k hk).2.2.2.2 h0
    rw [show 8 * c + k - 1 = 8 * c + (k - 1) by omega] at this
    rw [(h2 k hk).1, (h2 (k - 1) (by omega)).1]; exact this
theorem crV_4 {s : e_S} (h : G4 s) {c : Nat} (hc : c < 32) {v : Int32} : crV (s.2.1 17) (s.2.1 15) (s.2.1 16) c v = crV (s.2.1 152) (s.2.1 153) (s.2.1 154) c v := by
  obtain ⟨e0, n, hn, e, h2⟩ := h c hc
  have en : (s.2.1 152 c).toInt.toNat = n := by rw [e, n_int (by omega), Int.toNat_natCast]
  have ej : crJ (s.2.1 17) (s.2.1 15) c v = crJ (s.2.1 152) (s.2.1 153) c v := by
    unfold crJ
    rw [e0, en]
    exact lc_c n 0 (fun j _ hj => (h2 j (by omega)).1)
  have hj : crJ (s.2.1 152) (s.2.1 153) c v ≤ n := by
    have := (lc_p (x := fun i => s.2.1 153 (8 * c + i)) (v := v) n 0).2.1
    unfold crJ; rw [en]; omega
  unfold crV
  rw [ej, e0, en]
  generalize crJ (s.2.1 152) (s.2.1 153) c v = j at hj
  by_cases z : s.2.1 152 c = 0
  · rw [if_pos z, if_pos z]
  have zn : ¬ n = 0 := fun q => z (by rw [e, q]; rfl)
  rw [if_neg z, if_neg z]
  by_cases z1 : j = 0
  · rw [if_pos z1, if_pos z1]; exact (h2 0 (by omega)).2.1
  rw [if_neg z1, if_neg z1, (h2 (j - 1) (by omega)).2.1]
  by_cases z2 : j = n
  · rw [if_pos z2, if_pos z2]
  rw [if_neg z2, if_neg z2]
  unfold crF
  rw [(h2 (j - 1) (by omega)).2.1, (h2 j (by omega)).2.1, (h2 (j - 1) (by omega)).1, (h2 j (by omega)).1]
theorem sub_nz {a b : Int32} (h : b < a) : ¬ a - b = 0 := by
  intro e
  have := Int32.sub_add_cancel a b
  rw [e, Int32.zero_add] at this
  rw [this, i_lt] at h
  omega
theorem r8 {c k : Nat} : (8 : Int32) * Int32.ofNat c + Int32.ofNat k = Int32.ofNat (8 * c + k) := by
  show Int32.ofNat 8 * Int32.ofNat c + _ = _
  rw [n_mul, n_add]
theorem r8z {c : Nat} : (8 : Int32) * Int32.ofNat c = Int32.ofNat (8 * c) := by
  show Int32.ofNat 8 * Int32.ofNat c = _
  rw [n_mul]
theorem r8m {c k : Nat} (hk : 1 ≤ k) (hh : 8 * c + k < 2147483648) : Int32.ofNat (8 * c + k) - 1 = Int32.ofNat (8 * c + (k - 1)) := by
  show _ - Int32.ofNat 1 = _
  rw [n_sub (by omega) hh]
  congr 1; omega
theorem ex_div {a b : Int32} (ha : -255 ≤ a.toInt ∧ a.toInt ≤ 255) (hb : 0 < b.toInt ∧ b.toInt ≤ 255) : a * b / b = a := by
  have e : (a * b).toInt = a.toInt * b.toInt := by
    have h1 : a.toInt * b.toInt ≤ 255 * 255 := by
      calc a.toInt * b.toInt ≤ 255 * b.toInt := Int.mul_le_mul_of_nonneg_right ha.2 (by omega)
        _ ≤ 255 * 255 := by omega
    have h2 : -(255 * 255) ≤ a.toInt * b.toInt := by
      calc (-(255 * 255) : Int) ≤ (-255) * b.toInt := by omega
        _ ≤ a.toInt * b.toInt := Int.mul_le_mul_of_nonneg_right ha.1 (by omega)
    exact i_mul (by omega) (by omega)
  rw [i_eq, i_div (by omega), e, Int.mul_tdiv_cancel _ (by omega)]
theorem curveAt12 {s : e_S} {g : ps_G} {c : Nat} {v : Int32} (h : CuN (s.2.1 152) (s.2.1 153) (s.2.1 154)) (hc : c < 32) : fX12_curveAt (e_g s g) 139 (Int32.ofNat c) v = some (crV (s.2.1 152) (s.2.1 153) (s.2.1 154) c v) := by
  obtain ⟨n, hn, e, h2⟩ := h c hc
  have en : (s.2.1 152 c).toInt.toNat = n := by rw [e, n_int (by omega), Int.toNat_natCast]
  have r1 : q_aI (e_g s g) 152 (Int32.ofNat c) = some (Int32.ofNat n) := by rw [a152, n_idx (by omega), if_neg (n_in2 hc (by decide)), e]
  have r2 : ∀ k, k < 256 → q_aI (e_g s g) 153 (Int32.ofNat k) = some (s.2.1 153 k) := fun k hk => by rw [a153, n_idx (by omega), if_neg (n_in2 hk (by decide))]
  have r3 : ∀ k, k < 256 → q_aI (e_g s g) 154 (Int32.ofNat k) = some (s.2.1 154 k) := fun k hk => by rw [a154, n_idx (by omega), if_neg (n_in2 hk (by decide))]
  unfold fX12_curveAt crV
  rw [f139_28, ob_n, ob_n, r1, ob_n]
  by_cases z : n = 0
  · subst z
    rw [if_neg (fun q => q rfl), if_pos (by rw [e]; rfl)]
  have z' : ¬ Int32.ofNat n = 0 := by
    rw [show (0 : Int32) = Int32.ofNat 0 from rfl, n_eq (by omega) (by omega)]; exact z
  rw [if_pos z', if_neg (by rw [e]; exact z'), f139_29, ob_n, ob_n, r8z, r2 _ (by omega), ob_n, en]
  obtain ⟨_, q2, q3, q4⟩ := lc_p (x := fun i => s.2.1 153 (8 * c + i)) (v := v) n 0
  have ej : crJ (s.2.1 152) (s.2.1 153) c v = lc (fun i => s.2.1 153 (8 * c + i)) v n 0 := by unfold crJ; rw [en]
  rw [ej]
  generalize lc (fun i => s.2.1 153 (8 * c + i)) v n 0 = j at q2 q3 q4
  -- the loop, where it ends at place e
  have loop : ∀ t, 1 ≤ t → t ≤ n → (∀ i, i < t → s.2.1 153 (8 * c + i) < v) → (t < n → v ≤ s.2.1 153 (8 * c + t)) → q_lp (fun u => bX12_curveAt_39 (e_g s g) 139 (Int32.ofNat c) v (Int32.ofNat n) u) (1 : Int32) = some (if t < n then .inr (crF (s.2.1 153) (s.2.1 154) c t v) else .inl ()) := by
    intro t t1 t2 t3 t4
    refine lp_0 (fun i => Int32.ofNat (i + 1)) (t - 1) rfl (fun i hi => ?_) ?_
    · have a1 : ¬ Int32.ofNat n ≤ Int32.ofNat (i + 1) := nle (by omega) (by omega)
      have a2 : ¬ v ≤ s.2.1 153 (8 * c + (i + 1)) := by
        have := t3 (i + 1) (by omega)
        rw [i_lt] at this
        rw [i_le]; omega
      show bX12_curveAt_39 _ _ _ _ _ _ = _
      simp (decide := true) only [bX12_curveAt_39, a1, f139_29, r8m (show 1 ≤ i + 1 by omega) (show 8 * c + (i + 1) < 2147483648 by omega), r8, r2 (8 * c + (i + 1 - 1)) (by omega), r2 (8 * c + (i + 1)) (by omega), a2, reduceIte, ob_n]
      exact congrArg (fun z => some (Sum.inl z)) (n_add (m := 1))
    · rw [show t - 1 + 1 = t by omega]
      show bX12_curveAt_39 _ _ _ _ _ _ = _
      by_cases tn : t < n
      · have a1 : ¬ Int32.ofNat n ≤ Int32.ofNat t := nle tn (by omega)
        have a2 := t4 tn
        have a3 := sub_nz ((h2 t tn).2.2 (by omega))
        simp (decide := true) only [bX12_curveAt_39, a1, f139_29, f139_30, r8m t1 (show 8 * c + t < 2147483648 by omega), r8, r2 (8 * c + (t - 1)) (by omega), r2 (8 * c + t) (by omega), r3 (8 * c + (t - 1)) (by omega), r3 (8 * c + t) (by omega), a2, q_div, a3, tn, reduceIte, ob_n, crF]
      · have : t = n := by omega
        subst this
        simp (decide := true) only [bX12_curveAt_39, nlr (show t < 2147483648 by omega), tn, reduceIte]
  have tail : ∀ r : Unit ⊕ Int32, (Sum.elim (fun r29 => Option.bind (q_fR 12 30 (e_g s g) 139) fun v30 => Option.bind (v30) fun a31 => Option.bind (q_aI (e_g s g) a31 (Int32.ofNat (8 * c) + Int32.ofNat n - (1 : Int32))) fun v32 => some v32) (fun v33 => some v33) r : Option Int32) = some (Sum.elim (fun _ => s.2.1 154 (8 * c + (n - 1))) id r) := by
    intro r
    cases r with
    | inl u => simp (decide := true) only [Sum.elim_inl, f139_30, n_add, r8m (show 1 ≤ n by omega) (show 8 * c + n < 2147483648 by omega), r3 (8 * c + (n - 1)) (by omega), ob_n]
    | inr u => rfl
  by_cases zj : j = 0
  · subst zj
    have : v < s.2.1 153 (8 * c) := q4 (by omega)
    rw [if_pos rfl, if_neg (show ¬ s.2.1 153 (8 * c) < v by rw [i_lt] at this ⊢; omega), f139_30, ob_n, ob_n, r3 _ (by omega), ob_n]
  rw [if_neg zj]
  have inc : ∀ m i, i + m < n → s.2.1 153 (8 * c + i) < s.2.1 153 (8 * c + (i + m)) ∨ m = 0 := by
    intro m i
    induction m with
    | zero => intro _; exact Or.inr rfl
    | succ m ih =>
      intro hm
      left
      have a := (h2 (i + (m + 1)) (by omega)).2.2 (by omega)
      rw [show i + (m + 1) - 1 = i + m by omega] at a
      rcases ih (by omega) with b | b
      · rw [i_lt] at a b ⊢; omega
      · subst b; exact a
  have le1 : ¬ v < s.2.1 153 (8 * c + (j - 1)) := q3 (j - 1) (by omega) (by omega)
  by_cases ve : v = s.2.1 153 (8 * c + (j - 1))
  · -- exactly at a point
    have fin : (if j = n then s.2.1 154 (8 * c + (j - 1)) else crF (s.2.1 153) (s.2.1 154) c j v) = s.2.1 154 (8 * c + (j - 1)) := by
      by_cases jn : j = n
      · rw [if_pos jn]
      · rw [if_neg jn]
        unfold crF
        rw [ve, Int32.sub_self, Int32.mul_zero]
        have : (0 : Int32) / (s.2.1 153 (8 * c + j) - s.2.1 153 (8 * c + (j - 1))) = 0 := Int32.zero_div
        rw [this, Int32.add_zero]
    rw [fin]
    by_cases j1 : j = 1
    · subst j1
      rw [if_neg (show ¬ s.2.1 153 (8 * c) < v by rw [ve, i_lt]; show ¬ (s.2.1 153 (8 * c)).toInt < (s.2.1 153 (8 * c)).toInt; omega), f139_30, ob_n, ob_n, r3 _ (by omega), ob_n]
      rfl
    · have lt0 : s.2.1 153 (8 * c) < v := by
        rcases inc (j - 1) 0 (by omega) with a | a
        · rw [ve]; rwa [show 0 + (j - 1) = j - 1 by omega] at a
        · omega
      rw [if_pos lt0, loop (j - 1) (by omega) (by omega) (fun i hi => ?_) (fun _ => by rw [ve, i_le]; omega), ob_n, tail, if_pos (show j - 1 < n by omega)]
      · show some (crF _ _ c (j - 1) v) = _
        unfold crF
        have a := h2 (j - 1) (by omega)
        have b := h2 (j - 1 - 1) (by omega)
        have a1 := rg_i.mp a.1
        have a2 := rg_i.mp a.2.1
        have b1 := rg_i.mp b.1
        have b2 := rg_i.mp b.2.1
        have c1 : (0 : Int32).toInt = 0 := rfl
        have c2 : (255 : Int32).toInt = 255 := rfl
        have d := a.2.2 (by omega)
        rw [c1, c2] at a1 a2 b1 b2
        rw [i_lt] at d
        rw [ve, ex_div (by rw [i_sub (by omega) (by omega)]; omega) (by rw [i_sub (by omega) (by omega)]; omega)]
        rw [Int32.add_comm, Int32.sub_add_cancel]
      · rcases inc (j - 1 - i) i (by omega) with a | a
        · rw [ve]; rwa [show i + (j - 1 - i) = j - 1 by omega] at a
        · omega
  · have gt : ∀ i, i < j → s.2.1 153 (8 * c + i) < v := by
      intro i hi
      have := q3 i (by omega) hi
      by_cases q : i = j - 1
      · subst q
        rw [i_lt] at this ⊢
        have n2 : ¬ v.toInt = (s.2.1 153 (8 * c + (j - 1))).toInt := fun q => ve (i_eq.mpr q)
        omega
      · rcases inc (j - 1 - i) i (by omega) with a | a
        · rw [show i + (j - 1 - i) = j - 1 by omega] at a
          rw [i_lt] at a le1 ⊢; omega
        · omega
    rw [if_pos (show s.2.1 153 (8 * c) < v from gt 0 (by omega)), loop j (by omega) (by omega) gt (fun hj => by have := q4 (by omega); rw [i_lt] at this; rw [i_le]; omega), ob_n, tail]
    by_cases jn : j = n
    · rw [if_pos jn, if_neg (by omega), jn]; rfl
    · rw [if_neg jn, if_pos (by omega)]; rfl
theorem bent5 {s : e_S} {g : ps_G} {c : Nat} {v : Int32} (h : CuN (s.2.1 17) (s.2.1 15) (s.2.1 16)) (hc : c < 32) : fX5_bent (e_g s g) 14 (Int32.ofNat c) v = some (crV (s.2.1 17) (s.2.1 15) (s.2.1 16) c v) := by
  obtain ⟨n, hn, e, h2⟩ := h c hc
  have en : (s.2.1 17 c).toInt.toNat = n := by rw [e, n_int (by omega), Int.toNat_natCast]
  have r1 : q_aI (e_g s g) 17 (Int32.ofNat c) = some (Int32.ofNat n) := by rw [a17, n_idx (by omega), if_neg (n_in2 hc (by decide)), e]
  have r2 : ∀ k, k < 256 → q_aI (e_g s g) 15 (Int32.ofNat k) = some (s.2.1 15 k) := fun k hk => by rw [a15, n_idx (by omega), if_neg (n_in2 hk (by decide))]
  have r3 : ∀ k, k < 256 → q_aI (e_g s g) 16 (Int32.ofNat k) = some (s.2.1 16 k) := fun k hk => by rw [a16, n_idx (by omega), if_neg (n_in2 hk (by decide))]
  have c8 : Int32.ofNat c * 8 = Int32.ofNat (8 * c) := by
    show Int32.ofNat c * Int32.ofNat 8 = _
    rw [n_mul, Nat.mul_comm]
  unfold fX5_bent crV
  rw [f14_2, ob_n, ob_n, r1, ob_n]
  by_cases z : n = 0
  · subst z
    rw [if_neg (by decide), if_pos (by rw [e]; rfl)]
  have z' : ¬ Int32.ofNat n = 0 := by
    rw [show (0 : Int32) = Int32.ofNat 0 from rfl, n_eq (by omega) (by omega)]; exact z
  have z2 : (0 : Int32) < Int32.ofNat n := by
    show Int32.ofNat 0 < _
    rw [n_lt (by omega) (by omega)]; omega
  rw [if_pos z2, if_neg (by rw [e]; exact z'), c8, en]
  obtain ⟨_, q2, q3, q4⟩ := lc_p (x := fun i => s.2.1 15 (8 * c + i)) (v := v) n 0
  have ej : crJ (s.2.1 17) (s.2.1 15) c v = lc (fun i => s.2.1 15 (8 * c + i)) v n 0 := by unfold crJ; rw [en]
  rw [ej]
  generalize lc (fun i => s.2.1 15 (8 * c + i)) v n 0 = j at q2 q3 q4
  have loop : q_lp (fun u => bX5_bent_23 (e_g s g) 14 v (Int32.ofNat (8 * c)) (Int32.ofNat n) u) (0 : Int32) = some (Int32.ofNat j) := by
    refine lp_0 (fun i => Int32.ofNat i) j rfl (fun i hi => ?_) ?_
    · have a1 : ¬ (Int32.ofNat n ≤ Int32.ofNat i ∨ (8 : Int32) ≤ Int32.ofNat i) := by
        rw [show (8 : Int32) = Int32.ofNat 8 from rfl, n_le (by omega) (by omega), n_le (by omega) (by omega)]; omega
      have a2 : ¬ v < s.2.1 15 (8 * c + i) := q3 i (by omega) hi
      show bX5_bent_23 _ _ _ _ _ _ = _
      unfold bX5_bent_23
      rw [if_neg a1, f14_0, ob_n, ob_n, n_add, r2 _ (by omega), ob_n, if_neg a2]
      exact congrArg (fun z => some (Sum.inl z)) (n_add (m := 1))
    · show bX5_bent_23 _ _ _ _ _ _ = _
      unfold bX5_bent_23
      by_cases jn : j = n
      · rw [if_pos (Or.inl (by rw [jn]; exact nlr (by omega)))]
      · have a1 : ¬ (Int32.ofNat n ≤ Int32.ofNat j ∨ (8 : Int32) ≤ Int32.ofNat j) := by
          rw [show (8 : Int32) = Int32.ofNat 8 from rfl, n_le (by omega) (by omega), n_le (by omega) (by omega)]; omega
        rw [if_neg a1, f14_0, ob_n, ob_n, n_add, r2 _ (by omega), ob_n, if_pos (q4 (by omega))]
  rw [loop, ob_n]
  unfold jX5_bent_56
  by_cases zj : j = 0
  · subst zj
    rw [if_neg (fun q => q rfl), if_pos rfl, f14_1, ob_n, ob_n, r3 _ (by omega), ob_n]
  have zj' : ¬ Int32.ofNat j = 0 := by
    rw [show (0 : Int32) = Int32.ofNat 0 from rfl, n_eq (by omega) (by omega)]; exact zj
  rw [if_pos zj', if_neg zj, n_add, r8m (by omega) (by omega), f14_0, ob_n, ob_n, r2 _ (by omega), ob_n, f14_1, ob_n, ob_n, r3 _ (by omega), ob_n]
  by_cases jn : j = n
  · rw [if_pos (by rw [jn]; exact nlr (by omega)), if_pos jn]
    rfl
  · have a := (h2 j (by omega)).2.2 (by omega)
    have a3 := sub_nz a
    rw [if_neg (show ¬ Int32.ofNat n ≤ Int32.ofNat j from nle (by omega) (by omega)), if_neg jn]
    simp (decide := true) only [r2 _ (show 8 * c + j < 256 by omega), r3 _ (show 8 * c + j < 256 by omega), a, q_div, a3, reduceIte, ob_n, crF]
/-- a colour by the curves of one number -/
noncomputable def cuV (M X Y : Nat → Int32) (k : Nat) (c : Int32) : Int32 := fX11_pack (q_ush c 24) (crV M X Y (4 * k + 3) (crV M X Y (4 * k) (fX11_red c))) (crV M X Y (4 * k + 3) (crV M X Y (4 * k + 1) (fX11_green c))) (crV M X Y (4 * k + 3) (crV M X Y (4 * k + 2) (fX11_blue c)))
theorem cuV_4 {s : e_S} (h : G4 s) {k : Nat} (hk : k < 8) {c : Int32} : cuV (s.2.1 17) (s.2.1 15) (s.2.1 16) k c = cuV (s.2.1 152) (s.2.1 153) (s.2.1 154) k c := by
  unfold cuV
  simp (decide := true) only [crV_4 h (show 4 * k < 32 by omega), crV_4 h (show 4 * k + 1 < 32 by omega), crV_4 h (show 4 * k + 2 < 32 by omega), crV_4 h (show 4 * k + 3 < 32 by omega)]
theorem byCurve5 {s : e_S} {g : ps_G} {k : Nat} {c : Int32} (h : CuN (s.2.1 17) (s.2.1 15) (s.2.1 16)) (hk : k < 8) : fX5_byCurve (e_g s g) 14 (Int32.ofNat k) c = some (cuV (s.2.1 17) (s.2.1 15) (s.2.1 16) k c) := by
  have w : fX11_within (Int32.ofNat k) 0 7 = Int32.ofNat k := within_n (a := 0) (b := 7) (by omega) (by omega) (by omega)
  have m : Int32.ofNat k * 4 = Int32.ofNat (4 * k) := by
    show Int32.ofNat k * Int32.ofNat 4 = _
    rw [n_mul, Nat.mul_comm]
  have m1 : Int32.ofNat (4 * k) + 1 = Int32.ofNat (4 * k + 1) := n_add (m := 1)
  have m2 : Int32.ofNat (4 * k) + 2 = Int32.ofNat (4 * k + 2) := n_add (m := 2)
  have m3 : Int32.ofNat (4 * k) + 3 = Int32.ofNat (4 * k + 3) := n_add (m := 3)
  unfold fX5_byCurve cuV
  simp (decide := true) only [ob14, w, m, m1, m2, m3, ob_n, bent5 h (show 4 * k < 32 by omega), bent5 h (show 4 * k + 1 < 32 by omega), bent5 h (show 4 * k + 2 < 32 by omega), bent5 h (show 4 * k + 3 < 32 by omega)]
theorem part12 {c : Int32} : fX12_part c 0 = fX11_red c ∧ fX12_part c 1 = fX11_green c ∧ fX12_part c 2 = fX11_blue c := by
  refine ⟨?_, ?_, ?_⟩
  · show (if ¬ (0 : Int32) = 3 then _ else _) = _
    rw [if_pos (by decide), z_160]; rfl
  · show (if ¬ (1 : Int32) = 3 then _ else _) = _
    rw [if_pos (by decide), z_161]; rfl
  · show (if ¬ (2 : Int32) = 3 then _ else _) = _
    rw [if_pos (by decide), z_162, shr_0]; rfl
theorem curved12 {s : e_S} {g : ps_G} {k : Nat} {c : Int32} (h : CuN (s.2.1 152) (s.2.1 153) (s.2.1 154)) (hk : k < 8) : fX12_curved (e_g s g) 139 c (Int32.ofNat k) = some (cuV (s.2.1 152) (s.2.1 153) (s.2.1 154) k c) := by
  have m0 : (4 : Int32) * Int32.ofNat k + 0 = Int32.ofNat (4 * k) := by
    show Int32.ofNat 4 * _ + Int32.ofNat 0 = _
    rw [n_mul, n_add]; rfl
  have m1 : (4 : Int32) * Int32.ofNat k + 1 = Int32.ofNat (4 * k + 1) := by
    show Int32.ofNat 4 * _ + Int32.ofNat 1 = _
    rw [n_mul, n_add]
  have m2 : (4 : Int32) * Int32.ofNat k + 2 = Int32.ofNat (4 * k + 2) := by
    show Int32.ofNat 4 * _ + Int32.ofNat 2 = _
    rw [n_mul, n_add]
  have m3 : (4 : Int32) * Int32.ofNat k + 3 = Int32.ofNat (4 * k + 3) := by
    show Int32.ofNat 4 * _ + Int32.ofNat 3 = _
    rw [n_mul, n_add]
  unfold fX12_curved
  have z0 : ¬ (3 : Int32) ≤ 0 := by decide
  have z1 : ¬ (3 : Int32) ≤ 1 := by decide
  have z2 : ¬ (3 : Int32) ≤ 2 := by decide
  have z3 : (3 : Int32) ≤ 3 := by decide
  rw [lp_go (s' := (q_shl (fX12_alpha c) 24 ||| q_shl (crV (s.2.1 152) (s.2.1 153) (s.2.1 154) (4 * k + 3) (crV (s.2.1 152) (s.2.1 153) (s.2.1 154) (4 * k) (fX11_red c))) 16, 1)) (by
    simp (decide := true) only [bX12_curved_11, z0, reduceIte, ob139, m0, m3, part12.1, curveAt12 h (show 4 * k < 32 by omega), curveAt12 h (show 4 * k + 3 < 32 by omega), ob_n, z_160, z_01])]
  rw [lp_go (s' := (q_shl (fX12_alpha c) 24 ||| q_shl (crV (s.2.1 152) (s.2.1 153) (s.2.1 154) (4 * k + 3) (crV (s.2.1 152) (s.2.1 153) (s.2.1 154) (4 * k) (fX11_red c))) 16 ||| q_shl (crV (s.2.1 152) (s.2.1 153) (s.2.1 154) (4 * k + 3) (crV (s.2.1 152) (s.2.1 153) (s.2.1 154) (4 * k + 1) (fX11_green c))) 8, 2)) (by
    simp (decide := true) only [bX12_curved_11, z1, reduceIte, ob139, m1, m3, part12.2.1, curveAt12 h (show 4 * k + 1 < 32 by omega), curveAt12 h (show 4 * k + 3 < 32 by omega), ob_n, z_161, z_11])]
  rw [lp_go (s' := (q_shl (fX12_alpha c) 24 ||| q_shl (crV (s.2.1 152) (s.2.1 153) (s.2.1 154) (4 * k + 3) (crV (s.2.1 152) (s.2.1 153) (s.2.1 154) (4 * k) (fX11_red c))) 16 ||| q_shl (crV (s.2.1 152) (s.2.1 153) (s.2.1 154) (4 * k + 3) (crV (s.2.1 152) (s.2.1 153) (s.2.1 154) (4 * k + 1) (fX11_green c))) 8 ||| crV (s.2.1 152) (s.2.1 153) (s.2.1 154) (4 * k + 3) (crV (s.2.1 152) (s.2.1 153) (s.2.1 154) (4 * k + 2) (fX11_blue c)), 3)) (by
    simp (decide := true) only [bX12_curved_11, z2, reduceIte, ob139, m2, m3, part12.2.2, curveAt12 h (show 4 * k + 2 < 32 by omega), curveAt12 h (show 4 * k + 3 < 32 by omega), ob_n, z_162, z_21, shl_0])]
  rw [lp_end (r := q_shl (fX12_alpha c) 24 ||| q_shl (crV (s.2.1 152) (s.2.1 153) (s.2.1 154) (4 * k + 3) (crV (s.2.1 152) (s.2.1 153) (s.2.1 154) (4 * k) (fX11_red c))) 16 ||| q_shl (crV (s.2.1 152) (s.2.1 153) (s.2.1 154) (4 * k + 3) (crV (s.2.1 152) (s.2.1 153) (s.2.1 154) (4 * k + 1) (fX11_green c))) 8 ||| crV (s.2.1 152) (s.2.1 153) (s.2.1 154) (4 * k + 3) (crV (s.2.1 152) (s.2.1 153) (s.2.1 154) (4 * k + 2) (fX11_blue c))) (by simp (decide := true) only [bX12_curved_11, z3, reduceIte]), ob_n]
  rfl
