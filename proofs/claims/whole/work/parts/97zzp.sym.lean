-- needs: 97zzo
theorem one_1 {x : Int32} : q_shr (x &&& 1) (Int32.ofNat 0) &&& 1 = x &&& 1 := by
  have e : Int32.ofNat 0 = 0 := rfl
  rw [e, shr_0]
  rcases one_b (x := x) with z | z <;> rw [z] <;> decide
/-- n bits of v, the highest first -/
def cdV (v : Int32) (T : ((Nat → Int32) × Nat) × Int32 × Nat) : Nat → ((Nat → Int32) × Nat) × Int32 × Nat
  | 0 => T
  | n + 1 => cdV v (btV T (q_shr v (Int32.ofNat n) &&& 1)) n
theorem bn_c {v : Int32} : ∀ (n : Nat) (T : ((Nat → Int32) × Nat) × Int32 × Nat), T.2.2 < 8 → bnV (cdV v T n) = bnV T + n ∧ (cdV v T n).2.2 < 8 := by
  intro n
  induction n with
  | zero => exact fun T hm => ⟨rfl, hm⟩
  | succ n ih =>
    intro T hm
    have b := bn_1 (b := q_shr v (Int32.ofNat n) &&& 1) hm
    have := ih (btV T (q_shr v (Int32.ofNat n) &&& 1)) b.2
    refine ⟨?_, this.2⟩
    show bnV (cdV v (btV T _) n) = bnV T + (n + 1)
    rw [this.1, b.1]; omega
theorem codel12 {s : e_S} {g : ps_G} {v : Int32} : ∀ (n : Nat) (T : ((Nat → Int32) × Nat) × Int32 × Nat), T.2.2 < 8 → bnV T + n < 24000 → q_lp (fun t => bX12_outCode_4 139 v t.1 t.2) (Int32.ofNat n - 1, e_g (bM s T) g) = some (e_g (bM s (cdV v T n)) g) := by
  intro n
  induction n with
  | zero =>
    intro T hm hb
    refine lp_end ?_
    show bX12_outCode_4 _ _ _ _ = _
    unfold bX12_outCode_4
    dsimp only
    rw [if_pos (show Int32.ofNat 0 - 1 < 0 by decide)]
    rfl
  | succ n ih =>
    intro T hm hb
    have lt : T.1.2 < 3000 := by unfold bnV at hb; omega
    have b := bn_1 (b := q_shr v (Int32.ofNat n) &&& 1) hm
    have st : bX12_outCode_4 139 v (Int32.ofNat (n + 1) - 1) (e_g (bM s T) g) = some (.inl (Int32.ofNat n - 1, e_g (bM s (btV T (q_shr v (Int32.ofNat n) &&& 1))) g)) := by
      unfold bX12_outCode_4
      rw [pm1.1, if_neg (n_neg (by omega)), ob139, ob_n, outBit12 lt hm, ob_n, Int32.sub_eq_add_neg]
    rw [lp_go (b := fun t => bX12_outCode_4 139 v t.1 t.2) (s := (Int32.ofNat (n + 1) - 1, e_g (bM s T) g)) st]
    exact ih _ b.2 (by omega)
theorem outCode12 {s : e_S} {g : ps_G} {v : Int32} {n : Nat} {T : ((Nat → Int32) × Nat) × Int32 × Nat} (hm : T.2.2 < 8) (hb : bnV T + n < 24000) : fX12_outCode (e_g (bM s T) g) 139 v (Int32.ofNat n) = some (e_g (bM s (cdV v T n)) g) := by
  unfold fX12_outCode
  rw [codel12 n T hm hb, ob_n]
theorem codel7 {s : e_S} {g : ps_G} {v : Int32} : ∀ (n : Nat) (T : ((Nat → Int32) × Nat) × Int32 × Nat), T.2.2 < 8 → bnV T + n < 24000 → q_lp (fun t => bX7_addCode_4 122 v t.1 t.2) (Int32.ofNat n - 1, e_g (bC s T) g) = some (e_g (bC s (cdV v T n)) g) := by
  intro n
  induction n with
  | zero =>
    intro T hm hb
    refine lp_end ?_
    show bX7_addCode_4 _ _ _ _ = _
    unfold bX7_addCode_4
    dsimp only
    rw [if_pos (show Int32.ofNat 0 - 1 < 0 by decide)]
    rfl
  | succ n ih =>
    intro T hm hb
    have b := bn_1 (b := q_shr v (Int32.ofNat n) &&& 1) hm
    have ab := addBits7 (s := s) (g := g) (T := T) (v := q_shr v (Int32.ofNat n) &&& 1) (n := 1) hm (by omega)
    have eb : blV' (q_shr v (Int32.ofNat n) &&& 1) T 1 = btV T (q_shr v (Int32.ofNat n) &&& 1) := by
      show btV T (q_shr (q_shr v (Int32.ofNat n) &&& 1) (Int32.ofNat 0) &&& 1) = _
      rw [one_1]
    rw [eb] at ab
    have ab' : fX7_addBits (e_g (bC s T) g) 122 (q_shr v (Int32.ofNat n) &&& 1) 1 = some (e_g (bC s (btV T (q_shr v (Int32.ofNat n) &&& 1))) g) := ab
    have st : bX7_addCode_4 122 v (Int32.ofNat (n + 1) - 1) (e_g (bC s T) g) = some (.inl (Int32.ofNat n - 1, e_g (bC s (btV T (q_shr v (Int32.ofNat n) &&& 1))) g)) := by
      unfold bX7_addCode_4
      rw [pm1.1, if_neg (n_neg (by omega)), ob122, ob_n, ab', ob_n, Int32.sub_eq_add_neg]
    rw [lp_go (b := fun t => bX7_addCode_4 122 v t.1 t.2) (s := (Int32.ofNat (n + 1) - 1, e_g (bC s T) g)) st]
    exact ih _ b.2 (by omega)
theorem addCode7 {s : e_S} {g : ps_G} {v : Int32} {n : Nat} {T : ((Nat → Int32) × Nat) × Int32 × Nat} (hm : T.2.2 < 8) (hb : bnV T + n < 24000) : fX7_addCode (e_g (bC s T) g) 122 v (Int32.ofNat n) = some (e_g (bC s (cdV v T n)) g) := by
  unfold fX7_addCode
  rw [codel7 n T hm hb, ob_n]
/-- a symbol -/
def syV (T : ((Nat → Int32) × Nat) × Int32 × Nat) (x : Int32) : ((Nat → Int32) × Nat) × Int32 × Nat := if (144 : Int32) ≤ x then (if (256 : Int32) ≤ x then (if (280 : Int32) ≤ x then cdV (192 + x - 280) T 8 else cdV (x - 256) T 7) else cdV (400 + x - 144) T 9) else cdV (48 + x) T 8
theorem sy_n {T : ((Nat → Int32) × Nat) × Int32 × Nat} {x : Int32} (hm : T.2.2 < 8) : bnV (syV T x) ≤ bnV T + 9 ∧ (syV T x).2.2 < 8 := by
  unfold syV
  split
  · split
    · split
      · have := bn_c (v := 192 + x - 280) 8 T hm; omega
      · have := bn_c (v := x - 256) 7 T hm; omega
    · have := bn_c (v := 400 + x - 144) 9 T hm; omega
  · have := bn_c (v := 48 + x) 8 T hm; omega
theorem outSymbol12 {s : e_S} {g : ps_G} {x : Int32} {T : ((Nat → Int32) × Nat) × Int32 × Nat} (hm : T.2.2 < 8) (hb : bnV T + 9 < 24000) : fX12_outSymbol (e_g (bM s T) g) 139 x = some (e_g (bM s (syV T x)) g) := by
  have c8 : ∀ v, fX12_outCode (e_g (bM s T) g) 139 v 8 = some (e_g (bM s (cdV v T 8)) g) := fun v => outCode12 (n := 8) hm (by omega)
  have c7 : ∀ v, fX12_outCode (e_g (bM s T) g) 139 v 7 = some (e_g (bM s (cdV v T 7)) g) := fun v => outCode12 (n := 7) hm (by omega)
  have c9 : ∀ v, fX12_outCode (e_g (bM s T) g) 139 v 9 = some (e_g (bM s (cdV v T 9)) g) := fun v => outCode12 (n := 9) hm (by omega)
  unfold fX12_outSymbol jX12_outSymbol_81 syV
  by_cases q1 : (144 : Int32) ≤ x
  · rw [if_pos q1, if_pos q1]
    by_cases q2 : (256 : Int32) ≤ x
    · rw [if_pos q2, if_pos q2]
      by_cases q3 : (280 : Int32) ≤ x
      · rw [if_pos q3, if_pos q3, ob139, ob_n, c8, ob_n]
      · rw [if_neg q3, if_neg q3, ob139, ob_n, c7, ob_n]
    · rw [if_neg q2, if_neg q2, ob139, ob_n, c9, ob_n]
  · rw [if_neg q1, if_neg q1, ob139, ob_n, c8, ob_n]
theorem addSymbol7 {s : e_S} {g : ps_G} {x : Int32} {T : ((Nat → Int32) × Nat) × Int32 × Nat} (hm : T.2.2 < 8) (hb : bnV T + 9 < 24000) : fX7_addSymbol (e_g (bC s T) g) 122 x = some (e_g (bC s (syV T x)) g) := by
  have c8 : ∀ v, fX7_addCode (e_g (bC s T) g) 122 v 8 = some (e_g (bC s (cdV v T 8)) g) := fun v => addCode7 (n := 8) hm (by omega)
  have c7 : ∀ v, fX7_addCode (e_g (bC s T) g) 122 v 7 = some (e_g (bC s (cdV v T 7)) g) := fun v => addCode7 (n := 7) hm (by omega)
  have c9 : ∀ v, fX7_addCode (e_g (bC s T) g) 122 v 9 = some (e_g (bC s (cdV v T 9)) g) := fun v => addCode7 (n := 9) hm (by omega)
  unfold fX7_addSymbol jX7_addSymbol_81 syV
  by_cases q1 : (144 : Int32) ≤ x
  · rw [if_pos q1, if_pos q1]
    by_cases q2 : (256 : Int32) ≤ x
    · rw [if_pos q2, if_pos q2]
      by_cases q3 : (280 : Int32) ≤ x
      · rw [if_pos q3, if_pos q3, ob122, ob_n, c8, ob_n]
      · rw [if_neg q3, if_neg q3, ob122, ob_n, c7, ob_n]
    · rw [if_neg q2, if_neg q2, ob122, ob_n, c9, ob_n]
  · rw [if_neg q1, if_neg q1, ob122, ob_n, c8, ob_n]
