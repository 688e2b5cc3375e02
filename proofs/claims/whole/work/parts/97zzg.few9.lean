-- needs: 97zzf
/-! ===== few: the nearest colour ===== -/
def dsV (C : Nat → Int32) (r g b : Int32) (j : Nat) : Int32 := (r - fX11_red (C j)) * (r - fX11_red (C j)) + (g - fX11_green (C j)) * (g - fX11_green (C j)) + (b - fX11_blue (C j)) * (b - fX11_blue (C j))
def neN (C : Nat → Int32) (r g b : Int32) : Nat → Nat × Int32
  | 0 => (0, -1)
  | j + 1 => if (neN C r g b j).2 < 0 ∨ dsV C r g b j < (neN C r g b j).2 then (j, dsV C r g b j) else neN C r g b j
def ncV (C : Nat → Int32) (r g b : Int32) (n : Nat) : Int32 := C (neN C r g b n).1
theorem sq_r {a b : Int32} (ha : rg a 0 255) (hb : 0 ≤ b.toInt ∧ b.toInt ≤ 255) : 0 ≤ ((a - b) * (a - b)).toInt ∧ ((a - b) * (a - b)).toInt ≤ 65025 := by
  have e0 : (0 : Int32).toInt = 0 := by decide
  have e5 : (255 : Int32).toInt = 255 := by decide
  rw [rg_i, e0, e5] at ha
  have e1 : (a - b).toInt = a.toInt - b.toInt := i_sub (by omega) (by omega)
  have sq : (a.toInt - b.toInt) * (a.toInt - b.toInt) = (((a.toInt - b.toInt).natAbs * (a.toInt - b.toInt).natAbs : Nat) : Int) := by rw [Int.natAbs_mul_self]
  have le : (a.toInt - b.toInt).natAbs * (a.toInt - b.toInt).natAbs ≤ 255 * 255 := Nat.mul_le_mul (by omega) (by omega)
  have e2 : ((a - b) * (a - b)).toInt = (a.toInt - b.toInt) * (a.toInt - b.toInt) := by
    rw [i_mul (by rw [e1, sq]; omega) (by rw [e1, sq]; omega), e1]
  rw [e2, sq]
  omega
theorem ds_r {C : Nat → Int32} {r g b : Int32} {j : Nat} (hr : rg r 0 255) (hg : rg g 0 255) (hb : rg b 0 255) : 0 ≤ (dsV C r g b j).toInt ∧ (dsV C r g b j).toInt ≤ 195075 := by
  have a1 := sq_r hr (b := fX11_red (C j)) and_255
  have a2 := sq_r hg (b := fX11_green (C j)) and_255
  have a3 := sq_r hb (b := fX11_blue (C j)) and_255
  unfold dsV
  have s1 : ((r - fX11_red (C j)) * (r - fX11_red (C j)) + (g - fX11_green (C j)) * (g - fX11_green (C j))).toInt = ((r - fX11_red (C j)) * (r - fX11_red (C j))).toInt + ((g - fX11_green (C j)) * (g - fX11_green (C j))).toInt := i_add (by omega) (by omega)
  rw [i_add (by omega) (by omega), s1]
  omega
theorem ne_i {C : Nat → Int32} {r g b : Int32} (hr : rg r 0 255) (hg : rg g 0 255) (hb : rg b 0 255) : ∀ n, ((neN C r g b n).1 < n ∨ n = 0 ∧ (neN C r g b n).1 = 0) ∧ -1 ≤ (neN C r g b n).2.toInt ∧ (neN C r g b n).2.toInt ≤ 195075 := by
  intro n
  induction n with
  | zero => exact ⟨Or.inr ⟨rfl, rfl⟩, by show -1 ≤ (-1 : Int32).toInt; decide, by show (-1 : Int32).toInt ≤ _; decide⟩
  | succ n ih =>
    have d := ds_r (C := C) (j := n) hr hg hb
    by_cases q : (neN C r g b n).2 < 0 ∨ dsV C r g b n < (neN C r g b n).2
    · have e : neN C r g b (n + 1) = (n, dsV C r g b n) := if_pos q
      rw [e]
      exact ⟨Or.inl (by show n < n + 1; omega), by show -1 ≤ (dsV C r g b n).toInt; omega, d.2⟩
    · have e : neN C r g b (n + 1) = neN C r g b n := if_neg q
      rw [e]
      exact ⟨Or.inl (by omega), ih.2⟩
theorem near3 {s : e_S} {g : ps_G} {r gr b : Int32} {n : Nat} (hn : n ≤ 16) (e8 : s.1 111 8 = Int32.ofNat n) (hr : rg r 0 255) (hg : rg gr 0 255) (hb : rg b 0 255) : fX3_nearestColour (e_g s g) 111 r gr b = some (ncV (s.2.1 119) r gr b n) := by
  have ni := ne_i (C := s.2.1 119) hr hg hb
  have rd : ∀ j : Nat, j < 16 → q_aI (e_g s g) 119 (Int32.ofNat j) = some (s.2.1 119 j) := fun j hj => by
    rw [a119, n_idx (by omega), if_neg (n_in2 hj (by decide))]
  have lp := lp_0 (b := fun t => bX3_nearestColour_10 (e_g s g) 111 r gr b t.1 t.2.1 t.2.2) (s := ((0 : Int32), (1073741824 : Int32), (0 : Int32))) (r := Int32.ofNat (neN (s.2.1 119) r gr b n).1) (fun j => (Int32.ofNat (neN (s.2.1 119) r gr b j).1, (if (neN (s.2.1 119) r gr b j).2 < 0 then 1073741824 else (neN (s.2.1 119) r gr b j).2), Int32.ofNat j)) n ?_ (fun j hj => ?_) ?_
  · have := (ni n).1
    unfold fX3_nearestColour jX3_nearestColour_119
    rw [lp, ob_n, f111_7, ob_n, ob_n, rd _ (by omega), ob_n]
    rfl
  · show _ = (Int32.ofNat 0, (if (-1 : Int32) < 0 then (1073741824 : Int32) else -1), Int32.ofNat 0)
    rw [if_pos (by decide)]; rfl
  · have c : ¬ (Int32.ofNat n ≤ Int32.ofNat j ∨ (16 : Int32) ≤ Int32.ofNat j) := by
      have c5 : ¬ (16 : Int32) ≤ Int32.ofNat j := show ¬ Int32.ofNat 16 ≤ Int32.ofNat j from nle (by omega) (by omega)
      exact fun z => z.elim (nle (by omega) (by omega)) c5
    have d := ds_r (C := s.2.1 119) (j := j) hr hg hb
    have nj := ni j
    show bX3_nearestColour_10 _ _ _ _ _ _ _ _ = _
    unfold bX3_nearestColour_10
    dsimp only
    rw [f111_8, e8, ob_n, if_neg c, f111_7, ob_n, ob_n, rd j (by omega), ob_n, ob_n, ob_n, rd j (by omega), ob_n, ob_n, ob_n, rd j (by omega), ob_n, n_suc]
    have eds : (r - fX11_red (s.2.1 119 j)) * (r - fX11_red (s.2.1 119 j)) + (gr - fX11_green (s.2.1 119 j)) * (gr - fX11_green (s.2.1 119 j)) + (b - fX11_blue (s.2.1 119 j)) * (b - fX11_blue (s.2.1 119 j)) = dsV (s.2.1 119) r gr b j := rfl
    rw [eds]
    have e0 : (0 : Int32).toInt = 0 := by decide
    have eb : (1073741824 : Int32).toInt = 1073741824 := by decide
    by_cases q : (neN (s.2.1 119) r gr b j).2 < 0 ∨ dsV (s.2.1 119) r gr b j < (neN (s.2.1 119) r gr b j).2
    · have e : neN (s.2.1 119) r gr b (j + 1) = (j, dsV (s.2.1 119) r gr b j) := if_pos q
      have q' : ¬ (if (neN (s.2.1 119) r gr b j).2 < 0 then (1073741824 : Int32) else (neN (s.2.1 119) r gr b j).2) ≤ dsV (s.2.1 119) r gr b j := fun z => by
        split at z
        · rw [i_le, eb] at z; omega
        · have := q.resolve_left (by assumption)
          rw [i_lt] at this; rw [i_le] at z; omega
      have dn : ¬ dsV (s.2.1 119) r gr b j < 0 := fun z => by rw [i_lt] at z; omega
      rw [if_neg q', if_neg q', e]
      dsimp only
      rw [if_neg dn]
    · have e : neN (s.2.1 119) r gr b (j + 1) = neN (s.2.1 119) r gr b j := if_neg q
      have n1 : ¬ (neN (s.2.1 119) r gr b j).2 < 0 := fun z => q (Or.inl z)
      have n2 : (neN (s.2.1 119) r gr b j).2 ≤ dsV (s.2.1 119) r gr b j := by
        have : ¬ dsV (s.2.1 119) r gr b j < (neN (s.2.1 119) r gr b j).2 := fun z => q (Or.inr z)
        rw [i_lt] at this; rw [i_le]; omega
      rw [e, if_neg n1, if_pos n2, if_pos n2]
  · show bX3_nearestColour_10 _ _ _ _ _ _ _ _ = _
    unfold bX3_nearestColour_10
    dsimp only
    rw [f111_8, e8, ob_n, if_pos (Or.inl (nlr (by omega)))]
theorem near12f {s : e_S} {g : ps_G} {r gr b x1 x2 x5 : Int32} {n : Nat} (hn : n ≤ 16) (hr : rg r 0 255) (hg : rg gr 0 255) (hb : rg b 0 255) : q_lp (fun t => bX12_fewAt_70 (e_g s g) 139 x1 x2 (Int32.ofNat n) x5 r gr b t.1 t.2.1 t.2.2) ((0 : Int32), (-1 : Int32), (0 : Int32)) = some (Int32.ofNat (neN (s.2.1 178) r gr b n).1) := by
  have rd : ∀ j : Nat, j < 16 → q_aI (e_g s g) 178 (Int32.ofNat j) = some (s.2.1 178 j) := fun j hj => by
    rw [a178, n_idx (by omega), if_neg (n_in2 hj (by decide))]
  refine lp_0 (fun j => (Int32.ofNat (neN (s.2.1 178) r gr b j).1, (neN (s.2.1 178) r gr b j).2, Int32.ofNat j)) n rfl (fun j hj => ?_) ?_
  · show bX12_fewAt_70 _ _ _ _ _ _ _ _ _ _ _ _ = _
    unfold bX12_fewAt_70
    dsimp only
    rw [if_neg (nle hj (by omega)), f139_64, ob_n, ob_n, rd j (by omega), ob_n, ob_n, ob_n, rd j (by omega), ob_n, ob_n, ob_n, rd j (by omega), ob_n, n_suc, part_k.1, part_k.2.1, part_k.2.2]
    have eds : (r - fX11_red (s.2.1 178 j)) * (r - fX11_red (s.2.1 178 j)) + (gr - fX11_green (s.2.1 178 j)) * (gr - fX11_green (s.2.1 178 j)) + (b - fX11_blue (s.2.1 178 j)) * (b - fX11_blue (s.2.1 178 j)) = dsV (s.2.1 178) r gr b j := rfl
    rw [eds]
    by_cases q : (neN (s.2.1 178) r gr b j).2 < 0 ∨ dsV (s.2.1 178) r gr b j < (neN (s.2.1 178) r gr b j).2
    · have e : neN (s.2.1 178) r gr b (j + 1) = (j, dsV (s.2.1 178) r gr b j) := if_pos q
      rw [if_pos q, if_pos q, e]
    · have e : neN (s.2.1 178) r gr b (j + 1) = neN (s.2.1 178) r gr b j := if_neg q
      rw [if_neg q, if_neg q, e]
  · show bX12_fewAt_70 _ _ _ _ _ _ _ _ _ _ _ _ = _
    unfold bX12_fewAt_70
    dsimp only
    rw [if_pos (nlr (by omega))]
theorem ne_c {C C' : Nat → Int32} {r g b : Int32} {m : Nat} (h : ∀ j, j < m → C j = C' j) : ∀ n, n ≤ m → neN C r g b n = neN C' r g b n := by
  intro n
  induction n with
  | zero => exact fun _ => rfl
  | succ n ih =>
    intro hn
    have e : dsV C r g b n = dsV C' r g b n := by unfold dsV; rw [h n (by omega)]
    show (if (neN C r g b n).2 < 0 ∨ dsV C r g b n < (neN C r g b n).2 then (n, dsV C r g b n) else neN C r g b n) = (if (neN C' r g b n).2 < 0 ∨ dsV C' r g b n < (neN C' r g b n).2 then (n, dsV C' r g b n) else neN C' r g b n)
    rw [ih (by omega), e]
