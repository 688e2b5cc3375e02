-- needs: 97zzq
/-! ===== made: the filter of a row ===== -/
def s1R (v : Int32) : Int32 := if v ≤ 127 then v else 256 - v
def smR (B : Nat → Int32) (w f y : Nat) : Nat → Int32
  | 0 => 0
  | i + 1 => smR B w f y i + s1R (rsW B w f i y)
def bsR (B : Nat → Int32) (w y : Nat) : Nat → Nat × Int32
  | 0 => (0, -1)
  | f + 1 => if (bsR B w y f).2 < 0 ∨ smR B w f y (4 * w) < (bsR B w y f).2 then (f, smR B w f y (4 * w)) else bsR B w y f
theorem s1_r {v : Int32} (h : 0 ≤ v.toInt ∧ v.toInt ≤ 255) : 0 ≤ (s1R v).toInt ∧ (s1R v).toInt ≤ 128 := by
  have e1 : (127 : Int32).toInt = 127 := by decide
  have e2 : (256 : Int32).toInt = 256 := by decide
  unfold s1R
  by_cases q : v ≤ 127
  · rw [if_pos q]; rw [i_le] at q; omega
  · rw [if_neg q, i_sub (by omega) (by omega)]; rw [i_le] at q; omega
theorem s1_e {v : Int32} : (if (128 : Int32) ≤ v then 256 - v else v) = s1R v := by
  have e1 : (127 : Int32).toInt = 127 := by decide
  have e2 : (128 : Int32).toInt = 128 := by decide
  unfold s1R
  by_cases q : v ≤ 127
  · rw [if_pos q, if_neg (fun z => by rw [i_le] at q z; omega)]
  · rw [if_neg q, if_pos (by rw [i_le] at q ⊢; omega)]
theorem sm_r {B : Nat → Int32} {w f y : Nat} : ∀ i, i ≤ 96 → 0 ≤ (smR B w f y i).toInt ∧ (smR B w f y i).toInt ≤ 128 * i := by
  intro i
  induction i with
  | zero => exact fun _ => ⟨by show 0 ≤ (0 : Int32).toInt; decide, by show (0 : Int32).toInt ≤ _; have : (0 : Int32).toInt = 0 := (by decide); omega⟩
  | succ i ih =>
    intro hi
    have a := ih (by omega)
    have b := s1_r (v := rsW B w f i y) and_255
    show 0 ≤ (smR B w f y i + s1R (rsW B w f i y)).toInt ∧ (smR B w f y i + s1R (rsW B w f i y)).toInt ≤ _
    rw [i_add (by omega) (by omega)]
    omega
theorem bs_r {B : Nat → Int32} {w y : Nat} (hw : w ≤ 24) : ∀ f, ((bsR B w y f).1 < f ∨ f = 0 ∧ (bsR B w y f).1 = 0) ∧ -1 ≤ (bsR B w y f).2.toInt ∧ (bsR B w y f).2.toInt ≤ 12288 := by
  intro f
  induction f with
  | zero => exact ⟨Or.inr ⟨rfl, rfl⟩, by show -1 ≤ (-1 : Int32).toInt; decide, by show (-1 : Int32).toInt ≤ _; decide⟩
  | succ f ih =>
    have d := sm_r (B := B) (w := w) (f := f) (y := y) (4 * w) (by omega)
    by_cases q : (bsR B w y f).2 < 0 ∨ smR B w f y (4 * w) < (bsR B w y f).2
    · have e : bsR B w y (f + 1) = (f, smR B w f y (4 * w)) := if_pos q
      rw [e]
      exact ⟨Or.inl (by show f < f + 1; omega), by show -1 ≤ (smR B w f y (4 * w)).toInt; omega, by show (smR B w f y (4 * w)).toInt ≤ 12288; omega⟩
    · have e : bsR B w y (f + 1) = bsR B w y f := if_neg q
      rw [e]
      exact ⟨Or.inl (by omega), ih.2⟩
theorem best7 {G : ps_G} {a w h y : Nat} {B : Nat → Int32} {x3 : Int32} (hR : RdB G a B) (hw : w ≤ 24) (hh : h ≤ 24) (hy : y < h) : q_lp (fun t => bX7_filterRows_24 G 122 a (Int32.ofNat w) x3 (Int32.ofNat y) t.1 t.2.1 t.2.2) ((0 : Int32), (1073741824 : Int32), (0 : Int32)) = some (Int32.ofNat (bsR B w y 5).1) := by
  have n4 : (4 : Int32) * Int32.ofNat w = Int32.ofNat (4 * w) := n_mul (n := 4)
  refine lp_0 (fun f => (Int32.ofNat (bsR B w y f).1, (if (bsR B w y f).2 < 0 then 1073741824 else (bsR B w y f).2), Int32.ofNat f)) 5 ?_ (fun f hf => ?_) ?_
  · show _ = (Int32.ofNat 0, (if (-1 : Int32) < 0 then (1073741824 : Int32) else -1), Int32.ofNat 0)
    rw [if_pos (by decide)]; rfl
  · have c : ¬ (5 : Int32) ≤ Int32.ofNat f := show ¬ Int32.ofNat 5 ≤ Int32.ofNat f from nle hf (by omega)
    have inn : ∀ x5 x6, q_lp (fun t => bX7_filterRows_36 G 122 a (Int32.ofNat w) x3 (Int32.ofNat y) x5 x6 (Int32.ofNat f) t.1 t.2) ((0 : Int32), (0 : Int32)) = some (smR B w f y (4 * w)) := fun x5 x6 => by
      refine lp_0 (fun i => (smR B w f y i, Int32.ofNat i)) (4 * w) rfl (fun i hi => ?_) ?_
      · show bX7_filterRows_36 _ _ _ _ _ _ _ _ _ _ _ = _
        unfold bX7_filterRows_36
        dsimp only
        rw [n4, if_neg (nle hi (by omega)), less7 hR hf hw hh hi hy, ob_n, s1_e, n_suc]
        rfl
      · show bX7_filterRows_36 _ _ _ _ _ _ _ _ _ _ _ = _
        unfold bX7_filterRows_36
        dsimp only
        rw [n4, if_pos (nlr (by omega))]
    have d := sm_r (B := B) (w := w) (f := f) (y := y) (4 * w) (by omega)
    have nj := bs_r (B := B) (y := y) hw f
    show bX7_filterRows_24 _ _ _ _ _ _ _ _ _ = _
    unfold bX7_filterRows_24
    dsimp only
    rw [if_neg c, inn, ob_n, n_suc]
    have eb : (1073741824 : Int32).toInt = 1073741824 := by decide
    have e0 : (0 : Int32).toInt = 0 := by decide
    by_cases q : (bsR B w y f).2 < 0 ∨ smR B w f y (4 * w) < (bsR B w y f).2
    · have e : bsR B w y (f + 1) = (f, smR B w f y (4 * w)) := if_pos q
      have q' : ¬ (if (bsR B w y f).2 < 0 then (1073741824 : Int32) else (bsR B w y f).2) ≤ smR B w f y (4 * w) := fun z => by
        split at z
        · rw [i_le, eb] at z; omega
        · have := q.resolve_left (by assumption)
          rw [i_lt] at this; rw [i_le] at z; omega
      have dn : ¬ smR B w f y (4 * w) < 0 := fun z => by rw [i_lt] at z; omega
      rw [if_neg q', if_neg q', e]
      dsimp only
      rw [if_neg dn]
    · have e : bsR B w y (f + 1) = bsR B w y f := if_neg q
      have n1 : ¬ (bsR B w y f).2 < 0 := fun z => q (Or.inl z)
      have n2 : (bsR B w y f).2 ≤ smR B w f y (4 * w) := by
        have : ¬ smR B w f y (4 * w) < (bsR B w y f).2 := fun z => q (Or.inr z)
        rw [i_lt] at this; rw [i_le]; omega
      rw [e, if_neg n1, if_pos n2, if_pos n2]
  · show bX7_filterRows_24 _ _ _ _ _ _ _ _ _ = _
    unfold bX7_filterRows_24
    dsimp only
    rw [if_pos (show (5 : Int32) ≤ Int32.ofNat 5 by decide)]
theorem best12 {s : e_S} {g : ps_G} {w h y : Nat} (hw : w ≤ 24) (hh : h ≤ 24) (e1 : s.1 139 13 = Int32.ofNat w) (hy : y < h) : q_lp (fun t => bX12_makeRows_22 (e_g s g) 139 (Int32.ofNat y) t.1 t.2.1 t.2.2) ((0 : Int32), (-1 : Int32), (0 : Int32)) = some (Int32.ofNat (bsR (s.2.1 158) w y 5).1) := by
  have n4 : (4 : Int32) * Int32.ofNat w = Int32.ofNat (4 * w) := n_mul (n := 4)
  refine lp_0 (fun f => (Int32.ofNat (bsR (s.2.1 158) w y f).1, (bsR (s.2.1 158) w y f).2, Int32.ofNat f)) 5 rfl (fun f hf => ?_) ?_
  · have c : ¬ (5 : Int32) ≤ Int32.ofNat f := show ¬ Int32.ofNat 5 ≤ Int32.ofNat f from nle hf (by omega)
    have inn : ∀ x5 x6, q_lp (fun t => bX12_makeRows_34 (e_g s g) 139 (Int32.ofNat y) x5 x6 (Int32.ofNat f) t.1 t.2) ((0 : Int32), (0 : Int32)) = some (smR (s.2.1 158) w f y (4 * w)) := fun x5 x6 => by
      refine lp_0 (fun i => (smR (s.2.1 158) w f y i, Int32.ofNat i)) (4 * w) rfl (fun i hi => ?_) ?_
      · show bX12_makeRows_34 _ _ _ _ _ _ _ _ = _
        unfold bX12_makeRows_34
        dsimp only
        rw [f139_13, e1, ob_n, n4, if_neg (nle hi (by omega)), ob139, ob_n, rest12 hw hh e1 hi hy, ob_n, n_suc]
        rfl
      · show bX12_makeRows_34 _ _ _ _ _ _ _ _ = _
        unfold bX12_makeRows_34
        dsimp only
        rw [f139_13, e1, ob_n, n4, if_pos (nlr (by omega))]
    show bX12_makeRows_22 _ _ _ _ _ _ = _
    unfold bX12_makeRows_22
    dsimp only
    rw [if_neg c, inn, ob_n, n_suc]
    by_cases q : (bsR (s.2.1 158) w y f).2 < 0 ∨ smR (s.2.1 158) w f y (4 * w) < (bsR (s.2.1 158) w y f).2
    · have e : bsR (s.2.1 158) w y (f + 1) = (f, smR (s.2.1 158) w f y (4 * w)) := if_pos q
      rw [if_pos q, if_pos q, e]
    · have e : bsR (s.2.1 158) w y (f + 1) = bsR (s.2.1 158) w y f := if_neg q
      rw [if_neg q, if_neg q, e]
  · show bX12_makeRows_22 _ _ _ _ _ _ = _
    unfold bX12_makeRows_22
    dsimp only
    rw [if_pos (show (5 : Int32) ≤ Int32.ofNat 5 by decide)]
