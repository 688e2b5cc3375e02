-- needs: 97zza
/-! ===== few: a box cut ===== -/
def upN (R : Nat → Int32) (k fr : Nat) : Nat → Nat → Nat
  | 0, h => h
  | d + 1, h => if vl k (R (fr + h)) = vl k (R (fr + h - 1)) then upN R k fr d (h + 1) else h
def dnN (R : Nat → Int32) (k fr : Nat) (v : Int32) : Nat → Nat
  | 0 => 0
  | h + 1 => if vl k (R (fr + h)) = v then dnN R k fr v h else h + 1
def ctV (R : Nat → Int32) (k fr m : Nat) : Nat := if upN R k fr (m - m / 2) (m / 2) < m then upN R k fr (m - m / 2) (m / 2) else dnN R k fr (vl k (R (fr + m - 1))) (m - 1)
theorem up_i {R : Nat → Int32} {k fr : Nat} : ∀ d h, h ≤ upN R k fr d h ∧ upN R k fr d h ≤ h + d := by
  intro d
  induction d with
  | zero => exact fun h => ⟨Nat.le_refl _, Nat.le_refl _⟩
  | succ d ih =>
    intro h
    by_cases q : vl k (R (fr + h)) = vl k (R (fr + h - 1))
    · have e : upN R k fr (d + 1) h = upN R k fr d (h + 1) := if_pos q
      have := ih (h + 1)
      rw [e]; omega
    · have e : upN R k fr (d + 1) h = h := if_neg q
      rw [e]; omega
theorem dn_i {R : Nat → Int32} {k fr : Nat} {v : Int32} : ∀ h, dnN R k fr v h ≤ h ∧ ((∃ i, i < h ∧ ¬ vl k (R (fr + i)) = v) → 1 ≤ dnN R k fr v h) := by
  intro h
  induction h with
  | zero => exact ⟨Nat.le_refl _, fun ⟨i, h1, _⟩ => absurd h1 (by omega)⟩
  | succ h ih =>
    by_cases q : vl k (R (fr + h)) = v
    · have e : dnN R k fr v (h + 1) = dnN R k fr v h := if_pos q
      rw [e]
      refine ⟨by omega, fun ⟨i, h1, h2⟩ => ih.2 ⟨i, ?_, h2⟩⟩
      have : ¬ i = h := fun z => h2 (by rw [z]; exact q)
      omega
    · have e : dnN R k fr v (h + 1) = h + 1 := if_neg q
      rw [e]; exact ⟨Nat.le_refl _, fun _ => by omega⟩
/-- not all are the same -/
def Df (R : Nat → Int32) (k fr m : Nat) : Prop := ∃ i, i < m - 1 ∧ ¬ vl k (R (fr + i)) = vl k (R (fr + m - 1))
theorem ct_i {R : Nat → Int32} {k fr m : Nat} (h : Df R k fr m) : 1 ≤ ctV R k fr m ∧ ctV R k fr m < m := by
  obtain ⟨i, h1, h2⟩ := id h
  have u := up_i (R := R) (k := k) (fr := fr) (m - m / 2) (m / 2)
  have d := dn_i (R := R) (k := k) (fr := fr) (v := vl k (R (fr + m - 1))) (m - 1)
  have d2 := d.2 ⟨i, h1, h2⟩
  unfold ctV
  split <;> omega
theorem up3 {s : e_S} {g : ps_G} {k fr m : Nat} {x1 : Int32} (hm : fr + m ≤ 576) : ∀ d h, h + d = m → 1 ≤ h → q_lp (fun t => bX3_cut_37 (e_g s g) 111 x1 (16 - 8 * Int32.ofNat k) (Int32.ofNat fr) (Int32.ofNat (fr + m)) t) (Int32.ofNat (fr + h)) = some (Int32.ofNat (fr + upN (s.2.1 116) k fr d h)) := by
  intro d
  induction d with
  | zero =>
    intro h h1 h2
    refine lp_end ?_
    show bX3_cut_37 _ _ _ _ _ _ _ = _
    unfold bX3_cut_37
    have e : h = m := by omega
    rw [e, if_pos (nlr (by omega))]
    rfl
  | succ d ih =>
    intro h h1 h2
    have c0 : ¬ Int32.ofNat (fr + m) ≤ Int32.ofNat (fr + h) := nle (by omega) (by omega)
    have e1 : Int32.ofNat (fr + h) - 1 = Int32.ofNat (fr + h - 1) := by
      have := (pm1 (p := fr + h - 1)).1
      rw [show fr + h - 1 + 1 = fr + h by omega] at this
      exact this
    have q1 := chAt (s := s) (g := g) (i := fr + h) (k := k) (by omega)
    have q2 := chAt (s := s) (g := g) (i := fr + h - 1) (k := k) (by omega)
    by_cases q : vl k (s.2.1 116 (fr + h)) = vl k (s.2.1 116 (fr + h - 1))
    · have e : upN (s.2.1 116) k fr (d + 1) h = upN (s.2.1 116) k fr d (h + 1) := if_pos q
      have st : bX3_cut_37 (e_g s g) 111 x1 (16 - 8 * Int32.ofNat k) (Int32.ofNat fr) (Int32.ofNat (fr + m)) (Int32.ofNat (fr + h)) = some (.inl (Int32.ofNat (fr + (h + 1)))) := by
        unfold bX3_cut_37
        rw [if_neg c0, ob111, ob_n, q1, ob_n, ob_n, e1, q2, ob_n, if_neg (fun z => z q), n_suc]
        rfl
      rw [e, lp_go (b := fun t => bX3_cut_37 (e_g s g) 111 x1 (16 - 8 * Int32.ofNat k) (Int32.ofNat fr) (Int32.ofNat (fr + m)) t) st]
      exact ih (h + 1) (by omega) (by omega)
    · have e : upN (s.2.1 116) k fr (d + 1) h = h := if_neg q
      rw [e]
      refine lp_end ?_
      show bX3_cut_37 _ _ _ _ _ _ _ = _
      unfold bX3_cut_37
      rw [if_neg c0, ob111, ob_n, q1, ob_n, ob_n, e1, q2, ob_n, if_pos q]
theorem dn3 {s : e_S} {g : ps_G} {k fr m : Nat} {x1 : Int32} (hm : fr + m ≤ 576) (h1 : 1 ≤ m) : ∀ h, h < m → q_lp (fun t => bX3_cut_82 (e_g s g) 111 x1 (16 - 8 * Int32.ofNat k) (Int32.ofNat fr) (Int32.ofNat (fr + m)) t) (Int32.ofNat (fr + h)) = some (Int32.ofNat (fr + dnN (s.2.1 116) k fr (vl k (s.2.1 116 (fr + m - 1))) h)) := by
  have e1 : Int32.ofNat (fr + m) - 1 = Int32.ofNat (fr + m - 1) := by
    have := (pm1 (p := fr + m - 1)).1
    rw [show fr + m - 1 + 1 = fr + m by omega] at this
    exact this
  intro h
  induction h with
  | zero =>
    intro h2
    refine lp_end ?_
    show bX3_cut_82 _ _ _ _ _ _ _ = _
    unfold bX3_cut_82
    rw [Nat.add_zero, if_pos (nlr (by omega))]
    rfl
  | succ h ih =>
    intro h2
    have c0 : ¬ Int32.ofNat (fr + (h + 1)) ≤ Int32.ofNat fr := nle (by omega) (by omega)
    have q1 := chAt (s := s) (g := g) (i := fr + h) (k := k) (by omega)
    have q2 := chAt (s := s) (g := g) (i := fr + m - 1) (k := k) (by omega)
    have e2 : Int32.ofNat (fr + (h + 1)) - 1 = Int32.ofNat (fr + h) := pm1.1
    have e3 : Int32.ofNat (fr + (h + 1)) + -1 = Int32.ofNat (fr + h) := pm1.2
    by_cases q : vl k (s.2.1 116 (fr + h)) = vl k (s.2.1 116 (fr + m - 1))
    · have e : dnN (s.2.1 116) k fr (vl k (s.2.1 116 (fr + m - 1))) (h + 1) = dnN (s.2.1 116) k fr (vl k (s.2.1 116 (fr + m - 1))) h := if_pos q
      have st : bX3_cut_82 (e_g s g) 111 x1 (16 - 8 * Int32.ofNat k) (Int32.ofNat fr) (Int32.ofNat (fr + m)) (Int32.ofNat (fr + (h + 1))) = some (.inl (Int32.ofNat (fr + h))) := by
        unfold bX3_cut_82
        rw [if_neg c0, ob111, ob_n, e2, q1, ob_n, ob_n, e1, q2, ob_n, if_neg (fun z => z q), e3]
      rw [e, lp_go (b := fun t => bX3_cut_82 (e_g s g) 111 x1 (16 - 8 * Int32.ofNat k) (Int32.ofNat fr) (Int32.ofNat (fr + m)) t) st]
      exact ih (by omega)
    · have e : dnN (s.2.1 116) k fr (vl k (s.2.1 116 (fr + m - 1))) (h + 1) = h + 1 := if_neg q
      rw [e]
      refine lp_end ?_
      show bX3_cut_82 _ _ _ _ _ _ _ = _
      unfold bX3_cut_82
      rw [if_neg c0, ob111, ob_n, e2, q1, ob_n, ob_n, e1, q2, ob_n, if_pos q]
theorem r175 {s : e_S} {g : ps_G} {i : Nat} (hi : i < 576) : q_aI (e_g s g) 175 (Int32.ofNat i) = some (s.2.1 175 i) := by
  rw [a175, n_idx (by omega), if_neg (n_in2 hi (by decide))]
theorem up12 {s : e_S} {g : ps_G} {k fr m : Nat} {x1 x2 : Int32} (hk : k < 3) (hm : fr + m ≤ 576) : ∀ d h, h + d = m → 1 ≤ h → q_lp (fun t => bX12_cutBox_101 (e_g s g) 139 x1 x2 (Int32.ofNat k) (Int32.ofNat fr) (Int32.ofNat m) t) (Int32.ofNat h) = some (Int32.ofNat (upN (s.2.1 175) k fr d h)) := by
  intro d
  induction d with
  | zero =>
    intro h h1 h2
    refine lp_end ?_
    show bX12_cutBox_101 _ _ _ _ _ _ _ _ = _
    unfold bX12_cutBox_101
    have e : h = m := by omega
    rw [e, if_pos (nlr (by omega))]
    rfl
  | succ d ih =>
    intro h h1 h2
    have c0 : ¬ Int32.ofNat m ≤ Int32.ofNat h := nle (by omega) (by omega)
    have e1 : Int32.ofNat (fr + h) - 1 = Int32.ofNat (fr + h - 1) := by
      have := (pm1 (p := fr + h - 1)).1
      rw [show fr + h - 1 + 1 = fr + h by omega] at this
      exact this
    have q1 := r175 (s := s) (g := g) (i := fr + h) (by omega)
    have q2 := r175 (s := s) (g := g) (i := fr + h - 1) (by omega)
    by_cases q : vl k (s.2.1 175 (fr + h)) = vl k (s.2.1 175 (fr + h - 1))
    · have e : upN (s.2.1 175) k fr (d + 1) h = upN (s.2.1 175) k fr d (h + 1) := if_pos q
      have st : bX12_cutBox_101 (e_g s g) 139 x1 x2 (Int32.ofNat k) (Int32.ofNat fr) (Int32.ofNat m) (Int32.ofNat h) = some (.inl (Int32.ofNat (h + 1))) := by
        unfold bX12_cutBox_101
        rw [if_neg c0, f139_61, ob_n, ob_n, n_add, q1, ob_n, ob_n, ob_n, e1, q2, ob_n, part_v hk, part_v hk, if_neg (fun z => z q), n_suc]
      rw [e, lp_go (b := fun t => bX12_cutBox_101 (e_g s g) 139 x1 x2 (Int32.ofNat k) (Int32.ofNat fr) (Int32.ofNat m) t) st]
      exact ih (h + 1) (by omega) (by omega)
    · have e : upN (s.2.1 175) k fr (d + 1) h = h := if_neg q
      rw [e]
      refine lp_end ?_
      show bX12_cutBox_101 _ _ _ _ _ _ _ _ = _
      unfold bX12_cutBox_101
      rw [if_neg c0, f139_61, ob_n, ob_n, n_add, q1, ob_n, ob_n, ob_n, e1, q2, ob_n, part_v hk, part_v hk, if_pos q]
theorem dn12 {s : e_S} {g : ps_G} {k fr m : Nat} {x1 x2 : Int32} {v : Int32} (hk : k < 3) (hm : fr + m ≤ 576) : ∀ h, h < m → vl k (s.2.1 175 (fr + h)) = v → (∃ i, i < h ∧ ¬ vl k (s.2.1 175 (fr + i)) = v) → q_lp (fun t => bX12_cutBox_157 (e_g s g) 139 x1 x2 (Int32.ofNat k) (Int32.ofNat fr) (Int32.ofNat m) t) (Int32.ofNat h) = some (Int32.ofNat (dnN (s.2.1 175) k fr v h)) := by
  intro h
  induction h with
  | zero => exact fun _ _ ⟨i, h1, _⟩ => absurd h1 (by omega)
  | succ h ih =>
    intro h2 hv hd
    have q1 := r175 (s := s) (g := g) (i := fr + h) (by omega)
    have q2 := r175 (s := s) (g := g) (i := fr + (h + 1)) (by omega)
    have e2 : Int32.ofNat (fr + (h + 1)) - 1 = Int32.ofNat (fr + h) := pm1.1
    by_cases q : vl k (s.2.1 175 (fr + h)) = v
    · have e : dnN (s.2.1 175) k fr v (h + 1) = dnN (s.2.1 175) k fr v h := if_pos q
      have st : bX12_cutBox_157 (e_g s g) 139 x1 x2 (Int32.ofNat k) (Int32.ofNat fr) (Int32.ofNat m) (Int32.ofNat (h + 1)) = some (.inl (Int32.ofNat h)) := by
        unfold bX12_cutBox_157
        rw [f139_61, ob_n, ob_n, n_add, e2, q1, ob_n, ob_n, ob_n, q2, ob_n, part_v hk, part_v hk, if_neg (fun z => z (by rw [q, hv])), pm1.2]
      rw [e, lp_go (b := fun t => bX12_cutBox_157 (e_g s g) 139 x1 x2 (Int32.ofNat k) (Int32.ofNat fr) (Int32.ofNat m) t) st]
      refine ih (by omega) q ?_
      obtain ⟨i, i1, i2⟩ := hd
      have : ¬ i = h := fun z => i2 (by rw [z]; exact q)
      exact ⟨i, by omega, i2⟩
    · have e : dnN (s.2.1 175) k fr v (h + 1) = h + 1 := if_neg q
      rw [e]
      refine lp_end ?_
      show bX12_cutBox_157 _ _ _ _ _ _ _ _ = _
      unfold bX12_cutBox_157
      rw [f139_61, ob_n, ob_n, n_add, e2, q1, ob_n, ob_n, ob_n, q2, ob_n, part_v hk, part_v hk, if_pos (by rw [hv]; exact q)]
