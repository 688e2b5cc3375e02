-- needs: 97zzzd
/-! ===== png: bits read ===== -/
theorem lp_go2 {α β ρ : Type} (b : α → β → Option ((α × β) ⊕ ρ)) {x x' : α} {y y' : β} (h : b x y = some (.inl (x', y'))) : q_lp (fun t => b t.1 t.2) (x, y) = q_lp (fun t => b t.1 t.2) (x', y') := lp_go (b := fun t : α × β => b t.1 t.2) (s := (x, y)) (s' := (x', y')) h
theorem lp_go3 {α β γ ρ : Type} (b : α → β → γ → Option ((α × β × γ) ⊕ ρ)) {x x' : α} {y y' : β} {z z' : γ} (h : b x y z = some (.inl (x', y', z'))) : q_lp (fun t => b t.1 t.2.1 t.2.2) (x, y, z) = q_lp (fun t => b t.1 t.2.1 t.2.2) (x', y', z') := lp_go (b := fun t : α × β × γ => b t.1 t.2.1 t.2.2) (s := (x, y, z)) (s' := (x', y', z')) h
theorem lp_go5 {α β γ δ ε ρ : Type} (b : α → β → γ → δ → ε → Option ((α × β × γ × δ × ε) ⊕ ρ)) {x x' : α} {y y' : β} {z z' : γ} {u u' : δ} {w w' : ε} (h : b x y z u w = some (.inl (x', y', z', u', w'))) : q_lp (fun t => b t.1 t.2.1 t.2.2.1 t.2.2.2.1 t.2.2.2.2) (x, y, z, u, w) = q_lp (fun t => b t.1 t.2.1 t.2.2.1 t.2.2.2.1 t.2.2.2.2) (x', y', z', u', w') := lp_go (b := fun t : α × β × γ × δ × ε => b t.1 t.2.1 t.2.2.1 t.2.2.2.1 t.2.2.2.2) (s := (x, y, z, u, w)) (s' := (x', y', z', u', w')) h
def Kp (A : List Nat) (o : Nat) (Fs : List Nat) (s s' : e_S) : Prop := (∀ j, A.contains j = false → s'.2.1 j = s.2.1 j) ∧ (∀ i k, ¬ (i = o ∧ Fs.contains k = true) → s'.1 i k = s.1 i k) ∧ s'.2.2.1 = s.2.2.1 ∧ s'.2.2.2 = s.2.2.2
theorem kp_rf {A Fs : List Nat} {o : Nat} {s : e_S} : Kp A o Fs s s := ⟨fun _ _ => rfl, fun _ _ _ => rfl, rfl, rfl⟩
theorem kp_tr {A Fs : List Nat} {o : Nat} {s s' s'' : e_S} (h : Kp A o Fs s s') (h' : Kp A o Fs s' s'') : Kp A o Fs s s'' := ⟨fun j hj => (h'.1 j hj).trans (h.1 j hj), fun i k hk => (h'.2.1 i k hk).trans (h.2.1 i k hk), h'.2.2.1.trans h.2.2.1, h'.2.2.2.trans h.2.2.2⟩
theorem kp_A {A Fs : List Nat} {o j : Nat} {s s' : e_S} {r : Nat → Int32} (h : Kp A o Fs s s') (hj : A.contains j = true) : Kp A o Fs s (sA s' j r) := by
  refine ⟨fun i hi => ?_, fun i k hk => ?_, ?_, ?_⟩
  · rw [A_sA, if_neg]
    · exact h.1 i hi
    · intro e
      rw [e, hj] at hi
      cases hi
  · rw [F_sA]; exact h.2.1 i k hk
  · rw [R_sA]; exact h.2.2.1
  · rw [L_sA]; exact h.2.2.2
theorem kp_F {A Fs : List Nat} {o f : Nat} {s s' : e_S} {v : Int32} (h : Kp A o Fs s s') (hj : Fs.contains f = true) : Kp A o Fs s (sF s' o f v) := by
  refine ⟨fun i hi => ?_, fun i k hk => ?_, ?_, ?_⟩
  · rw [A_sF]; exact h.1 i hi
  · rw [F_sF, if_neg]
    · exact h.2.1 i k hk
    · intro e
      refine hk ⟨e.1, ?_⟩
      rw [e.2]; exact hj
  · rw [R_sF]; exact h.2.2.1
  · rw [L_sF]; exact h.2.2.2
theorem kp_w {A A' Fs Fs' : List Nat} {o : Nat} {s s' : e_S} (h : Kp A o Fs s s') (hA : ∀ j, A.contains j = true → A'.contains j = true) (hF : ∀ j, Fs.contains j = true → Fs'.contains j = true) : Kp A' o Fs' s s' := by
  refine ⟨fun j hj => h.1 j ?_, fun i k hk => h.2.1 i k (fun z => hk ⟨z.1, hF k z.2⟩), h.2.2⟩
  cases q : A.contains j with
  | false => rfl
  | true =>
    rw [hA j q] at hj
    cases hj
def btK (K : Nat → Int32) (b : Nat) : Int32 := q_shr (K (b / 8)) (Int32.ofNat (b % 8)) &&& 1
def btN (K : Nat → Int32) (b : Nat) : Nat := if btK K b = 0 then 0 else 1
theorem bt_e {K : Nat → Int32} {b : Nat} : btK K b = Int32.ofNat (btN K b) ∧ btN K b ≤ 1 := by
  unfold btN
  rcases one_b (x := q_shr (K (b / 8)) (Int32.ofNat (b % 8))) with z | z
  · have z' : btK K b = 0 := z
    rw [z', if_pos rfl]
    exact ⟨rfl, by omega⟩
  · have z' : btK K b = 1 := z
    rw [z', if_neg (by decide)]
    exact ⟨rfl, by omega⟩
/-- many bits, the lowest first -/
def rbN (K : Nat → Int32) (b : Nat) : Nat → Nat
  | 0 => 0
  | k + 1 => rbN K b k + 2 ^ k * btN K (b + k)
theorem rb_lt {K : Nat → Int32} {b : Nat} : ∀ k, rbN K b k < 2 ^ k := by
  intro k
  induction k with
  | zero => exact Nat.one_pos
  | succ k ih =>
    show rbN K b k + 2 ^ k * btN K (b + k) < 2 ^ (k + 1)
    have h := (bt_e (K := K) (b := b + k)).2
    have e : (2 : Nat) ^ (k + 1) = 2 ^ k + 2 ^ k := by rw [Nat.pow_succ]; omega
    have m : 2 ^ k * btN K (b + k) ≤ 2 ^ k * 1 := Nat.mul_le_mul_left _ h
    omega
theorem shl_k {k y : Nat} (hk : k < 16) (hy : y ≤ 1) : q_shl (Int32.ofNat y) (Int32.ofNat k) = Int32.ofNat (2 ^ k * y) := by
  have : ∀ k : Fin 16, ∀ y : Fin 2, q_shl (Int32.ofNat y.1) (Int32.ofNat k.1) = Int32.ofNat (2 ^ k.1 * y.1) := by decide +kernel
  exact this ⟨k, hk⟩ ⟨y, by omega⟩
theorem rb_s {K : Nat → Int32} {b k : Nat} (hk : k < 16) : Int32.ofNat (rbN K b k) ||| q_shl (btK K (b + k)) (Int32.ofNat k) = Int32.ofNat (rbN K b (k + 1)) := by
  have e := bt_e (K := K) (b := b + k)
  rw [e.1, shl_k hk e.2, n_or]
  congr 1
  show rbN K b k ||| 2 ^ k * btN K (b + k) = rbN K b k + 2 ^ k * btN K (b + k)
  rw [Nat.or_comm, ← Nat.two_pow_add_eq_or_of_lt (rb_lt k), Nat.add_comm]
theorem m8_a {i : Nat} (hi : i < 2147483648) : Int32.ofNat i &&& 7 = Int32.ofNat (i % 8) := by
  apply Int32.toBitVec_inj.mp
  apply BitVec.eq_of_toNat_eq
  rw [Int32.toBitVec_and, BitVec.toNat_and]
  have e : (7 : Int32).toBitVec.toNat = 2 ^ 3 - 1 := by decide
  have n1 : ∀ j : Nat, j < 2147483648 → (Int32.ofNat j).toBitVec.toNat = j := fun j hj => by
    show (BitVec.ofNat 32 j).toNat = j
    rw [BitVec.toNat_ofNat]
    exact Nat.mod_eq_of_lt (by omega)
  rw [e, Nat.and_two_pow_sub_one_eq_mod, n1 i hi, n1 (i % 8) (by omega)]
theorem s3_d {i : Nat} (hi : i < 2147483648) : q_shr (Int32.ofNat i) 3 = Int32.ofNat (i / 8) := by
  have h := shr_k (a := Int32.ofNat i) (y := 3) (n := 3) (by decide)
  refine n_of ?_
  rw [h, n_int hi]
  show (i : Int) / 8 = ((i / 8 : Nat) : Int)
  omega
/-- the class stands at bit b -/
def PC (s : e_S) (K : Nat → Int32) (n b : Nat) : Prop := n ≤ 8000 ∧ b ≤ 8 * n ∧ s.1 128 1 = Int32.ofNat n ∧ s.1 128 2 = Int32.ofNat b ∧ ∀ i, i < n → s.2.1 129 i = K i
def PM (s : e_S) (K : Nat → Int32) (n b : Nat) : Prop := n ≤ 8000 ∧ b ≤ 8 * n ∧ s.1 139 79 = Int32.ofNat n ∧ s.1 139 88 = Int32.ofNat b ∧ ∀ i, i < n → s.2.1 188 i = K i
theorem readBits7 {s : e_S} {g : ps_G} {K : Nat → Int32} {n b m : Nat} (h : PC s K n b) (hm : m ≤ 16) : fX2_readBits (e_g s g) 128 (Int32.ofNat m) = some (if b + m ≤ 8 * n then (Int32.ofNat (rbN K b m), e_g (sF s 128 2 (Int32.ofNat (b + m))) g) else (0, e_g (sF (sF s 128 2 (Int32.ofNat (8 * n))) 128 3 1) g)) := by
  obtain ⟨hn, hb, f1, f2, hK⟩ := h
  have z0 : sF s 128 2 (Int32.ofNat (b + 0)) = s := by
    rw [Nat.add_zero, ← f2, sF_id]
  have n8 : (8 : Int32) * Int32.ofNat n = Int32.ofNat (8 * n) := n_mul (n := 8)
  have e1 : ∀ k, (sF s 128 2 (Int32.ofNat (b + k))).1 128 1 = Int32.ofNat n := fun k => by rw [F_sF, if_neg (by decide)]; exact f1
  have e2 : ∀ k, (sF s 128 2 (Int32.ofNat (b + k))).1 128 2 = Int32.ofNat (b + k) := fun k => by rw [F_sF, if_pos ⟨rfl, rfl⟩]
  have st : ∀ k, k < m → b + k < 8 * n → bX2_readBits_4 128 (Int32.ofNat m) (Int32.ofNat (rbN K b k)) (Int32.ofNat k) (e_g (sF s 128 2 (Int32.ofNat (b + k))) g) = some (.inl (Int32.ofNat (rbN K b (k + 1)), Int32.ofNat (k + 1), e_g (sF s 128 2 (Int32.ofNat (b + (k + 1)))) g)) := fun k hk hk2 => by
    unfold bX2_readBits_4
    have c6 : Int32.ofNat (b + k) < (64000 : Int32) := show _ < Int32.ofNat 64000 from (n_lt (by omega) (by omega)).mpr (by omega)
    have rd : q_aI (e_g (sF s 128 2 (Int32.ofNat (b + k))) g) 129 (Int32.ofNat ((b + k) / 8)) = some (K ((b + k) / 8)) := by
      rw [a129, n_idx (by omega), if_neg (n_in2 (show (b + k) / 8 < 8000 by omega) (by decide)), A_sF, hK _ (by omega)]
    rw [if_neg (nle hk (by omega)), f128_2, e2, ob_n, f128_1, e1, ob_n, n8, if_neg (nle hk2 (by omega)), ob_n, if_pos c6, f128_0, ob_n, ob_n, ob_n, s3_d (by omega), rd, ob_n, ob_n, ob_n, w128_2, ob_n, sF_sF, n_suc, n_suc, m8_a (by omega)]
    have e := rb_s (K := K) (b := b) (k := k) (by omega)
    unfold btK at e
    rw [e]
    rfl
  unfold fX2_readBits
  have l0 : ((0 : Int32), (0 : Int32), e_g s g) = (Int32.ofNat (rbN K b 0), Int32.ofNat 0, e_g (sF s 128 2 (Int32.ofNat (b + 0))) g) := by rw [z0]; rfl
  by_cases q : b + m ≤ 8 * n
  · have lp := lp_0 (b := fun t => bX2_readBits_4 128 (Int32.ofNat m) t.1 t.2.1 t.2.2) (s := ((0 : Int32), (0 : Int32), e_g s g)) (r := .inl (Int32.ofNat (rbN K b m), e_g (sF s 128 2 (Int32.ofNat (b + m))) g)) (fun k => (Int32.ofNat (rbN K b k), Int32.ofNat k, e_g (sF s 128 2 (Int32.ofNat (b + k))) g)) m l0 (fun k hk => st k hk (by omega)) (by
      show bX2_readBits_4 _ _ _ _ _ = _
      unfold bX2_readBits_4
      dsimp only
      rw [if_pos (nlr (by omega))])
    rw [lp, ob_n, if_pos q]
    rfl
  · have e8 : b + (8 * n - b) = 8 * n := by omega
    have lp := lp_0 (b := fun t => bX2_readBits_4 128 (Int32.ofNat m) t.1 t.2.1 t.2.2) (s := ((0 : Int32), (0 : Int32), e_g s g)) (r := .inr ((0 : Int32), e_g (sF (sF s 128 2 (Int32.ofNat (8 * n))) 128 3 1) g)) (fun k => (Int32.ofNat (rbN K b k), Int32.ofNat k, e_g (sF s 128 2 (Int32.ofNat (b + k))) g)) (8 * n - b) l0 (fun k hk => st k (by omega) (by omega)) (by
      show bX2_readBits_4 _ _ _ _ _ = _
      unfold bX2_readBits_4 jX2_readBits_32_4
      dsimp only
      rw [if_neg (nle (by omega) (by omega)), f128_2, e2, ob_n, f128_1, e1, ob_n, n8, e8, if_pos (nlr (by omega)), w128_3 (Or.inr rfl), ob_n])
    rw [lp, ob_n, if_neg q]
    rfl
theorem bit12 {s : e_S} {g : ps_G} {K : Nat → Int32} {n b : Nat} (h : PM s K n b) (hi : s.1 139 87 = 0) : fX12_bit (e_g s g) 139 = some (if b < 8 * n then (btK K b, e_g (sF s 139 88 (Int32.ofNat (b + 1))) g) else (0, e_g (sF s 139 87 1) g)) := by
  obtain ⟨hn, hb, f1, f2, hK⟩ := h
  have n8 : (8 : Int32) * Int32.ofNat n = Int32.ofNat (8 * n) := n_mul (n := 8)
  unfold fX12_bit jX12_bit_19
  by_cases q : b < 8 * n
  · have dv : Int32.ofNat b / 8 = Int32.ofNat (b / 8) := n_div (b := 8) (by omega) (by omega)
    have rm : q_rem (Int32.ofNat b) 8 = Int32.ofNat (b % 8) := n_rem (b := 8) (by omega) (by omega)
    have rd : q_aI (e_g s g) 188 (Int32.ofNat (b / 8)) = some (K (b / 8)) := by
      rw [a188, n_idx (by omega), if_neg (n_in2 (show b / 8 < 8000 by omega) (by decide)), hK _ (by omega)]
    rw [f139_88, f2, ob_n, f139_79, f1, ob_n, n8, if_pos ((n_lt (by omega) (by omega)).mpr q), f139_87, hi, ob_n, if_pos rfl, f139_78, ob_n, ob_n, ob_n, dv, rd, ob_n, ob_n, ob_n, w139_88, ob_n, rm, if_pos q, n_suc]
    rfl
  · have c : ¬ Int32.ofNat b < Int32.ofNat (8 * n) := fun z => q ((n_lt (by omega) (by omega)).mp z)
    rw [f139_88, f2, ob_n, f139_79, f1, ob_n, n8, if_neg c, w139_87 (Or.inr rfl), ob_n, f139_87, F_sF, if_pos ⟨rfl, rfl⟩, ob_n, if_neg (by decide), if_neg q]
/-- once ill, no bit is read -/
theorem bit12i {s : e_S} {g : ps_G} (hi : s.1 139 87 = 1) : fX12_bit (e_g s g) 139 = some (0, e_g s g) := by
  have id1 : sF s 139 87 1 = s := by rw [← hi, sF_id]
  unfold fX12_bit jX12_bit_19
  have z1 : ¬ (1 : Int32) = 0 := by decide
  rw [f139_88, ob_n, f139_79, ob_n]
  by_cases q : s.1 139 88 < 8 * s.1 139 79
  · rw [if_pos q, f139_87, hi, ob_n, if_neg z1]
  · rw [if_neg q, w139_87 (Or.inr rfl), ob_n, id1, f139_87, hi, ob_n, if_neg z1]
theorem low12i {s : e_S} {g : ps_G} (hi : s.1 139 87 = 1) {m : Nat} (hm : m ≤ 16) : ∀ (j k : Nat) (x : Int32), k + j = m → ∃ v, q_lp (fun t => bX12_low_4 139 (Int32.ofNat m) t.1 t.2.1 t.2.2) (x, Int32.ofNat k, e_g s g) = some (v, e_g s g) := by
  intro j
  induction j with
  | zero =>
    intro k x hk
    have e : k = m := hk
    subst e
    refine ⟨x, lp_end ?_⟩
    show bX12_low_4 _ _ _ _ _ = _
    unfold bX12_low_4
    rw [if_pos (nlr (by omega))]
  | succ j ih =>
    intro k x hk
    obtain ⟨v, hv⟩ := ih (k + 1) (x ||| q_shl 0 (Int32.ofNat k)) (by omega)
    have st : bX12_low_4 139 (Int32.ofNat m) x (Int32.ofNat k) (e_g s g) = some (.inl (x ||| q_shl 0 (Int32.ofNat k), Int32.ofNat (k + 1), e_g s g)) := by
      unfold bX12_low_4
      rw [if_neg (nle (by omega) (by omega)), ob139, ob_n, bit12i hi, b2_n, n_suc]
    refine ⟨v, ?_⟩
    rw [lp_go3 (bX12_low_4 139 (Int32.ofNat m)) st]
    exact hv
theorem low12 {s : e_S} {g : ps_G} {K : Nat → Int32} {n b m : Nat} (h : PM s K n b) (hi : s.1 139 87 = 0) (hm : m ≤ 16) : ∃ v, fX12_low (e_g s g) 139 (Int32.ofNat m) = some (if b + m ≤ 8 * n then (Int32.ofNat (rbN K b m), e_g (sF s 139 88 (Int32.ofNat (b + m))) g) else (v, e_g (sF (sF s 139 88 (Int32.ofNat (8 * n))) 139 87 1) g)) := by
  have h' := h
  obtain ⟨hn, hb, f1, f2, hK⟩ := h
  have z0 : sF s 139 88 (Int32.ofNat (b + 0)) = s := by
    rw [Nat.add_zero, ← f2, sF_id]
  have pm : ∀ k, b + k ≤ 8 * n → PM (sF s 139 88 (Int32.ofNat (b + k))) K n (b + k) := fun k hk => ⟨hn, hk, by rw [F_sF, if_neg (by decide)]; exact f1, by rw [F_sF, if_pos ⟨rfl, rfl⟩], fun i hi => by rw [A_sF]; exact hK i hi⟩
  have i0 : ∀ k, (sF s 139 88 (Int32.ofNat (b + k))).1 139 87 = 0 := fun k => by rw [F_sF, if_neg (by decide)]; exact hi
  have st : ∀ k, k < m → b + k < 8 * n → bX12_low_4 139 (Int32.ofNat m) (Int32.ofNat (rbN K b k)) (Int32.ofNat k) (e_g (sF s 139 88 (Int32.ofNat (b + k))) g) = some (.inl (Int32.ofNat (rbN K b (k + 1)), Int32.ofNat (k + 1), e_g (sF s 139 88 (Int32.ofNat (b + (k + 1)))) g)) := fun k hk hk2 => by
    unfold bX12_low_4
    rw [if_neg (nle hk (by omega)), ob139, ob_n, bit12 (pm k (by omega)) (i0 k), if_pos hk2, b2_n, sF_sF, n_suc, rb_s (by omega)]
    rfl
  unfold fX12_low
  have l0 : ((0 : Int32), (0 : Int32), e_g s g) = (Int32.ofNat (rbN K b 0), Int32.ofNat 0, e_g (sF s 139 88 (Int32.ofNat (b + 0))) g) := by rw [z0]; rfl
  by_cases q : b + m ≤ 8 * n
  · have lp := lp_0 (b := fun t => bX12_low_4 139 (Int32.ofNat m) t.1 t.2.1 t.2.2) (s := ((0 : Int32), (0 : Int32), e_g s g)) (r := (Int32.ofNat (rbN K b m), e_g (sF s 139 88 (Int32.ofNat (b + m))) g)) (fun k => (Int32.ofNat (rbN K b k), Int32.ofNat k, e_g (sF s 139 88 (Int32.ofNat (b + k))) g)) m l0 (fun k hk => st k hk (by omega)) (by
      show bX12_low_4 _ _ _ _ _ = _
      unfold bX12_low_4
      dsimp only
      rw [if_pos (nlr (by omega))])
    refine ⟨0, ?_⟩
    rw [lp, ob_n, if_pos q]
  · have e8 : b + (8 * n - b) = 8 * n := by omega
    have si : (sF (sF s 139 88 (Int32.ofNat (8 * n))) 139 87 1).1 139 87 = 1 := by rw [F_sF, if_pos ⟨rfl, rfl⟩]
    have bad : bX12_low_4 139 (Int32.ofNat m) (Int32.ofNat (rbN K b (8 * n - b))) (Int32.ofNat (8 * n - b)) (e_g (sF s 139 88 (Int32.ofNat (b + (8 * n - b)))) g) = some (.inl (Int32.ofNat (rbN K b (8 * n - b)) ||| q_shl 0 (Int32.ofNat (8 * n - b)), Int32.ofNat (8 * n - b + 1), e_g (sF (sF s 139 88 (Int32.ofNat (8 * n))) 139 87 1) g)) := by
      unfold bX12_low_4
      have bb := bit12 (g := g) (pm (8 * n - b) (by omega)) (i0 (8 * n - b))
      rw [if_neg (show ¬ b + (8 * n - b) < 8 * n by omega)] at bb
      rw [if_neg (nle (by omega) (by omega)), ob139, ob_n, bb, b2_n, n_suc, e8]
    obtain ⟨v, hv⟩ := low12i (g := g) si hm (m - (8 * n - b + 1)) (8 * n - b + 1) (Int32.ofNat (rbN K b (8 * n - b)) ||| q_shl 0 (Int32.ofNat (8 * n - b))) (by omega)
    have lp2 : ∀ j k, k + j = 8 * n - b → q_lp (fun t => bX12_low_4 139 (Int32.ofNat m) t.1 t.2.1 t.2.2) (Int32.ofNat (rbN K b k), Int32.ofNat k, e_g (sF s 139 88 (Int32.ofNat (b + k))) g) = some (v, e_g (sF (sF s 139 88 (Int32.ofNat (8 * n))) 139 87 1) g) := by
      intro j
      induction j with
      | zero =>
        intro k hk
        have e : k = 8 * n - b := hk
        rw [e, lp_go3 (bX12_low_4 139 (Int32.ofNat m)) bad]
        exact hv
      | succ j ih =>
        intro k hk
        rw [lp_go3 (bX12_low_4 139 (Int32.ofNat m)) (st k (by omega) (by omega))]
        exact ih (k + 1) (by omega)
    refine ⟨v, ?_⟩
    rw [l0, lp2 (8 * n - b) 0 (by omega), ob_n, if_neg q]
