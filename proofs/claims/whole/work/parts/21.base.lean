-- needs: 07 10 13 20
/-! ===== reading what was put ===== -/
theorem ob_s {α β : Type} {a : α} {f : α → Option β} : Option.bind (some a) f = f a := rfl
theorem b2_s {α β : Type} {a : α} {g : ps_G} {k : α → ps_G → Option β} : q_b2 (some (a, g)) k = k a g := rfl
theorem tc_r {α β : Type} {a : α} {g : ps_G} {k : α → ps_G → Option ((String ⊕ β) × ps_G)} : q_tc (some (.inr a, g)) k = k a g := rfl
theorem tc_l {α β : Type} {E : String} {g : ps_G} {k : α → ps_G → Option ((String ⊕ β) × ps_G)} : q_tc (some ((.inl E : String ⊕ α), g)) k = some (.inl E, g) := rfl
theorem F_sF {s : e_S} {j k a b : Nat} {v : Int32} : (sF s j k v).1 a b = if a = j ∧ b = k then v else s.1 a b := by
  show rs s.1 j (rs (s.1 j) k v) a b = _
  unfold rs
  by_cases h : a = j
  · by_cases h2 : b = k
    · rw [if_pos h, if_pos h2, if_pos ⟨h, h2⟩]
    · rw [if_pos h, if_neg h2, if_neg (fun q => h2 q.2), h]
  · rw [if_neg h, if_neg (fun q => h q.1)]
theorem A_sF {s : e_S} {j k : Nat} {v : Int32} : (sF s j k v).2.1 = s.2.1 := by obtain ⟨x1, x2, x3, x4⟩ := s; rfl
theorem R_sF {s : e_S} {j k : Nat} {v : Int32} : (sF s j k v).2.2.1 = s.2.2.1 := by obtain ⟨x1, x2, x3, x4⟩ := s; rfl
theorem L_sF {s : e_S} {j k : Nat} {v : Int32} : (sF s j k v).2.2.2 = s.2.2.2 := by obtain ⟨x1, x2, x3, x4⟩ := s; rfl
theorem F_sA {s : e_S} {j : Nat} {r : Nat → Int32} : (sA s j r).1 = s.1 := by obtain ⟨x1, x2, x3, x4⟩ := s; rfl
theorem A_sA {s : e_S} {j a : Nat} {r : Nat → Int32} : (sA s j r).2.1 a = if a = j then r else s.2.1 a := by obtain ⟨x1, x2, x3, x4⟩ := s; rfl
theorem R_sA {s : e_S} {j : Nat} {r : Nat → Int32} : (sA s j r).2.2.1 = s.2.2.1 := by obtain ⟨x1, x2, x3, x4⟩ := s; rfl
theorem L_sA {s : e_S} {j : Nat} {r : Nat → Int32} : (sA s j r).2.2.2 = s.2.2.2 := by obtain ⟨x1, x2, x3, x4⟩ := s; rfl
theorem F_sR {s : e_S} {j k : Nat} {v : Option Nat} : (sR s j k v).1 = s.1 := by obtain ⟨x1, x2, x3, x4⟩ := s; rfl
theorem A_sR {s : e_S} {j k : Nat} {v : Option Nat} : (sR s j k v).2.1 = s.2.1 := by obtain ⟨x1, x2, x3, x4⟩ := s; rfl
theorem R_sR {s : e_S} {j k a b : Nat} {v : Option Nat} : (sR s j k v).2.2.1 a b = if a = j ∧ b = k then v else s.2.2.1 a b := by
  show rs s.2.2.1 j (rs (s.2.2.1 j) k v) a b = _
  unfold rs
  by_cases h : a = j
  · by_cases h2 : b = k
    · rw [if_pos h, if_pos h2, if_pos ⟨h, h2⟩]
    · rw [if_pos h, if_neg h2, if_neg (fun q => h2 q.2), h]
  · rw [if_neg h, if_neg (fun q => h q.1)]
theorem L_sR {s : e_S} {j k : Nat} {v : Option Nat} : (sR s j k v).2.2.2 = s.2.2.2 := by obtain ⟨x1, x2, x3, x4⟩ := s; rfl
theorem F_sL {s : e_S} {j : Nat} {r : Nat → Int64} : (sL s j r).1 = s.1 := by obtain ⟨x1, x2, x3, x4⟩ := s; rfl
theorem A_sL {s : e_S} {j : Nat} {r : Nat → Int64} : (sL s j r).2.1 = s.2.1 := by obtain ⟨x1, x2, x3, x4⟩ := s; rfl
theorem R_sL {s : e_S} {j : Nat} {r : Nat → Int64} : (sL s j r).2.2.1 = s.2.2.1 := by obtain ⟨x1, x2, x3, x4⟩ := s; rfl
theorem L_sL {s : e_S} {j a : Nat} {r : Nat → Int64} : (sL s j r).2.2.2 a = if a = j then r else s.2.2.2 a := by obtain ⟨x1, x2, x3, x4⟩ := s; rfl
theorem sA_sA {s : e_S} {j : Nat} {r r' : Nat → Int32} : sA (sA s j r) j r' = sA s j r' := by
  show (s.1, rs (rs s.2.1 j r) j r', s.2.2.1, s.2.2.2) = (s.1, rs s.2.1 j r', s.2.2.1, s.2.2.2)
  rw [rs_rs]
theorem sF_sF {s : e_S} {j k : Nat} {v v' : Int32} : sF (sF s j k v) j k v' = sF s j k v' := by
  show (rs (rs s.1 j (rs (s.1 j) k v)) j (rs (rs s.1 j (rs (s.1 j) k v) j) k v'), s.2.1, s.2.2.1, s.2.2.2) = _
  rw [rs_s, rs_rs, rs_rs]; rfl
theorem sA_sF {s : e_S} {i j k : Nat} {v : Int32} {r : Nat → Int32} : sA (sF s j k v) i r = sF (sA s i r) j k v := by obtain ⟨x1, x2, x3, x4⟩ := s; rfl
theorem sA_id {s : e_S} {j : Nat} : sA s j (s.2.1 j) = s := by
  show (s.1, rs s.2.1 j (s.2.1 j), s.2.2.1, s.2.2.2) = s
  rw [rs_id]
theorem sF_id {s : e_S} {j k : Nat} : sF s j k (s.1 j k) = s := by
  show (rs s.1 j (rs (s.1 j) k (s.1 j k)), s.2.1, s.2.2.1, s.2.2.2) = s
  rw [rs_id, rs_id]
theorem upd_s {f : Nat → Int32} {i : Nat} {v : Int32} : upd f i v i = v := by simp [upd]
theorem upd_n {f : Nat → Int32} {i j : Nat} {v : Int32} (h : ¬ j = i) : upd f i v j = f j := by simp [upd, h]
theorem upd_r {f : Nat → Int32} {i j : Nat} {v : Int32} : upd f i v j = if j = i then v else f j := by simp [upd]
/-- the next of a row that is being filled -/
theorem upd_fill {f φ : Nat → Int32} {n : Nat} : upd (fun k => if k < n then φ k else f k) n (φ n) = fun k => if k < n + 1 then φ k else f k := by
  funext k
  rw [upd_r]
  by_cases h : k = n
  · rw [if_pos h, if_pos (by omega), h]
  · rw [if_neg h]
    by_cases h2 : k < n
    · rw [if_pos h2, if_pos (by omega)]
    · rw [if_neg h2, if_neg (by omega)]
/-! ===== numbers ===== -/
theorem i_lt {a b : Int32} : a < b ↔ a.toInt < b.toInt := Int32.lt_iff_toInt_lt
theorem i_le {a b : Int32} : a ≤ b ↔ a.toInt ≤ b.toInt := Int32.le_iff_toInt_le
theorem i_eq {a b : Int32} : a = b ↔ a.toInt = b.toInt := Int32.toInt_inj.symm
theorem i_idx {a : Int32} : a.toNatClampNeg = a.toInt.toNat := rfl
theorem i_min {a : Int32} : -2147483648 ≤ a.toInt := Int32.le_toInt a
theorem i_max {a : Int32} : a.toInt < 2147483648 := Int32.toInt_lt a
theorem i_bm {x : Int} (h1 : -2147483648 ≤ x) (h2 : x < 2147483648) : x.bmod (2 ^ 32) = x := by
  apply Int.bmod_eq_of_le <;> omega
theorem i_add {a b : Int32} (h1 : -2147483648 ≤ a.toInt + b.toInt) (h2 : a.toInt + b.toInt < 2147483648) : (a + b).toInt = a.toInt + b.toInt := by
  rw [Int32.toInt_add, i_bm h1 h2]
theorem i_sub {a b : Int32} (h1 : -2147483648 ≤ a.toInt - b.toInt) (h2 : a.toInt - b.toInt < 2147483648) : (a - b).toInt = a.toInt - b.toInt := by
  rw [Int32.toInt_sub, i_bm h1 h2]
theorem i_mul {a b : Int32} (h1 : -2147483648 ≤ a.toInt * b.toInt) (h2 : a.toInt * b.toInt < 2147483648) : (a * b).toInt = a.toInt * b.toInt := by
  rw [Int32.toInt_mul, i_bm h1 h2]
theorem n_int {n : Nat} (h : n < 2147483648) : (Int32.ofNat n).toInt = n := Int32.toInt_ofNat_of_lt h
theorem n_idx {n : Nat} (h : n < 2147483648) : (Int32.ofNat n).toNatClampNeg = n := by
  rw [i_idx, n_int h]; rfl
theorem n_suc {n : Nat} : Int32.ofNat n + 1 = Int32.ofNat (n + 1) := (Int32.ofNat_add n 1).symm
theorem n_add {n m : Nat} : Int32.ofNat n + Int32.ofNat m = Int32.ofNat (n + m) := (Int32.ofNat_add n m).symm
theorem n_mul {n m : Nat} : Int32.ofNat n * Int32.ofNat m = Int32.ofNat (n * m) := (Int32.ofNat_mul n m).symm
theorem n_lt {n m : Nat} (h : n < 2147483648) (h2 : m < 2147483648) : Int32.ofNat n < Int32.ofNat m ↔ n < m := by
  rw [i_lt, n_int h, n_int h2]; omega
theorem n_le {n m : Nat} (h : n < 2147483648) (h2 : m < 2147483648) : Int32.ofNat n ≤ Int32.ofNat m ↔ n ≤ m := by
  rw [i_le, n_int h, n_int h2]; omega
theorem n_in {n N : Nat} (h : n < N) (hN : N ≤ 2147483648) : ¬ (Int32.ofNat n < 0 ∨ N ≤ (Int32.ofNat n).toNatClampNeg) := by
  rw [n_idx (by omega), i_lt, n_int (by omega)]
  show ¬ ((n : Int) < 0 ∨ N ≤ n)
  omega
theorem n_neg {n : Nat} (h : n < 2147483648) : ¬ Int32.ofNat n < 0 := by
  rw [i_lt, n_int h]
  show ¬ ((n : Int) < 0)
  omega
theorem n_in2 {n N : Nat} (h : n < N) (hN : N ≤ 2147483648) : ¬ (Int32.ofNat n < 0 ∨ N ≤ n) := by
  have := n_neg (n := n) (by omega)
  rintro (h1 | h1)
  · exact this h1
  · omega
theorem n_of {a : Int32} {n : Nat} (h : a.toInt = n) : a = Int32.ofNat n := by
  have h1 := @i_max a
  rw [i_eq, n_int (by omega), h]
/-! ===== loops ===== -/
theorem lp_st {σ ρ : Type} {b : σ → Option (σ ⊕ ρ)} (st : Nat → σ) (n : Nat) {r : ρ} (hs : ∀ i, i < n → b (st i) = some (.inl (st (i + 1)))) (he : b (st n) = some (.inr r)) : ∀ i, i ≤ n → q_lp b (st i) = some r := by
  intro i hi
  obtain ⟨k, hk⟩ : ∃ k, n = i + k := ⟨n - i, by omega⟩
  induction k generalizing i with
  | zero =>
    have : i = n := by omega
    rw [this, q_lp_eq, he]; rfl
  | succ k ih =>
    rw [q_lp_eq, hs i (by omega)]
    exact ih (i + 1) (by omega) (by omega)
theorem lp_0 {σ ρ : Type} {b : σ → Option (σ ⊕ ρ)} (st : Nat → σ) (n : Nat) {r : ρ} {s : σ} (h0 : s = st 0) (hs : ∀ i, i < n → b (st i) = some (.inl (st (i + 1)))) (he : b (st n) = some (.inr r)) : q_lp b s = some r := by
  rw [h0]; exact lp_st st n hs he 0 (Nat.zero_le _)
theorem lp_inv {σ ρ : Type} {b : σ → Option (σ ⊕ ρ)} (P : Nat → σ → Prop) (E : ρ → Prop) (hs : ∀ n s, P n s → (∃ s' m, b s = some (.inl s') ∧ m < n ∧ P m s') ∨ (∃ r, b s = some (.inr r) ∧ E r)) : ∀ n s, P n s → ∃ r, q_lp b s = some r ∧ E r := by
  intro n
  induction n using Nat.strongRecOn with
  | ind n ih =>
    intro s h
    rcases hs n s h with ⟨s', m, h1, h2, h3⟩ | ⟨r, h1, h2⟩
    · obtain ⟨r, h4, h5⟩ := ih m h2 s' h3
      exact ⟨r, by rw [q_lp_eq, h1]; exact h4, h5⟩
    · exact ⟨r, by rw [q_lp_eq, h1]; rfl, h2⟩
/-- one more time around -/
theorem lp_go {σ ρ : Type} {b : σ → Option (σ ⊕ ρ)} {s s' : σ} (h : b s = some (.inl s')) : q_lp b s = q_lp b s' := by
  rw [q_lp_eq, h]; rfl
theorem lp_end {σ ρ : Type} {b : σ → Option (σ ⊕ ρ)} {s : σ} {r : ρ} (h : b s = some (.inr r)) : q_lp b s = some r := by
  rw [q_lp_eq, h]; rfl
