-- needs: 07 10 13 14 20 21 22 23 24 25 26 27 32 38 39 40 41
/-! ===== counting ===== -/
def cnt (P : Nat → Bool) : Nat → Nat
  | 0 => 0
  | n + 1 => cnt P n + if P n then 1 else 0
theorem cnt_s {P : Nat → Bool} {n : Nat} : cnt P (n + 1) = cnt P n + if P n then 1 else 0 := rfl
theorem cnt_le {P : Nat → Bool} : ∀ {n}, cnt P n ≤ n
  | 0 => Nat.le_refl _
  | n + 1 => by
    unfold cnt
    have := @cnt_le P n
    split <;> omega
theorem cnt_mono {P : Nat → Bool} {n m : Nat} (h : n ≤ m) : cnt P n ≤ cnt P m := by
  induction m with
  | zero => rw [Nat.le_zero.mp h]; exact Nat.le_refl _
  | succ m ih =>
    by_cases e : n = m + 1
    · rw [e]; exact Nat.le_refl _
    · have := ih (by omega)
      rw [cnt_s]
      split <;> omega
theorem cnt_cong {P Q : Nat → Bool} {n : Nat} (h : ∀ i, i < n → P i = Q i) : cnt P n = cnt Q n := by
  induction n with
  | zero => rfl
  | succ n ih =>
    rw [cnt_s, cnt_s]
    rw [ih (fun i hi => h i (by omega)), h n (by omega)]
theorem cnt_rm {Q : Nat → Bool} {m j : Nat} (hj : j < m) (hq : Q j = true) : cnt Q m = cnt (fun i => Q i && !decide (i = j)) m + 1 := by
  induction m with
  | zero => omega
  | succ m ih =>
    rw [cnt_s, cnt_s]
    by_cases e : j = m
    · subst e
      rw [hq, if_pos rfl, cnt_cong (P := fun i => Q i && !decide (i = j)) (Q := Q) (fun i hi => by
        have : decide (i = j) = false := decide_eq_false (by omega)
        show (Q i && !decide (i = j)) = Q i
        rw [this]; simp)]
      simp
    · have := ih (by omega)
      rw [this]
      have z : decide (m = j) = false := decide_eq_false (fun q => e q.symm)
      rw [z]
      simp only [Bool.not_false, Bool.and_true]
      omega
theorem cnt_inj {P Q : Nat → Bool} {n m : Nat} (f : Nat → Nat) (h1 : ∀ i, i < n → P i = true → f i < m ∧ Q (f i) = true) (h2 : ∀ i j, i < n → j < n → P i = true → P j = true → f i = f j → i = j) : cnt P n ≤ cnt Q m := by
  induction n generalizing Q with
  | zero => exact Nat.zero_le _
  | succ n ih =>
    rw [cnt_s]
    by_cases hp : P n = true
    · rw [if_pos hp]
      obtain ⟨a1, a2⟩ := h1 n (by omega) hp
      rw [cnt_rm a1 a2]
      have := ih (Q := fun i => Q i && !decide (i = f n)) (fun i hi hpi => by
        obtain ⟨b1, b2⟩ := h1 i (by omega) hpi
        refine ⟨b1, ?_⟩
        have : ¬ f i = f n := fun e => by
          have := h2 i n (by omega) (by omega) hpi hp e
          omega
        rw [b2, decide_eq_false this]; rfl) (fun i j hi hj => h2 i j (by omega) (by omega))
      omega
    · rw [if_neg hp]
      exact ih (fun i hi => h1 i (by omega)) (fun i j hi hj => h2 i j (by omega) (by omega))
/-- the children of p among the numbers of LAYERS -/
def chL (N : Nat → Int32) (p : Int32) (l : Nat) : Bool := decide (N (1169 * l) = 1) && decide (N (1169 * l + 2) = p)
/-- and along the order -/
def chO (N : Nat → Int32) (o : Nat → Nat) (p : Int32) (i : Nat) : Bool := decide (N (1169 * o i + 2) = p)
/-- what OrN says, with its numbers named -/
def OrD (N : Nat → Int32) (sz : Nat) (od : Nat → Int32) (o : Nat → Nat) : Prop := sz ≤ 30 ∧ (∀ i, i < sz → od i = Int32.ofNat (o i) ∧ o i < 30 ∧ N (1169 * o i) = 1) ∧ (∀ i j, i < j → j < sz → ¬ o i = o j) ∧ (∀ l, l < 30 → N (1169 * l) = 1 → ∃ i, i < sz ∧ o i = l) ∧ (∀ i j, i < j → j < sz → N (1169 * o i + 2) = N (1169 * o j + 2) → N (1169 * o i + 3) < N (1169 * o j + 3))
theorem orN_d {N : Nat → Int32} {sz : Nat} {od : Nat → Int32} (h : OrN N sz od) : ∃ o, OrD N sz od o := by
  obtain ⟨a1, o, a2, a3, a4, a5⟩ := h
  exact ⟨o, a1, a2, a3, a4, a5⟩
theorem cnt_many {N : Nat → Int32} {sz : Nat} {od : Nat → Int32} {o : Nat → Nat} {p : Int32} (h : OrD N sz od o) : cnt (chO N o p) sz = cnt (chL N p) 30 := by
  obtain ⟨a1, a2, a3, a4, a5⟩ := h
  have inj : ∀ i j, i < sz → j < sz → o i = o j → i = j := by
    intro i j hi hj e
    by_cases q : i < j
    · exact absurd e (a3 i j q hj)
    · by_cases q2 : j < i
      · exact absurd e.symm (a3 j i q2 hi)
      · omega
  apply Nat.le_antisymm
  · refine cnt_inj o (fun i hi hp => ?_) (fun i j hi hj _ _ e => inj i j hi hj e)
    refine ⟨(a2 i hi).2.1, ?_⟩
    unfold chL
    rw [decide_eq_true (a2 i hi).2.2]
    exact hp
  · have hx : ∀ l, ∃ i, l < 30 → N (1169 * l) = 1 → i < sz ∧ o i = l := by
      intro l
      by_cases q : l < 30 ∧ N (1169 * l) = 1
      · obtain ⟨i, i1, i2⟩ := a4 l q.1 q.2
        exact ⟨i, fun _ _ => ⟨i1, i2⟩⟩
      · exact ⟨0, fun z1 z2 => absurd ⟨z1, z2⟩ q⟩
    obtain ⟨f, hf⟩ := Classical.axiomOfChoice hx
    have un : ∀ l, chL N p l = true → N (1169 * l) = 1 ∧ N (1169 * l + 2) = p := by
      intro l hl
      unfold chL at hl
      rw [Bool.and_eq_true] at hl
      exact ⟨of_decide_eq_true hl.1, of_decide_eq_true hl.2⟩
    refine cnt_inj f (fun l hl hp => ?_) (fun l m hl hm hp hq e => ?_)
    · obtain ⟨u1, u2⟩ := un l hp
      obtain ⟨i1, i2⟩ := hf l hl u1
      refine ⟨i1, ?_⟩
      unfold chO
      rw [i2]
      exact decide_eq_true u2
    · have e1 := (hf l hl (un l hp).1).2
      have e2 := (hf m hm (un m hq).1).2
      rw [← e1, ← e2, e]
/-- a child's place is the number of those before it -/
theorem place_cnt {N : Nat → Int32} {sz : Nat} {od : Nat → Int32} {o : Nat → Nat} (ht : TrN N) (h : OrD N sz od o) : ∀ i, i < sz → N (1169 * o i + 3) = Int32.ofNat (cnt (chO N o (N (1169 * o i + 2))) i) := by
  obtain ⟨a1, a2, a3, a4, a5⟩ := h
  intro i
  induction i using Nat.strongRecOn with
  | ind i ih =>
    intro hi
    obtain ⟨b1, b2, b3⟩ := a2 i hi
    obtain ⟨p, p1, p2, p3⟩ := ht.2.2.2.2 (o i) b2 b3
    have hc : cnt (chO N o (N (1169 * o i + 2))) i ≤ i := cnt_le
    have key : p = cnt (chO N o (N (1169 * o i + 2))) i := by
      apply Nat.le_antisymm
      · apply Nat.le_of_not_lt
        intro hlt
        obtain ⟨m, m1, m2, m3, m4⟩ := p3 _ hlt
        obtain ⟨j, j1, j2⟩ := a4 m m1 m2
        have hj : j < i := by
          apply Nat.lt_of_not_le
          intro hij
          by_cases e : i = j
          · rw [← e] at j2
            rw [j2] at p2
            rw [p2] at m4
            have := (n_eq (by omega) (by omega)).mp m4
            omega
          · have := a5 i j (by omega) j1 (by rw [j2]; exact m3.symm)
            rw [j2, p2, m4, n_lt (by omega) (by omega)] at this
            omega
        have e1 := ih j hj (by omega)
        rw [j2, m4, m3] at e1
        have e2 := (n_eq (by omega) (by have := @cnt_le (chO N o (N (1169 * o i + 2))) j; omega)).mp e1
        have e3 : cnt (chO N o (N (1169 * o i + 2))) (j + 1) ≤ cnt (chO N o (N (1169 * o i + 2))) i := cnt_mono hj
        rw [cnt_s] at e3
        have e4 : chO N o (N (1169 * o i + 2)) j = true := by
          unfold chO; rw [j2, m3]; exact decide_eq_true rfl
        rw [e4, if_pos rfl] at e3
        omega
      · apply Nat.le_of_not_lt
        intro hlt
        have hex : ∀ k, k ≤ i → 0 < cnt (chO N o (N (1169 * o i + 2))) k → ∃ j, j < k ∧ chO N o (N (1169 * o i + 2)) j = true ∧ cnt (chO N o (N (1169 * o i + 2))) j + 1 = cnt (chO N o (N (1169 * o i + 2))) k := by
          intro k
          induction k with
          | zero => intro _ hz; exact absurd hz (Nat.lt_irrefl 0)
          | succ k ihk =>
            intro hk hz
            by_cases e : chO N o (N (1169 * o i + 2)) k = true
            · refine ⟨k, by omega, e, ?_⟩
              show _ = cnt _ k + if _ then 1 else 0
              rw [if_pos e]
            · have e5 : cnt (chO N o (N (1169 * o i + 2))) (k + 1) = cnt (chO N o (N (1169 * o i + 2))) k := by
                show cnt _ k + (if _ then 1 else 0) = _
                rw [if_neg e]; rfl
              rw [e5] at hz ⊢
              obtain ⟨j, j1, j2, j3⟩ := ihk (by omega) hz
              exact ⟨j, by omega, j2, j3⟩
        obtain ⟨j, j1, j2, j3⟩ := hex i (Nat.le_refl _) (by omega)
        have e6 : N (1169 * o j + 2) = N (1169 * o i + 2) := of_decide_eq_true j2
        have e1 := ih j j1 (by omega)
        rw [e6] at e1
        have e7 := a5 j i j1 hi e6
        rw [e1, p2, n_lt (by omega) (by omega)] at e7
        omega
    rw [p2, key]
