-- needs: 97zy
/-! ===== few: a box sorted ===== -/
/-- is c ahead of x -/
def lssB (k : Nat) (c x : Int32) : Bool := decide (vl k c < vl k x ∨ (vl k c = vl k x ∧ c < x))
/-- c is carried down past those behind it -/
def siN (k : Nat) (c : Int32) (fr : Nat) : Nat → (Nat → Int32) → Nat × (Nat → Int32)
  | 0, R => (fr, R)
  | d + 1, R => if lssB k c (R (fr + d)) then siN k c fr d (upd R (fr + d + 1) (R (fr + d))) else (fr + d + 1, R)
def in1 (k : Nat) (c : Int32) (fr d : Nat) (R : Nat → Int32) : Nat → Int32 := upd (siN k c fr d R).2 (siN k c fr d R).1 c
def soN (k fr : Nat) (R : Nat → Int32) : Nat → Nat → Int32
  | 0 => R
  | j + 1 => in1 k (soN k fr R j (fr + j + 1)) fr (j + 1) (soN k fr R j)
/-- values of R, G and B -/
def Sh (R : Nat → Int32) (al : Nat) : Prop := ∀ i, i < al → 0 ≤ (R i).toInt ∧ (R i).toInt ≤ 16777215
theorem sh_u {R : Nat → Int32} {al p : Nat} {c : Int32} (h : Sh R al) (hc : 0 ≤ c.toInt ∧ c.toInt ≤ 16777215) : Sh (upd R p c) al := fun i hi => by
  rw [upd_r]; split
  · exact hc
  · exact h i hi
theorem si_p {k fr : Nat} {c : Int32} : ∀ d R, fr ≤ (siN k c fr d R).1 ∧ (siN k c fr d R).1 ≤ fr + d := by
  intro d
  induction d with
  | zero => exact fun R => ⟨Nat.le_refl _, Nat.le_refl _⟩
  | succ d ih =>
    intro R
    by_cases q : lssB k c (R (fr + d))
    · have e : siN k c fr (d + 1) R = siN k c fr d (upd R (fr + d + 1) (R (fr + d))) := if_pos q
      rw [e]
      have := ih (upd R (fr + d + 1) (R (fr + d)))
      omega
    · have e : siN k c fr (d + 1) R = (fr + d + 1, R) := if_neg q
      rw [e]
      show fr ≤ fr + d + 1 ∧ fr + d + 1 ≤ fr + (d + 1)
      omega
theorem si_sh {k fr al : Nat} {c : Int32} : ∀ d R, fr + d < al → Sh R al → Sh (siN k c fr d R).2 al := by
  intro d
  induction d with
  | zero => exact fun R _ h => h
  | succ d ih =>
    intro R hd h
    by_cases q : lssB k c (R (fr + d))
    · have e : siN k c fr (d + 1) R = siN k c fr d (upd R (fr + d + 1) (R (fr + d))) := if_pos q
      rw [e]
      exact ih _ (by omega) (sh_u h (h _ (by omega)))
    · have e : siN k c fr (d + 1) R = (fr + d + 1, R) := if_neg q
      rw [e]; exact h
theorem so_sh {k fr al m : Nat} {R : Nat → Int32} (h : Sh R al) (hm : fr + m ≤ al) : ∀ j, j + 1 ≤ m → Sh (soN k fr R j) al := by
  intro j
  induction j with
  | zero => exact fun _ => h
  | succ j ih =>
    intro hj
    have h1 := ih (by omega)
    exact sh_u (si_sh (j + 1) _ (by omega) h1) (h1 _ (by omega))
/-- rows alike up to n -/
def Al (n : Nat) (R R' : Nat → Int32) : Prop := ∀ i, i < n → R i = R' i
theorem al_u {n p : Nat} {c : Int32} {R R' : Nat → Int32} (h : Al n R R') : Al n (upd R p c) (upd R' p c) := fun i hi => by
  rw [upd_r, upd_r]; split
  · rfl
  · exact h i hi
theorem si_c {k fr n : Nat} {c : Int32} : ∀ d R R', fr + d < n → Al n R R' → (siN k c fr d R).1 = (siN k c fr d R').1 ∧ Al n (siN k c fr d R).2 (siN k c fr d R').2 := by
  intro d
  induction d with
  | zero => exact fun R R' _ h => ⟨rfl, h⟩
  | succ d ih =>
    intro R R' hd h
    have e0 : R (fr + d) = R' (fr + d) := h _ (by omega)
    by_cases q : lssB k c (R (fr + d))
    · have e : siN k c fr (d + 1) R = siN k c fr d (upd R (fr + d + 1) (R (fr + d))) := if_pos q
      have e' : siN k c fr (d + 1) R' = siN k c fr d (upd R' (fr + d + 1) (R' (fr + d))) := if_pos (by rw [← e0]; exact q)
      rw [e, e', ← e0]
      exact ih _ _ (by omega) (al_u h)
    · have e : siN k c fr (d + 1) R = (fr + d + 1, R) := if_neg q
      have e' : siN k c fr (d + 1) R' = (fr + d + 1, R') := if_neg (by rw [← e0]; exact q)
      rw [e, e']
      exact ⟨rfl, h⟩
theorem so_c {k fr n m : Nat} {R R' : Nat → Int32} (h : Al n R R') (hm : fr + m ≤ n) : ∀ j, j + 1 ≤ m → Al n (soN k fr R j) (soN k fr R' j) := by
  intro j
  induction j with
  | zero => exact fun _ => h
  | succ j ih =>
    intro hj
    have h1 := ih (by omega)
    have e : ∀ R, soN k fr R (j + 1) = in1 k (soN k fr R j (fr + j + 1)) fr (j + 1) (soN k fr R j) := fun _ => rfl
    rw [e, e, h1 _ (show fr + j + 1 < n by omega)]
    unfold in1
    have := si_c (k := k) (c := soN k fr R' j (fr + j + 1)) (j + 1) _ _ (show fr + (j + 1) < n by omega) h1
    rw [this.1]
    exact al_u this.2
/-- what is there stays there -/
def Has (R : Nat → Int32) (fr m : Nat) (x : Int32) : Prop := ∃ i, i < m ∧ R (fr + i) = x
theorem si_h {k fr m : Nat} {c x : Int32} : ∀ d R, d < m → Has (upd R (fr + d) c) fr m x → Has (in1 k c fr d R) fr m x := by
  intro d
  induction d with
  | zero => exact fun R _ h => h
  | succ d ih =>
    intro R hd h
    by_cases q : lssB k c (R (fr + d))
    · have e : siN k c fr (d + 1) R = siN k c fr d (upd R (fr + d + 1) (R (fr + d))) := if_pos q
      have e2 : in1 k c fr (d + 1) R = in1 k c fr d (upd R (fr + d + 1) (R (fr + d))) := by unfold in1; rw [e]
      rw [e2]
      refine ih _ (by omega) ?_
      obtain ⟨i, h1, h2⟩ := h
      rw [upd_r] at h2
      by_cases c1 : i = d + 1
      · rw [if_pos (by omega)] at h2
        exact ⟨d, by omega, by rw [upd_r, if_pos rfl]; exact h2⟩
      · rw [if_neg (by omega)] at h2
        by_cases c2 : i = d
        · refine ⟨d + 1, hd, ?_⟩
          rw [upd_r, if_neg (by omega), upd_r, if_pos (by omega), ← c2]; exact h2
        · exact ⟨i, h1, by rw [upd_r, if_neg (by omega), upd_r, if_neg (by omega)]; exact h2⟩
    · have e : siN k c fr (d + 1) R = (fr + d + 1, R) := if_neg q
      have e2 : in1 k c fr (d + 1) R = upd R (fr + d + 1) c := by unfold in1; rw [e]
      rw [e2]; exact h
theorem so_h {k fr m : Nat} {R : Nat → Int32} {x : Int32} (h : Has R fr m x) : ∀ j, j + 1 ≤ m → Has (soN k fr R j) fr m x := by
  intro j
  induction j with
  | zero => exact fun _ => h
  | succ j ih =>
    intro hj
    refine si_h (j + 1) _ (by omega) ?_
    obtain ⟨i, h1, h2⟩ := ih (by omega)
    refine ⟨i, h1, ?_⟩
    rw [upd_r]
    by_cases c : i = j + 1
    · rw [if_pos (by omega), ← h2, c]; rfl
    · rw [if_neg (by omega)]; exact h2
/-! the two sorts -/
theorem chAt {s : e_S} {g : ps_G} {i k : Nat} (hi : i < 576) : fX3_channelAt (e_g s g) 111 (Int32.ofNat i) (16 - 8 * Int32.ofNat k) = some (vl k (s.2.1 116 i)) := by
  have c : ¬ Int32.ofNat i < 0 ∧ Int32.ofNat i < (576 : Int32) := ⟨n_neg (by omega), show Int32.ofNat i < Int32.ofNat 576 from (n_lt (by omega) (by omega)).mpr hi⟩
  unfold fX3_channelAt jX3_channelAt_27
  rw [if_pos c, f111_4, ob_n, ob_n, a116, n_idx (by omega), if_neg (n_in2 hi (by decide)), ob_n]
  rfl
theorem pm1 {p : Nat} : Int32.ofNat (p + 1) - 1 = Int32.ofNat p ∧ Int32.ofNat (p + 1) + -1 = Int32.ofNat p := by
  have e : Int32.ofNat (p + 1) - 1 = Int32.ofNat p := by rw [← n_suc, Int32.add_sub_cancel]
  exact ⟨e, by rw [← e, Int32.sub_eq_add_neg]⟩
theorem sortl3 {s : e_S} {g : ps_G} {k fr : Nat} {c x2 x4 : Int32} : ∀ d R, fr + d < 576 → q_lp (fun t => bX3_sortShades_42 111 (Int32.ofNat fr) x2 (16 - 8 * Int32.ofNat k) x4 c (vl k c) t.1 t.2) (Int32.ofNat (fr + d), e_g (sA s 116 R) g) = some (Int32.ofNat (siN k c fr d R).1, e_g (sA s 116 (siN k c fr d R).2) g) := by
  intro d
  induction d with
  | zero =>
    intro R hd
    refine lp_end ?_
    show bX3_sortShades_42 _ _ _ _ _ _ _ _ _ = _
    unfold bX3_sortShades_42
    dsimp only
    rw [Nat.add_zero, if_pos (nlr (by omega))]
    rfl
  | succ d ih =>
    intro R hd
    have c0 : ¬ Int32.ofNat (fr + (d + 1)) ≤ Int32.ofNat fr := nle (by omega) (by omega)
    have ch := chAt (s := sA s 116 R) (g := g) (i := fr + d) (k := k) (by omega)
    rw [A_sA, if_pos rfl] at ch
    have rd : q_aI (e_g (sA s 116 R) g) 116 (Int32.ofNat (fr + d)) = some (R (fr + d)) := by
      rw [a116, n_idx (by omega), if_neg (n_in2 (show fr + d < 576 by omega) (by decide)), A_sA, if_pos rfl]
    have jn : jX3_sortShades_90_42 (e_g (sA s 116 R) g) 111 (Int32.ofNat fr) x2 (16 - 8 * Int32.ofNat k) x4 c (vl k c) (Int32.ofNat (fr + d + 1)) = some (.inl (Int32.ofNat (fr + d), e_g (sA s 116 (upd R (fr + d + 1) (R (fr + d)))) g)) := by
      unfold jX3_sortShades_90_42
      rw [f111_4, ob_n, ob_n, ob_n, ob_n, pm1.1, rd, ob_n, u116, n_idx (by omega), if_neg (n_in2 (show fr + d + 1 < 576 by omega) (by decide)), ob_n, pm1.2, A_sA, if_pos rfl, sA_sA]
    by_cases q : lssB k c (R (fr + d))
    · have e : siN k c fr (d + 1) R = siN k c fr d (upd R (fr + d + 1) (R (fr + d))) := if_pos q
      have st : bX3_sortShades_42 111 (Int32.ofNat fr) x2 (16 - 8 * Int32.ofNat k) x4 c (vl k c) (Int32.ofNat (fr + (d + 1))) (e_g (sA s 116 R) g) = some (.inl (Int32.ofNat (fr + d), e_g (sA s 116 (upd R (fr + d + 1) (R (fr + d)))) g)) := by
        unfold bX3_sortShades_42
        rw [if_neg c0, ← Nat.add_assoc, ob111, ob_n, pm1.1, ch, ob_n]
        by_cases q1 : vl k c < vl k (R (fr + d))
        · rw [if_pos q1, jn]
        · have q2 : vl k c = vl k (R (fr + d)) ∧ c < R (fr + d) := (of_decide_eq_true q).resolve_left q1
          have q3 : ¬ R (fr + d) ≤ c := fun z => by
            have := q2.2
            rw [i_lt] at this; rw [i_le] at z; omega
          rw [if_neg q1, ob_n, ob_n, if_neg (fun z => z q2.1.symm), f111_4, ob_n, ob_n, rd, ob_n, if_neg q3, jn]
      rw [e, lp_go (b := fun t => bX3_sortShades_42 111 (Int32.ofNat fr) x2 (16 - 8 * Int32.ofNat k) x4 c (vl k c) t.1 t.2) (s := (Int32.ofNat (fr + (d + 1)), e_g (sA s 116 R) g)) st]
      exact ih _ (by omega)
    · have e : siN k c fr (d + 1) R = (fr + d + 1, R) := if_neg q
      rw [e]
      refine lp_end ?_
      show bX3_sortShades_42 _ _ _ _ _ _ _ _ _ = _
      unfold bX3_sortShades_42
      dsimp only
      have q1 : ¬ vl k c < vl k (R (fr + d)) := fun z => q (decide_eq_true (Or.inl z))
      rw [if_neg c0, ← Nat.add_assoc, ob111, ob_n, pm1.1, ch, ob_n, if_neg q1, ob_n, ob_n]
      by_cases q2 : vl k (R (fr + d)) = vl k c
      · have q3 : R (fr + d) ≤ c := by
          have : ¬ c < R (fr + d) := fun z => q (decide_eq_true (Or.inr ⟨q2.symm, z⟩))
          rw [i_lt] at this; rw [i_le]; omega
        rw [if_neg (fun z => z q2), f111_4, ob_n, ob_n, rd, ob_n, if_pos q3]
      · rw [if_pos q2]
theorem sort3 {s : e_S} {g : ps_G} {k fr m : Nat} (hm : fr + m ≤ 576) (h1 : 1 ≤ m) : fX3_sortShades (e_g s g) 111 (Int32.ofNat fr) (Int32.ofNat (fr + m)) (16 - 8 * Int32.ofNat k) = some (e_g (sA s 116 (soN k fr (s.2.1 116) (m - 1))) g) := by
  have lp := lp_0 (b := fun t => bX3_sortShades_5 111 (Int32.ofNat fr) (Int32.ofNat (fr + m)) (16 - 8 * Int32.ofNat k) t.1 t.2) (s := (Int32.ofNat (fr + 1), e_g s g)) (r := e_g (sA s 116 (soN k fr (s.2.1 116) (m - 1))) g) (fun j => (Int32.ofNat (fr + j + 1), e_g (sA s 116 (soN k fr (s.2.1 116) j)) g)) (m - 1) ?_ (fun j hj => ?_) ?_
  · unfold fX3_sortShades jX3_sortShades_127
    rw [n_suc, lp, ob_n]
  · show _ = (_, e_g (sA s 116 (s.2.1 116)) g)
    rw [sA_id]
  · generalize hR : soN k fr (s.2.1 116) j = R
    have c : ¬ (Int32.ofNat (fr + m) ≤ Int32.ofNat (fr + j + 1) ∨ (576 : Int32) ≤ Int32.ofNat (fr + j + 1)) := by
      have c5 : ¬ (576 : Int32) ≤ Int32.ofNat (fr + j + 1) := show ¬ Int32.ofNat 576 ≤ Int32.ofNat (fr + j + 1) from nle (by omega) (by omega)
      exact fun z => z.elim (nle (by omega) (by omega)) c5
    have rd : q_aI (e_g (sA s 116 R) g) 116 (Int32.ofNat (fr + j + 1)) = some (R (fr + j + 1)) := by
      rw [a116, n_idx (by omega), if_neg (n_in2 (show fr + j + 1 < 576 by omega) (by decide)), A_sA, if_pos rfl]
    have si := sortl3 (s := s) (g := g) (k := k) (fr := fr) (c := R (fr + j + 1)) (x2 := Int32.ofNat (fr + m)) (x4 := Int32.ofNat (fr + j + 1)) (j + 1) R (by omega)
    have sp := si_p (k := k) (fr := fr) (c := R (fr + j + 1)) (j + 1) R
    have es : soN k fr (s.2.1 116) (j + 1) = in1 k (R (fr + j + 1)) fr (j + 1) R := by rw [← hR]; rfl
    show bX3_sortShades_5 _ _ _ _ _ _ = _
    unfold bX3_sortShades_5 jX3_sortShades_112_5
    dsimp only
    rw [if_neg c, f111_4, ob_n, ob_n, rd, ob_n]
    show Option.bind (q_lp (fun t => bX3_sortShades_42 111 (Int32.ofNat fr) (Int32.ofNat (fr + m)) (16 - 8 * Int32.ofNat k) (Int32.ofNat (fr + (j + 1))) (R (fr + j + 1)) (vl k (R (fr + j + 1))) t.1 t.2) (Int32.ofNat (fr + (j + 1)), e_g (sA s 116 R) g)) _ = _
    rw [show fr + (j + 1) = fr + j + 1 by omega] at si ⊢
    rw [si, ob_n, f111_4, ob_n, ob_n, u116, n_idx (by omega), if_neg (n_in2 (show (siN k (R (fr + j + 1)) fr (j + 1) R).1 < 576 by omega) (by decide)), ob_n, n_suc, A_sA, if_pos rfl, sA_sA, es]
    rfl
  · show bX3_sortShades_5 _ _ _ _ _ _ = _
    unfold bX3_sortShades_5
    dsimp only
    rw [if_pos (Or.inl (by rw [show fr + (m - 1) + 1 = fr + m by omega]; exact nlr (by omega)))]
