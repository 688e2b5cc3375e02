-- needs: 97zzz
/-! ===== made: bytes put out alike ===== -/
theorem ag_o {P P' : (Nat → Int32) × Nat} {v : Int32} (h : AgR P P') : AgR (obV P v) (obV P' v) := ag_p (v := v &&& 255) h
theorem ag_4 {P P' : (Nat → Int32) × Nat} {v : Int32} (h : AgR P P') : AgR (w4V P v) (w4V P' v) := ag_o (ag_o (ag_o (ag_o h)))
theorem ag_op {P P' : (Nat → Int32) × Nat} {v : Int32} (h : AgR P P') : AgR (opV P v) (opV P' v) := ag_4 (ag_4 h)
theorem ck_c {O O' : Nat → Int32} {a : Nat} : ∀ n, (∀ i, i < a + n → O i = O' i) → ckV O a n = ckV O' a n := by
  intro n
  induction n with
  | zero => exact fun _ => rfl
  | succ n ih =>
    intro h
    show c1V (ckV O a n ^^^ (O (a + n) &&& 255)) 8 = c1V (ckV O' a n ^^^ (O' (a + n) &&& 255)) 8
    rw [ih (fun i hi => h i (by omega)), h (a + n) (by omega)]
theorem ag_ln {P P' : (Nat → Int32) × Nat} {p : Nat} (h : AgR P P') : AgR (lnO P p) (lnO P' p) := by
  refine ⟨h.1, fun i hi => ?_⟩
  have hi' : i < P.2 := hi
  show tp P.1 p (Int32.ofNat (P.2 - p - 8)) i = tp P'.1 p (Int32.ofNat (P'.2 - p - 8)) i
  rw [← h.1]
  unfold tp
  rw [upd_r, upd_r, upd_r, upd_r, upd_r, upd_r, upd_r, upd_r, h.2 i hi']
theorem ag_cs {P P' : (Nat → Int32) × Nat} {p : Nat} (hp : p + 4 ≤ P.2) (h : AgR P P') : AgR (csV P p) (csV P' p) := by
  have l := ag_ln (p := p) h
  have e : ckV (lnO P p).1 (p + 4) (P.2 - p - 4) = ckV (lnO P' p).1 (p + 4) (P'.2 - p - 4) := by
    rw [← h.1]
    exact ck_c _ (fun i hi => l.2 i (by show i < P.2; omega))
  unfold csV
  rw [e]
  exact ag_4 l
def AgT (T T' : ((Nat → Int32) × Nat) × Int32 × Nat) : Prop := AgR T.1 T'.1 ∧ T.2 = T'.2
theorem at_bt {T T' : ((Nat → Int32) × Nat) × Int32 × Nat} {b : Int32} (h : AgT T T') : AgT (btV T b) (btV T' b) := by
  obtain ⟨P, Q⟩ := T
  obtain ⟨P', Q'⟩ := T'
  obtain ⟨h1, h2⟩ := h
  have h2' : Q = Q' := h2
  subst h2'
  unfold btV
  dsimp only
  by_cases q : Q.2 + 1 = 8
  · rw [if_pos q, if_pos q]
    exact ⟨ag_o h1, rfl⟩
  · rw [if_neg q, if_neg q]
    exact ⟨h1, rfl⟩
theorem at_bl {T T' : ((Nat → Int32) × Nat) × Int32 × Nat} {v : Int32} (h : AgT T T') : ∀ k, AgT (blV' v T k) (blV' v T' k) := by
  intro k
  induction k with
  | zero => exact h
  | succ k ih => exact at_bt ih
theorem at_cd {v : Int32} : ∀ (n : Nat) (T T' : ((Nat → Int32) × Nat) × Int32 × Nat), AgT T T' → AgT (cdV v T n) (cdV v T' n) := by
  intro n
  induction n with
  | zero => exact fun T T' h => h
  | succ n ih => exact fun T T' h => ih _ _ (at_bt h)
theorem at_sy {T T' : ((Nat → Int32) × Nat) × Int32 × Nat} {x : Int32} (h : AgT T T') : AgT (syV T x) (syV T' x) := by
  unfold syV
  by_cases q1 : (144 : Int32) ≤ x
  · rw [if_pos q1, if_pos q1]
    by_cases q2 : (256 : Int32) ≤ x
    · rw [if_pos q2, if_pos q2]
      by_cases q3 : (280 : Int32) ≤ x
      · rw [if_pos q3, if_pos q3]; exact at_cd 8 T T' h
      · rw [if_neg q3, if_neg q3]; exact at_cd 7 T T' h
    · rw [if_neg q2, if_neg q2]; exact at_cd 9 T T' h
  · rw [if_neg q1, if_neg q1]; exact at_cd 8 T T' h
theorem at_ml {T T' : ((Nat → Int32) × Nat) × Int32 × Nat} {m : Nat} (h : AgT T T') : AgT (mlV T m) (mlV T' m) := at_bl (at_sy h) _
theorem at_md {T T' : ((Nat → Int32) × Nat) × Int32 × Nat} {d : Nat} (h : AgT T T') : AgT (mdT T d) (mdT T' d) := at_bl (at_cd 5 T T' h) _
theorem at_df {R : (Nat → Int32) × Nat} : ∀ (m p : Nat) (T T' : ((Nat → Int32) × Nat) × Int32 × Nat), AgT T T' → AgT (dfT R m p T) (dfT R m p T') := by
  intro m
  induction m with
  | zero => exact fun p T T' h => h
  | succ m ih =>
    intro p T T' h
    have u : ∀ T, dfT R (m + 1) p T = if R.2 ≤ p then T else if (ngN (MtM R p) p).1 < 3 then dfT R m (p + 1) (syV T (R.1 p)) else dfT R m (p + (ngN (MtM R p) p).1) (mdT (mlV T (ngN (MtM R p) p).1) (ngN (MtM R p) p).2) := fun T => rfl
    rw [u, u]
    by_cases q : R.2 ≤ p
    · rw [if_pos q, if_pos q]; exact h
    · rw [if_neg q, if_neg q]
      by_cases q3 : (ngN (MtM R p) p).1 < 3
      · rw [if_pos q3, if_pos q3]; exact ih _ _ _ (at_sy h)
      · rw [if_neg q3, if_neg q3]; exact ih _ _ _ (at_md (at_ml h))
theorem at_fn {T T' : ((Nat → Int32) × Nat) × Int32 × Nat} (h : AgT T T') : AgT (fnV T) (fnV T') := by
  unfold fnV
  rw [← h.2]
  by_cases q : T.2.2 = 0
  · rw [if_pos q, if_pos q]; exact h
  · rw [if_neg q, if_neg q]; exact at_bl h _
theorem at_de {R P P' : (Nat → Int32) × Nat} (h : AgR P P') : AgT (deV R P) (deV R P') := at_fn (at_sy (at_df _ _ _ _ (at_bl (T := (P, 0, 0)) (T' := (P', 0, 0)) ⟨h, rfl⟩ 3)))
