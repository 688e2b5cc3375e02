-- needs: 07 10 13 14 20 21 22 23 24 25 26 27 32 33 34 36 38 39 40 41 42 43 44 46 47 48 53
/-! ===== the tree: ranks, who is in whom ===== -/
theorem cnt_lt {P Q : Nat → Bool} {n p : Nat} (h : ∀ i, i < n → P i = true → Q i = true) (hp : p < n) (h1 : P p = false) (h2 : Q p = true) : cnt P n < cnt Q n := by
  rw [cnt_rm hp h2]
  have := cnt_inj (P := P) (Q := fun i => Q i && !decide (i = p)) (n := n) (m := n) id (fun i hi hpi => ⟨hi, by
    have hne : ¬ i = p := fun e => by rw [e, h1] at hpi; cases hpi
    show (Q i && !decide (i = p)) = true
    rw [h i hi hpi, decide_eq_false hne]; rfl⟩) (fun i j _ _ _ _ e => e)
  omega
theorem neg1_n {p : Nat} (hp : p < 2147483648) : ¬ (-1 : Int32) = Int32.ofNat p := by
  intro e
  have := congrArg Int32.toInt e
  rw [n_int hp] at this
  have e1 : (-1 : Int32).toInt = -1 := rfl
  omega
/-- the parent of a LAYER that lives -/
theorem trN_p {N : Nat → Int32} (h : TrN N) {l : Nat} (hl : l < 30) (h1 : N (1169 * l) = 1) : N (1169 * l + 2) = -1 ∨ ∃ p : Nat, p < 30 ∧ N (1169 * l + 2) = Int32.ofNat p ∧ N (1169 * p) = 1 ∧ N (1169 * p + 1) = 1 := h.2.2.1 l hl h1
theorem trN_rk {N : Nat → Int32} (h : TrN N) : ∃ d : Nat → Nat, (∀ l, l < 30 → N (1169 * l) = 1 → d l < 30) ∧ ∀ l, l < 30 → N (1169 * l) = 1 → ∀ p : Nat, p < 30 → N (1169 * l + 2) = Int32.ofNat p → d p < d l := by
  obtain ⟨-, -, c, ⟨d, d1⟩, -⟩ := id h
  refine ⟨fun l => cnt (fun m => decide (N (1169 * m) = 1 ∧ d m < d l)) 30, fun l hl h1 => ?_, fun l hl h1 p hp hq => ?_⟩
  · have := cnt_lt (P := fun m => decide (N (1169 * m) = 1 ∧ d m < d l)) (Q := fun _ => true) (n := 30) (p := l) (fun _ _ _ => rfl) hl (decide_eq_false (fun z => Nat.lt_irrefl _ z.2)) rfl
    rw [cnt_all] at this
    exact this
  · have hd := d1 l hl h1 p hp hq
    have hp1 : N (1169 * p) = 1 := by
      rcases trN_p h hl h1 with z | ⟨p', z1, z2, z3, z4⟩
      · rw [z] at hq; exact absurd hq (neg1_n (by omega))
      · rw [z2] at hq
        have := (n_eq (by omega) (by omega)).mp hq
        rw [← this]; exact z3
    exact cnt_lt (P := fun m => decide (N (1169 * m) = 1 ∧ d m < d p)) (Q := fun m => decide (N (1169 * m) = 1 ∧ d m < d l)) (fun i hi z => decide_eq_true (by have := of_decide_eq_true z; exact ⟨this.1, Nat.lt_trans this.2 hd⟩)) hp (decide_eq_false (fun z => Nat.lt_irrefl _ z.2)) (decide_eq_true ⟨hp1, hd⟩)
/-- p is G, or stands in G -/
def isB (N : Nat → Int32) (G : Int32) : Nat → Int32 → Bool
  | 0, _ => false
  | n + 1, p => if p < 0 then false else if p = G then true else isB N G n (N (1169 * p.toInt.toNat + 2))
theorem isB_s {N : Nat → Int32} {G p : Int32} {n : Nat} : isB N G (n + 1) p = if p < 0 then false else if p = G then true else isB N G n (N (1169 * p.toInt.toNat + 2)) := rfl
theorem isB_neg {N : Nat → Int32} {G : Int32} {n : Nat} : isB N G n (-1) = false := by
  cases n with
  | zero => rfl
  | succ n => rw [isB_s, if_pos (by decide)]
theorem isB_n {N : Nat → Int32} {G : Int32} {n l : Nat} (hl : l < 30) : isB N G (n + 1) (Int32.ofNat l) = if Int32.ofNat l = G then true else isB N G n (N (1169 * l + 2)) := by
  rw [isB_s, if_neg (n_neg (by omega)), n_int (by omega), Int.toNat_natCast]
/-- what a rank must be -/
def Rk (N : Nat → Int32) (d : Nat → Nat) : Prop := (∀ l, l < 30 → N (1169 * l) = 1 → d l < 30) ∧ ∀ l, l < 30 → N (1169 * l) = 1 → ∀ p : Nat, p < 30 → N (1169 * l + 2) = Int32.ofNat p → d p < d l
theorem isB_st {N : Nat → Int32} {G : Int32} {d : Nat → Nat} (ht : TrN N) (hd : Rk N d) : ∀ n l m, l < 30 → N (1169 * l) = 1 → d l < n → d l < m → isB N G n (Int32.ofNat l) = isB N G m (Int32.ofNat l) := by
  intro n
  induction n with
  | zero => intro l m _ _ z; omega
  | succ n ih =>
    intro l m hl h1 hn hm
    obtain ⟨m, rfl⟩ : ∃ m', m = m' + 1 := ⟨m - 1, by omega⟩
    rw [isB_n hl, isB_n hl]
    by_cases q : Int32.ofNat l = G
    · rw [if_pos q, if_pos q]
    · rw [if_neg q, if_neg q]
      rcases trN_p ht hl h1 with z | ⟨p, z1, z2, z3, z4⟩
      · rw [z, isB_neg, isB_neg]
      · have := hd.2 l hl h1 p z1 z2
        rw [z2]
        exact ih p m z1 z3 (by omega) (by omega)
theorem isIn12l {s : e_S} {g : ps_G} {G : Int32} {d : Nat → Nat} (ht : TrN (s.2.1 142)) (hd : Rk (s.2.1 142) d) : ∀ n l, l < 30 → s.2.1 142 (1169 * l) = 1 → d l < n → ∃ v, q_lp (fun t => bX12_isIn_2 (e_g s g) 139 G t) (Int32.ofNat l) = some v ∧ (v < 0 ↔ isB (s.2.1 142) G n (Int32.ofNat l) = false) := by
  intro n
  induction n with
  | zero => intro l _ _ z; omega
  | succ n ih =>
    intro l hl h1 hn
    have q0 : ¬ Int32.ofNat l < 0 := n_neg (by omega)
    have g2 := get12 (s := s) (g := g) (n := 2) hl (by omega)
    rw [isB_n hl]
    by_cases q : Int32.ofNat l = G
    · refine ⟨Int32.ofNat l, lp_end (by simp (decide := true) only [bX12_isIn_2, q, ob_n, b2_n, tc_rn, tc_ln, F_sF, A_sF, R_sF, L_sF, F_sA, A_sA, R_sA, L_sA, F_sR, A_sR, R_sR, L_sR, F_sL, A_sL, R_sL, L_sL, and_true, true_and, and_false, false_and, and_self, reduceIte, sF_sF, sA_sA, false_or, or_false, true_or, or_true, not_false_eq_true, not_true_eq_false, decide_true, decide_false, Bool.true_or, Bool.or_true, Bool.false_and, Bool.true_and, Bool.false_or, Bool.or_false, Bool.and_true, Bool.and_false]), ?_⟩
      rw [if_pos q]
      exact ⟨fun z => absurd z q0, fun z => by cases z⟩
    · rw [if_neg q]
      have st : bX12_isIn_2 (e_g s g) 139 G (Int32.ofNat l) = some (.inl (s.2.1 142 (1169 * l + 2))) := by
        simp (decide := true) only [bX12_isIn_2, q, q0, ob139, g2, ob_n, b2_n, tc_rn, tc_ln, F_sF, A_sF, R_sF, L_sF, F_sA, A_sA, R_sA, L_sA, F_sR, A_sR, R_sR, L_sR, F_sL, A_sL, R_sL, L_sL, and_true, true_and, and_false, false_and, and_self, reduceIte, sF_sF, sA_sA, false_or, or_false, true_or, or_true, not_false_eq_true, not_true_eq_false, decide_true, decide_false, Bool.true_or, Bool.or_true, Bool.false_and, Bool.true_and, Bool.false_or, Bool.or_false, Bool.and_true, Bool.and_false]
      rcases trN_p ht hl h1 with z | ⟨p, z1, z2, z3, z4⟩
      · refine ⟨-1, ?_, ?_⟩
        · rw [lp_go st, z]
          exact lp_end (by simp (decide := true) only [bX12_isIn_2, ob_n, b2_n, tc_rn, tc_ln, F_sF, A_sF, R_sF, L_sF, F_sA, A_sA, R_sA, L_sA, F_sR, A_sR, R_sR, L_sR, F_sL, A_sL, R_sL, L_sL, and_true, true_and, and_false, false_and, and_self, reduceIte, sF_sF, sA_sA, false_or, or_false, true_or, or_true, not_false_eq_true, not_true_eq_false, decide_true, decide_false, Bool.true_or, Bool.or_true, Bool.false_and, Bool.true_and, Bool.false_or, Bool.or_false, Bool.and_true, Bool.and_false])
        · rw [z, isB_neg]
          exact ⟨fun _ => rfl, fun _ => by decide⟩
      · obtain ⟨v, v1, v2⟩ := ih p z1 z3 (by have := hd.2 l hl h1 p z1 z2; omega)
        refine ⟨v, ?_, ?_⟩
        · rw [lp_go st, z2]; exact v1
        · rw [z2]; exact v2
theorem isIn12 {s : e_S} {g : ps_G} {G : Int32} {l : Nat} (ht : TrN (s.2.1 142)) (hl : l < 30) (h1 : s.2.1 142 (1169 * l) = 1) : fX12_isIn (e_g s g) 139 (Int32.ofNat l) G = some (if isB (s.2.1 142) G 31 (Int32.ofNat l) then 1 else 0) := by
  obtain ⟨d, hd⟩ := trN_rk ht
  obtain ⟨v, v1, v2⟩ := isIn12l (g := g) (G := G) ht hd 31 l hl h1 (by have := hd.1 l hl h1; omega)
  by_cases q : isB (s.2.1 142) G 31 (Int32.ofNat l) = true
  · have nv : ¬ v < 0 := fun z => by rw [v2.mp z] at q; cases q
    simp (decide := true) only [fX12_isIn, jX12_isIn_21, v1, nv, q, ob_n, b2_n, tc_rn, tc_ln, F_sF, A_sF, R_sF, L_sF, F_sA, A_sA, R_sA, L_sA, F_sR, A_sR, R_sR, L_sR, F_sL, A_sL, R_sL, L_sL, and_true, true_and, and_false, false_and, and_self, reduceIte, sF_sF, sA_sA, false_or, or_false, true_or, or_true, not_false_eq_true, not_true_eq_false, decide_true, decide_false, Bool.true_or, Bool.or_true, Bool.false_and, Bool.true_and, Bool.false_or, Bool.or_false, Bool.and_true, Bool.and_false]
  · have nv : v < 0 := v2.mpr (by simpa using q)
    simp (decide := true) only [fX12_isIn, jX12_isIn_21, v1, nv, q, ob_n, b2_n, tc_rn, tc_ln, F_sF, A_sF, R_sF, L_sF, F_sA, A_sA, R_sA, L_sA, F_sR, A_sR, R_sR, L_sR, F_sL, A_sL, R_sL, L_sL, and_true, true_and, and_false, false_and, and_self, reduceIte, sF_sF, sA_sA, false_or, or_false, true_or, or_true, not_false_eq_true, not_true_eq_false, decide_true, decide_false, Bool.true_or, Bool.or_true, Bool.false_and, Bool.true_and, Bool.false_or, Bool.or_false, Bool.and_true, Bool.and_false]
theorem isIn9l {s : e_S} {g : ps_G} {a w h la oa sz G : Nat} {N : Nat → Int32} {ly : Nat → Option Nat} {od : Nat → Int32} {o : Nat → Nat} {d : Nat → Nat} (hS : StD g a w h N la oa sz ly od o) (hd : Rk N d) (hG : G < 30) : ∀ n l c, l < 30 → N (1169 * l) = 1 → d l < n → c + n ≤ 31 → q_lp (fun t => bX9_isIn_9 (e_g s g) a (Int32.ofNat G) t.1 t.2) (ly l, Int32.ofNat c) = some (if isB N (Int32.ofNat G) n (N (1169 * l + 2)) then .inr 1 else .inl ()) := by
  intro n
  induction n with
  | zero => intro l c _ _ z; omega
  | succ n ih =>
    intro l c hl h1 hn hc
    obtain ⟨b, e1, e2⟩ := hS.ly hl h1
    have ht : TrN N := hS.1
    obtain ⟨y1, y2, p, q', x0, y0, x1, yy1, pa, ma, y3, -⟩ := id e2
    have r2 : q_fI 4 2 (e_g s g) b = some (N (1169 * l + 2)) := d_fI y1 y3 rfl
    have n0 : ¬ (some b = none) := nofun
    have nc : ¬ (30 : Int32) < Int32.ofNat c := by
      show ¬ Int32.ofNat 30 < Int32.ofNat c
      rw [n_lt (by omega) (by omega)]; omega
    obtain ⟨t, h1', h2', c1, c0, c2, c3, c9, c4, c5, c6, c7, ho, c10⟩ := id hS
    rcases trN_p ht hl h1 with z | ⟨p, z1, z2, z3, z4⟩
    · have nG : ¬ (-1 : Int32) = Int32.ofNat G := neg1_n (by omega)
      have fd := find9 (s := s) (x := -1) h1' c1 c5 c6
      rw [if_neg (by decide)] at fd
      have st : bX9_isIn_9 (e_g s g) a (Int32.ofNat G) (ly l) (Int32.ofNat c) = some (.inl (none, Int32.ofNat (c + 1))) := by
        simp (decide := true) only [bX9_isIn_9, e1, n0, nc, r2, z, nG, hS.ob, fd, n_suc, ob_n, b2_n, tc_rn, tc_ln, F_sF, A_sF, R_sF, L_sF, F_sA, A_sA, R_sA, L_sA, F_sR, A_sR, R_sR, L_sR, F_sL, A_sL, R_sL, L_sL, and_true, true_and, and_false, false_and, and_self, reduceIte, sF_sF, sA_sA, false_or, or_false, true_or, or_true, not_false_eq_true, not_true_eq_false, decide_true, decide_false, Bool.true_or, Bool.or_true, Bool.false_and, Bool.true_and, Bool.false_or, Bool.or_false, Bool.and_true, Bool.and_false]
      rw [lp_go (s' := (none, Int32.ofNat (c + 1))) st, z, isB_neg]
      exact lp_end (by simp (decide := true) only [bX9_isIn_9, ob_n, b2_n, tc_rn, tc_ln, F_sF, A_sF, R_sF, L_sF, F_sA, A_sA, R_sA, L_sA, F_sR, A_sR, R_sR, L_sR, F_sL, A_sL, R_sL, L_sL, and_true, true_and, and_false, false_and, and_self, reduceIte, sF_sF, sA_sA, false_or, or_false, true_or, or_true, not_false_eq_true, not_true_eq_false, decide_true, decide_false, Bool.true_or, Bool.or_true, Bool.false_and, Bool.true_and, Bool.false_or, Bool.or_false, Bool.and_true, Bool.and_false])
    · have fd := find9 (s := s) (x := Int32.ofNat p) h1' c1 c5 c6
      rw [n_int (by omega), if_pos (by omega), Int.toNat_natCast] at fd
      rw [z2, isB_n z1]
      by_cases q : Int32.ofNat p = Int32.ofNat G
      · rw [if_pos q]
        exact lp_end (by simp (decide := true) only [bX9_isIn_9, e1, n0, nc, r2, z2, q, ob_n, b2_n, tc_rn, tc_ln, F_sF, A_sF, R_sF, L_sF, F_sA, A_sA, R_sA, L_sA, F_sR, A_sR, R_sR, L_sR, F_sL, A_sL, R_sL, L_sL, and_true, true_and, and_false, false_and, and_self, reduceIte, sF_sF, sA_sA, false_or, or_false, true_or, or_true, not_false_eq_true, not_true_eq_false, decide_true, decide_false, Bool.true_or, Bool.or_true, Bool.false_and, Bool.true_and, Bool.false_or, Bool.or_false, Bool.and_true, Bool.and_false])
      · rw [if_neg q]
        have st : bX9_isIn_9 (e_g s g) a (Int32.ofNat G) (ly l) (Int32.ofNat c) = some (.inl (ly p, Int32.ofNat (c + 1))) := by
          simp (decide := true) only [bX9_isIn_9, e1, n0, nc, r2, z2, q, hS.ob, fd, n_suc, ob_n, b2_n, tc_rn, tc_ln, F_sF, A_sF, R_sF, L_sF, F_sA, A_sA, R_sA, L_sA, F_sR, A_sR, R_sR, L_sR, F_sL, A_sL, R_sL, L_sL, and_true, true_and, and_false, false_and, and_self, reduceIte, sF_sF, sA_sA, false_or, or_false, true_or, or_true, not_false_eq_true, not_true_eq_false, decide_true, decide_false, Bool.true_or, Bool.or_true, Bool.false_and, Bool.true_and, Bool.false_or, Bool.or_false, Bool.and_true, Bool.and_false]
        rw [lp_go (s' := (ly p, Int32.ofNat (c + 1))) st]
        exact ih p (c + 1) z1 z3 (by have := hd.2 l hl h1 p z1 z2; omega) (by omega)
/-- k stands in l (deeper than l itself) -/
def inB (N : Nat → Int32) (l k : Nat) : Bool := decide (N (1169 * k) = 1) && isB N (Int32.ofNat l) 30 (N (1169 * k + 2))
theorem isIn9 {s : e_S} {g : ps_G} {a w h la oa sz G k : Nat} {N : Nat → Int32} {ly : Nat → Option Nat} {od : Nat → Int32} {o : Nat → Nat} (hS : StD g a w h N la oa sz ly od o) (hG : G < 30) (hk : k < 30) : fX9_isIn (e_g s g) a (Int32.ofNat k) (Int32.ofNat G) = some (if inB N G k then 1 else 0) := by
  obtain ⟨d, hd⟩ := trN_rk hS.1
  obtain ⟨t, h1', h2', c1, c0, c2, c3, c9, c4, c5, c6, c7, ho, c10⟩ := id hS
  have fd := find9 (s := s) (x := Int32.ofNat k) h1' c1 c5 c6
  rw [n_int (by omega), if_pos (by omega), Int.toNat_natCast] at fd
  unfold inB
  by_cases h1 : N (1169 * k) = 1
  · have lp := isIn9l (s := s) hS hd hG 30 k 0 hk h1 (hd.1 k hk h1) (by omega)
    by_cases q : isB N (Int32.ofNat G) 30 (N (1169 * k + 2)) = true
    · rw [if_pos q] at lp
      have lp' : q_lp (fun t => bX9_isIn_9 (e_g s g) a (Int32.ofNat G) t.1 t.2) (ly k, (0 : Int32)) = some (.inr 1) := lp
      simp (decide := true) only [fX9_isIn, hS.ob, fd, lp', Sum.elim_inr, h1, q, ob_n, b2_n, tc_rn, tc_ln, F_sF, A_sF, R_sF, L_sF, F_sA, A_sA, R_sA, L_sA, F_sR, A_sR, R_sR, L_sR, F_sL, A_sL, R_sL, L_sL, and_true, true_and, and_false, false_and, and_self, reduceIte, sF_sF, sA_sA, false_or, or_false, true_or, or_true, not_false_eq_true, not_true_eq_false, decide_true, decide_false, Bool.true_or, Bool.or_true, Bool.false_and, Bool.true_and, Bool.false_or, Bool.or_false, Bool.and_true, Bool.and_false]
    · rw [if_neg q] at lp
      have lp' : q_lp (fun t => bX9_isIn_9 (e_g s g) a (Int32.ofNat G) t.1 t.2) (ly k, (0 : Int32)) = some (.inl ()) := lp
      simp (decide := true) only [fX9_isIn, jX9_isIn_45, hS.ob, fd, lp', Sum.elim_inl, h1, q, ob_n, b2_n, tc_rn, tc_ln, F_sF, A_sF, R_sF, L_sF, F_sA, A_sA, R_sA, L_sA, F_sR, A_sR, R_sR, L_sR, F_sL, A_sL, R_sL, L_sL, and_true, true_and, and_false, false_and, and_self, reduceIte, sF_sF, sA_sA, false_or, or_false, true_or, or_true, not_false_eq_true, not_true_eq_false, decide_true, decide_false, Bool.true_or, Bool.or_true, Bool.false_and, Bool.true_and, Bool.false_or, Bool.or_false, Bool.and_true, Bool.and_false]
  · have hc := c10 k hk
    rw [if_neg h1] at hc
    have lp' : q_lp (fun t => bX9_isIn_9 (e_g s g) a (Int32.ofNat G) t.1 t.2) (none, (0 : Int32)) = some (.inl ()) := lp_end (by simp (decide := true) only [bX9_isIn_9, ob_n, b2_n, tc_rn, tc_ln, F_sF, A_sF, R_sF, L_sF, F_sA, A_sA, R_sA, L_sA, F_sR, A_sR, R_sR, L_sR, F_sL, A_sL, R_sL, L_sL, and_true, true_and, and_false, false_and, and_self, reduceIte, sF_sF, sA_sA, false_or, or_false, true_or, or_true, not_false_eq_true, not_true_eq_false, decide_true, decide_false, Bool.true_or, Bool.or_true, Bool.false_and, Bool.true_and, Bool.false_or, Bool.or_false, Bool.and_true, Bool.and_false])
    simp (decide := true) only [fX9_isIn, jX9_isIn_45, hS.ob, fd, hc, lp', Sum.elim_inl, h1, ob_n, b2_n, tc_rn, tc_ln, F_sF, A_sF, R_sF, L_sF, F_sA, A_sA, R_sA, L_sA, F_sR, A_sR, R_sR, L_sR, F_sL, A_sL, R_sL, L_sL, and_true, true_and, and_false, false_and, and_self, reduceIte, sF_sF, sA_sA, false_or, or_false, true_or, or_true, not_false_eq_true, not_true_eq_false, decide_true, decide_false, Bool.true_or, Bool.or_true, Bool.false_and, Bool.true_and, Bool.false_or, Bool.or_false, Bool.and_true, Bool.and_false]
theorem isB_31 {N : Nat → Int32} {l k : Nat} (hl : l < 30) (hk : k < 30) (h1 : N (1169 * k) = 1) : isB N (Int32.ofNat l) 31 (Int32.ofNat k) = (decide (k = l) || inB N l k) := by
  rw [isB_n hk]
  unfold inB
  rw [decide_eq_true h1]
  by_cases q : k = l
  · rw [q, if_pos rfl]; simp
  · rw [if_neg (by rw [n_eq (by omega) (by omega)]; exact q), decide_eq_false q]; simp
/-- who stands in l: its parent is l, or stands in l -/
theorem inB_p {N : Nat → Int32} {l k p : Nat} (ht : TrN N) (hl : l < 30) (hk : k < 30) (h1 : N (1169 * k) = 1) (hp : p < 30) (h2 : N (1169 * k + 2) = Int32.ofNat p) : inB N l k = (decide (p = l) || inB N l p) := by
  obtain ⟨d, hd⟩ := trN_rk ht
  have hp1 : N (1169 * p) = 1 := by
    rcases trN_p ht hk h1 with z | ⟨p', z1, z2, z3, z4⟩
    · rw [z] at h2; exact absurd h2 (neg1_n (by omega))
    · rw [z2] at h2
      have := (n_eq (by omega) (by omega)).mp h2
      rw [← this]; exact z3
  rw [← isB_31 hl hp hp1]
  unfold inB
  rw [decide_eq_true h1, h2, Bool.true_and]
  have e1 := hd.2 k hk h1 p hp h2
  have e2 := hd.1 k hk h1
  exact isB_st ht hd 30 p 31 hp hp1 (by omega) (by omega)
theorem inB_n {N : Nat → Int32} {l k : Nat} (h2 : N (1169 * k + 2) = -1) : inB N l k = false := by
  unfold inB
  rw [h2, isB_neg, Bool.and_false]
/-! ===== the cells of a STAND; the order as a list ===== -/
def SC (G : ps_G) (a la oa : Nat) (w h : Int32) (ly : Nat → Option Nat) (od : Nat → Int32) (sz nx : Int32) : Prop := e_fr a ∧ e_fr la ∧ 8 ≤ la ∧ e_fr oa ∧ 8 ≤ oa ∧ ¬ la = a ∧ ¬ oa = a ∧ ¬ oa = la ∧ G.2.2 a = .inr (9, [.int w, .int h, .ref la, .ref oa, .int sz, .int nx]) ∧ G.2.2 la = .inl (3, (30, .inr (.inr (.inr (.inr ly))))) ∧ G.2.2 oa = .inl (0, (30, .inl od))
def Fx (G G' : ps_G) (a la oa : Nat) : Prop := G'.1 = G.1 ∧ G'.2.1 = G.2.1 ∧ ∀ j, ¬ j = a → ¬ j = la → ¬ j = oa → G'.2.2 j = G.2.2 j
theorem fx_rf {G : ps_G} {a la oa : Nat} : Fx G G a la oa := ⟨rfl, rfl, fun _ _ _ _ => rfl⟩
theorem fx_tr {G G1 G2 : ps_G} {a la oa : Nat} (h : Fx G G1 a la oa) (h2 : Fx G1 G2 a la oa) : Fx G G2 a la oa := ⟨h2.1.trans h.1, h2.2.1.trans h.2.1, fun j j1 j2 j3 => (h2.2.2 j j1 j2 j3).trans (h.2.2 j j1 j2 j3)⟩
theorem SC.f2 {s : e_S} {G : ps_G} {a la oa : Nat} {w h sz nx : Int32} {ly : Nat → Option Nat} {od : Nat → Int32} (c : SC G a la oa w h ly od sz nx) : q_fR 9 2 (e_g s G) a = some (some la) := d_fR c.1 c.2.2.2.2.2.2.2.2.1 rfl
theorem SC.f3 {s : e_S} {G : ps_G} {a la oa : Nat} {w h sz nx : Int32} {ly : Nat → Option Nat} {od : Nat → Int32} (c : SC G a la oa w h ly od sz nx) : q_fR 9 3 (e_g s G) a = some (some oa) := d_fR c.1 c.2.2.2.2.2.2.2.2.1 rfl
theorem SC.f4 {s : e_S} {G : ps_G} {a la oa : Nat} {w h sz nx : Int32} {ly : Nat → Option Nat} {od : Nat → Int32} (c : SC G a la oa w h ly od sz nx) : q_fI 9 4 (e_g s G) a = some sz := d_fI c.1 c.2.2.2.2.2.2.2.2.1 rfl
theorem SC.f5 {s : e_S} {G : ps_G} {a la oa : Nat} {w h sz nx : Int32} {ly : Nat → Option Nat} {od : Nat → Int32} (c : SC G a la oa w h ly od sz nx) : q_fI 9 5 (e_g s G) a = some nx := d_fI c.1 c.2.2.2.2.2.2.2.2.1 rfl
theorem SC.ob {s : e_S} {G : ps_G} {a la oa : Nat} {w h sz nx : Int32} {ly : Nat → Option Nat} {od : Nat → Int32} (c : SC G a la oa w h ly od sz nx) : q_ob 9 (e_g s G) a = some () := d_ob c.1 c.2.2.2.2.2.2.2.2.1
theorem SC.aI {s : e_S} {G : ps_G} {a la oa : Nat} {w h sz nx i : Int32} {ly : Nat → Option Nat} {od : Nat → Int32} (c : SC G a la oa w h ly od sz nx) : q_aI (e_g s G) oa i = if i < 0 ∨ 30 ≤ i.toNatClampNeg then none else some (od i.toNatClampNeg) := d_aI c.2.2.2.1 c.2.2.2.2.2.2.2.2.2.2
/-- an entry of the order put -/
theorem SC.wI {s : e_S} {G : ps_G} {a la oa k : Nat} {w h sz nx v : Int32} {ly : Nat → Option Nat} {od : Nat → Int32} (c : SC G a la oa w h ly od sz nx) (hk : k < 30) : ∃ G', q_wI (e_g s G) oa (Int32.ofNat k) v = some (e_g s G') ∧ Fx G G' a la oa ∧ SC G' a la oa w h ly (upd od k v) sz nx := by
  obtain ⟨c1, c2, c3, c4, c5, c6, c7, c8, c9, c10, c11⟩ := c
  refine ⟨ps_up G oa (.inl (0, (30, .inl (upd od k v)))), ?_, ⟨rfl, rfl, fun j j1 j2 j3 => up_ne j3⟩, c1, c2, c3, c4, c5, c6, c7, c8, ?_, ?_, up_at⟩
  · rw [d_wI c4 c5 c11, if_neg (n_in hk (by decide)), n_idx (by omega)]
  · rw [up_ne (fun e => c7 e.symm)]; exact c9
  · rw [up_ne (fun e => c8 e.symm)]; exact c10
theorem SC.s4 {s : e_S} {G : ps_G} {a la oa : Nat} {w h sz nx v : Int32} {ly : Nat → Option Nat} {od : Nat → Int32} (c : SC G a la oa w h ly od sz nx) : ∃ G', q_sI 9 4 (e_g s G) a v = some (e_g s G') ∧ Fx G G' a la oa ∧ SC G' a la oa w h ly od v nx := by
  obtain ⟨c1, c2, c3, c4, c5, c6, c7, c8, c9, c10, c11⟩ := c
  refine ⟨ps_up G a (.inr (9, [.int w, .int h, .ref la, .ref oa, .int v, .int nx])), d_sI c1 c9 (Nat.le_of_ble_eq_true rfl), ⟨rfl, rfl, fun j j1 j2 j3 => up_ne j1⟩, c1, c2, c3, c4, c5, c6, c7, c8, up_at, ?_, ?_⟩
  · rw [up_ne c6]; exact c10
  · rw [up_ne c7]; exact c11
theorem SC.s5 {s : e_S} {G : ps_G} {a la oa : Nat} {w h sz nx v : Int32} {ly : Nat → Option Nat} {od : Nat → Int32} (c : SC G a la oa w h ly od sz nx) : ∃ G', q_sI 9 5 (e_g s G) a v = some (e_g s G') ∧ Fx G G' a la oa ∧ SC G' a la oa w h ly od sz v := by
  obtain ⟨c1, c2, c3, c4, c5, c6, c7, c8, c9, c10, c11⟩ := c
  refine ⟨ps_up G a (.inr (9, [.int w, .int h, .ref la, .ref oa, .int sz, .int v])), d_sI c1 c9 (Nat.le_of_ble_eq_true rfl), ⟨rfl, rfl, fun j j1 j2 j3 => up_ne j1⟩, c1, c2, c3, c4, c5, c6, c7, c8, up_at, ?_, ?_⟩
  · rw [up_ne c6]; exact c10
  · rw [up_ne c7]; exact c11
theorem SC.wR {s : e_S} {G : ps_G} {a la oa k : Nat} {w h sz nx : Int32} {ly : Nat → Option Nat} {od : Nat → Int32} {o : Option Nat} (c : SC G a la oa w h ly od sz nx) (hk : k < 30) (ho : okL G o) : ∃ G', q_wR (e_g s G) la (Int32.ofNat k) o = some (e_g s G') ∧ Fx G G' a la oa ∧ SC G' a la oa w h (rs ly k o) od sz nx := by
  obtain ⟨c1, c2, c3, c4, c5, c6, c7, c8, c9, c10, c11⟩ := c
  refine ⟨ps_up G la (.inl (3, (30, .inr (.inr (.inr (.inr (rs ly k o))))))), ?_, ⟨rfl, rfl, fun j j1 j2 j3 => up_ne j2⟩, c1, c2, c3, c4, c5, c6, c7, c8, ?_, up_at, ?_⟩
  · unfold q_wR
    rw [e_at c2, c10]
    show (if Int32.ofNat k < 0 ∨ 30 ≤ (Int32.ofNat k).toNatClampNeg ∨ q_okR 3 (e_g s G) o = false then none else some (ps_up (e_g s G) la (.inl (3, (30, .inr (.inr (.inr (.inr (va_up ly (Int32.ofNat k).toNatClampNeg o))))))))) = _
    have hx := n_in hk (N := 30) (by decide)
    rw [okL_q ho, va_up_rs, e_upF c2, if_neg (by rintro (q | q | q); exact hx (Or.inl q); exact hx (Or.inr q); cases q), n_idx (by omega)]
  · rw [up_ne (fun e => c6 e.symm)]; exact c9
  · rw [up_ne c8]; exact c11
/-- the order holds the numbers of a list -/
def OdL (od : Nat → Int32) (L : List Nat) : Prop := ∀ t m, L[t]? = some m → od t = Int32.ofNat m
theorem filter_take {L : List Nat} {p : Nat → Bool} {i x : Nat} (h : L[i]? = some x) : (L.take (i + 1)).filter p = (L.take i).filter p ++ if p x then [x] else [] := by
  rw [List.take_add_one, h, Option.toList_some, List.filter_append]
  congr 1
  by_cases q : p x = true <;> simp [q]
theorem remove9 {s : e_S} {G : ps_G} {a la oa l : Nat} {w h nx : Int32} {ly : Nat → Option Nat} {od : Nat → Int32} {L : List Nat} (c : SC G a la oa w h ly od (Int32.ofNat L.length) nx) (hn : L.length ≤ 30) (ho : OdL od L) (hm : ∀ m, m ∈ L → m < 30) (hl : l < 30) : ∃ G' od', fX9_remove (e_g s G) a (Int32.ofNat l) = some (e_g s G') ∧ Fx G G' a la oa ∧ SC G' a la oa w h (rs ly l none) od' (Int32.ofNat (L.filter (fun x => !decide (x = l))).length) nx ∧ OdL od' (L.filter (fun x => !decide (x = l))) := by
  have lp := lp_n (b := fun t : Int32 × Int32 × ps_G => bX9_remove_4 a (Int32.ofNat l) t.1 t.2.1 t.2.2) (fun i t => ∃ G' od', t = (Int32.ofNat ((L.take i).filter (fun x => !decide (x = l))).length, Int32.ofNat i, e_g s G') ∧ Fx G G' a la oa ∧ SC G' a la oa w h ly od' (Int32.ofNat L.length) nx ∧ OdL od' ((L.take i).filter (fun x => !decide (x = l))) ∧ ∀ t, i ≤ t → od' t = od t) (fun r => ∃ G' od', r = (Int32.ofNat (L.filter (fun x => !decide (x = l))).length, e_g s G') ∧ Fx G G' a la oa ∧ SC G' a la oa w h ly od' (Int32.ofNat L.length) nx ∧ OdL od' (L.filter (fun x => !decide (x = l)))) L.length (fun i t hi hp => ?_) (fun t hp => ?_) (s := ((0 : Int32), (0 : Int32), e_g s G)) ⟨G, od, rfl, fx_rf, c, fun t m q => by simp at q, fun _ _ => rfl⟩
  · obtain ⟨r, h1, G', od', rfl, h2, h3, h4⟩ := lp
    obtain ⟨G2, q1, q2, q3⟩ := h3.s4 (s := s) (v := Int32.ofNat (L.filter (fun x => !decide (x = l))).length)
    obtain ⟨G3, q4, q5, q6⟩ := q3.wR (s := s) (o := none) hl (fun b hb => by cases hb)
    have n30 : ¬ (30 : Int32) ≤ Int32.ofNat l := nle (b := 30) hl (by decide)
    refine ⟨G3, od', ?_, fx_tr h2 (fx_tr q2 q5), q6, h4⟩
    simp (decide := true) only [fX9_remove, jX9_remove_49, jX9_remove_71, h1, q1, n_neg (show l < 2147483648 by omega), n30, q3.f2, q4, ob_n, b2_n, tc_rn, tc_ln, F_sF, A_sF, R_sF, L_sF, F_sA, A_sA, R_sA, L_sA, F_sR, A_sR, R_sR, L_sR, F_sL, A_sL, R_sL, L_sL, and_true, true_and, and_false, false_and, and_self, reduceIte, sF_sF, sA_sA, false_or, or_false, true_or, or_true, not_false_eq_true, not_true_eq_false, decide_true, decide_false, Bool.true_or, Bool.or_true, Bool.false_and, Bool.true_and, Bool.false_or, Bool.or_false, Bool.and_true, Bool.and_false]
  · obtain ⟨G', od', rfl, h2, h3, h4, h5⟩ := hp
    have hx : L[i]? = some L[i] := List.getElem?_eq_getElem hi
    have hxm : L[i] < 30 := hm _ (List.getElem_mem hi)
    have e1 : od' i = Int32.ofNat L[i] := by rw [h5 i (Nat.le_refl _)]; exact ho i _ hx
    have q1 : ¬ (Int32.ofNat L.length ≤ Int32.ofNat i ∨ (30 : Int32) ≤ Int32.ofNat i) := by
      show ¬ (Int32.ofNat L.length ≤ Int32.ofNat i ∨ Int32.ofNat 30 ≤ Int32.ofNat i)
      rw [n_le (by omega) (by omega), n_le (by omega) (by omega)]; omega
    have hF := filter_take (p := fun x => !decide (x = l)) hx
    have hlen : ((L.take i).filter (fun x => !decide (x = l))).length ≤ i := by
      have := List.length_filter_le (fun x => !decide (x = l)) (L.take i)
      rw [List.length_take] at this
      omega
    by_cases z : L[i] = l
    · have z2 : Int32.ofNat L[i] = Int32.ofNat l := by rw [z]
      rw [if_neg (by simp [z]), List.append_nil] at hF
      refine ⟨(Int32.ofNat ((L.take i).filter (fun x => !decide (x = l))).length, Int32.ofNat (i + 1), e_g s G'), ?_, G', od', by rw [hF], h2, h3, by rw [hF]; exact h4, fun t ht => h5 t (by omega)⟩
      simp (decide := true) only [bX9_remove_4, jX9_remove_43_4, h3.f4, q1, h3.f3, h3.aI, n_in2 (show i < 30 by omega) (by decide), n_idx (show i < 2147483648 by omega), e1, z2, n_suc, ob_n, b2_n, tc_rn, tc_ln, F_sF, A_sF, R_sF, L_sF, F_sA, A_sA, R_sA, L_sA, F_sR, A_sR, R_sR, L_sR, F_sL, A_sL, R_sL, L_sL, and_true, true_and, and_false, false_and, and_self, reduceIte, sF_sF, sA_sA, false_or, or_false, true_or, or_true, not_false_eq_true, not_true_eq_false, decide_true, decide_false, Bool.true_or, Bool.or_true, Bool.false_and, Bool.true_and, Bool.false_or, Bool.or_false, Bool.and_true, Bool.and_false]
    · have z2 : ¬ Int32.ofNat L[i] = Int32.ofNat l := by rw [n_eq (by omega) (by omega)]; exact z
      rw [if_pos (by simp [z])] at hF
      obtain ⟨G2, g1, g2, g3⟩ := h3.wI (s := s) (k := ((L.take i).filter (fun x => !decide (x = l))).length) (v := Int32.ofNat L[i]) (by omega)
      refine ⟨(Int32.ofNat (((L.take i).filter (fun x => !decide (x = l))).length + 1), Int32.ofNat (i + 1), e_g s G2), ?_, G2, _, by rw [hF, List.length_append]; rfl, fx_tr h2 g2, g3, ?_, fun t ht => ?_⟩
      · simp (decide := true) only [bX9_remove_4, jX9_remove_43_4, h3.f4, q1, h3.f3, h3.aI, n_in2 (show i < 30 by omega) (by decide), n_idx (show i < 2147483648 by omega), e1, z2, g1, n_suc, ob_n, b2_n, tc_rn, tc_ln, F_sF, A_sF, R_sF, L_sF, F_sA, A_sA, R_sA, L_sA, F_sR, A_sR, R_sR, L_sR, F_sL, A_sL, R_sL, L_sL, and_true, true_and, and_false, false_and, and_self, reduceIte, sF_sF, sA_sA, false_or, or_false, true_or, or_true, not_false_eq_true, not_true_eq_false, decide_true, decide_false, Bool.true_or, Bool.or_true, Bool.false_and, Bool.true_and, Bool.false_or, Bool.or_false, Bool.and_true, Bool.and_false]
      · intro t m q
        rw [hF, List.getElem?_append] at q
        rw [upd_r]
        by_cases y : t < ((L.take i).filter (fun x => !decide (x = l))).length
        · rw [if_pos y] at q
          rw [if_neg (by omega)]
          exact h4 t m q
        · rw [if_neg y] at q
          by_cases y2 : t = ((L.take i).filter (fun x => !decide (x = l))).length
          · rw [if_pos y2]
            rw [y2, Nat.sub_self] at q
            simp at q
            rw [q]
          · have : ¬ t - ((L.take i).filter (fun x => !decide (x = l))).length = 0 := by omega
            rw [List.getElem?_eq_none (by simp; omega)] at q
            cases q
      · rw [upd_r, if_neg (by omega)]
        exact h5 t (by omega)
  · obtain ⟨G', od', rfl, h2, h3, h4, h5⟩ := hp
    have q1 : Int32.ofNat L.length ≤ Int32.ofNat L.length := nlr (by omega)
    rw [List.take_length] at h4
    refine ⟨_, ?_, G', od', rfl, h2, h3, h4⟩
    rw [List.take_length]
    simp (decide := true) only [bX9_remove_4, h3.f4, q1, ob_n, b2_n, tc_rn, tc_ln, F_sF, A_sF, R_sF, L_sF, F_sA, A_sA, R_sA, L_sA, F_sR, A_sR, R_sR, L_sR, F_sL, A_sL, R_sL, L_sL, and_true, true_and, and_false, false_and, and_self, reduceIte, sF_sF, sA_sA, false_or, or_false, true_or, or_true, not_false_eq_true, not_true_eq_false, decide_true, decide_false, Bool.true_or, Bool.or_true, Bool.false_and, Bool.true_and, Bool.false_or, Bool.or_false, Bool.and_true, Bool.and_false]
