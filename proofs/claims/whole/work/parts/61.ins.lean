-- needs: 07 10 13 14 20 21 22 23 24 25 26 27 32 33 34 36 38 39 40 41 42 43 44 46 47 48 53 60
/-! ===== a LAYER put into the order ===== -/
def PlN (N : Nat → Int32) : Prop := ∀ l, l < 30 → N (1169 * l) = 1 → ∃ p : Nat, p < 30 ∧ N (1169 * l + 3) = Int32.ofNat p ∧ ∀ q : Nat, q < p → ∃ m : Nat, m < 30 ∧ N (1169 * m) = 1 ∧ N (1169 * m + 2) = N (1169 * l + 2) ∧ N (1169 * m + 3) = Int32.ofNat q
theorem place_c {N : Nat → Int32} {sz : Nat} {od : Nat → Int32} {o : Nat → Nat} (ht : PlN N) (h : OrD N sz od o) : ∀ i, i < sz → N (1169 * o i + 3) = Int32.ofNat (cnt (chO N o (N (1169 * o i + 2))) i) := by
  obtain ⟨a1, a2, a3, a4, a5⟩ := h
  intro i
  induction i using Nat.strongRecOn with
  | ind i ih =>
    intro hi
    obtain ⟨b1, b2, b3⟩ := a2 i hi
    obtain ⟨p, p1, p2, p3⟩ := ht (o i) b2 b3
    have hc : cnt (chO N o (N (1169 * o i + 2))) i ≤ i := cnt_le
    have key : p = cnt (chO N o (N (1169 * o i + 2))) i := by
      apply Nat.le_antisymm
      · apply Nat.le_of_not_lt
        intro hlt
        obtain ⟨m, m1, m2, m3, m4⟩ := p3 _ hlt
        obtain ⟨j, j1, j2⟩ := a4 m m1 m2
        have hj : j < i := by
          apply Nat.lt_of_not_le
          intro hij
          by_cases e : i = j
          · rw [← e] at j2
            rw [j2] at p2
            rw [p2] at m4
            have := (n_eq (by omega) (by omega)).mp m4
            omega
          · have := a5 i j (by omega) j1 (by rw [j2]; exact m3.symm)
            rw [j2, p2, m4, n_lt (by omega) (by omega)] at this
            omega
        have e1 := ih j hj (by omega)
        rw [j2, m4, m3] at e1
        have e2 := (n_eq (by omega) (by have := @cnt_le (chO N o (N (1169 * o i + 2))) j; omega)).mp e1
        have e3 : cnt (chO N o (N (1169 * o i + 2))) (j + 1) ≤ cnt (chO N o (N (1169 * o i + 2))) i := cnt_mono hj
        rw [cnt_s] at e3
        have e4 : chO N o (N (1169 * o i + 2)) j = true := by
          unfold chO; rw [j2, m3]; exact decide_eq_true rfl
        rw [e4, if_pos rfl] at e3
        omega
      · apply Nat.le_of_not_lt
        intro hlt
        have hex : ∀ k, k ≤ i → 0 < cnt (chO N o (N (1169 * o i + 2))) k → ∃ j, j < k ∧ chO N o (N (1169 * o i + 2)) j = true ∧ cnt (chO N o (N (1169 * o i + 2))) j + 1 = cnt (chO N o (N (1169 * o i + 2))) k := by
          intro k
          induction k with
          | zero => intro _ hz; exact absurd hz (Nat.lt_irrefl 0)
          | succ k ihk =>
            intro hk hz
            by_cases e : chO N o (N (1169 * o i + 2)) k = true
            · refine ⟨k, by omega, e, ?_⟩
              show _ = cnt _ k + if _ then 1 else 0
              rw [if_pos e]
            · have e5 : cnt (chO N o (N (1169 * o i + 2))) (k + 1) = cnt (chO N o (N (1169 * o i + 2))) k := by
                show cnt _ k + (if _ then 1 else 0) = _
                rw [if_neg e]; rfl
              rw [e5] at hz ⊢
              obtain ⟨j, j1, j2, j3⟩ := ihk (by omega) hz
              exact ⟨j, by omega, j2, j3⟩
        obtain ⟨j, j1, j2, j3⟩ := hex i (Nat.le_refl _) (by omega)
        have e6 : N (1169 * o j + 2) = N (1169 * o i + 2) := of_decide_eq_true j2
        have e1 := ih j j1 (by omega)
        rw [e6] at e1
        have e7 := a5 j i j1 hi e6
        rw [e1, p2, n_lt (by omega) (by omega)] at e7
        omega
    rw [p2, key]

def StE (g : ps_G) (a w h : Nat) (N : Nat → Int32) (la oa sz : Nat) (ly : Nat → Option Nat) (od : Nat → Int32) (o : Nat → Nat) : Prop := e_fr a ∧ a < g.1 ∧ e_fr la ∧ 8 ≤ la ∧ la < g.1 ∧ e_fr oa ∧ 8 ≤ oa ∧ oa < g.1 ∧ g.2.2 a = .inr (9, [.int (Int32.ofNat w), .int (Int32.ofNat h), .ref la, .ref oa, .int (Int32.ofNat sz), .int (N 35070)]) ∧ g.2.2 la = .inl (3, (30, .inr (.inr (.inr (.inr ly))))) ∧ g.2.2 oa = .inl (0, (30, .inl od)) ∧ OrD N sz od o ∧ ∀ l, l < 30 → if N (1169 * l) = 1 then ∃ b, ly l = some b ∧ LyN g b w h l (lR N l) else ly l = none
theorem stE_ly {g : ps_G} {a w h la oa sz : Nat} {N : Nat → Int32} {ly : Nat → Option Nat} {od : Nat → Int32} {o : Nat → Nat} (hS : StE g a w h N la oa sz ly od o) {l : Nat} (hl : l < 30) (h1 : N (1169 * l) = 1) : ∃ b, ly l = some b ∧ LyN g b w h l (lR N l) := by
  obtain ⟨-, -, -, -, -, -, -, -, -, -, -, -, c⟩ := hS
  have := c l hl
  rw [if_pos h1] at this
  exact this
theorem stE_sc {g : ps_G} {a w h la oa sz : Nat} {N : Nat → Int32} {ly : Nat → Option Nat} {od : Nat → Int32} {o : Nat → Nat} (hS : StE g a w h N la oa sz ly od o) : SC g a la oa (Int32.ofNat w) (Int32.ofNat h) ly od (Int32.ofNat sz) (N 35070) := by
  obtain ⟨h1, h2, c1, c0, c2, c3, c9, c4, c5, c6, c7, ho, c10⟩ := hS
  refine ⟨h1, c1, c0, c3, c9, fun e => ?_, fun e => ?_, fun e => ?_, c5, c6, c7⟩
  · rw [e, c5] at c6; cases c6
  · rw [e, c5] at c7; cases c7
  · rw [e, c6] at c7; cases c7
theorem childE {s : e_S} {g : ps_G} {a w h la oa sz i : Nat} {N : Nat → Int32} {ly : Nat → Option Nat} {od : Nat → Int32} {o : Nat → Nat} {P : Int32} (hS : StE g a w h N la oa sz ly od o) (hi : i < sz) : fX9_child (e_g s g) a (Int32.ofNat i) P = some (if chO N o P i then ly (o i) else none) := by
  obtain ⟨h1, h2, c1, c0, c2, c3, c9, c4, c5, c6, c7, ho, c10⟩ := id hS
  have f4 : q_fI 9 4 (e_g s g) a = some (Int32.ofNat sz) := d_fI h1 c5 rfl
  have ob : q_ob 9 (e_g s g) a = some () := d_ob h1 c5
  obtain ⟨a1, a2, a3, a4, a5⟩ := ho
  obtain ⟨b1, b2, b3⟩ := a2 i hi
  obtain ⟨b, e1, e2⟩ := stE_ly hS b2 b3
  have r3 : q_fR 9 3 (e_g s g) a = some (some oa) := d_fR h1 c5 rfl
  have q1 : ¬ Int32.ofNat sz ≤ Int32.ofNat i ∧ Int32.ofNat i < 30 := by
    show ¬ Int32.ofNat sz ≤ Int32.ofNat i ∧ Int32.ofNat i < Int32.ofNat 30
    rw [n_le (by omega) (by omega), n_lt (by omega) (by omega)]; omega
  have fd := find9 (s := s) (x := Int32.ofNat (o i)) h1 c1 c5 c6
  rw [n_int (by omega), if_pos (by omega), Int.toNat_natCast, e1] at fd
  obtain ⟨y1, y2, p, q', x0, y0, x1, yy1, pa, ma, y3, -⟩ := e2
  have r2 : q_fI 4 2 (e_g s g) b = some (N (1169 * o i + 2)) := d_fI y1 y3 rfl
  have n0 : ¬ (some b = none) := nofun
  by_cases hP : N (1169 * o i + 2) = P
  · have : chO N o P i = true := decide_eq_true hP
    simp (decide := true) only [fX9_child, jX9_child_32, jX9_child_50, n_neg (show i < 2147483648 by omega), f4, q1, r3, d_aI c3 c7, n_in2 (show i < 30 by omega) (by decide), n_idx (show i < 2147483648 by omega), b1, ob, fd, n0, r2, hP, this, e1, show ¬ 30 ≤ i by omega, ob_n, b2_n, tc_rn, tc_ln, F_sF, A_sF, R_sF, L_sF, F_sA, A_sA, R_sA, L_sA, F_sR, A_sR, R_sR, L_sR, F_sL, A_sL, R_sL, L_sL, and_true, true_and, and_false, false_and, and_self, reduceIte, sF_sF, sA_sA, false_or, or_false, true_or, or_true, not_false_eq_true, not_true_eq_false, decide_true, decide_false, Bool.true_or, Bool.or_true, Bool.false_and, Bool.true_and, Bool.false_or, Bool.or_false, Bool.and_true, Bool.and_false]
  · have : chO N o P i = false := decide_eq_false hP
    simp (decide := true) only [fX9_child, jX9_child_32, jX9_child_49, jX9_child_50, n_neg (show i < 2147483648 by omega), f4, q1, r3, d_aI c3 c7, n_in2 (show i < 30 by omega) (by decide), n_idx (show i < 2147483648 by omega), b1, ob, fd, n0, r2, hP, this, show ¬ 30 ≤ i by omega, ob_n, b2_n, tc_rn, tc_ln, F_sF, A_sF, R_sF, L_sF, F_sA, A_sA, R_sA, L_sA, F_sR, A_sR, R_sR, L_sR, F_sL, A_sL, R_sL, L_sL, and_true, true_and, and_false, false_and, and_self, reduceIte, sF_sF, sA_sA, false_or, or_false, true_or, or_true, not_false_eq_true, not_true_eq_false, decide_true, decide_false, Bool.true_or, Bool.or_true, Bool.false_and, Bool.true_and, Bool.false_or, Bool.or_false, Bool.and_true, Bool.and_false]

theorem cnt_hit {P : Nat → Bool} {q : Nat} : ∀ {n}, q < cnt P n → ∃ j, j < n ∧ P j = true ∧ cnt P j = q := by
  intro n
  induction n with
  | zero => intro z; exact absurd z (Nat.not_lt_zero _)
  | succ n ih =>
    intro z
    rw [cnt_s] at z
    by_cases e : q < cnt P n
    · obtain ⟨j, j1, j2, j3⟩ := ih e
      exact ⟨j, by omega, j2, j3⟩
    · by_cases e2 : P n = true
      · rw [if_pos e2] at z
        exact ⟨n, by omega, e2, by omega⟩
      · rw [if_neg e2] at z; omega
/-- where a LAYER with the parent P comes in -/
theorem insW {s : e_S} {g : ps_G} {a w h la oa sz x k : Nat} {N : Nat → Int32} {ly : Nat → Option Nat} {od : Nat → Int32} {o : Nat → Nat} {P : Int32} (hS : StE g a w h N la oa sz ly od o) (hx : q_fI 4 2 (e_g s g) x = some P) (hk : k ≤ 30) : ∃ W, q_lp (fun t => bX9_insert_21 (e_g s g) a x (Int32.ofNat k) t.1 t.2.1 t.2.2) (Int32.ofNat sz, (0 : Int32), (0 : Int32)) = some (Int32.ofNat W) ∧ W ≤ sz ∧ ∀ i, i < sz → chO N o P i = true → (i < W ↔ cnt (chO N o P) i < k) := by
  obtain ⟨h1, h2, c1, c0, c2, c3, c9, c4, c5, c6, c7, ho, c10⟩ := id hS
  have f4 : q_fI 9 4 (e_g s g) a = some (Int32.ofNat sz) := d_fI h1 c5 rfl
  have ob : q_ob 9 (e_g s g) a = some () := d_ob h1 c5
  have hsz := ho.1
  have key := lp_inv (b := fun t : Int32 × Int32 × Int32 => bX9_insert_21 (e_g s g) a x (Int32.ofNat k) t.1 t.2.1 t.2.2) (fun n t => (∃ i, i ≤ sz ∧ n = sz - i + 1 ∧ t = (Int32.ofNat sz, Int32.ofNat (cnt (chO N o P) i), Int32.ofNat i) ∧ cnt (chO N o P) i ≤ k ∧ ∀ j, j < i → chO N o P j = true → cnt (chO N o P) j < k) ∨ (∃ W c i, n = 0 ∧ t = (Int32.ofNat W, c, Int32.ofNat i) ∧ W < sz ∧ i ≤ sz ∧ ∀ i, i < sz → chO N o P i = true → (i < W ↔ cnt (chO N o P) i < k))) (fun r => ∃ W, r = Int32.ofNat W ∧ W ≤ sz ∧ ∀ i, i < sz → chO N o P i = true → (i < W ↔ cnt (chO N o P) i < k)) (fun n t hp => ?_) (sz + 1) (Int32.ofNat sz, (0 : Int32), (0 : Int32)) (Or.inl ⟨0, by omega, by omega, rfl, Nat.zero_le _, fun j hj => absurd hj (Nat.not_lt_zero _)⟩)
  · obtain ⟨r, r1, W, rfl, r2, r3⟩ := key
    exact ⟨W, r1, r2, r3⟩
  · rcases hp with ⟨i, i1, i2, rfl, i3, i4⟩ | ⟨W, c, i, i2, rfl, i3, i1, i4⟩
    · by_cases hi : i < sz
      · obtain ⟨b1, b2, b3⟩ := ho.2.1 i hi
        obtain ⟨b, e1, e2⟩ := stE_ly hS b2 b3
        have n0 : ¬ (some b = none) := nofun
        have ch := childE (s := s) (P := P) hS hi
        rw [e1] at ch
        have q1 := nle hi (show sz < 2147483648 by omega)
        by_cases z : chO N o P i = true
        · by_cases z2 : cnt (chO N o P) i = k
          · have z3 : Int32.ofNat (cnt (chO N o P) i) = Int32.ofNat k := by rw [z2]
            refine Or.inl ⟨(Int32.ofNat i, Int32.ofNat (cnt (chO N o P) i + 1), Int32.ofNat (i + 1)), 0, ?_, by omega, Or.inr ⟨i, _, i + 1, rfl, rfl, hi, by omega, fun j hj hj2 => ?_⟩⟩
            · simp (decide := true) only [bX9_insert_21, f4, q1, hx, ob, ch, z, n0, z3, n_suc, z2, ob_n, b2_n, tc_rn, tc_ln, F_sF, A_sF, R_sF, L_sF, F_sA, A_sA, R_sA, L_sA, F_sR, A_sR, R_sR, L_sR, F_sL, A_sL, R_sL, L_sL, and_true, true_and, and_false, false_and, and_self, reduceIte, sF_sF, sA_sA, false_or, or_false, true_or, or_true, not_false_eq_true, not_true_eq_false, decide_true, decide_false, Bool.true_or, Bool.or_true, Bool.false_and, Bool.true_and, Bool.false_or, Bool.or_false, Bool.and_true, Bool.and_false]
            · by_cases y : j < i
              · exact ⟨fun _ => i4 j y hj2, fun _ => y⟩
              · have := cnt_mono (P := chO N o P) (show i ≤ j by omega)
                exact ⟨fun z => absurd z y, fun z => by omega⟩
          · have hc : cnt (chO N o P) i ≤ i := cnt_le
            have z3 : ¬ Int32.ofNat (cnt (chO N o P) i) = Int32.ofNat k := by rw [n_eq (by omega) (by omega)]; exact z2
            have cs : cnt (chO N o P) (i + 1) = cnt (chO N o P) i + 1 := by rw [cnt_s, if_pos z]
            refine Or.inl ⟨(Int32.ofNat sz, Int32.ofNat (cnt (chO N o P) i + 1), Int32.ofNat (i + 1)), sz - (i + 1) + 1, ?_, by omega, Or.inl ⟨i + 1, by omega, rfl, by rw [cs], by omega, fun j hj hj2 => ?_⟩⟩
            · simp (decide := true) only [bX9_insert_21, f4, q1, hx, ob, ch, z, n0, z3, n_suc, ob_n, b2_n, tc_rn, tc_ln, F_sF, A_sF, R_sF, L_sF, F_sA, A_sA, R_sA, L_sA, F_sR, A_sR, R_sR, L_sR, F_sL, A_sL, R_sL, L_sL, and_true, true_and, and_false, false_and, and_self, reduceIte, sF_sF, sA_sA, false_or, or_false, true_or, or_true, not_false_eq_true, not_true_eq_false, decide_true, decide_false, Bool.true_or, Bool.or_true, Bool.false_and, Bool.true_and, Bool.false_or, Bool.or_false, Bool.and_true, Bool.and_false]
            · by_cases y : j < i
              · exact i4 j y hj2
              · have : j = i := by omega
                rw [this]; omega
        · have z' : chO N o P i = false := by simpa using z
          have cs : cnt (chO N o P) (i + 1) = cnt (chO N o P) i := by rw [cnt_s, if_neg z]; rfl
          refine Or.inl ⟨(Int32.ofNat sz, Int32.ofNat (cnt (chO N o P) i), Int32.ofNat (i + 1)), sz - (i + 1) + 1, ?_, by omega, Or.inl ⟨i + 1, by omega, rfl, by rw [cs], by omega, fun j hj hj2 => ?_⟩⟩
          · simp (decide := true) only [bX9_insert_21, f4, q1, hx, ob, ch, z', n_suc, ob_n, b2_n, tc_rn, tc_ln, F_sF, A_sF, R_sF, L_sF, F_sA, A_sA, R_sA, L_sA, F_sR, A_sR, R_sR, L_sR, F_sL, A_sL, R_sL, L_sL, and_true, true_and, and_false, false_and, and_self, reduceIte, sF_sF, sA_sA, false_or, or_false, true_or, or_true, not_false_eq_true, not_true_eq_false, decide_true, decide_false, Bool.true_or, Bool.or_true, Bool.false_and, Bool.true_and, Bool.false_or, Bool.or_false, Bool.and_true, Bool.and_false]
          · by_cases y : j < i
            · exact i4 j y hj2
            · have : j = i := by omega
              rw [this] at hj2; exact absurd hj2 z
      · have e : i = sz := by omega
        subst e
        refine Or.inr ⟨Int32.ofNat i, ?_, i, rfl, Nat.le_refl _, fun j hj hj2 => ⟨fun _ => i4 j hj hj2, fun _ => hj⟩⟩
        simp (decide := true) only [bX9_insert_21, f4, nlr (show i < 2147483648 by omega), ob_n, b2_n, tc_rn, tc_ln, F_sF, A_sF, R_sF, L_sF, F_sA, A_sA, R_sA, L_sA, F_sR, A_sR, R_sR, L_sR, F_sL, A_sL, R_sL, L_sL, and_true, true_and, and_false, false_and, and_self, reduceIte, sF_sF, sA_sA, false_or, or_false, true_or, or_true, not_false_eq_true, not_true_eq_false, decide_true, decide_false, Bool.true_or, Bool.or_true, Bool.false_and, Bool.true_and, Bool.false_or, Bool.or_false, Bool.and_true, Bool.and_false]
    · refine Or.inr ⟨Int32.ofNat W, ?_, W, rfl, by omega, i4⟩
      have nW : ¬ Int32.ofNat W = Int32.ofNat sz := by rw [n_eq (by omega) (by omega)]; omega
      by_cases q : Int32.ofNat sz ≤ Int32.ofNat i
      · simp (decide := true) only [bX9_insert_21, f4, q, ob_n, b2_n, tc_rn, tc_ln, F_sF, A_sF, R_sF, L_sF, F_sA, A_sA, R_sA, L_sA, F_sR, A_sR, R_sR, L_sR, F_sL, A_sL, R_sL, L_sL, and_true, true_and, and_false, false_and, and_self, reduceIte, sF_sF, sA_sA, false_or, or_false, true_or, or_true, not_false_eq_true, not_true_eq_false, decide_true, decide_false, Bool.true_or, Bool.or_true, Bool.false_and, Bool.true_and, Bool.false_or, Bool.or_false, Bool.and_true, Bool.and_false]
      · simp (decide := true) only [bX9_insert_21, f4, q, nW, ob_n, b2_n, tc_rn, tc_ln, F_sF, A_sF, R_sF, L_sF, F_sA, A_sA, R_sA, L_sA, F_sR, A_sR, R_sR, L_sR, F_sL, A_sL, R_sL, L_sL, and_true, true_and, and_false, false_and, and_self, reduceIte, sF_sF, sA_sA, false_or, or_false, true_or, or_true, not_false_eq_true, not_true_eq_false, decide_true, decide_false, Bool.true_or, Bool.or_true, Bool.false_and, Bool.true_and, Bool.false_or, Bool.or_false, Bool.and_true, Bool.and_false]
def insO (o : Nat → Nat) (W l t : Nat) : Nat := if t < W then o t else if t = W then l else o (t - 1)
theorem insert9 {s : e_S} {g : ps_G} {a w h la oa sz x k l : Nat} {N : Nat → Int32} {ly : Nat → Option Nat} {od : Nat → Int32} {o : Nat → Nat} {P : Int32} {fs : List Value} (hS : StE g a w h N la oa sz ly od o) (hsz : sz < 30) (hx : e_fr x) (hx2 : x < g.1) (hxc : g.2.2 x = .inr (4, fs)) (h0 : fs[0]? = some (.int (Int32.ofNat l))) (h2 : fs[2]? = some (.int P)) (hl : l < 30) (hk : k ≤ 30) : ∃ g' od' W, fX9_insert (e_g s g) a x (Int32.ofNat k) = some (e_g s g') ∧ Fx g g' a la oa ∧ SC g' a la oa (Int32.ofNat w) (Int32.ofNat h) (rs ly l (some x)) od' (Int32.ofNat (sz + 1)) (N 35070) ∧ W ≤ sz ∧ (∀ i, i < sz → chO N o P i = true → (i < W ↔ cnt (chO N o P) i < k)) ∧ ∀ t, t < sz + 1 → od' t = Int32.ofNat (insO o W l t) := by
  obtain ⟨W, w1, w2, w3⟩ := insW (s := s) (x := x) (P := P) hS (d_fI hx hxc h2) hk
  have c := stE_sc hS
  obtain ⟨-, -, -, -, -, -, -, -, c5, c6, c7, ho, c10⟩ := id hS
  have xa : ¬ x = a := fun e => by rw [e, c5] at hxc; cases hxc
  have xl : ¬ x = la := fun e => by rw [e, c6] at hxc; cases hxc
  have xo : ¬ x = oa := fun e => by rw [e, c7] at hxc; cases hxc
  have lp := lp_n (b := fun t : Int32 × ps_G => bX9_insert_75 a x (Int32.ofNat W) t.1 t.2) (fun j t => ∃ G' od', t = (Int32.ofNat (sz - j), e_g s G') ∧ Fx g G' a la oa ∧ SC G' a la oa (Int32.ofNat w) (Int32.ofNat h) ly od' (Int32.ofNat sz) (N 35070) ∧ ∀ t, od' t = if sz - j < t ∧ t ≤ sz then od (t - 1) else od t) (fun r => ∃ G' od', r = e_g s G' ∧ Fx g G' a la oa ∧ SC G' a la oa (Int32.ofNat w) (Int32.ofNat h) ly od' (Int32.ofNat sz) (N 35070) ∧ ∀ t, od' t = if W < t ∧ t ≤ sz then od (t - 1) else od t) (sz - W) (fun j t hj hp => ?_) (fun t hp => ?_) (s := (Int32.ofNat sz, e_g s g)) ⟨g, od, rfl, fx_rf, c, fun t => by rw [if_neg (by omega)]⟩
  · obtain ⟨r, r1, G', od', rfl, r2, r3, r4⟩ := lp
    obtain ⟨G2, q1, q2, q3⟩ := r3.wI (s := s) (k := W) (v := Int32.ofNat l) (by omega)
    obtain ⟨G3, q4, q5, q6⟩ := q3.s4 (s := s) (v := Int32.ofNat (sz + 1))
    have fx3 := fx_tr r2 (fx_tr q2 q5)
    have hx3 : G3.2.2 x = .inr (4, fs) := by rw [fx3.2.2 x xa xl xo]; exact hxc
    have okx : okL G3 (some x) := fun b hb => by cases hb; exact ⟨hx, by rw [fx3.1]; exact hx2, fs, hx3⟩
    obtain ⟨G4, q7, q8, q9⟩ := q6.wR (s := s) (k := l) hl okx
    have r0 : ∀ G'', Fx g G'' a la oa → q_fI 4 0 (e_g s G'') x = some (Int32.ofNat l) := fun G'' hG => d_fI hx (by rw [hG.2.2 x xa xl xo]; exact hxc) h0
    have n30 : ¬ (30 : Int32) ≤ Int32.ofNat l := nle (b := 30) hl (by decide)
    have ex : fX9_exchange (e_g s G3) a x = some (e_g s G4) := by
      simp (decide := true) only [fX9_exchange, jX9_exchange_26, r0 G3 fx3, n_neg (show l < 2147483648 by omega), n30, q6.f2, q7, ob_n, b2_n, tc_rn, tc_ln, F_sF, A_sF, R_sF, L_sF, F_sA, A_sA, R_sA, L_sA, F_sR, A_sR, R_sR, L_sR, F_sL, A_sL, R_sL, L_sL, and_true, true_and, and_false, false_and, and_self, reduceIte, sF_sF, sA_sA, false_or, or_false, true_or, or_true, not_false_eq_true, not_true_eq_false, decide_true, decide_false, Bool.true_or, Bool.or_true, Bool.false_and, Bool.true_and, Bool.false_or, Bool.or_false, Bool.and_true, Bool.and_false]
    have n31 : Int32.ofNat sz < 30 := by
      show Int32.ofNat sz < Int32.ofNat 30
      rw [n_lt (by omega) (by omega)]; omega
    refine ⟨G4, _, W, ?_, fx_tr fx3 q8, q9, w2, w3, fun t ht => ?_⟩
    · simp (decide := true) only [fX9_insert, jX9_insert_69, jX9_insert_108, c.f4, n31, w1, r1, r3.f3, r0 G' r2, q1, q3.f4, n_suc, q4, q6.ob, ex, ob_n, b2_n, tc_rn, tc_ln, F_sF, A_sF, R_sF, L_sF, F_sA, A_sA, R_sA, L_sA, F_sR, A_sR, R_sR, L_sR, F_sL, A_sL, R_sL, L_sL, and_true, true_and, and_false, false_and, and_self, reduceIte, sF_sF, sA_sA, false_or, or_false, true_or, or_true, not_false_eq_true, not_true_eq_false, decide_true, decide_false, Bool.true_or, Bool.or_true, Bool.false_and, Bool.true_and, Bool.false_or, Bool.or_false, Bool.and_true, Bool.and_false]
    · rw [upd_r]
      unfold insO
      by_cases y1 : t < W
      · rw [if_neg (by omega), if_pos y1, r4 t, if_neg (by omega)]
        exact (ho.2.1 t (by omega)).1
      · rw [if_neg y1]
        by_cases y2 : t = W
        · rw [if_pos y2, if_pos y2]
        · rw [if_neg y2, if_neg y2, r4 t, if_pos (by omega)]
          exact (ho.2.1 (t - 1) (by omega)).1
  · obtain ⟨G', od', rfl, r2, r3, r4⟩ := hp
    obtain ⟨G2, q1, q2, q3⟩ := r3.wI (s := s) (k := sz - j) (v := od' (sz - j - 1)) (by omega)
    have nn : ¬ (Int32.ofNat (sz - j) ≤ Int32.ofNat W ∨ Int32.ofNat (sz - j) ≤ 0) := by
      show ¬ (Int32.ofNat (sz - j) ≤ Int32.ofNat W ∨ Int32.ofNat (sz - j) ≤ Int32.ofNat 0)
      rw [n_le (by omega) (by omega), n_le (by omega) (by omega)]; omega
    have s1 : Int32.ofNat (sz - j) - 1 = Int32.ofNat (sz - j - 1) := n_sub (b := 1) (by omega) (by omega)
    have s2 : Int32.ofNat (sz - j) + -1 = Int32.ofNat (sz - (j + 1)) := by
      rw [Int32.add_neg_eq_sub, s1]; congr 1
    refine ⟨(Int32.ofNat (sz - (j + 1)), e_g s G2), ?_, G2, _, rfl, fx_tr r2 q2, q3, fun t => ?_⟩
    · simp (decide := true) only [bX9_insert_75, nn, r3.f3, s1, r3.aI, n_in2 (show sz - j - 1 < 30 by omega) (by decide), n_idx (show sz - j - 1 < 2147483648 by omega), q1, s2, ob_n, b2_n, tc_rn, tc_ln, F_sF, A_sF, R_sF, L_sF, F_sA, A_sA, R_sA, L_sA, F_sR, A_sR, R_sR, L_sR, F_sL, A_sL, R_sL, L_sL, and_true, true_and, and_false, false_and, and_self, reduceIte, sF_sF, sA_sA, false_or, or_false, true_or, or_true, not_false_eq_true, not_true_eq_false, decide_true, decide_false, Bool.true_or, Bool.or_true, Bool.false_and, Bool.true_and, Bool.false_or, Bool.or_false, Bool.and_true, Bool.and_false]
    · rw [upd_r]
      by_cases y : t = sz - j
      · rw [if_pos y, if_pos (by omega), r4, if_neg (by omega), y]
      · rw [if_neg y, r4]
        by_cases y2 : sz - j < t ∧ t ≤ sz
        · rw [if_pos y2, if_pos (by omega)]
        · rw [if_neg y2, if_neg (by omega)]
  · obtain ⟨G', od', rfl, r2, r3, r4⟩ := hp
    have e : sz - (sz - W) = W := by omega
    rw [e] at r4 ⊢
    refine ⟨e_g s G', ?_, G', od', rfl, r2, r3, r4⟩
    simp (decide := true) only [bX9_insert_75, nlr (show W < 2147483648 by omega), ob_n, b2_n, tc_rn, tc_ln, F_sF, A_sF, R_sF, L_sF, F_sA, A_sA, R_sA, L_sA, F_sR, A_sR, R_sR, L_sR, F_sL, A_sL, R_sL, L_sL, and_true, true_and, and_false, false_and, and_self, reduceIte, sF_sF, sA_sA, false_or, or_false, true_or, or_true, not_false_eq_true, not_true_eq_false, decide_true, decide_false, Bool.true_or, Bool.or_true, Bool.false_and, Bool.true_and, Bool.false_or, Bool.or_false, Bool.and_true, Bool.and_false]
/-- the order with one more in it is an order -/
theorem ins_or {N N' : Nat → Int32} {sz W l k : Nat} {od od' : Nat → Int32} {o : Nat → Nat} {P : Int32} (hp : PlN N) (h : OrD N sz od o) (hl : l < 30) (hd : ¬ N (1169 * l) = 1) (n0 : N' (1169 * l) = 1) (n2 : N' (1169 * l + 2) = P) (n3 : N' (1169 * l + 3) = Int32.ofNat k) (hk : k ≤ 30) (no : ∀ m, m < 30 → ¬ m = l → N' (1169 * m) = N (1169 * m) ∧ N' (1169 * m + 2) = N (1169 * m + 2)) (ns : ∀ m, m < 30 → ¬ m = l → N (1169 * m) = 1 → N' (1169 * m + 3) = if N (1169 * m + 2) = P ∧ ¬ N (1169 * m + 3) < Int32.ofNat k then N (1169 * m + 3) + 1 else N (1169 * m + 3)) (hsz : sz < 30) (hW : W ≤ sz) (hWp : ∀ i, i < sz → chO N o P i = true → (i < W ↔ cnt (chO N o P) i < k)) (ho : ∀ t, t < sz + 1 → od' t = Int32.ofNat (insO o W l t)) : OrN N' (sz + 1) od' := by
  have pc := place_c hp h
  obtain ⟨a1, a2, a3, a4, a5⟩ := id h
  have nl : ∀ j, j < sz → ¬ o j = l := fun j hj e => hd (by rw [← e]; exact (a2 j hj).2.2)
  have old : ∀ t, t < sz + 1 → ¬ t = W → ∃ j, j < sz ∧ insO o W l t = o j ∧ j = if t < W then t else t - 1 := by
    intro t ht hne
    unfold insO
    by_cases y : t < W
    · exact ⟨t, by omega, by rw [if_pos y], by rw [if_pos y]⟩
    · exact ⟨t - 1, by omega, by rw [if_neg y, if_neg hne], by rw [if_neg y]⟩
  have eW : insO o W l W = l := by unfold insO; rw [if_neg (by omega), if_pos rfl]
  have plv : ∀ j, j < sz → N' (1169 * o j + 3) = Int32.ofNat (if N (1169 * o j + 2) = P ∧ k ≤ cnt (chO N o (N (1169 * o j + 2))) j then cnt (chO N o (N (1169 * o j + 2))) j + 1 else cnt (chO N o (N (1169 * o j + 2))) j) := by
    intro j hj
    obtain ⟨b1, b2, b3⟩ := a2 j hj
    have hc : cnt (chO N o (N (1169 * o j + 2))) j ≤ j := cnt_le
    have lt : Int32.ofNat (cnt (chO N o (N (1169 * o j + 2))) j) < Int32.ofNat k ↔ cnt (chO N o (N (1169 * o j + 2))) j < k := n_lt (by omega) (by omega)
    rw [ns _ b2 (nl j hj) b3, pc j hj]
    by_cases z : N (1169 * o j + 2) = P ∧ k ≤ cnt (chO N o (N (1169 * o j + 2))) j
    · rw [if_pos z, if_pos ⟨z.1, fun y => by have := lt.mp y; omega⟩, n_suc]
    · rw [if_neg z, if_neg (fun z2 => z ⟨z2.1, Nat.le_of_not_lt fun y => z2.2 (lt.mpr y)⟩)]
  refine ⟨by omega, insO o W l, fun t ht => ⟨ho t ht, ?_⟩, fun i j hij hj => ?_, fun m hm hm1 => ?_, fun i j hij hj hq => ?_⟩
  · by_cases y : t = W
    · rw [y, eW]; exact ⟨hl, n0⟩
    · obtain ⟨j, j1, j2, -⟩ := old t ht y
      rw [j2]
      exact ⟨(a2 j j1).2.1, by rw [(no _ (a2 j j1).2.1 (nl j j1)).1]; exact (a2 j j1).2.2⟩
  · by_cases y : i = W
    · obtain ⟨j', j1, j2, -⟩ := old j hj (by omega)
      rw [y, eW, j2]
      exact fun e => nl j' j1 e.symm
    · obtain ⟨i', i1, i2, i3⟩ := old i (by omega) y
      by_cases y2 : j = W
      · rw [y2, eW, i2]; exact nl i' i1
      · obtain ⟨j', j1, j2, j3⟩ := old j hj y2
        rw [i2, j2]
        refine a3 i' j' ?_ j1
        rw [i3, j3]
        split <;> split <;> omega
  · by_cases y : m = l
    · exact ⟨W, by omega, by rw [y]; exact eW⟩
    · rw [(no m hm y).1] at hm1
      obtain ⟨i, i1, i2⟩ := a4 m hm hm1
      by_cases z : i < W
      · exact ⟨i, by omega, by unfold insO; rw [if_pos z]; exact i2⟩
      · exact ⟨i + 1, by omega, by unfold insO; rw [if_neg (by omega), if_neg (by omega), Nat.add_sub_cancel]; exact i2⟩
  · by_cases y : i = W
    · obtain ⟨j', j1, j2, j3⟩ := old j hj (by omega)
      rw [if_neg (by omega)] at j3
      rw [y, eW, j2] at hq ⊢
      rw [n2, (no _ (a2 j' j1).2.1 (nl j' j1)).2] at hq
      have hc : cnt (chO N o (N (1169 * o j' + 2))) j' ≤ j' := cnt_le
      have hw := hWp j' j1 (decide_eq_true hq.symm)
      rw [n3, plv j' j1, ← hq, if_pos ⟨rfl, by omega⟩, n_lt (by omega) (by rw [← hq] at hc; omega)]
      omega
    · obtain ⟨i', i1, i2, i3⟩ := old i (by omega) y
      by_cases y2 : j = W
      · rw [if_pos (by omega)] at i3
        rw [y2, eW, i2] at hq ⊢
        rw [n2, (no _ (a2 i' i1).2.1 (nl i' i1)).2] at hq
        have hc : cnt (chO N o (N (1169 * o i' + 2))) i' ≤ i' := cnt_le
        have hw := hWp i' i1 (decide_eq_true hq)
        rw [hq] at hc
        rw [n3, plv i' i1, hq, if_neg (by omega), n_lt (by omega) (by omega)]
        omega
      · obtain ⟨j', j1, j2, j3⟩ := old j hj y2
        have hij' : i' < j' := by
          rw [i3, j3]
          split <;> split <;> omega
        rw [i2, j2] at hq ⊢
        rw [(no _ (a2 i' i1).2.1 (nl i' i1)).2, (no _ (a2 j' j1).2.1 (nl j' j1)).2] at hq
        have hh := a5 i' j' hij' j1 hq
        have hc1 : cnt (chO N o (N (1169 * o i' + 2))) i' ≤ i' := cnt_le
        have hc2 : cnt (chO N o (N (1169 * o j' + 2))) j' ≤ j' := cnt_le
        rw [pc i' i1, pc j' j1, n_lt (by omega) (by omega)] at hh
        rw [plv i' i1, plv j' j1, n_lt (by split <;> omega) (by split <;> omega)]
        rw [hq] at hh ⊢
        generalize cnt (chO N o (N (1169 * o j' + 2))) i' = A at hh ⊢
        generalize cnt (chO N o (N (1169 * o j' + 2))) j' = B at hh ⊢
        by_cases z : N (1169 * o j' + 2) = P
        · by_cases z1 : k ≤ A
          · rw [if_pos ⟨z, z1⟩, if_pos ⟨z, by omega⟩]; omega
          · rw [if_neg (fun q => z1 q.2)]
            split <;> omega
        · rw [if_neg (fun q => z q.1), if_neg (fun q => z q.1)]; exact hh
/-- places stay without a gap -/
theorem ins_pl {N N' : Nat → Int32} {sz l k : Nat} {od : Nat → Int32} {o : Nat → Nat} {P : Int32} (hp : PlN N) (h : OrD N sz od o) (hsz : sz < 30) (hl : l < 30) (hd : ¬ N (1169 * l) = 1) (n0 : N' (1169 * l) = 1) (n2 : N' (1169 * l + 2) = P) (n3 : N' (1169 * l + 3) = Int32.ofNat k) (hk : k ≤ cnt (chL N P) 30) (no : ∀ m, m < 30 → ¬ m = l → N' (1169 * m) = N (1169 * m) ∧ N' (1169 * m + 2) = N (1169 * m + 2)) (ns : ∀ m, m < 30 → ¬ m = l → N (1169 * m) = 1 → N' (1169 * m + 3) = if N (1169 * m + 2) = P ∧ ¬ N (1169 * m + 3) < Int32.ofNat k then N (1169 * m + 3) + 1 else N (1169 * m + 3)) : PlN N' := by
  have pc := place_c hp h
  have hcm := cnt_many (p := P) h
  obtain ⟨a1, a2, a3, a4, a5⟩ := id h
  have hcs : cnt (chO N o P) sz ≤ sz := cnt_le
  have nl : ∀ m, N (1169 * m) = 1 → ¬ m = l := fun m hm e => hd (by rw [← e]; exact hm)
  have ex : ∀ q, q < cnt (chL N P) 30 → ∃ m, m < 30 ∧ N (1169 * m) = 1 ∧ N (1169 * m + 2) = P ∧ N (1169 * m + 3) = Int32.ofNat q := by
    intro q hq
    rw [← hcm] at hq
    obtain ⟨j, j1, j2, j3⟩ := cnt_hit hq
    have j4 : N (1169 * o j + 2) = P := of_decide_eq_true j2
    refine ⟨o j, (a2 j j1).2.1, (a2 j j1).2.2, j4, ?_⟩
    rw [pc j j1, j4, j3]
  have wit : ∀ q m, m < 30 → N (1169 * m) = 1 → N (1169 * m + 3) = Int32.ofNat q → q < 30 → N' (1169 * m) = 1 ∧ N' (1169 * m + 2) = N (1169 * m + 2) ∧ N' (1169 * m + 3) = Int32.ofNat (if N (1169 * m + 2) = P ∧ k ≤ q then q + 1 else q) := by
    intro q m hm h1 h3 hq
    obtain ⟨z1, z2⟩ := no m hm (nl m h1)
    refine ⟨by rw [z1]; exact h1, z2, ?_⟩
    have lt : Int32.ofNat q < Int32.ofNat k ↔ q < k := n_lt (by omega) (by omega)
    rw [ns m hm (nl m h1) h1, h3]
    by_cases z : N (1169 * m + 2) = P ∧ k ≤ q
    · rw [if_pos z, if_pos ⟨z.1, fun y => by have := lt.mp y; omega⟩, n_suc]
    · rw [if_neg z, if_neg (fun z2 => z ⟨z2.1, Nat.le_of_not_lt fun y => z2.2 (lt.mpr y)⟩)]
  intro m hm h1
  by_cases y : m = l
  · subst y
    refine ⟨k, by omega, n3, fun q hq => ?_⟩
    obtain ⟨x, x1, x2, x3, x4⟩ := ex q (by omega)
    obtain ⟨w1, w2, w3⟩ := wit q x x1 x2 x4 (by omega)
    exact ⟨x, x1, w1, by rw [w2, n2]; exact x3, by rw [w3, if_neg (by omega)]⟩
  · rw [(no m hm y).1] at h1
    obtain ⟨p, p1, p2, p3⟩ := hp m hm h1
    obtain ⟨w1, w2, w3⟩ := wit p m hm h1 p2 p1
    by_cases z : N (1169 * m + 2) = P ∧ k ≤ p
    · rw [if_pos z] at w3
      have hpl : p + 1 < 30 := by
        obtain ⟨i, i1, i2⟩ := a4 m hm h1
        have e1 := pc i i1
        have hc : cnt (chO N o (N (1169 * o i + 2))) i ≤ i := cnt_le
        rw [i2, p2] at e1
        rw [i2] at hc
        have := (n_eq (by omega) (by omega)).mp e1
        omega
      refine ⟨p + 1, hpl, w3, fun q hq => ?_⟩
      by_cases z2 : q < k
      · obtain ⟨x, x1, x2, x3, x4⟩ := p3 q (by omega)
        obtain ⟨v1, v2, v3⟩ := wit q x x1 x2 x4 (by omega)
        exact ⟨x, x1, v1, by rw [v2, w2]; exact x3, by rw [v3, if_neg (by omega)]⟩
      · by_cases z3 : q = k
        · exact ⟨l, hl, n0, by rw [n2, w2]; exact z.1.symm, by rw [n3, z3]⟩
        · obtain ⟨x, x1, x2, x3, x4⟩ := p3 (q - 1) (by omega)
          obtain ⟨v1, v2, v3⟩ := wit (q - 1) x x1 x2 x4 (by omega)
          refine ⟨x, x1, v1, by rw [v2, w2]; exact x3, ?_⟩
          rw [v3, if_pos ⟨by rw [x3]; exact z.1, by omega⟩]
          congr 1; omega
    · rw [if_neg z] at w3
      refine ⟨p, p1, w3, fun q hq => ?_⟩
      obtain ⟨x, x1, x2, x3, x4⟩ := p3 q hq
      obtain ⟨v1, v2, v3⟩ := wit q x x1 x2 x4 (by omega)
      refine ⟨x, x1, v1, by rw [v2, w2]; exact x3, ?_⟩
      rw [v3, if_neg]
      rintro ⟨z2, z3⟩
      exact z ⟨by rw [← x3]; exact z2, by omega⟩
