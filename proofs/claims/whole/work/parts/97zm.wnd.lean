-- needs: 97zl
/-! ===== the wand: what is reached by like neighbours ===== -/
def dX (j : Nat) : Int32 := if j = 0 then -1 else if j = 1 then 1 else 0
def dY (j : Nat) : Int32 := if j = 2 then -1 else if j = 3 then 1 else 0
theorem dXY {j : Nat} (hj : j < 4) : (if ¬ Int32.ofNat j = 0 then (if ¬ Int32.ofNat j = (1 : Int32) then (0 : Int32) else (1 : Int32)) else (-1 : Int32)) = dX j ∧ (if ¬ Int32.ofNat j = (2 : Int32) then (if ¬ Int32.ofNat j = (3 : Int32) then (0 : Int32) else (1 : Int32)) else (-1 : Int32)) = dY j := by
  have : ∀ j : Fin 4, (if ¬ Int32.ofNat j.1 = 0 then (if ¬ Int32.ofNat j.1 = (1 : Int32) then (0 : Int32) else (1 : Int32)) else (-1 : Int32)) = dX j.1 ∧ (if ¬ Int32.ofNat j.1 = (2 : Int32) then (if ¬ Int32.ofNat j.1 = (3 : Int32) then (0 : Int32) else (1 : Int32)) else (-1 : Int32)) = dY j.1 := by decide +kernel
  exact this ⟨j, hj⟩
def nbr (w h k j : Nat) : Option Nat := if plc w h (Int32.ofNat (k % w) + dX j) (Int32.ofNat (k / w) + dY j) then some ((Int32.ofNat (k / w) + dY j).toInt.toNat * w + (Int32.ofNat (k % w) + dX j).toInt.toNat) else none
theorem nbr_lt {w h k j m : Nat} (hm : nbr w h k j = some m) : m < w * h := by
  unfold nbr at hm
  by_cases q : plc w h (Int32.ofNat (k % w) + dX j) (Int32.ofNat (k / w) + dY j) = true
  · rw [if_pos q] at hm
    cases hm
    unfold plc at q
    have z := of_decide_eq_true q
    exact at_lt (by omega) (by omega)
  · rw [if_neg q] at hm; cases hm
/-- what is reached -/
def RS (w h : Nat) (L : Nat → Bool) (st k : Nat) : Prop := ∀ S : Nat → Prop, S st → (∀ k j m, S k → j < 4 → nbr w h k j = some m → L m = true → S m) → S k
theorem RS_0 {w h st : Nat} {L : Nat → Bool} : RS w h L st st := fun _ h _ => h
theorem RS_s {w h st k j m : Nat} {L : Nat → Bool} (hk : RS w h L st k) (hj : j < 4) (hm : nbr w h k j = some m) (hL : L m = true) : RS w h L st m := fun S h1 h2 => h2 k j m (hk S h1 h2) hj hm hL
def mk (M : Nat → Int32) (k : Nat) : Bool := decide (M k = 255)
theorem cnt_up {M : Nat → Int32} {m n : Nat} (hm : m < n) (h0 : M m = 0) : cnt (mk (upd M m 255)) n = cnt (mk M) n + 1 := by
  have c := cnt_rm (Q := mk (upd M m 255)) (j := m) (m := n) hm (by unfold mk; rw [upd_s]; rfl)
  rw [c]
  congr 1
  refine cnt_cong (fun i hi => ?_)
  unfold mk
  by_cases e : i = m
  · rw [e, h0, decide_eq_true rfl, decide_eq_false (show ¬ (0 : Int32) = 255 by decide)]; simp
  · rw [upd_n e, decide_eq_false e]; simp
theorem cnt_ff {n : Nat} {P : Nat → Bool} (h : ∀ i, i < n → P i = false) : cnt P n = 0 := by
  induction n with
  | zero => rfl
  | succ n ih => rw [cnt_s, ih (fun i hi => h i (by omega)), h n (by omega)]; rfl
/-- marks are just what is reached -/
def WE (w h : Nat) (L : Nat → Bool) (st : Nat) (M : Nat → Int32) : Prop := ∀ k, k < w * h → (M k = 0 ∨ M k = 255) ∧ (M k = 255 ↔ RS w h L st k)
theorem WE_q {w h st : Nat} {L : Nat → Bool} {M M' : Nat → Int32} (h1 : WE w h L st M) (h2 : WE w h L st M') : ∀ k, k < w * h → M k = M' k := fun k hk => by
  obtain ⟨a1, a2⟩ := h1 k hk
  obtain ⟨b1, b2⟩ := h2 k hk
  by_cases q : RS w h L st k
  · rw [a2.mpr q, b2.mpr q]
  · rw [a1.resolve_right (fun z => q (a2.mp z)), b1.resolve_right (fun z => q (b2.mp z))]
/-- a closed row of marks is what is reached -/
theorem WE_c {w h st : Nat} {L : Nat → Bool} {M : Nat → Int32} (h1 : ∀ k, k < w * h → M k = 0 ∨ M k = 255) (h0 : st < w * h) (hs : M st = 255) (h2 : ∀ k, k < w * h → M k = 255 → RS w h L st k) (h3 : ∀ k, k < w * h → M k = 255 → ∀ j, j < 4 → ∀ m, nbr w h k j = some m → L m = true → M m = 255) : WE w h L st M := fun k hk => by
  refine ⟨h1 k hk, h2 k hk, fun r => ?_⟩
  have := r (fun k => k < w * h ∧ M k = 255) ⟨h0, hs⟩ (fun k j m hS hj hm hL => ⟨nbr_lt hm, h3 k hS.1 hS.2 j hj m hm hL⟩)
  exact this.2
def WI (w h : Nat) (L : Nat → Bool) (st n hd : Nat) (M Q : Nat → Int32) (q : Nat → Nat) : Prop := n = cnt (mk M) (w * h) ∧ hd ≤ n ∧ (∀ k, k < w * h → M k = 0 ∨ M k = 255) ∧ M st = 255 ∧ (∀ i, i < n → Q i = Int32.ofNat (q i) ∧ q i < w * h ∧ M (q i) = 255) ∧ (∀ k, k < w * h → M k = 255 → ∃ i, i < n ∧ q i = k) ∧ (∀ k, k < w * h → M k = 255 → RS w h L st k) ∧ ∀ i, i < hd → ∀ j, j < 4 → ∀ m, nbr w h (q i) j = some m → L m = true → M m = 255
/-- one more is reached -/
theorem WI_up {w h st n hd m : Nat} {L : Nat → Bool} {M Q : Nat → Int32} {q : Nat → Nat} (hI : WI w h L st n hd M Q q) (hm : m < w * h) (h0 : M m = 0) (hr : RS w h L st m) : WI w h L st (n + 1) hd (upd M m 255) (upd Q n (Int32.ofNat m)) (fun i => if i = n then m else q i) := by
  obtain ⟨i1, i2, i3, i4, i5, i6, i7, i8⟩ := hI
  have mono : ∀ k, M k = 255 → upd M m 255 k = 255 := fun k hk => by
    rw [upd_r]; split
    · rfl
    · exact hk
  refine ⟨by rw [cnt_up hm h0, i1], by omega, fun k hk => ?_, mono _ i4, fun i hi => ?_, fun k hk hM => ?_, fun k hk hM => ?_, fun i hi j hj m' e1 e2 => ?_⟩
  · rw [upd_r]; split
    · exact Or.inr rfl
    · exact i3 k hk
  · by_cases e : i = n
    · rw [e, upd_s]
      dsimp only
      rw [if_pos rfl, upd_s]
      exact ⟨rfl, hm, rfl⟩
    · rw [upd_n e]
      dsimp only
      rw [if_neg e]
      obtain ⟨a, b, c⟩ := i5 i (by omega)
      exact ⟨a, b, mono _ c⟩
  · by_cases e : k = m
    · exact ⟨n, by omega, by dsimp only; rw [if_pos rfl, e]⟩
    · rw [upd_n e] at hM
      obtain ⟨i, a, b⟩ := i6 k hk hM
      exact ⟨i, by omega, by dsimp only; rw [if_neg (by omega)]; exact b⟩
  · by_cases e : k = m
    · rw [e]; exact hr
    · rw [upd_n e] at hM
      exact i7 k hk hM
  · dsimp only at e1
    rw [if_neg (by omega)] at e1
    exact mono _ (i8 i hi j hj m' e1 e2)
theorem stepC {s : e_S} {g : ps_G} {w h k j n : Nat} {c fr x8 : Int32} {M Q : Nat → Int32} (hw : w ≤ 24) (hh : h ≤ 24) (e0 : s.1 89 0 = Int32.ofNat w) (e1 : s.1 89 1 = Int32.ofNat h) (hj : j < 4) (hn : n ≤ 576) (hn2 : ∀ m, nbr w h k j = some m → M m = 0 → n < 576) : bX0_wand_101 89 86 c fr x8 (Int32.ofNat (k % w)) (Int32.ofNat (k / w)) (Int32.ofNat n) (Int32.ofNat j) (e_g (sA (sA s 91 M) 92 Q) g) = match nbr w h k j with
    | none => some (.inl (Int32.ofNat n, Int32.ofNat (j + 1), e_g (sA (sA s 91 M) 92 Q) g))
    | some m => if M m = 0 then (if lkB (s.2.1 86 m) fr c then some (.inl (Int32.ofNat (n + 1), Int32.ofNat (j + 1), e_g (sA (sA s 91 (upd M m 255)) 92 (upd Q n (Int32.ofNat m))) g)) else some (.inl (Int32.ofNat n, Int32.ofNat (j + 1), e_g (sA (sA s 91 M) 92 Q) g))) else some (.inl (Int32.ofNat n, Int32.ofNat (j + 1), e_g (sA (sA s 91 M) 92 Q) g)) := by
  have hwh := wh_le hw hh
  obtain ⟨x1, x2⟩ := dXY hj
  have g4 : ¬ (4 : Int32) ≤ Int32.ofNat j := nle (b := 4) hj (by omega)
  have v91 : (sA (sA s 91 M) 92 Q).2.1 91 = M := by rw [A_sA, if_neg (by decide), A_sA, if_pos rfl]
  have v92 : ∀ M', (sA (sA s 91 M') 92 Q).2.1 92 = Q := fun M' => by rw [A_sA, if_pos rfl]
  have v86 : (sA (sA s 91 M) 92 Q).2.1 86 = s.2.1 86 := by rw [A_sA, if_neg (by decide), A_sA, if_neg (by decide)]
  have b0 : (0 : Int32).toInt = 0 := rfl
  unfold bX0_wand_101 jX0_wand_252_101
  rw [if_neg g4, f89_0, F_sA, F_sA, e0, ob_n, x1, x2, n_suc (n := j)]
  unfold nbr at hn2 ⊢
  generalize Int32.ofNat (k % w) + dX j = cx at hn2 ⊢
  generalize Int32.ofNat (k / w) + dY j = cy at hn2 ⊢
  by_cases q : plc w h cx cy = true
  · rw [if_pos q] at hn2 ⊢
    obtain ⟨a, b, rfl, rfl, ha, hb⟩ := plc_n q
    have hlt := at_lt ha hb
    have ta : (Int32.ofNat a).toInt.toNat = a := by rw [n_int (by omega)]; rfl
    have tb : (Int32.ofNat b).toInt.toNat = b := by rw [n_int (by omega)]; rfl
    rw [ta, tb] at hn2 ⊢
    dsimp only
    have ng : ¬ (Int32.ofNat a < 0 ∨ Int32.ofNat b < 0) := fun z => z.elim (n_neg (by omega)) (n_neg (by omega))
    rw [if_neg ng, ob_n, if_neg (nle ha (by omega)), f89_1, F_sA, F_sA, e1, ob_n, if_neg (nle hb (by omega)), f89_3, ob_n, ob_n, n_mul, n_add, rdI t91 (by omega), ob_n, v91]
    by_cases z : M (b * w + a) = 0
    · have n5 := hn2 _ rfl z
      have nq : ¬ ((¬ M (b * w + a) = 0) ∨ (576 : Int32) ≤ Int32.ofNat n) := fun y => y.elim (fun y => y z) (fun y => nle (b := 576) n5 (by omega) y)
      rw [if_neg nq, rdI t86 (by omega), ob_n, v86, like0, ob_n, if_pos z]
      by_cases zl : lkB (s.2.1 86 (b * w + a)) fr c = true
      · rw [if_pos zl, if_pos zl, if_neg (by decide), ob_n, ob_n, wrI t91 (by omega) (by omega), ob_n, v91, f89_4, ob_n, ob_n, sA_cm (i := 92) (j := 91) (by decide), sA_sA, wrI t92 (by omega) n5, ob_n, v92, sA_sA, n_suc]
      · rw [if_neg zl, if_neg zl, if_pos rfl]
    · rw [if_pos (Or.inl z), if_neg z]
  · rw [if_neg q]
    dsimp only
    unfold plc at q
    have q' := of_decide_eq_false (Bool.eq_false_iff.mpr q)
    by_cases z1 : cx < 0 ∨ cy < 0
    · rw [if_pos z1]
    · rw [if_neg z1, ob_n]
      by_cases z2 : Int32.ofNat w ≤ cx
      · rw [if_pos z2]
      · rw [if_neg z2, f89_1, F_sA, F_sA, e1, ob_n, if_pos]
        rw [i_le, n_int (by omega)] at z2 ⊢
        rw [i_lt, i_lt, b0] at z1
        omega
