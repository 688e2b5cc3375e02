-- needs: 07 10 13 14 20 21 22 23 24 25 26 27 32 38 41 43 46 47 48 50 52 53 54 55 57 60 61 70 71 72 73 74 80 81 82 83 84 85 86 87 88 89
/-! ===== see: TILES are kept ===== -/
def kpR (P : Nat → Bool) (V f : Nat → Int32) : Nat → Int32 := fun k => if P k then V k else f k
theorem kpR_up {P P' : Nat → Bool} {V f : Nat → Int32} {k0 : Nat} (h : ∀ k, P' k = (P k || decide (k = k0))) : upd (kpR P V f) k0 (V k0) = kpR P' V f := by
  funext k
  rw [upd_r]
  unfold kpR
  rw [h k]
  by_cases q : k = k0
  · rw [if_pos q, decide_eq_true q, Bool.or_true, if_pos rfl, q]
  · rw [if_neg q, decide_eq_false q, Bool.or_false]
theorem kpR_c {P P' : Nat → Bool} {V f : Nat → Int32} (h : ∀ k, P k = P' k) : kpR P V f = kpR P' V f := by
  funext k
  unfold kpR
  rw [h k]
theorem kpR_0 {P : Nat → Bool} {V f : Nat → Int32} (h : ∀ k, P k = false) : kpR P V f = f := by
  funext k
  unfold kpR
  rw [h k]; rfl
/-- the pixels of one TILE -/
def tlB (w h X Y : Nat) (k : Nat) : Bool := decide (k < w * h ∧ k / w / 8 = Y / 8 ∧ k % w / 8 = X / 8)
def wnB (w L T mx q p : Nat) (k : Nat) : Bool := decide ((T ≤ k / w ∧ k / w < T + q ∧ L ≤ k % w ∧ k % w < L + mx) ∨ (k / w = T + q ∧ L ≤ k % w ∧ k % w < L + p))
theorem k_at {w k y x : Nat} (hx : x < w) : k = y * w + x ↔ k / w = y ∧ k % w = x := by
  constructor
  · intro e
    subst e
    exact ⟨by rw [Nat.mul_comm, Nat.mul_add_div (by omega), Nat.div_eq_of_lt hx, Nat.add_zero], by rw [Nat.mul_comm, Nat.mul_add_mod, Nat.mod_eq_of_lt hx]⟩
  · rintro ⟨h1, h2⟩
    have := Nat.div_add_mod k w
    rw [h1, h2, Nat.mul_comm] at this
    exact this.symm
theorem keep11 {s : e_S} {g : ps_G} {w h X Y : Nat} (hw : w ≤ 24) (hh : h ≤ 24) (hX : X < w) (hY : Y < h) : fX10_keep (e_g s g) 20 (Int32.ofNat X) (Int32.ofNat Y) (Int32.ofNat w) (Int32.ofNat h) 86 = some (e_g (sF (sA (sA s 87 (kpR (tlB w h X Y) (s.2.1 86) (s.2.1 87))) 88 (upd (s.2.1 88) (3 * (Y / 8) + X / 8) 1)) 20 8 (s.1 20 8 + 1)) g) := by
  have hn := wh_le hw hh
  have eL : Int32.ofNat X / 8 * 8 = Int32.ofNat (X / 8 * 8) := by
    show Int32.ofNat X / Int32.ofNat 8 * Int32.ofNat 8 = _
    rw [n_div (by omega) (by omega), n_mul]
  have eT : Int32.ofNat Y / 8 * 8 = Int32.ofNat (Y / 8 * 8) := by
    show Int32.ofNat Y / Int32.ofNat 8 * Int32.ofNat 8 = _
    rw [n_div (by omega) (by omega), n_mul]
  have tile : fX10_tileOf (Int32.ofNat X) (Int32.ofNat Y) = Int32.ofNat (3 * (Y / 8) + X / 8) := by
    unfold fX10_tileOf
    have a : Int32.ofNat X / 8 = Int32.ofNat (X / 8) := n_div (b := 8) (by omega) (by omega)
    have b : Int32.ofNat Y / 8 = Int32.ofNat (Y / 8) := n_div (b := 8) (by omega) (by omega)
    have c : fX11_within (Int32.ofNat (X / 8)) 0 2 = Int32.ofNat (X / 8) := within_n (a := 0) (b := 2) (by omega) (by omega) (by omega)
    have d : fX11_within (Int32.ofNat (Y / 8)) 0 2 = Int32.ofNat (Y / 8) := within_n (a := 0) (b := 2) (by omega) (by omega) (by omega)
    rw [a, b, c, d]
    show _ * Int32.ofNat 3 + _ = _
    rw [n_mul, n_add, Nat.mul_comm]
  have mxx : ∀ n, n < 100 → fJ9_max_7cf53 (Int32.ofNat n) 0 = Int32.ofNat n := fun n hn => if_neg (n_neg (by omega))
  generalize hL : X / 8 * 8 = L at eL
  generalize hT : Y / 8 * 8 = T at eT
  have hLw : L < w := by omega
  have hTh : T < h := by omega
  obtain ⟨mx, m1, m2, m3⟩ : ∃ mx, L + mx ≤ w ∧ L + mx ≤ L + 8 ∧ (L + mx = w ∨ L + mx = L + 8) := by
    by_cases q : L + 8 ≤ w
    · exact ⟨8, q, Nat.le_refl _, Or.inr rfl⟩
    · exact ⟨w - L, by omega, by omega, Or.inl (by omega)⟩
  obtain ⟨my, m4, m5, m6⟩ : ∃ my, T + my ≤ h ∧ T + my ≤ T + 8 ∧ (T + my = h ∨ T + my = T + 8) := by
    by_cases q : T + 8 ≤ h
    · exact ⟨8, q, Nat.le_refl _, Or.inr rfl⟩
    · exact ⟨h - T, by omega, by omega, Or.inl (by omega)⟩
  have l8 : Int32.ofNat L + 8 = Int32.ofNat (L + 8) := n_add (m := 8)
  have t8 : Int32.ofNat T + 8 = Int32.ofNat (T + 8) := n_add (m := 8)
  have inner : ∀ q, q < my → q_lp (fun u => bX10_keep_51 20 (Int32.ofNat X) (Int32.ofNat Y) (Int32.ofNat w) (Int32.ofNat h) 86 (Int32.ofNat L) (Int32.ofNat T) (Int32.ofNat (T + q)) u.1 u.2) (Int32.ofNat L, e_g (sA s 87 (kpR (wnB w L T mx q 0) (s.2.1 86) (s.2.1 87))) g) = some (e_g (sA s 87 (kpR (wnB w L T mx (q + 1) 0) (s.2.1 86) (s.2.1 87))) g) := by
    intro q hq
    refine lp_0 (fun p => (Int32.ofNat (L + p), e_g (sA s 87 (kpR (wnB w L T mx q p) (s.2.1 86) (s.2.1 87))) g)) mx rfl (fun p hp => ?_) ?_
    · have hlt := at_lt (w := w) (h := h) (a := L + p) (b := T + q) (by omega) (by omega)
      have up := kpR_up (P := wnB w L T mx q p) (P' := wnB w L T mx q (p + 1)) (V := s.2.1 86) (f := s.2.1 87) (k0 := (T + q) * w + (L + p)) (fun k => by
        have := k_at (w := w) (k := k) (y := T + q) (x := L + p) (by omega)
        unfold wnB
        rw [Bool.eq_iff_iff, Bool.or_eq_true, decide_eq_true_iff, decide_eq_true_iff, decide_eq_true_iff, this]
        omega)
      have n5 : ¬ (576 : Int32) ≤ Int32.ofNat ((T + q) * w + (L + p)) := nle (b := 576) (by omega) (by omega)
      show bX10_keep_51 _ _ _ _ _ _ _ _ _ _ _ = _
      unfold bX10_keep_51 jX10_keep_104_51
      rw [l8, if_neg (fun z => z.elim (nle (by omega) (by omega)) (nle (by omega) (by omega))), n_mul, n_add, if_neg n5, l86, ob_n, if_neg n5, f20_6, ob_n, ob_n, rdI t86 (by omega), A_sA, if_neg (by decide), ob_n, wrI t87 (by omega) (by omega), A_sA, if_pos rfl, sA_sA, ob_n, n_suc, up]
      rfl
    · have e : kpR (wnB w L T mx q mx) (s.2.1 86) (s.2.1 87) = kpR (wnB w L T mx (q + 1) 0) (s.2.1 86) (s.2.1 87) := kpR_c (fun k => by
        unfold wnB
        rw [decide_eq_decide]
        omega)
      show bX10_keep_51 _ _ _ _ _ _ _ _ _ _ _ = _
      unfold bX10_keep_51
      rw [l8, if_pos (by rcases m3 with z | z; exact Or.inr (by rw [z]; exact nlr (by omega)); exact Or.inl (by rw [z]; exact nlr (by omega))), e]
  have outer : q_lp (fun u => bX10_keep_26 20 (Int32.ofNat X) (Int32.ofNat Y) (Int32.ofNat w) (Int32.ofNat h) 86 (Int32.ofNat L) (Int32.ofNat T) u.1 u.2) (Int32.ofNat T, e_g (sA s 87 (kpR (wnB w L T mx 0 0) (s.2.1 86) (s.2.1 87))) g) = some (e_g (sA s 87 (kpR (wnB w L T mx my 0) (s.2.1 86) (s.2.1 87))) g) := by
    refine lp_0 (fun q => (Int32.ofNat (T + q), e_g (sA s 87 (kpR (wnB w L T mx q 0) (s.2.1 86) (s.2.1 87))) g)) my rfl (fun q hq => ?_) ?_
    · show bX10_keep_26 _ _ _ _ _ _ _ _ _ _ = _
      unfold bX10_keep_26 jX10_keep_110_26
      rw [t8, if_neg (fun z => z.elim (nle (by omega) (by omega)) (nle (by omega) (by omega))), mxx L (by omega), inner q hq, ob_n, n_suc]
      rfl
    · show bX10_keep_26 _ _ _ _ _ _ _ _ _ _ = _
      unfold bX10_keep_26
      rw [t8, if_pos (by rcases m6 with z | z; exact Or.inr (by rw [z]; exact nlr (by omega)); exact Or.inl (by rw [z]; exact nlr (by omega)))]
  have e0 : sA s 87 (kpR (wnB w L T mx 0 0) (s.2.1 86) (s.2.1 87)) = s := by
    rw [kpR_0 (fun k => by unfold wnB; rw [decide_eq_false_iff_not]; omega), sA_id]
  have e1 : kpR (wnB w L T mx my 0) (s.2.1 86) (s.2.1 87) = kpR (tlB w h X Y) (s.2.1 86) (s.2.1 87) := kpR_c (fun k => by
    have hm : k % w < w := Nat.mod_lt _ (by omega)
    have hd : k < w * h ↔ k / w < h := by
      rw [Nat.div_lt_iff_lt_mul (by omega), Nat.mul_comm]
    unfold wnB tlB
    rw [decide_eq_decide, hd]
    omega)
  rw [e0, e1] at outer
  have nt : vp_nar .boolean (1 : Int32) = 1 := by decide
  unfold fX10_keep jX10_keep_116
  rw [eL, eT, mxx T (by omega), outer, ob_n, f20_7, ob_n, ob_n, tile, u88, n_idx (by omega), if_neg (n_in2 (by omega) (by decide)), A_sA, if_neg (by decide), nt, ob_n, f20_8, ob_n, w20_8, ob_n, F_sA, F_sA]
theorem sm_cA {a b : e_S} {j : Nat} {r : Nat → Int32} (h : Sm a b) : Sm (sA a j r) (sA b j r) := by
  refine ⟨fun i hi => ?_, fun p hp => by rw [F_sA, F_sA]; exact h.2.1 p hp, fun i hi => by rw [R_sA, R_sA]; exact h.2.2 i hi⟩
  rw [A_sA, A_sA]
  split
  · rfl
  · exact h.1 i hi
theorem sm_cF {a b : e_S} {j k : Nat} {v : Int32} (h : Sm a b) : Sm (sF a j k v) (sF b j k v) := by
  refine ⟨fun i hi => by rw [A_sF, A_sF]; exact h.1 i hi, fun p hp => ?_, fun i hi => by rw [R_sF, R_sF]; exact h.2.2 i hi⟩
  rw [F_sF, F_sF]
  split
  · rfl
  · exact h.2.1 p hp
