-- needs: 97zzzw
/-! ===== png: filters undone ===== -/
def u1A (u st y k : Nat) (O : Nat → Int32) : Int32 := if u < k then O (y * st + k - u) else 0
def u1B (st y k : Nat) (O : Nat → Int32) : Int32 := if 0 < y then O (y * st + k - st) else 0
def u1C (u st y k : Nat) (O : Nat → Int32) : Int32 := if 0 < y ∧ u < k then O (y * st + k - st - u) else 0
def u1V (u st y : Nat) (f : Int32) (O : Nat → Int32) : Nat → Nat → Int32
  | 0 => O
  | k + 1 => upd (u1V u st y f O k) (y * st + (k + 1)) ((u1V u st y f O k (y * st + (k + 1)) + fX12_foretold f (u1A u st y (k + 1) (u1V u st y f O k)) (u1B st y (k + 1) (u1V u st y f O k)) (u1C u st y (k + 1) (u1V u st y f O k))) &&& 255)
def ufO (u w : Nat) (O : Nat → Int32) : Nat → Option (Nat → Int32)
  | 0 => some O
  | y + 1 => (ufO u w O y).bind fun P => if P (y * (1 + w * u)) ≤ 4 then some (u1V u (1 + w * u) y (P (y * (1 + w * u))) P (w * u)) else none
theorem u1_by {u st y : Nat} {f : Int32} {O : Nat → Int32} {d : Nat} (h : ∀ i, i < d → rg (O i) 0 255 = true) : ∀ k i, i < d → rg (u1V u st y f O k i) 0 255 = true := by
  intro k
  induction k with
  | zero => exact h
  | succ k ih =>
    intro i hi
    show rg (upd (u1V u st y f O k) (y * st + (k + 1)) (_ &&& 255) i) 0 255 = true
    rw [upd_r]
    split
    · exact by_r
    · exact ih i hi
theorem uf_by {u w d : Nat} {O : Nat → Int32} (h : ∀ i, i < d → rg (O i) 0 255 = true) : ∀ y P, ufO u w O y = some P → ∀ i, i < d → rg (P i) 0 255 = true := by
  intro y
  induction y with
  | zero =>
    intro P hP
    have e : O = P := Option.some.inj hP
    rw [← e]; exact h
  | succ y ih =>
    intro P hP
    have u0 : ufO u w O (y + 1) = (ufO u w O y).bind fun P => if P (y * (1 + w * u)) ≤ 4 then some (u1V u (1 + w * u) y (P (y * (1 + w * u))) P (w * u)) else none := rfl
    rw [u0] at hP
    cases e1 : ufO u w O y with
    | none => rw [e1, ob_no] at hP; cases hP
    | some Q =>
      rw [e1, ob_n] at hP
      by_cases q : Q (y * (1 + w * u)) ≤ 4
      · rw [if_pos q] at hP
        have e : u1V u (1 + w * u) y (Q (y * (1 + w * u))) Q (w * u) = P := Option.some.inj hP
        rw [← e]
        exact u1_by (ih Q e1) (w * u)
      · rw [if_neg q] at hP; cases hP
theorem rg_4 {v : Int32} (h : rg v 0 255 = true) (h4 : v ≤ 4) : ∃ f : Nat, v = Int32.ofNat f ∧ f < 5 := by
  obtain ⟨x, hx, lx⟩ := rg_n (N := 255) h (by decide)
  refine ⟨x, hx, ?_⟩
  rw [hx] at h4
  have h4' : Int32.ofNat x ≤ Int32.ofNat 4 := h4
  have := (n_le (by omega) (by omega)).mp h4'
  omega
/-- rows within the class -/
def RO (s : e_S) (d : Nat) (P : Nat → Int32) : Prop := s.1 128 5 = Int32.ofNat d ∧ ∀ i, i < d → s.2.1 130 i = P i
theorem at7 {s : e_S} {g : ps_G} {d i : Nat} {P : Nat → Int32} (hd : d ≤ 2328) (h : RO s d P) (hi : i < d) : fX2_at (e_g s g) 128 (Int32.ofNat i) = some (P i) := by
  have c : ¬ (Int32.ofNat d ≤ Int32.ofNat i ∨ (2328 : Int32) ≤ Int32.ofNat i) := by
    rintro (z | z)
    · exact nle hi (by omega) z
    · have z' : Int32.ofNat 2328 ≤ Int32.ofNat i := z
      have := (n_le (by omega) (by omega)).mp z'
      omega
  unfold fX2_at jX2_at_28 jX2_at_29
  rw [if_neg (n_neg (by omega)), f128_5, h.1, ob_n, if_neg c, f128_4, ob_n, ob_n, tb_rd t130 (by omega) (by omega), ob_n, h.2 i hi]
theorem change7 {s : e_S} {g : ps_G} {d i : Nat} {P : Nat → Int32} {v : Int32} (hd : d ≤ 2328) (h : RO s d P) (hi : i < d) : ∃ s', fX2_change (e_g s g) 128 (Int32.ofNat i) v = some (e_g s' g) ∧ Kp [130] 128 [] s s' ∧ RO s' d (upd P i (v &&& 255)) := by
  have c : ¬ (Int32.ofNat d ≤ Int32.ofNat i ∨ (2328 : Int32) ≤ Int32.ofNat i) := by
    rintro (z | z)
    · exact nle hi (by omega) z
    · have z' : Int32.ofNat 2328 ≤ Int32.ofNat i := z
      have := (n_le (by omega) (by omega)).mp z'
      omega
  refine ⟨sA s 130 (upd (s.2.1 130) i (v &&& 255)), ?_, kp_A kp_rf (by decide), by rw [F_sA]; exact h.1, fun j hj => ?_⟩
  · unfold fX2_change jX2_change_30
    rw [if_neg (n_neg (by omega)), f128_5, h.1, ob_n, if_neg c, f128_4, ob_n, ob_n, tb_wr t130 (by decide) (by omega) (by omega), ob_n]
  · rw [A_sA, if_pos rfl, upd_r, upd_r]
    by_cases q : j = i
    · rw [if_pos q, if_pos q]
    · rw [if_neg q, if_neg q]; exact h.2 j hj
theorem unf1 {g : ps_G} {u w h y f d : Nat} {O : Nat → Int32} (hu : 1 ≤ u) (hu4 : u ≤ 4) (hw : w ≤ 24) (hy : y < h) (hh : h ≤ 24) (hd : d = h * (1 + w * u)) (hd2 : d ≤ 2328) (hf : f < 5) (s : e_S) (h0 : RO s d O) : ∃ s', q_lp (fun t => bX8_unfilter_51 125 (Int32.ofNat u) (Int32.ofNat (1 + w * u)) (Int32.ofNat y) (Int32.ofNat (y * (1 + w * u))) (Int32.ofNat f) t.1 t.2) ((1 : Int32), e_g s g) = some (e_g s' g) ∧ Kp [130] 128 [] s s' ∧ RO s' d (u1V u (1 + w * u) y (Int32.ofNat f) O (w * u)) := by
  have le : (y + 1) * (1 + w * u) ≤ h * (1 + w * u) := Nat.mul_le_mul_right _ hy
  have e1 : (y + 1) * (1 + w * u) = y * (1 + w * u) + (1 + w * u) := Nat.succ_mul y _
  generalize hst : 1 + w * u = st at hd le e1
  have hwu : w * u = st - 1 := by omega
  rw [hwu]
  have y0 : 0 < y → st ≤ y * st := fun hy0 => by
    have : 1 * st ≤ y * st := Nat.mul_le_mul_right st hy0
    omega
  obtain ⟨r, lp, s', e, k, ro⟩ := lp_n (b := fun t => bX8_unfilter_51 125 (Int32.ofNat u) (Int32.ofNat st) (Int32.ofNat y) (Int32.ofNat (y * st)) (Int32.ofNat f) t.1 t.2) (fun i t => ∃ s', t = (Int32.ofNat (i + 1), e_g s' g) ∧ Kp [130] 128 [] s s' ∧ RO s' d (u1V u st y (Int32.ofNat f) O i)) (fun r => ∃ s', r = e_g s' g ∧ Kp [130] 128 [] s s' ∧ RO s' d (u1V u st y (Int32.ofNat f) O (st - 1))) (st - 1) (fun i t hi ⟨s', ht, kk, ro⟩ => by
    generalize hP : u1V u st y (Int32.ofNat f) O i = P at ro
    have uS : u1V u st y (Int32.ofNat f) O (i + 1) = upd P (y * st + (i + 1)) ((P (y * st + (i + 1)) + fX12_foretold (Int32.ofNat f) (u1A u st y (i + 1) P) (u1B st y (i + 1) P) (u1C u st y (i + 1) P)) &&& 255) := by rw [← hP]; rfl
    obtain ⟨s2, c1, c2, c3⟩ := change7 (g := g) (i := y * st + (i + 1)) (v := P (y * st + (i + 1)) + fX12_foretold (Int32.ofNat f) (u1A u st y (i + 1) P) (u1B st y (i + 1) P) (u1C u st y (i + 1) P)) hd2 ro (by omega)
    have ob128' : ∀ S : e_S, q_ob 2 (e_g S g) 128 = some () := fun S => ob128
    have xs : Int32.ofNat (y * st) + Int32.ofNat (i + 1) = Int32.ofNat (y * st + (i + 1)) := n_add
    have j137 : ∀ c : Int32, c = u1C u st y (i + 1) P → jX8_unfilter_137_51 (e_g s' g) 125 (Int32.ofNat u) (Int32.ofNat st) (Int32.ofNat y) (Int32.ofNat (y * st)) (Int32.ofNat f) (Int32.ofNat (i + 1)) (u1A u st y (i + 1) P) (u1B st y (i + 1) P) c = some (.inl (Int32.ofNat (i + 1 + 1), e_g s2 g)) := fun c hc => by
      have ei : Int32.ofNat (i + 1) + 1 = Int32.ofNat (i + 1 + 1) := n_suc
      unfold jX8_unfilter_137_51
      rw [f125_12, ob_n, ob_n, ob_n, ob_n, ob128, ob_n, xs, at7 hd2 ro (by omega), ob_n, ob_n, fore_e hf, hc, c1, ob_n, ei]
    have ly : Int32.ofNat y ≤ 0 ↔ y ≤ 0 := n_le (m := 0) (by omega) (by omega)
    have lk : Int32.ofNat (i + 1) ≤ Int32.ofNat u ↔ i + 1 ≤ u := n_le (by omega) (by omega)
    have j105 : jX8_unfilter_105_51 (e_g s' g) 125 (Int32.ofNat u) (Int32.ofNat st) (Int32.ofNat y) (Int32.ofNat (y * st)) (Int32.ofNat f) (Int32.ofNat (i + 1)) (u1A u st y (i + 1) P) (u1B st y (i + 1) P) = some (.inl (Int32.ofNat (i + 1 + 1), e_g s2 g)) := by
      unfold jX8_unfilter_105_51
      by_cases q : 0 < y ∧ u < i + 1
      · have nq : ¬ (Int32.ofNat y ≤ 0 ∨ Int32.ofNat (i + 1) ≤ Int32.ofNat u) := by
          rintro (z | z)
          · have := ly.mp z; omega
          · have := lk.mp z; omega
        have ys := y0 q.1
        have ix : Int32.ofNat (y * st) + Int32.ofNat (i + 1) - Int32.ofNat st - Int32.ofNat u = Int32.ofNat (y * st + (i + 1) - st - u) := by
          rw [xs, sb_n (by omega) (by omega), sb_n (by omega) (by omega)]
        rw [if_neg nq, f125_12, ob_n, ob_n, ob128, ob_n, ix, at7 hd2 ro (by omega), ob_n]
        exact j137 _ (by unfold u1C; rw [if_pos q])
      · have nq : Int32.ofNat y ≤ 0 ∨ Int32.ofNat (i + 1) ≤ Int32.ofNat u := by
          by_cases q1 : 0 < y
          · exact Or.inr (lk.mpr (by omega))
          · exact Or.inl (ly.mpr (by omega))
        rw [if_pos nq]
        exact j137 _ (by unfold u1C; rw [if_neg q])
    have j81 : jX8_unfilter_81_51 (e_g s' g) 125 (Int32.ofNat u) (Int32.ofNat st) (Int32.ofNat y) (Int32.ofNat (y * st)) (Int32.ofNat f) (Int32.ofNat (i + 1)) (u1A u st y (i + 1) P) = some (.inl (Int32.ofNat (i + 1 + 1), e_g s2 g)) := by
      unfold jX8_unfilter_81_51
      by_cases q : 0 < y
      · have ys := y0 q
        have ix : Int32.ofNat (y * st) + Int32.ofNat (i + 1) - Int32.ofNat st = Int32.ofNat (y * st + (i + 1) - st) := by
          rw [xs, sb_n (by omega) (by omega)]
        have eB : P (y * st + (i + 1) - st) = u1B st y (i + 1) P := by unfold u1B; rw [if_pos q]
        rw [if_neg (fun z => by have := ly.mp z; omega), f125_12, ob_n, ob_n, ob128, ob_n, ix, at7 hd2 ro (by omega), ob_n, eB, j105]
      · have eB : (0 : Int32) = u1B st y (i + 1) P := by unfold u1B; rw [if_neg q]
        rw [if_pos (ly.mpr (by omega)), eB, j105]
    refine ⟨(Int32.ofNat (i + 1 + 1), e_g s2 g), ?_, s2, rfl, kp_tr kk c2, by rw [uS]; exact c3⟩
    rw [ht]
    show bX8_unfilter_51 _ _ _ _ _ _ _ _ = _
    unfold bX8_unfilter_51
    dsimp only
    rw [if_neg (nle (by omega) (by omega))]
    by_cases q : u < i + 1
    · have ix : Int32.ofNat (y * st) + Int32.ofNat (i + 1) - Int32.ofNat u = Int32.ofNat (y * st + (i + 1) - u) := by
        rw [xs, sb_n (by omega) (by omega)]
      have eA : P (y * st + (i + 1) - u) = u1A u st y (i + 1) P := by unfold u1A; rw [if_pos q]
      rw [if_neg (fun z => by have := lk.mp z; omega), f125_12, ob_n, ob_n, ob128, ob_n, ix, at7 hd2 ro (by omega), ob_n, eA, j81]
    · have eA : (0 : Int32) = u1A u st y (i + 1) P := by unfold u1A; rw [if_neg q]
      rw [if_pos (lk.mpr (by omega)), eA, j81]) (fun t ⟨s', ht, kk, ro⟩ => by
    refine ⟨_, ?_, s', rfl, kk, ro⟩
    rw [ht]
    show bX8_unfilter_51 _ _ _ _ _ _ _ _ = _
    unfold bX8_unfilter_51
    dsimp only
    have e : st - 1 + 1 = st := by omega
    rw [e, if_pos (nlr (by omega))]) (s := ((1 : Int32), e_g s g)) ⟨s, rfl, kp_rf, h0⟩
  exact ⟨s', by rw [lp, e], k, ro⟩
def chN (c : Nat) : Nat := if c = 2 then 3 else if c = 4 then 2 else if c = 6 then 4 else 1
theorem ch_i {c : Nat} : 1 ≤ chN c ∧ chN c ≤ 4 := by
  unfold chN
  split
  · omega
  · split
    · omega
    · split <;> omega
theorem channels7 {s : e_S} {g : ps_G} {c : Nat} (hc : c < 100) (h : s.1 125 6 = Int32.ofNat c) : fX8_channels (e_g s g) 125 = some (Int32.ofNat (chN c)) := by
  have e : ∀ k : Nat, k < 100 → (Int32.ofNat c = Int32.ofNat k ↔ c = k) := fun k hk => n_eq (by omega) (by omega)
  have e2 : Int32.ofNat c = (2 : Int32) ↔ c = 2 := e 2 (by omega)
  have e4 : Int32.ofNat c = (4 : Int32) ↔ c = 4 := e 4 (by omega)
  have e6 : Int32.ofNat c = (6 : Int32) ↔ c = 6 := e 6 (by omega)
  unfold fX8_channels jX8_channels_38 chN
  rw [f125_6, h, ob_n]
  by_cases q2 : c = 2
  · rw [if_neg (fun z => z (e2.mpr q2)), if_pos q2]; rfl
  · rw [if_pos (fun z => q2 (e2.mp z)), if_neg q2, ob_n]
    by_cases q4 : c = 4
    · rw [if_neg (fun z => z (e4.mpr q4)), if_pos q4]; rfl
    · rw [if_pos (fun z => q4 (e4.mp z)), if_neg q4, ob_n]
      by_cases q6 : c = 6
      · rw [if_neg (fun z => z (e6.mpr q6)), if_pos q6]; rfl
      · rw [if_pos (fun z => q6 (e6.mp z)), if_neg q6]; rfl
theorem unfilter7 {s : e_S} {g : ps_G} {c w h d : Nat} {O : Nat → Int32} (hc : c < 100) (hw : w ≤ 24) (hh : h ≤ 24) (f6 : s.1 125 6 = Int32.ofNat c) (f4 : s.1 125 4 = Int32.ofNat w) (f5 : s.1 125 5 = Int32.ofNat h) (hd : d = h * (1 + w * chN c)) (hd2 : d ≤ 2328) (hB : ∀ i, i < d → rg (O i) 0 255 = true) (h0 : RO s d O) : ∃ s' v, fX8_unfilter (e_g s g) 125 = some (v, e_g s' g) ∧ Kp [130] 128 [] s s' ∧ (∀ P, ufO (chN c) w O h = some P → v = 1 ∧ RO s' d P) ∧ (ufO (chN c) w O h = none → v = 0) := by
  have hu := ch_i (c := c)
  have eS : (1 : Int32) + Int32.ofNat w * Int32.ofNat (chN c) = Int32.ofNat (1 + w * chN c) := by
    have e1 : (1 : Int32) = Int32.ofNat 1 := rfl
    rw [n_mul, e1, n_add]
  have wst : w * chN c ≤ 24 * 4 := Nat.mul_le_mul hw hu.2
  have go : ∀ m y (S : e_S) (P : Nat → Int32), y + m = h → Kp [130] 128 [] s S → ufO (chN c) w O y = some P → RO S d P → ∃ s' r, q_lp (fun t => bX8_unfilter_16 125 (Int32.ofNat (chN c)) (Int32.ofNat (1 + w * chN c)) t.1 t.2) (Int32.ofNat y, e_g S g) = some r ∧ Kp [130] 128 [] s s' ∧ (∀ P, ufO (chN c) w O h = some P → r = .inl (e_g s' g) ∧ RO s' d P) ∧ (ufO (chN c) w O h = none → r = .inr (0, e_g s' g)) := by
    intro m
    induction m with
    | zero =>
      intro y S P hy kS hP ro
      have e : y = h := hy
      subst e
      have f5S : S.1 125 5 = Int32.ofNat y := (kS.2.1 125 5 (fun z => absurd z.1 (by decide))).trans f5
      refine ⟨S, .inl (e_g S g), lp_end ?_, kS, fun Q hQ => ?_, fun hQ => ?_⟩
      · show bX8_unfilter_16 _ _ _ _ _ = _
        unfold bX8_unfilter_16
        rw [f125_5, f5S, ob_n, if_pos (nlr (by omega))]
      · rw [hP] at hQ
        have e : P = Q := Option.some.inj hQ
        rw [← e]; exact ⟨rfl, ro⟩
      · rw [hP] at hQ; cases hQ
    | succ m ih =>
      intro y S P hy kS hP ro
      have f5S : S.1 125 5 = Int32.ofNat h := (kS.2.1 125 5 (fun z => absurd z.1 (by decide))).trans f5
      have le : (y + 1) * (1 + w * chN c) ≤ h * (1 + w * chN c) := Nat.mul_le_mul_right _ (by omega)
      have e1 : (y + 1) * (1 + w * chN c) = y * (1 + w * chN c) + (1 + w * chN c) := Nat.succ_mul y _
      have lt : y * (1 + w * chN c) < d := by omega
      have uy : ufO (chN c) w O (y + 1) = if P (y * (1 + w * chN c)) ≤ 4 then some (u1V (chN c) (1 + w * chN c) y (P (y * (1 + w * chN c))) P (w * chN c)) else none := by
        have u0 : ufO (chN c) w O (y + 1) = (ufO (chN c) w O y).bind fun P => if P (y * (1 + w * chN c)) ≤ 4 then some (u1V (chN c) (1 + w * chN c) y (P (y * (1 + w * chN c))) P (w * chN c)) else none := rfl
        rw [u0, hP, ob_n]
      have byP := uf_by hB y P hP
      by_cases q : P (y * (1 + w * chN c)) ≤ 4
      · obtain ⟨f, hf, hf5⟩ := rg_4 (byP _ lt) q
        obtain ⟨S2, l1, l2, l3⟩ := unf1 (g := g) (f := f) hu.1 hu.2 hw (show y < h by omega) hh hd hd2 hf5 S ro
        rw [if_pos q, hf] at uy
        have st : bX8_unfilter_16 125 (Int32.ofNat (chN c)) (Int32.ofNat (1 + w * chN c)) (Int32.ofNat y) (e_g S g) = some (.inl (Int32.ofNat (y + 1), e_g S2 g)) := by
          unfold bX8_unfilter_16
          rw [f125_5, f5S, ob_n, if_neg (nle (by omega) (by omega)), f125_12, ob_n, ob_n, ob128, ob_n, n_mul, at7 hd2 ro lt, ob_n, if_pos q, hf, l1, ob_n, n_suc]
        obtain ⟨s', r, y1, y2, y3, y4⟩ := ih (y + 1) S2 _ (by omega) (kp_tr kS l2) uy l3
        refine ⟨s', r, ?_, y2, y3, y4⟩
        rw [lp_go2 (bX8_unfilter_16 125 (Int32.ofNat (chN c)) (Int32.ofNat (1 + w * chN c))) st]
        exact y1
      · rw [if_neg q] at uy
        have nn : ∀ j, ufO (chN c) w O (y + 1 + j) = none := by
          intro j
          induction j with
          | zero => exact uy
          | succ j ih =>
            have u0 : ufO (chN c) w O (y + 1 + (j + 1)) = (ufO (chN c) w O (y + 1 + j)).bind fun P => if P ((y + 1 + j) * (1 + w * chN c)) ≤ 4 then some (u1V (chN c) (1 + w * chN c) (y + 1 + j) (P ((y + 1 + j) * (1 + w * chN c))) P (w * chN c)) else none := rfl
            rw [u0, ih, ob_no]
        have nh := nn m
        rw [show y + 1 + m = h by omega] at nh
        rw [nh]
        refine ⟨S, .inr (0, e_g S g), lp_end ?_, kS, fun Q hQ => (by cases hQ), fun _ => rfl⟩
        show bX8_unfilter_16 _ _ _ _ _ = _
        unfold bX8_unfilter_16
        rw [f125_5, f5S, ob_n, if_neg (nle (by omega) (by omega)), f125_12, ob_n, ob_n, ob128, ob_n, n_mul, at7 hd2 ro lt, ob_n, if_neg q]
  obtain ⟨s', r, y1, y2, y3, y4⟩ := go h 0 s O (by omega) kp_rf rfl h0
  have y1' : q_lp (fun t => bX8_unfilter_16 125 (Int32.ofNat (chN c)) (Int32.ofNat (1 + w * chN c)) t.1 t.2) ((0 : Int32), e_g s g) = some r := y1
  have pre : fX8_unfilter (e_g s g) 125 = Sum.elim (fun r55 => some ((1 : Int32), r55)) (fun v56 => some v56) r := by
    unfold fX8_unfilter
    rw [ob125, ob_n, channels7 hc f6, ob_n, f125_4, f4, ob_n, eS, y1', ob_n]
  rw [pre]
  cases eU : ufO (chN c) w O h with
  | none =>
    rw [y4 eU, Sum.elim_inr]
    exact ⟨s', 0, rfl, y2, fun P z => (by cases z), fun _ => rfl⟩
  | some Q =>
    obtain ⟨z1, z2⟩ := y3 Q eU
    rw [z1, Sum.elim_inl]
    refine ⟨s', 1, rfl, y2, fun P z => ?_, fun z => (by cases z)⟩
    have e : Q = P := Option.some.inj z
    rw [← e]; exact ⟨rfl, z2⟩
