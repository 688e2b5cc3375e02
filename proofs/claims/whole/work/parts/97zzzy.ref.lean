-- needs: 97zzzx
/-! ===== png: filters undone by the reference ===== -/
def RM (s : e_S) (u w h : Nat) (d : Nat) (P : Nat → Int32) : Prop := s.1 139 93 = Int32.ofNat u ∧ s.1 139 83 = Int32.ofNat w ∧ s.1 139 84 = Int32.ofNat h ∧ ∀ i, i < d → s.2.1 187 i = P i
theorem rowB12 {s : e_S} {g : ps_G} {u w h d y i : Nat} {P : Nat → Int32} (hu : u ≤ 4) (hw : w ≤ 24) (hd2 : d ≤ 2328) (hR : RM s u w h d P) (hy : y < 24) (hi : i < 2328) (hlt : y * (1 + w * u) + 1 + i < d) : fX12_rowByte (e_g s g) 139 (Int32.ofNat y) (Int32.ofNat i) = some (P (y * (1 + w * u) + 1 + i)) := by
  have wu : u * w = w * u := Nat.mul_comm u w
  have wst : w * u ≤ 24 * 4 := Nat.mul_le_mul hw hu
  have ix : ((1 : Int32) + Int32.ofNat u * Int32.ofNat w) * Int32.ofNat y + 1 + Int32.ofNat i = Int32.ofNat (y * (1 + w * u) + 1 + i) := by
    have e1 : (1 : Int32) = Int32.ofNat 1 := rfl
    rw [n_mul, e1, n_add, n_mul, n_add, n_add, wu, Nat.mul_comm (1 + w * u) y]
  have z0 : (0 : Int32) ≤ Int32.ofNat i := show Int32.ofNat 0 ≤ _ from (n_le (by omega) (by omega)).mpr (by omega)
  unfold fX12_rowByte jX12_rowByte_34
  rw [if_pos ⟨n_neg (by omega), z0⟩, f139_74, ob_n, ob_n, f139_93, hR.1, ob_n, f139_83, hR.2.1, ob_n, ix, tb_rd t187 (by omega) (by omega), ob_n, hR.2.2.2 _ hlt]
theorem rowB0 {s : e_S} {g : ps_G} {x y : Int32} (h : x < 0 ∨ ¬ 0 ≤ y) : fX12_rowByte (e_g s g) 139 x y = some 0 := by
  unfold fX12_rowByte jX12_rowByte_34
  rw [if_neg]
  rintro ⟨z1, z2⟩
  exact h.elim z1 (fun z => z z2)
theorem ref1 {g : ps_G} {u w h y f d : Nat} {O : Nat → Int32} (hu : 1 ≤ u) (hu4 : u ≤ 4) (hw : w ≤ 24) (hy : y < h) (hh : h ≤ 24) (hd : d = h * (1 + w * u)) (hd2 : d ≤ 2328) (s : e_S) (h0 : RM s u w h d O) : ∃ s', q_lp (fun t => bX12_refill_52 139 (Int32.ofNat y) (Int32.ofNat (y * (1 + w * u))) (Int32.ofNat f) t.1 t.2) ((0 : Int32), e_g s g) = some (e_g s' g) ∧ Kp [187] 139 [] s s' ∧ RM s' u w h d (u1V u (1 + w * u) y (Int32.ofNat f) O (w * u)) := by
  have le : (y + 1) * (1 + w * u) ≤ h * (1 + w * u) := Nat.mul_le_mul_right _ hy
  have e1 : (y + 1) * (1 + w * u) = y * (1 + w * u) + (1 + w * u) := Nat.succ_mul y _
  have wst : w * u ≤ 24 * 4 := Nat.mul_le_mul hw hu4
  have wu : Int32.ofNat u * Int32.ofNat w = Int32.ofNat (w * u) := by rw [n_mul, Nat.mul_comm]
  have y1 : 0 < y → (y - 1) * (1 + w * u) = y * (1 + w * u) - (1 + w * u) := fun hy0 => by
    have e : y = (y - 1) + 1 := by omega
    have e2 : ((y - 1) + 1) * (1 + w * u) = (y - 1) * (1 + w * u) + (1 + w * u) := Nat.succ_mul (y - 1) _
    rw [← e] at e2
    omega
  have y0 : 0 < y → (1 + w * u) ≤ y * (1 + w * u) := fun hy0 => by
    have : 1 * (1 + w * u) ≤ y * (1 + w * u) := Nat.mul_le_mul_right _ hy0
    omega
  obtain ⟨r, lp, s', e, k, ro⟩ := lp_n (b := fun t => bX12_refill_52 139 (Int32.ofNat y) (Int32.ofNat (y * (1 + w * u))) (Int32.ofNat f) t.1 t.2) (fun i t => ∃ s', t = (Int32.ofNat i, e_g s' g) ∧ Kp [187] 139 [] s s' ∧ RM s' u w h d (u1V u (1 + w * u) y (Int32.ofNat f) O i)) (fun r => ∃ s', r = e_g s' g ∧ Kp [187] 139 [] s s' ∧ RM s' u w h d (u1V u (1 + w * u) y (Int32.ofNat f) O (w * u))) (w * u) (fun i t hi ⟨s', ht, kk, ro⟩ => by
    generalize hP : u1V u (1 + w * u) y (Int32.ofNat f) O i = P at ro
    have uS : u1V u (1 + w * u) y (Int32.ofNat f) O (i + 1) = upd P (y * (1 + w * u) + (i + 1)) ((P (y * (1 + w * u) + (i + 1)) + fX12_foretold (Int32.ofNat f) (u1A u (1 + w * u) y (i + 1) P) (u1B (1 + w * u) y (i + 1) P) (u1C u (1 + w * u) y (i + 1) P)) &&& 255) := by rw [← hP]; rfl
    -- the three neighbours
    have nA : fX12_rowByte (e_g s' g) 139 (Int32.ofNat y) (Int32.ofNat i - Int32.ofNat u) = some (u1A u (1 + w * u) y (i + 1) P) := by
      unfold u1A
      by_cases q : u ≤ i
      · have r := rowB12 (g := g) (y := y) (i := i - u) hu4 hw hd2 ro (by omega) (by omega) (by omega)
        rw [sb_n q (by omega), r, if_pos (show u < i + 1 by omega)]
        congr 2
        omega
      · rw [if_neg (show ¬ u < i + 1 by omega)]
        refine rowB0 (Or.inr (fun z => ?_))
        rw [i_le, i_sub (by rw [n_int (by omega), n_int (by omega)]; omega) (by rw [n_int (by omega), n_int (by omega)]; omega), n_int (by omega), n_int (by omega)] at z
        have e0 : (0 : Int32).toInt = 0 := by decide
        rw [e0] at z
        omega
    have nB : fX12_rowByte (e_g s' g) 139 (Int32.ofNat y - 1) (Int32.ofNat i) = some (u1B (1 + w * u) y (i + 1) P) := by
      unfold u1B
      by_cases q : 0 < y
      · have a := y1 q
        have b := y0 q
        have r := rowB12 (g := g) (y := y - 1) (i := i) hu4 hw hd2 ro (by omega) (by omega) (by omega)
        have ey : Int32.ofNat y - 1 = Int32.ofNat (y - 1) := sb_n (y := 1) (by omega) (by omega)
        rw [ey, r, if_pos q]
        congr 2
        omega
      · have e : y = 0 := by omega
        rw [if_neg q, e]
        exact rowB0 (Or.inl (by decide))
    have nC : u ≤ i → fX12_rowByte (e_g s' g) 139 (Int32.ofNat y - 1) (Int32.ofNat i - Int32.ofNat u) = some (u1C u (1 + w * u) y (i + 1) P) := fun qi => by
      unfold u1C
      by_cases q : 0 < y
      · have a := y1 q
        have b := y0 q
        have r := rowB12 (g := g) (y := y - 1) (i := i - u) hu4 hw hd2 ro (by omega) (by omega) (by omega)
        have ey : Int32.ofNat y - 1 = Int32.ofNat (y - 1) := sb_n (y := 1) (by omega) (by omega)
        rw [ey, sb_n qi (by omega), r, if_pos ⟨q, by omega⟩]
        congr 2
        omega
      · have e : y = 0 := by omega
        rw [if_neg (fun z => q z.1), e]
        exact rowB0 (Or.inl (by decide))
    have jj : ∀ c : Int32, c = u1C u (1 + w * u) y (i + 1) P → jX12_refill_115_52 (e_g s' g) 139 (Int32.ofNat y) (Int32.ofNat (y * (1 + w * u))) (Int32.ofNat f) (Int32.ofNat i) (Int32.ofNat f) (u1A u (1 + w * u) y (i + 1) P) (u1B (1 + w * u) y (i + 1) P) c = some (.inl (Int32.ofNat (i + 1), e_g (sA s' 187 (upd (s'.2.1 187) (y * (1 + w * u) + (i + 1)) ((P (y * (1 + w * u) + (i + 1)) + fX12_foretold (Int32.ofNat f) (u1A u (1 + w * u) y (i + 1) P) (u1B (1 + w * u) y (i + 1) P) (u1C u (1 + w * u) y (i + 1) P)) &&& 255))) g)) := fun c hc => by
      have ix : Int32.ofNat (y * (1 + w * u)) + 1 + Int32.ofNat i = Int32.ofNat (y * (1 + w * u) + (i + 1)) := by
        rw [n_suc, n_add]
        congr 1
        omega
      unfold jX12_refill_115_52
      rw [f139_74, ob_n, ob_n, ob_n, ob_n, ix, tb_rd t187 (by omega) (by omega), ob_n, tb_wr t187 (by decide) (by omega) (by omega), ob_n, ro.2.2.2 _ (by omega), hc, n_suc]
    have rN : RM (sA s' 187 (upd (s'.2.1 187) (y * (1 + w * u) + (i + 1)) ((P (y * (1 + w * u) + (i + 1)) + fX12_foretold (Int32.ofNat f) (u1A u (1 + w * u) y (i + 1) P) (u1B (1 + w * u) y (i + 1) P) (u1C u (1 + w * u) y (i + 1) P)) &&& 255))) u w h d (u1V u (1 + w * u) y (Int32.ofNat f) O (i + 1)) := by
      rw [uS]
      refine ⟨by rw [F_sA]; exact ro.1, by rw [F_sA]; exact ro.2.1, by rw [F_sA]; exact ro.2.2.1, fun j hj => ?_⟩
      rw [A_sA, if_pos rfl, upd_r, upd_r]
      by_cases q : j = y * (1 + w * u) + (i + 1)
      · rw [if_pos q, if_pos q]
      · rw [if_neg q, if_neg q]; exact ro.2.2.2 j hj
    refine ⟨_, ?_, _, rfl, kp_A kk (by decide), rN⟩
    rw [ht]
    show bX12_refill_52 _ _ _ _ _ _ = _
    unfold bX12_refill_52
    dsimp only
    rw [f139_93, ro.1, ob_n, f139_83, ro.2.1, ob_n, wu, if_neg (nle hi (by omega)), ob_n, ob139, ob_n, nA, ob_n, ob_n, nB, ob_n, ob_n]
    by_cases q : u ≤ i
    · rw [if_pos ((n_le (by omega) (by omega)).mpr q), ob_n, ob_n, nC q, ob_n, jj _ rfl]
    · rw [if_neg (nle (by omega) (by omega)), jj 0 (by unfold u1C; rw [if_neg (fun z => by omega)])]) (fun t ⟨s', ht, kk, ro⟩ => by
    refine ⟨_, ?_, s', rfl, kk, ro⟩
    rw [ht]
    show bX12_refill_52 _ _ _ _ _ _ = _
    unfold bX12_refill_52
    dsimp only
    rw [f139_93, ro.1, ob_n, f139_83, ro.2.1, ob_n, wu, if_pos (nlr (by omega))]) (s := ((0 : Int32), e_g s g)) ⟨s, rfl, kp_rf, h0⟩
  exact ⟨s', by rw [lp, e], k, ro⟩
theorem refill12 {s : e_S} {g : ps_G} {u w h d : Nat} {O : Nat → Int32} (hu1 : 1 ≤ u) (hu4 : u ≤ 4) (hw : w ≤ 24) (hh : h ≤ 24) (hd : d = h * (1 + w * u)) (hd2 : d ≤ 2328) (hB : ∀ i, i < d → rg (O i) 0 255 = true) (hi : s.1 139 87 = 0) (h0 : RM s u w h d O) : ∃ s', fX12_refill (e_g s g) 139 = some (e_g s' g) ∧ Kp [187] 139 [87] s s' ∧ (∀ P, ufO u w O h = some P → s'.1 139 87 = 0 ∧ RM s' u w h d P) ∧ (ufO u w O h = none → s'.1 139 87 = 1) := by
  have wst : w * u ≤ 24 * 4 := Nat.mul_le_mul hw hu4
  have kF : ∀ {s s' : e_S}, Kp [187] 139 [] s s' → Kp [187] 139 [87] s s' := fun h => kp_w h (fun _ h => h) (fun j hj => by cases hj)
  have go : ∀ m y (S : e_S) (P : Nat → Int32), y + m = h → Kp [187] 139 [] s S → ufO u w O y = some P → RM S u w h d P → ∃ s' r, q_lp (fun t => bX12_refill_2 139 t.1 t.2) (Int32.ofNat y, e_g S g) = some r ∧ Sum.elim (fun a => some a) (fun a => some a) r = some (e_g s' g) ∧ Kp [187] 139 [87] s s' ∧ (∀ P, ufO u w O h = some P → s'.1 139 87 = 0 ∧ RM s' u w h d P) ∧ (ufO u w O h = none → s'.1 139 87 = 1) := by
    intro m
    induction m with
    | zero =>
      intro y S P hy kS hP ro
      have e : y = h := hy
      subst e
      have iS : S.1 139 87 = 0 := (kS.2.1 139 87 (fun z => by cases z.2)).trans hi
      refine ⟨S, .inl (e_g S g), lp_end ?_, rfl, kF kS, fun Q hQ => ?_, fun hQ => ?_⟩
      · show bX12_refill_2 _ _ _ = _
        unfold bX12_refill_2
        rw [f139_84, ro.2.2.1, ob_n, if_pos (nlr (by omega))]
      · rw [hP] at hQ
        have e : P = Q := Option.some.inj hQ
        rw [← e]; exact ⟨iS, ro⟩
      · rw [hP] at hQ; cases hQ
    | succ m ih =>
      intro y S P hy kS hP ro
      have iS : S.1 139 87 = 0 := (kS.2.1 139 87 (fun z => by cases z.2)).trans hi
      have le : (y + 1) * (1 + w * u) ≤ h * (1 + w * u) := Nat.mul_le_mul_right _ (by omega)
      have e1 : (y + 1) * (1 + w * u) = y * (1 + w * u) + (1 + w * u) := Nat.succ_mul y _
      have lt : y * (1 + w * u) < d := by omega
      have ix : ((1 : Int32) + Int32.ofNat u * Int32.ofNat w) * Int32.ofNat y = Int32.ofNat (y * (1 + w * u)) := by
        have e1 : (1 : Int32) = Int32.ofNat 1 := rfl
        rw [n_mul, e1, n_add, n_mul, Nat.mul_comm u w, Nat.mul_comm (1 + w * u) y]
      have uy : ufO u w O (y + 1) = if P (y * (1 + w * u)) ≤ 4 then some (u1V u (1 + w * u) y (P (y * (1 + w * u))) P (w * u)) else none := by
        have u0 : ufO u w O (y + 1) = (ufO u w O y).bind fun P => if P (y * (1 + w * u)) ≤ 4 then some (u1V u (1 + w * u) y (P (y * (1 + w * u))) P (w * u)) else none := rfl
        rw [u0, hP, ob_n]
      have byP := uf_by hB y P hP
      have pre : bX12_refill_2 139 (Int32.ofNat y) (e_g S g) = if P (y * (1 + w * u)) ≤ (4 : Int32) then (jX12_refill_41_2 (e_g S g) 139 (Int32.ofNat y) (Int32.ofNat (y * (1 + w * u))) (P (y * (1 + w * u)))) else (Option.bind (q_sB 12 87 (e_g S g) 139 (1 : Int32)) fun g40 => jX12_refill_41_2 g40 139 (Int32.ofNat y) (Int32.ofNat (y * (1 + w * u))) (P (y * (1 + w * u)))) := by
        unfold bX12_refill_2
        rw [f139_84, ro.2.2.1, ob_n, if_neg (nle (by omega) (by omega)), f139_93, ro.1, ob_n, f139_83, ro.2.1, ob_n, f139_74, ob_n, ob_n, ix, tb_rd t187 (by omega) (by omega), ob_n, ro.2.2.2 _ lt]
      by_cases q : P (y * (1 + w * u)) ≤ 4
      · obtain ⟨f, hf, hf5⟩ := rg_4 (byP _ lt) q
        obtain ⟨S2, l1, l2, l3⟩ := ref1 (g := g) (f := f) hu1 hu4 hw (show y < h by omega) hh hd hd2 S ro
        rw [if_pos q, hf] at uy
        have st : bX12_refill_2 139 (Int32.ofNat y) (e_g S g) = some (.inl (Int32.ofNat (y + 1), e_g S2 g)) := by
          rw [pre, if_pos q, hf]
          unfold jX12_refill_41_2
          rw [f139_87, iS, ob_n, if_pos rfl, l1, ob_n, n_suc]
        obtain ⟨s', r, y1, y2, y3, y4, y5⟩ := ih (y + 1) S2 _ (by omega) (kp_tr kS l2) uy l3
        refine ⟨s', r, ?_, y2, y3, y4, y5⟩
        rw [lp_go2 (bX12_refill_2 139) st]
        exact y1
      · rw [if_neg q] at uy
        have nn : ∀ j, ufO u w O (y + 1 + j) = none := by
          intro j
          induction j with
          | zero => exact uy
          | succ j ih =>
            have u0 : ufO u w O (y + 1 + (j + 1)) = (ufO u w O (y + 1 + j)).bind fun P => if P ((y + 1 + j) * (1 + w * u)) ≤ 4 then some (u1V u (1 + w * u) (y + 1 + j) (P ((y + 1 + j) * (1 + w * u))) P (w * u)) else none := rfl
            rw [u0, ih, ob_no]
        have nh := nn m
        rw [show y + 1 + m = h by omega] at nh
        rw [nh]
        have si : (sF S 139 87 1).1 139 87 = 1 := by rw [F_sF, if_pos ⟨rfl, rfl⟩]
        refine ⟨sF S 139 87 1, .inr (e_g (sF S 139 87 1) g), lp_end ?_, rfl, kp_tr (kF kS) (kp_F kp_rf (by decide)), fun Q hQ => (by cases hQ), fun _ => si⟩
        show bX12_refill_2 _ _ _ = _
        rw [pre, if_neg q, w139_87 (Or.inr rfl), ob_n]
        unfold jX12_refill_41_2
        rw [f139_87, si, ob_n, if_neg (by decide)]
  obtain ⟨s', r, y1, y2, y3, y4, y5⟩ := go h 0 s O (by omega) kp_rf rfl h0
  have y1' : q_lp (fun t => bX12_refill_2 139 t.1 t.2) ((0 : Int32), e_g s g) = some r := y1
  refine ⟨s', ?_, y3, y4, y5⟩
  unfold fX12_refill
  rw [y1', ob_n, y2]
