-- needs: 97zr
theorem td4 {a : Int} : 4 * a.tdiv 4 ≤ a + 3 ∧ a - 3 ≤ 4 * a.tdiv 4 := by
  have h := Int.tmod_add_mul_tdiv a 4
  have h1 : a.tmod 4 < 4 := Int.tmod_lt_of_pos a (by omega)
  have h2 : -4 < a.tmod 4 := Int.lt_tmod_of_pos a (by omega)
  omega
/-- the bounds of one side of a dab -/
def loV (px sz : Int32) : Int32 := fJ9_max_7cf53 0 ((px - sz) / 4 - 2)
def hiV (px sz : Int32) (w : Nat) : Int32 := fJ9_min_7cf53 (Int32.ofNat w - 1) ((px + sz) / 4 + 1)
theorem lo_i {px sz : Int32} {S : Nat} (hp : px.toInt.natAbs ≤ 700) (e : sz = Int32.ofNat S) (hS : S ≤ 64) : ∃ n : Nat, loV px sz = Int32.ofNat n ∧ n ≤ 300 ∧ ∀ x : Nat, x < n → (S : Int) + 7 ≤ px.toInt - (4 * x + 2) := by
  have es : sz.toInt = S := by rw [e, n_int (by omega)]
  have e4 : (4 : Int32).toInt = 4 := by decide
  have e2 : (2 : Int32).toInt = 2 := by decide
  have e0 : (0 : Int32).toInt = 0 := by decide
  have a1 : (px - sz).toInt = px.toInt - S := by rw [i_sub (by omega) (by omega), es]
  have a2 : ((px - sz) / 4).toInt = (px.toInt - S).tdiv 4 := by rw [i_div (by rw [e4]; omega), e4, a1]
  have td := td4 (a := px.toInt - S)
  have a3 : ((px - sz) / 4 - 2).toInt = (px.toInt - S).tdiv 4 - 2 := by rw [i_sub (by omega) (by omega), a2, e2]
  have a4 : (loV px sz).toInt = if 0 < (px.toInt - S).tdiv 4 - 2 then (px.toInt - S).tdiv 4 - 2 else 0 := by
    unfold loV; rw [mx_i, a3, e0]
  refine ⟨(loV px sz).toInt.toNat, n_of ?_, ?_, fun x hx => ?_⟩
  · rw [a4]; split <;> omega
  · rw [a4]; split <;> omega
  · rw [a4] at hx
    split at hx <;> omega
theorem hi_i {px sz : Int32} {S w : Nat} (hp : px.toInt.natAbs ≤ 700) (e : sz = Int32.ofNat S) (hS : S ≤ 64) (hw : w ≤ 24) : (hiV px sz w).toInt < w ∧ -300 ≤ (hiV px sz w).toInt ∧ ∀ x : Nat, x < w → (hiV px sz w).toInt < x → (S : Int) + 7 ≤ (4 * x + 2) - px.toInt := by
  have es : sz.toInt = S := by rw [e, n_int (by omega)]
  have e4 : (4 : Int32).toInt = 4 := by decide
  have e1 : (1 : Int32).toInt = 1 := by decide
  have a1 : (px + sz).toInt = px.toInt + S := by rw [i_add (by omega) (by omega), es]
  have a2 : ((px + sz) / 4).toInt = (px.toInt + S).tdiv 4 := by rw [i_div (by rw [e4]; omega), e4, a1]
  have td := td4 (a := px.toInt + S)
  have a3 : ((px + sz) / 4 + 1).toInt = (px.toInt + S).tdiv 4 + 1 := by rw [i_add (by omega) (by omega), a2, e1]
  have nw : (Int32.ofNat w).toInt = w := n_int (by omega)
  have a5 : (Int32.ofNat w - 1).toInt = w - 1 := by rw [i_sub (by omega) (by omega), nw, e1]
  have a4 : (hiV px sz w).toInt = if (px.toInt + S).tdiv 4 + 1 < w - 1 then (px.toInt + S).tdiv 4 + 1 else w - 1 := by
    unfold hiV; rw [mn_i, a3, a5]
  refine ⟨?_, ?_, fun x hx hx2 => ?_⟩
  · rw [a4]; split <;> omega
  · rw [a4]; split <;> omega
  · rw [a4] at hx2
    split at hx2 <;> omega
theorem sd_i {px : Int32} {x : Nat} (hp : px.toInt.natAbs ≤ 700) (hx : x ≤ 300) : (4 * Int32.ofNat x + 2 - px).toInt = 4 * x + 2 - px.toInt := by
  have e4 : (4 : Int32).toInt = 4 := by decide
  have e2 : (2 : Int32).toInt = 2 := by decide
  have nx : (Int32.ofNat x).toInt = x := n_int (by omega)
  have a1 : (4 * Int32.ofNat x).toInt = 4 * x := by rw [i_mul (by rw [e4]; omega) (by rw [e4]; omega), e4, nx]
  have a2 : (4 * Int32.ofNat x + 2).toInt = 4 * x + 2 := by rw [i_add (by omega) (by omega), a1, e2]
  rw [i_sub (by omega) (by omega), a2]
theorem far_i {px py : Int32} {x y S : Nat} (hp : px.toInt.natAbs ≤ 700) (hq : py.toInt.natAbs ≤ 700) (hx : x ≤ 300) (hy : y ≤ 300) (hS : S ≤ 64) (h : S + 7 ≤ (4 * (x : Int) + 2 - px.toInt).natAbs ∨ S + 7 ≤ (4 * (y : Int) + 2 - py.toInt).natAbs) : ¬ dfV px py (Int32.ofNat x) (Int32.ofNat y) ≤ Int32.ofNat (4 * S) := by
  have a1 := sd_i hp hx
  have b1 := sd_i hq hy
  have sq : ∀ z : Int, z * z = ((z.natAbs * z.natAbs : Nat) : Int) := fun z => by rw [Int.natAbs_mul_self]
  generalize hA : (4 * (x : Int) + 2 - px.toInt) = A at *
  generalize hB : (4 * (y : Int) + 2 - py.toInt) = B at *
  have bA : A.natAbs ≤ 2000 := by omega
  have bB : B.natAbs ≤ 2000 := by omega
  have cA : A.natAbs * A.natAbs ≤ 2000 * 2000 := Nat.mul_le_mul bA bA
  have cB : B.natAbs * B.natAbs ≤ 2000 * 2000 := Nat.mul_le_mul bB bB
  have a2 : ((4 * Int32.ofNat x + 2 - px) * (4 * Int32.ofNat x + 2 - px)).toInt = ((A.natAbs * A.natAbs : Nat) : Int) := by
    rw [i_mul (by rw [a1, sq]; omega) (by rw [a1, sq]; omega), a1, sq]
  have b2 : ((4 * Int32.ofNat y + 2 - py) * (4 * Int32.ofNat y + 2 - py)).toInt = ((B.natAbs * B.natAbs : Nat) : Int) := by
    rw [i_mul (by rw [b1, sq]; omega) (by rw [b1, sq]; omega), b1, sq]
  have c2 : ((4 * Int32.ofNat x + 2 - px) * (4 * Int32.ofNat x + 2 - px) + (4 * Int32.ofNat y + 2 - py) * (4 * Int32.ofNat y + 2 - py)).toInt = ((A.natAbs * A.natAbs : Nat) : Int) + ((B.natAbs * B.natAbs : Nat) : Int) := by
    rw [i_add (by rw [a2, b2]; omega) (by rw [a2, b2]; omega), a2, b2]
  have e16 : (16 : Int32).toInt = 16 := by decide
  have c3 : (16 * ((4 * Int32.ofNat x + 2 - px) * (4 * Int32.ofNat x + 2 - px) + (4 * Int32.ofNat y + 2 - py) * (4 * Int32.ofNat y + 2 - py))).toInt = 16 * (((A.natAbs * A.natAbs : Nat) : Int) + ((B.natAbs * B.natAbs : Nat) : Int)) := by
    rw [i_mul (by rw [c2, e16]; omega) (by rw [c2, e16]; omega), c2, e16]
  have ge : (S + 7) * (S + 7) ≤ A.natAbs * A.natAbs + B.natAbs * B.natAbs := by
    rcases h with h | h
    · exact Nat.le_trans (Nat.mul_le_mul h h) (Nat.le_add_right _ _)
    · exact Nat.le_trans (Nat.mul_le_mul h h) (Nat.le_add_left _ _)
  have g2 : (4 * S + 1) * (4 * S + 1) ≤ 16 * ((S + 7) * (S + 7)) := by
    have : (4 * S + 1) * (4 * S + 1) ≤ (4 * (S + 7)) * (4 * (S + 7)) := Nat.mul_le_mul (by omega) (by omega)
    have e : (4 * (S + 7)) * (4 * (S + 7)) = 16 * ((S + 7) * (S + 7)) := by rw [Nat.mul_mul_mul_comm]
    omega
  have := rt_gt (x := 16 * ((4 * Int32.ofNat x + 2 - px) * (4 * Int32.ofNat x + 2 - px) + (4 * Int32.ofNat y + 2 - py) * (4 * Int32.ofNat y + 2 - py))) (e := 4 * S) (by rw [c3]; omega) (by omega)
  unfold dfV
  rw [i_lt] at this
  rw [i_le]
  omega
theorem db_out {px py i pr : Int32} {w k S : Nat} {f : Nat → Int32} (h : ¬ dfV px py (Int32.ofNat (k % w)) (Int32.ofNat (k / w)) ≤ Int32.ofNat (4 * S)) : dbV px py (Int32.ofNat (4 * S)) i pr w f k = f k := by
  unfold dbV dvV
  rw [if_neg h, mul_0', mul_0, Int32.add_zero]
/-- the first n places of a row -/
def pfV (f D : Nat → Int32) (n : Nat) : Nat → Int32 := fun k => if k < n then D k else f k
theorem pf_s {f D : Nat → Int32} {n m : Nat} (h : ∀ k, (n ≤ k ∧ k < m) ∨ (m ≤ k ∧ k < n) → D k = f k) : pfV f D n = pfV f D m := by
  funext k
  unfold pfV
  by_cases c1 : k < n
  · rw [if_pos c1]
    by_cases c2 : k < m
    · rw [if_pos c2]
    · rw [if_neg c2, h k (Or.inr ⟨by omega, c1⟩)]
  · rw [if_neg c1]
    by_cases c2 : k < m
    · rw [if_pos c2, h k (Or.inl ⟨by omega, c2⟩)]
    · rw [if_neg c2]
theorem pf_0 {f D : Nat → Int32} : pfV f D 0 = f := by
  funext k; unfold pfV; rw [if_neg (by omega)]
theorem pf_cp {f D : Nat → Int32} {n : Nat} : pfV f D n = cpT f D 0 n := by
  funext k
  by_cases c : k < n
  · have := cpT_ge (A := f) (N := D) (b := 0) (n := n) (k := k) (by omega) (by omega)
    rw [this]; unfold pfV; rw [if_pos c]; rfl
  · rw [cpT_out (by omega)]; unfold pfV; rw [if_neg c]
theorem dab1 {s : e_S} {g : ps_G} {w h S : Nat} {px py p : Int32} (hw1 : 1 ≤ w) (hw : w ≤ 24) (hh : h ≤ 24) (e1 : s.1 93 13 = Int32.ofNat w) (e2 : s.1 93 14 = Int32.ofNat h) (eS : s.1 93 1 = Int32.ofNat S) (hS : S ≤ 64) (hp : px.toInt.natAbs ≤ 700) (hq : py.toInt.natAbs ≤ 700) : fX1_dab (e_g s g) 93 px py p = some (e_g (sA s 97 (cpT (s.2.1 97) (dbV px py (4 * s.1 93 1) (4 * s.1 93 1 * s.1 93 2 / 255) (fX11_mul p (s.1 93 4)) w (s.2.1 97)) 0 (h * w))) g) := by
  have hwh := wh_le hw hh
  have er : 4 * s.1 93 1 = Int32.ofNat (4 * S) := by rw [eS]; exact n_mul
  obtain ⟨xl, x1, x2, x3⟩ := lo_i (sz := s.1 93 1) hp eS hS
  obtain ⟨yl, y1, y2, y3⟩ := lo_i (sz := s.1 93 1) hq eS hS
  obtain ⟨u1, u0, u2⟩ := hi_i (sz := s.1 93 1) (w := w) hp eS hS hw
  obtain ⟨v1, v0, v2⟩ := hi_i (sz := s.1 93 1) (w := h) hq eS hS hh
  generalize hi : 4 * s.1 93 1 * s.1 93 2 / 255 = i
  generalize hpr : fX11_mul p (s.1 93 4) = pr
  rw [er]
  generalize hD : dbV px py (Int32.ofNat (4 * S)) i pr w (s.2.1 97) = D
  have oY : ∀ k, k / w < yl ∨ (k / w < h ∧ (hiV py (s.1 93 1) h).toInt < (k / w : Nat)) → D k = s.2.1 97 k := fun k hk => by
    rw [← hD]
    have hm : k % w < w := Nat.mod_lt _ (by omega)
    refine db_out (far_i hp hq (by omega) (by omega) hS (Or.inr ?_))
    rcases hk with hk | hk
    · have := y3 _ hk; omega
    · have := v2 _ hk.1 hk.2; omega
  have oX : ∀ k, k / w < h → k % w < xl ∨ (hiV px (s.1 93 1) w).toInt < (k % w : Nat) → D k = s.2.1 97 k := fun k hh' hk => by
    rw [← hD]
    have hm : k % w < w := Nat.mod_lt _ (by omega)
    refine db_out (far_i hp hq (by omega) (by omega) hS (Or.inl ?_))
    rcases hk with hk | hk
    · have := x3 _ hk; omega
    · have := u2 _ hm hk; omega
  have inner : ∀ y, y < h → q_lp (fun t => bX1_dab_112 93 px py (Int32.ofNat (4 * S)) i pr (hiV px (s.1 93 1) w) (hiV py (s.1 93 1) h) (Int32.ofNat y) t.1 t.2) (loV px (s.1 93 1), e_g (sA s 97 (pfV (s.2.1 97) D (y * w))) g) = some (e_g (sA s 97 (pfV (s.2.1 97) D ((y + 1) * w))) g) := fun y hy => by
    have sub : ∀ k, y * w ≤ k → k < y * w + w → k / w = y ∧ y * w + k % w = k := fun k h1 h2 => by
      have dm := md (w := w) (x := k - y * w) (y := y) (by omega)
      rw [show y * w + (k - y * w) = k by omega] at dm
      exact ⟨dm.2, by rw [dm.1]; omega⟩
    generalize hX : (hiV px (s.1 93 1) w) = X at *
    generalize hn : (X.toInt + 1 - xl).toNat = n
    refine lp_0 (fun j => (Int32.ofNat (xl + j), e_g (sA s 97 (pfV (s.2.1 97) D (y * w + min (xl + j) w))) g)) n ?_ (fun j hj => ?_) ?_
    · rw [x1, Nat.add_zero]
      rw [pf_s (n := y * w) (m := y * w + min xl w)]
      intro k hk
      have := sub k (by omega) (by omega)
      exact oX k (by omega) (Or.inl (by omega))
    · have hx : xl + j < w := by omega
      have hlt := at_lt hx hy
      have dm := md (w := w) (x := xl + j) (y := y) hx
      have m1 : min (xl + j) w = xl + j := by omega
      have m2 : min (xl + (j + 1)) w = xl + j + 1 := by omega
      have cx : ¬ X < Int32.ofNat (xl + j) := fun z => by
        rw [i_lt, n_int (by omega)] at z; omega
      show bX1_dab_112 _ _ _ _ _ _ _ _ _ _ _ = _
      have rd : q_aI (e_g (sA s 97 (pfV (s.2.1 97) D (y * w + (xl + j)))) g) 97 (Int32.ofNat (y * w + (xl + j))) = some (s.2.1 97 (y * w + (xl + j))) := by
        rw [a97, n_idx (by omega), if_neg (n_in2 (show y * w + (xl + j) < 576 by omega) (by decide)), A_sA, if_pos rfl]
        unfold pfV
        rw [if_neg (by omega)]
      have ev : D (y * w + (xl + j)) = s.2.1 97 (y * w + (xl + j)) + fX11_mul (255 - s.2.1 97 (y * w + (xl + j))) (fX11_mul (dvV (Int32.ofNat (4 * S)) i (dfV px py (Int32.ofNat (xl + j)) (Int32.ofNat y))) pr) := by
        rw [← hD]; unfold dbV; rw [dm.1, dm.2]
      have un : upd (pfV (s.2.1 97) D (y * w + (xl + j))) (y * w + (xl + j)) (D (y * w + (xl + j))) = pfV (s.2.1 97) D (y * w + (xl + j + 1)) := upd_fill
      have jn : ∀ v, D (y * w + (xl + j)) = s.2.1 97 (y * w + (xl + j)) + fX11_mul (255 - s.2.1 97 (y * w + (xl + j))) (fX11_mul v pr) → jX1_dab_200_112 (e_g (sA s 97 (pfV (s.2.1 97) D (y * w + (xl + j)))) g) 93 px py (Int32.ofNat (4 * S)) i pr X (hiV py (s.1 93 1) h) (Int32.ofNat y) (Int32.ofNat (xl + j)) v = some (.inl (Int32.ofNat (xl + (j + 1)), e_g (sA s 97 (pfV (s.2.1 97) D (y * w + (xl + j + 1)))) g)) := fun v hv => by
        unfold jX1_dab_200_112 jX1_dab_245_112
        rw [f93_13, F_sA, e1, ob_n, f93_12, ob_n, ob_n, n_mul, n_add, rd, ob_n, ob_n, ob_n, rd, ob_n, u97, n_idx (by omega), if_neg (n_in2 (show y * w + (xl + j) < 576 by omega) (by decide)), ob_n, n_suc, A_sA, if_pos rfl, sA_sA, ← hv, un]
        rfl
      unfold bX1_dab_112
      dsimp only
      rw [m1, m2, if_neg cx, root11, ob_n]
      unfold dfV at ev
      generalize rt (16 * ((4 * Int32.ofNat (xl + j) + 2 - px) * (4 * Int32.ofNat (xl + j) + 2 - px) + (4 * Int32.ofNat y + 2 - py) * (4 * Int32.ofNat y + 2 - py))) = d at ev
      by_cases c1 : Int32.ofNat (4 * S) < d
      · have c1' : ¬ d ≤ Int32.ofNat (4 * S) := fun z => by
          rw [i_lt] at c1; rw [i_le] at z; omega
        have ed : dvV (Int32.ofNat (4 * S)) i d = 0 := by unfold dvV; rw [if_neg c1']
        rw [ed, mul_0', mul_0, Int32.add_zero] at ev
        rw [if_pos c1]
        unfold jX1_dab_245_112
        rw [n_suc, pf_s (n := y * w + (xl + j)) (m := y * w + (xl + j + 1))]
        · rfl
        · intro k hk
          have : k = y * w + (xl + j) := by omega
          rw [this, ev]
      · have c1' : d ≤ Int32.ofNat (4 * S) := by
          rw [i_lt] at c1; rw [i_le]; omega
        rw [if_neg c1]
        by_cases c2 : i < d
        · have c3 : i < Int32.ofNat (4 * S) := by
            rw [i_lt] at c2 ⊢; rw [i_le] at c1'; omega
          have c4 : ¬ d ≤ i := fun z => by rw [i_lt] at c2; rw [i_le] at z; omega
          have nz : ¬ Int32.ofNat (4 * S) - i = 0 := fun z => by
            have := Int32.sub_eq_iff_eq_add.mp z
            rw [Int32.zero_add] at this
            rw [this, i_lt] at c3
            omega
          have ed : dvV (Int32.ofNat (4 * S)) i d = 255 * (Int32.ofNat (4 * S) - d) / (Int32.ofNat (4 * S) - i) := by unfold dvV; rw [if_pos c1', if_pos c2]
          rw [ed] at ev
          rw [if_pos ⟨c4, c3⟩, q_div, if_neg nz, ob_n, jn _ ev]
        · have c4 : d ≤ i := by rw [i_lt] at c2; rw [i_le]; omega
          have ed : dvV (Int32.ofNat (4 * S)) i d = 255 := by unfold dvV; rw [if_pos c1', if_neg c2]
          rw [ed] at ev
          rw [if_neg (fun z => z.1 c4), jn _ ev]
    · have cx : X < Int32.ofNat (xl + n) := by
        rw [i_lt, n_int (by omega)]; omega
      show bX1_dab_112 _ _ _ _ _ _ _ _ _ _ _ = _
      unfold bX1_dab_112
      dsimp only
      rw [if_pos cx, pf_s (n := y * w + min (xl + n) w) (m := (y + 1) * w)]
      intro k hk
      have e : (y + 1) * w = y * w + w := Nat.succ_mul y w
      have := sub k (by omega) (by omega)
      exact oX k (by omega) (Or.inr (by omega))
  generalize hY : (hiV py (s.1 93 1) h) = Y at *
  generalize hn : (Y.toInt + 1 - yl).toNat = n
  have lp := lp_0 (b := fun t => bX1_dab_89 93 px py (Int32.ofNat (4 * S)) i pr (hiV px (s.1 93 1) w) Y t.1 t.2) (s := (loV py (s.1 93 1), e_g s g)) (r := e_g (sA s 97 (pfV (s.2.1 97) D (h * w))) g) (fun j => (Int32.ofNat (yl + j), e_g (sA s 97 (pfV (s.2.1 97) D ((yl + j) * w))) g)) n ?_ (fun j hj => ?_) ?_
  · unfold fX1_dab
    rw [f93_1, ob_n, f93_2, ob_n, f93_4, ob_n, f93_13, ob_n, ob_n, f93_14, ob_n, ob_n, ob_n, hi, hpr, e1, e2, er]
    show Option.bind (q_lp (fun t => bX1_dab_89 93 px py (Int32.ofNat (4 * S)) i pr (hiV px (s.1 93 1) w) (hiV py (s.1 93 1) h) t.1 t.2) (loV py (s.1 93 1), e_g s g)) _ = _
    rw [hY, lp, ob_n, pf_cp]
  · rw [y1, Nat.add_zero]
    have : pfV (s.2.1 97) D (yl * w) = s.2.1 97 := by
      rw [← pf_0 (f := s.2.1 97) (D := D)]
      rw [pf_0]
      refine Eq.trans (pf_s (m := 0) ?_) pf_0
      intro k hk
      exact oY k (Or.inl (Nat.div_lt_of_lt_mul (by rw [Nat.mul_comm]; omega)))
    rw [this, sA_id]
  · have cy : ¬ Y < Int32.ofNat (yl + j) := fun z => by
      rw [i_lt, n_int (by omega)] at z; omega
    show bX1_dab_89 _ _ _ _ _ _ _ _ _ _ = _
    unfold bX1_dab_89
    dsimp only
    rw [if_neg cy, f93_1, F_sA, ob_n]
    have := inner (yl + j) (by omega)
    show Option.bind (q_lp (fun t => bX1_dab_112 93 px py (Int32.ofNat (4 * S)) i pr (hiV px (s.1 93 1) w) Y (Int32.ofNat (yl + j)) t.1 t.2) (loV px (s.1 93 1), _)) _ = _
    rw [this, ob_n, n_suc]
    rfl
  · have cy : Y < Int32.ofNat (yl + n) := by
      rw [i_lt, n_int (by omega)]; omega
    show bX1_dab_89 _ _ _ _ _ _ _ _ _ _ = _
    unfold bX1_dab_89
    dsimp only
    rw [if_pos cy, pf_s (n := (yl + n) * w) (m := h * w)]
    intro k hk
    rcases hk with hk | hk
    · have a1 : k / w < h := Nat.div_lt_of_lt_mul (by rw [Nat.mul_comm]; omega)
      have a2 : yl + n ≤ k / w := (Nat.le_div_iff_mul_le (by omega)).mpr hk.1
      exact oY k (Or.inr ⟨a1, by omega⟩)
    · have a1 : k / w < yl + n := Nat.div_lt_of_lt_mul (by rw [Nat.mul_comm]; omega)
      have a2 : h ≤ k / w := (Nat.le_div_iff_mul_le (by omega)).mpr hk.1
      exact oY k (Or.inl (by omega))
