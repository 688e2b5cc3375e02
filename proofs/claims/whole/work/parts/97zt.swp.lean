-- needs: 97zs
/-- the part of a way -/
theorem ip_i {a d l : Int32} (ha : a.toInt.natAbs ≤ 400) (h1 : 0 < d.toInt) (h2 : d.toInt ≤ l.toInt) (h3 : l.toInt ≤ 65535) : ((a * d) / l).toInt.natAbs ≤ a.toInt.natAbs ∧ (0 ≤ a.toInt → 0 ≤ ((a * d) / l).toInt) ∧ (a.toInt ≤ 0 → ((a * d) / l).toInt ≤ 0) := by
  have b : (a.toInt * d.toInt).natAbs ≤ 400 * 65535 := by
    rw [Int.natAbs_mul]; exact Nat.mul_le_mul ha (by omega)
  have e1 : (a * d).toInt = a.toInt * d.toInt := i_mul (by omega) (by omega)
  have e2 : ((a * d) / l).toInt = (a.toInt * d.toInt).tdiv l.toInt := by rw [i_div (by omega), e1]
  rw [e2]
  refine ⟨?_, fun z => ?_, fun z => ?_⟩
  · rw [Int.natAbs_tdiv, Int.natAbs_mul]
    refine Nat.div_le_of_le_mul ?_
    rw [Nat.mul_comm]
    exact Nat.mul_le_mul (by omega) (Nat.le_refl _)
  · exact Int.tdiv_nonneg (Int.mul_nonneg z (by omega)) (by omega)
  · have : (-(a.toInt * d.toInt)).tdiv l.toInt = -((a.toInt * d.toInt).tdiv l.toInt) := Int.neg_tdiv _ _
    have : 0 ≤ (-(a.toInt * d.toInt)).tdiv l.toInt := Int.tdiv_nonneg (by rw [← Int.neg_mul]; exact Int.mul_nonneg (by omega) (by omega)) (by omega)
    omega
def alN (D : Int32 → Int32 → Int32 → (Nat → Int32) → (Nat → Int32)) (x0 y0 p0 p1 dx dy l sp : Int32) : Nat → Int32 → Int32 → (Nat → Int32) → Int32 × (Nat → Int32)
  | 0, _, lf, f => (lf, f)
  | n + 1, d, lf, f => if l < d then (lf, f) else alN D x0 y0 p0 p1 dx dy l sp n (d + sp) (l - d) (D (x0 + dx * d / l) (y0 + dy * d / l) (p0 + (p1 - p0) * d / l) f)
def lnV (X Y : Nat → Int32) (j : Nat) : Int32 := rt ((X (j + 1) - X j) * (X (j + 1) - X j) + (Y (j + 1) - Y j) * (Y (j + 1) - Y j))
def swN (D : Int32 → Int32 → Int32 → (Nat → Int32) → (Nat → Int32)) (X Y P : Nat → Int32) (sp : Int32) (m : Nat) (f0 : Nat → Int32) : Nat → Int32 × (Nat → Int32)
  | 0 => (0, D (X 0) (Y 0) (P 0) f0)
  | j + 1 => alN D (X j) (Y j) (P j) (P (j + 1)) (X (j + 1) - X j) (Y (j + 1) - Y j) (lnV X Y j) sp m (sp - (swN D X Y P sp m f0 j).1) ((swN D X Y P sp m f0 j).1 + lnV X Y j) (swN D X Y P sp m f0 j).2
theorem ln_i {X Y : Nat → Int32} {j : Nat} : 0 ≤ (lnV X Y j).toInt ∧ (lnV X Y j).toInt ≤ 65535 := by
  unfold lnV
  obtain ⟨R, h1, h2, -⟩ := rt_s (x := (X (j + 1) - X j) * (X (j + 1) - X j) + (Y (j + 1) - Y j) * (Y (j + 1) - Y j))
  rw [h1, n_int (by omega)]
  omega
/-- bounds of what is between -/
def Bt (x0 y0 p0 p1 dx dy : Int32) : Prop := x0.toInt.natAbs ≤ 200 ∧ y0.toInt.natAbs ≤ 200 ∧ rg p0 0 255 ∧ rg p1 0 255 ∧ dx.toInt.natAbs ≤ 400 ∧ dy.toInt.natAbs ≤ 400
theorem bt_i {x0 y0 p0 p1 dx dy d l : Int32} (h : Bt x0 y0 p0 p1 dx dy) (h1 : 0 < d.toInt) (h2 : d.toInt ≤ l.toInt) (h3 : l.toInt ≤ 65535) : (x0 + dx * d / l).toInt.natAbs ≤ 700 ∧ (y0 + dy * d / l).toInt.natAbs ≤ 700 ∧ rg (p0 + (p1 - p0) * d / l) 0 255 := by
  obtain ⟨a1, a2, a3, a4, a5, a6⟩ := h
  have e0 : (0 : Int32).toInt = 0 := by decide
  have e5 : (255 : Int32).toInt = 255 := by decide
  rw [rg_i, e0, e5] at a3 a4
  have ep : (p1 - p0).toInt = p1.toInt - p0.toInt := i_sub (by omega) (by omega)
  have i1 := ip_i a5 h1 h2 h3
  have i2 := ip_i a6 h1 h2 h3
  have i3 := ip_i (a := p1 - p0) (by omega) h1 h2 h3
  rw [ep] at i3
  refine ⟨?_, ?_, ?_⟩
  · rw [i_add (by omega) (by omega)]; omega
  · rw [i_add (by omega) (by omega)]; omega
  · rw [rg_i, e0, e5, i_add (by omega) (by omega)]
    rcases Int.le_total 0 (p1.toInt - p0.toInt) with z | z
    · have := i3.2.1 z; omega
    · have := i3.2.2 z; omega
def Gd (f : Nat → Int32) : Prop := ∀ k, k < 576 → rg (f k) 0 255
theorem al_i {D : Int32 → Int32 → Int32 → (Nat → Int32) → (Nat → Int32)} (hD : ∀ a b p f, rg p 0 255 → Gd f → Gd (D a b p f)) {x0 y0 p0 p1 dx dy l sp : Int32} (hb : Bt x0 y0 p0 p1 dx dy) (hl : 0 ≤ l.toInt ∧ l.toInt ≤ 65535) (hs : 2 ≤ sp.toInt ∧ sp.toInt ≤ 64) : ∀ (n : Nat) d lf f, 0 < d.toInt → d.toInt ≤ 65535 + 64 → l.toInt < d.toInt + n → 0 ≤ lf.toInt → lf.toInt = l.toInt - d.toInt + sp.toInt → Gd f → 0 ≤ (alN D x0 y0 p0 p1 dx dy l sp n d lf f).1.toInt ∧ (alN D x0 y0 p0 p1 dx dy l sp n d lf f).1.toInt < sp.toInt ∧ Gd (alN D x0 y0 p0 p1 dx dy l sp n d lf f).2 := by
  intro n
  induction n with
  | zero =>
    intro d lf f h1 h2 h3 h4 h5 h6
    exact ⟨h4, show lf.toInt < sp.toInt by omega, h6⟩
  | succ n ih =>
    intro d lf f h1 h2 h3 h4 h5 h6
    by_cases c : l < d
    · have e : alN D x0 y0 p0 p1 dx dy l sp (n + 1) d lf f = (lf, f) := if_pos c
      rw [e]
      rw [i_lt] at c
      exact ⟨h4, show lf.toInt < sp.toInt by omega, h6⟩
    · have e : alN D x0 y0 p0 p1 dx dy l sp (n + 1) d lf f = alN D x0 y0 p0 p1 dx dy l sp n (d + sp) (l - d) (D (x0 + dx * d / l) (y0 + dy * d / l) (p0 + (p1 - p0) * d / l) f) := if_neg c
      rw [e]
      rw [i_lt] at c
      have e1 : (d + sp).toInt = d.toInt + sp.toInt := i_add (by omega) (by omega)
      have e2 : (l - d).toInt = l.toInt - d.toInt := i_sub (by omega) (by omega)
      exact ih _ _ _ (by omega) (by omega) (by omega) (by omega) (by omega) (hD _ _ _ _ (bt_i hb h1 (by omega) hl.2).2.2 h6)
theorem al_1 {D : Int32 → Int32 → Int32 → (Nat → Int32) → (Nat → Int32)} {s : e_S} {g : ps_G} {x0 y0 p0 p1 dx dy l sp : Int32} {i : Nat} (hi : i < 20) (hP : s.2.1 96 i = p1) (hD : ∀ a b p f, a.toInt.natAbs ≤ 700 → b.toInt.natAbs ≤ 700 → fX1_dab (e_g (sA s 97 f) g) 93 a b p = some (e_g (sA s 97 (D a b p f)) g)) (hb : Bt x0 y0 p0 p1 dx dy) (hl : 0 ≤ l.toInt ∧ l.toInt ≤ 65535) (hs : 2 ≤ sp.toInt ∧ sp.toInt ≤ 64) : ∀ (n : Nat) d lf f, 0 < d.toInt → d.toInt ≤ 65535 + 64 → l.toInt < d.toInt + n → q_lp (fun t => bX1_along_88 93 (Int32.ofNat i) x0 y0 p0 dx dy l sp t.1 t.2.1 t.2.2) (lf, d, e_g (sA s 97 f) g) = some ((alN D x0 y0 p0 p1 dx dy l sp n d lf f).1, e_g (sA s 97 (alN D x0 y0 p0 p1 dx dy l sp n d lf f).2) g) := by
  have stop : ∀ d lf f, l < d → q_lp (fun t => bX1_along_88 93 (Int32.ofNat i) x0 y0 p0 dx dy l sp t.1 t.2.1 t.2.2) (lf, d, e_g (sA s 97 f) g) = some (lf, e_g (sA s 97 f) g) := fun d lf f c => by
    refine lp_end ?_
    show bX1_along_88 _ _ _ _ _ _ _ _ _ _ _ _ = _
    unfold bX1_along_88
    rw [if_pos (Or.inl c)]
  intro n
  induction n with
  | zero =>
    intro d lf f h1 h2 h3
    exact stop d lf f (by rw [i_lt]; omega)
  | succ n ih =>
    intro d lf f h1 h2 h3
    by_cases c : l < d
    · have e : alN D x0 y0 p0 p1 dx dy l sp (n + 1) d lf f = (lf, f) := if_pos c
      rw [e]
      exact stop d lf f c
    · have e : alN D x0 y0 p0 p1 dx dy l sp (n + 1) d lf f = alN D x0 y0 p0 p1 dx dy l sp n (d + sp) (l - d) (D (x0 + dx * d / l) (y0 + dy * d / l) (p0 + (p1 - p0) * d / l) f) := if_neg c
      have c' := c
      rw [i_lt] at c'
      have e1 : (d + sp).toInt = d.toInt + sp.toInt := i_add (by omega) (by omega)
      have e0 : (0 : Int32).toInt = 0 := by decide
      have nz : ¬ l = 0 := fun z => by rw [z] at c'; omega
      have c2 : ¬ l ≤ 0 := fun z => by rw [i_le] at z; omega
      have rd : q_aI (e_g (sA s 97 f) g) 96 (Int32.ofNat i) = some p1 := by
        rw [a96, n_idx (by omega), if_neg (n_in2 (show i < 20 by omega) (by decide)), A_sA, if_neg (by decide), hP]
      have bt := bt_i hb h1 (by omega) hl.2
      have st : bX1_along_88 93 (Int32.ofNat i) x0 y0 p0 dx dy l sp lf d (e_g (sA s 97 f) g) = some (.inl (l - d, d + sp, e_g (sA s 97 (D (x0 + dx * d / l) (y0 + dy * d / l) (p0 + (p1 - p0) * d / l) f)) g)) := by
        unfold bX1_along_88
        rw [if_neg (fun z => z.elim c c2), q_div, if_neg nz, ob_n, q_div, if_neg nz, ob_n, f93_11, ob_n, ob_n, rd, ob_n, q_div, if_neg nz, ob_n, ob93, ob_n, hD _ _ _ _ bt.1 bt.2.1, ob_n]
      rw [e, lp_go (b := fun t => bX1_along_88 93 (Int32.ofNat i) x0 y0 p0 dx dy l sp t.1 t.2.1 t.2.2) (s := (lf, d, e_g (sA s 97 f) g)) st]
      exact ih _ _ _ (by omega) (by omega) (by omega)
theorem al_12 {D : Int32 → Int32 → Int32 → (Nat → Int32) → (Nat → Int32)} {s : e_S} {g : ps_G} {x0 y0 p0 p1 dx dy l rs sp : Int32} {i : Nat} (hi : i + 1 < 20) (hX : s.2.1 159 i = x0) (hY : s.2.1 160 i = y0) (hP0 : s.2.1 161 i = p0) (hP : s.2.1 161 (i + 1) = p1) (hsp : s.1 139 38 = sp) (hD : ∀ a b p f, fX12_dab (e_g (sA s 162 f) g) 139 a b p = some (e_g (sA s 162 (D a b p f)) g)) (hl : 0 ≤ l.toInt ∧ l.toInt ≤ 65535) (hs : 2 ≤ sp.toInt ∧ sp.toInt ≤ 64) : ∀ (n : Nat) d la f, 0 < d.toInt → d.toInt ≤ 65535 + 64 → l.toInt < d.toInt + n → ∃ la', q_lp (fun t => bX12_dabs_114 139 rs (Int32.ofNat (i + 1)) dx dy l t.1 t.2.1 t.2.2) (la, d, e_g (sA s 162 f) g) = some (la', e_g (sA s 162 (alN D x0 y0 p0 p1 dx dy l sp n d (if 0 ≤ la then l - la else rs + l) f).2) g) ∧ (if 0 ≤ la' then l - la' else rs + l) = (alN D x0 y0 p0 p1 dx dy l sp n d (if 0 ≤ la then l - la else rs + l) f).1 := by
  have stop : ∀ d la f, l < d → q_lp (fun t => bX12_dabs_114 139 rs (Int32.ofNat (i + 1)) dx dy l t.1 t.2.1 t.2.2) (la, d, e_g (sA s 162 f) g) = some (la, e_g (sA s 162 f) g) := fun d lf f c => by
    refine lp_end ?_
    show bX12_dabs_114 _ _ _ _ _ _ _ _ _ = _
    unfold bX12_dabs_114
    rw [if_pos c]
  have im : Int32.ofNat (i + 1) - 1 = Int32.ofNat i := by rw [← n_suc, Int32.add_sub_cancel]
  intro n
  induction n with
  | zero =>
    intro d la f h1 h2 h3
    exact ⟨la, stop d la f (by rw [i_lt]; omega), rfl⟩
  | succ n ih =>
    intro d la f h1 h2 h3
    by_cases c : l < d
    · have e : alN D x0 y0 p0 p1 dx dy l sp (n + 1) d (if 0 ≤ la then l - la else rs + l) f = ((if 0 ≤ la then l - la else rs + l), f) := if_pos c
      rw [e]
      exact ⟨la, stop d la f c, rfl⟩
    · have e : alN D x0 y0 p0 p1 dx dy l sp (n + 1) d (if 0 ≤ la then l - la else rs + l) f = alN D x0 y0 p0 p1 dx dy l sp n (d + sp) (l - d) (D (x0 + dx * d / l) (y0 + dy * d / l) (p0 + (p1 - p0) * d / l) f) := if_neg c
      have c' := c
      rw [i_lt] at c'
      have e1 : (d + sp).toInt = d.toInt + sp.toInt := i_add (by omega) (by omega)
      have e0 : (0 : Int32).toInt = 0 := by decide
      have nz : ¬ l = 0 := fun z => by rw [z] at c'; omega
      have d0 : 0 ≤ d := by rw [i_le]; omega
      have rx : q_aI (e_g (sA s 162 f) g) 159 (Int32.ofNat i) = some x0 := by
        rw [a159, n_idx (by omega), if_neg (n_in2 (show i < 40 by omega) (by decide)), A_sA, if_neg (by decide), hX]
      have ry : q_aI (e_g (sA s 162 f) g) 160 (Int32.ofNat i) = some y0 := by
        rw [a160, n_idx (by omega), if_neg (n_in2 (show i < 40 by omega) (by decide)), A_sA, if_neg (by decide), hY]
      have r0 : q_aI (e_g (sA s 162 f) g) 161 (Int32.ofNat i) = some p0 := by
        rw [a161, n_idx (by omega), if_neg (n_in2 (show i < 40 by omega) (by decide)), A_sA, if_neg (by decide), hP0]
      have r1 : q_aI (e_g (sA s 162 f) g) 161 (Int32.ofNat (i + 1)) = some p1 := by
        rw [a161, n_idx (by omega), if_neg (n_in2 (show i + 1 < 40 by omega) (by decide)), A_sA, if_neg (by decide), hP]
      have st : bX12_dabs_114 139 rs (Int32.ofNat (i + 1)) dx dy l la d (e_g (sA s 162 f) g) = some (.inl (d, d + sp, e_g (sA s 162 (D (x0 + dx * d / l) (y0 + dy * d / l) (p0 + (p1 - p0) * d / l) f)) g)) := by
        unfold bX12_dabs_114
        rw [if_neg c, f139_44, ob_n, ob_n, im, rx, ob_n, q_div, if_neg nz, ob_n, f139_45, ob_n, ob_n, ry, ob_n, q_div, if_neg nz, ob_n, f139_46, ob_n, ob_n, r0, ob_n, ob_n, ob_n, r1, ob_n, ob_n, ob_n, r0, ob_n, q_div, if_neg nz, ob_n, ob139, ob_n, hD, ob_n, f139_38, F_sA, hsp, ob_n]
      obtain ⟨la', z1, z2⟩ := ih (d + sp) d (D (x0 + dx * d / l) (y0 + dy * d / l) (p0 + (p1 - p0) * d / l) f) (by omega) (by omega) (by omega)
      rw [if_pos d0] at z1 z2
      refine ⟨la', ?_, ?_⟩
      · rw [e, lp_go (b := fun t => bX12_dabs_114 139 rs (Int32.ofNat (i + 1)) dx dy l t.1 t.2.1 t.2.2) (s := (la, d, e_g (sA s 162 f) g)) st]
        exact z1
      · rw [e]; exact z2
