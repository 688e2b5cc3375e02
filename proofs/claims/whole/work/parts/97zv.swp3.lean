-- needs: 97zu
theorem mul_t {a b : Int32} (ha : rg a 0 255) (hb : rg b 0 255) : (fX11_mul a b).toInt ≤ a.toInt := by
  have e0 : (0 : Int32).toInt = 0 := by decide
  have e5 : (255 : Int32).toInt = 255 := by decide
  have e7 : (127 : Int32).toInt = 127 := by decide
  rw [rg_i, e0, e5] at ha hb
  obtain ⟨m1, m2⟩ : 0 ≤ a.toInt * b.toInt ∧ a.toInt * b.toInt ≤ 255 * a.toInt := by
    refine ⟨Int.mul_nonneg ha.1 hb.1, ?_⟩
    rw [Int.mul_comm]
    exact Int.mul_le_mul_of_nonneg_right hb.2 ha.1
  have z1 : (a * b).toInt = a.toInt * b.toInt := i_mul (by omega) (by omega)
  have z2 : (a * b + 127).toInt = a.toInt * b.toInt + 127 := by rw [i_add (by omega) (by omega), z1, e7]
  unfold fX11_mul
  rw [i_divp (by omega) (by omega), z2, e5]
  omega
theorem dv_r {i d : Int32} {S : Nat} (hS : S ≤ 64) (hi : 0 ≤ i.toInt) : rg (dvV (Int32.ofNat (4 * S)) i d) 0 255 := by
  have e0 : (0 : Int32).toInt = 0 := by decide
  have e5 : (255 : Int32).toInt = 255 := by decide
  have er : (Int32.ofNat (4 * S)).toInt = 4 * S := by rw [n_int (by omega)]; omega
  unfold dvV
  by_cases c1 : d ≤ Int32.ofNat (4 * S)
  · rw [if_pos c1]
    by_cases c2 : i < d
    · rw [if_pos c2]
      rw [i_le] at c1
      rw [i_lt] at c2
      have a1 : (Int32.ofNat (4 * S) - d).toInt = 4 * S - d.toInt := by rw [i_sub (by omega) (by omega), er]
      have a2 : (Int32.ofNat (4 * S) - i).toInt = 4 * S - i.toInt := by rw [i_sub (by omega) (by omega), er]
      have a3 : (255 * (Int32.ofNat (4 * S) - d)).toInt = 255 * (4 * S - d.toInt) := by rw [i_mul (by rw [e5]; omega) (by rw [e5]; omega), e5, a1]
      rw [rg_i, e0, e5, i_divp (by omega) (by omega), a3, a2]
      refine ⟨Int.ediv_nonneg (by omega) (by omega), ?_⟩
      refine Int.ediv_le_of_le_mul (by omega) ?_
      omega
    · rw [if_neg c2]; decide
  · rw [if_neg c1]; decide
theorem DB_r {i fl : Int32} {w h S : Nat} {px py p : Int32} {f : Nat → Int32} (hS : S ≤ 64) (hi : 0 ≤ i.toInt) (hfl : rg fl 0 255) (hp : rg p 0 255) (hf : Gd f) : Gd (DB (Int32.ofNat (4 * S)) i fl w h px py p f) := by
  intro k hk
  unfold DB
  by_cases c : k < h * w
  · have := cpT_ge (A := f) (N := dbV px py (Int32.ofNat (4 * S)) i (fX11_mul p fl) w f) (b := 0) (n := h * w) (k := k) (by omega) (by omega)
    rw [this, Nat.sub_zero]
    unfold dbV
    have e0 : (0 : Int32).toInt = 0 := by decide
    have e5 : (255 : Int32).toInt = 255 := by decide
    have hv := mul_r (dv_r (i := i) (d := dfV px py (Int32.ofNat (k % w)) (Int32.ofNat (k / w))) hS hi) (mul_r hp hfl)
    have z := hf k hk
    rw [rg_i, e0, e5] at z
    have s1 : (255 - f k).toInt = 255 - (f k).toInt := by rw [i_sub (by omega) (by omega), e5]
    have hs : rg (255 - f k) 0 255 := by rw [rg_i, e0, e5]; omega
    have m1 := mul_t hs hv
    have m2 := mul_r hs hv
    rw [rg_i, e0, e5] at m2
    rw [rg_i, e0, e5, i_add (by omega) (by omega)]
    omega
  · rw [cpT_out (by omega)]
    exact hf k hk
/-- rows alike as far as they are read -/
def Ak (f f' : Nat → Int32) : Prop := ∀ k, k < 576 → f k = f' k
theorem DB_k {r i fl : Int32} {w h : Nat} {px py p : Int32} {f f' : Nat → Int32} (h1 : Ak f f') : Ak (DB r i fl w h px py p f) (DB r i fl w h px py p f') := by
  intro k hk
  unfold DB
  by_cases c : k < h * w
  · rw [cpT_ge (by omega) (by omega), cpT_ge (by omega) (by omega), Nat.sub_zero]
    unfold dbV
    rw [h1 k hk]
  · rw [cpT_out (by omega), cpT_out (by omega)]
    exact h1 k hk
theorem al_k {D : Int32 → Int32 → Int32 → (Nat → Int32) → (Nat → Int32)} (hD : ∀ a b p f f', Ak f f' → Ak (D a b p f) (D a b p f')) {x0 y0 p0 p1 dx dy l sp : Int32} : ∀ (n : Nat) d lf f f', Ak f f' → (alN D x0 y0 p0 p1 dx dy l sp n d lf f).1 = (alN D x0 y0 p0 p1 dx dy l sp n d lf f').1 ∧ Ak (alN D x0 y0 p0 p1 dx dy l sp n d lf f).2 (alN D x0 y0 p0 p1 dx dy l sp n d lf f').2 := by
  intro n
  induction n with
  | zero => exact fun d lf f f' hk => ⟨rfl, hk⟩
  | succ n ih =>
    intro d lf f f' hk
    by_cases c : l < d
    · have e : ∀ f, alN D x0 y0 p0 p1 dx dy l sp (n + 1) d lf f = (lf, f) := fun f => if_pos c
      rw [e, e]
      exact ⟨rfl, hk⟩
    · have e : ∀ f, alN D x0 y0 p0 p1 dx dy l sp (n + 1) d lf f = alN D x0 y0 p0 p1 dx dy l sp n (d + sp) (l - d) (D (x0 + dx * d / l) (y0 + dy * d / l) (p0 + (p1 - p0) * d / l) f) := fun f => if_neg c
      rw [e, e]
      exact ih _ _ _ _ (hD _ _ _ _ _ hk)
theorem sw_k {D : Int32 → Int32 → Int32 → (Nat → Int32) → (Nat → Int32)} (hD : ∀ a b p f f', Ak f f' → Ak (D a b p f) (D a b p f')) {X Y P f f' : Nat → Int32} {sp : Int32} {m : Nat} (hk : Ak f f') : ∀ j, (swN D X Y P sp m f j).1 = (swN D X Y P sp m f' j).1 ∧ Ak (swN D X Y P sp m f j).2 (swN D X Y P sp m f' j).2 := by
  intro j
  induction j with
  | zero => exact ⟨rfl, hD _ _ _ _ _ hk⟩
  | succ j ih =>
    have e : ∀ f, swN D X Y P sp m f (j + 1) = alN D (X j) (Y j) (P j) (P (j + 1)) (X (j + 1) - X j) (Y (j + 1) - Y j) (lnV X Y j) sp m (sp - (swN D X Y P sp m f j).1) ((swN D X Y P sp m f j).1 + lnV X Y j) (swN D X Y P sp m f j).2 := fun _ => rfl
    rw [e, e, ih.1]
    exact al_k hD _ _ _ _ _ ih.2
/-- what a stroke covers -/
def skV (X Y P : Nat → Int32) (sz hd sp fl : Int32) (w h m n : Nat) : Nat → Int32 := (swN (DB (4 * sz) (4 * sz * hd / 255) fl w h) X Y P sp m (fun _ => 0) (n - 1)).2
/-- the brush is right -/
def BrO (sz hd sp fl : Int32) : Prop := rg sz 1 64 ∧ rg hd 0 255 ∧ rg sp 2 64 ∧ rg fl 0 255
theorem br_o {sz hd sp fl : Int32} (h : BrO sz hd sp fl) : (∃ S : Nat, sz = Int32.ofNat S ∧ S ≤ 64 ∧ 4 * sz = Int32.ofNat (4 * S)) ∧ 0 ≤ (4 * sz * hd / 255).toInt ∧ (2 ≤ sp.toInt ∧ sp.toInt ≤ 64) := by
  obtain ⟨a, b, c, d⟩ := h
  have e0 : (0 : Int32).toInt = 0 := by decide
  have e5 : (255 : Int32).toInt = 255 := by decide
  have z1 : (1 : Int32).toInt = 1 := by decide
  have z2 : (2 : Int32).toInt = 2 := by decide
  have z4 : (4 : Int32).toInt = 4 := by decide
  have z64 : (64 : Int32).toInt = 64 := by decide
  rw [rg_i, z1, z64] at a
  rw [rg_i, e0, e5] at b
  rw [rg_i, z2, z64] at c
  have m1 : (4 * sz).toInt = 4 * sz.toInt := by rw [i_mul (by rw [z4]; omega) (by rw [z4]; omega), z4]
  have b1 : 0 ≤ (4 * sz).toInt * hd.toInt := Int.mul_nonneg (by omega) (by omega)
  have b2 : (4 * sz).toInt * hd.toInt ≤ 256 * 255 := Int.mul_le_mul (by omega) (by omega) (by omega) (by omega)
  have m2 : (4 * sz * hd).toInt = (4 * sz).toInt * hd.toInt := i_mul (by omega) (by omega)
  refine ⟨⟨sz.toInt.toNat, n_of (by omega), by omega, ?_⟩, ?_, c⟩
  · exact n_of (by rw [m1]; omega)
  · rw [i_divp (by omega) (by omega)]
    exact Int.ediv_nonneg (by omega) (by omega)
theorem sk_r {X Y P : Nat → Int32} {sz hd sp fl : Int32} {w h m n : Nat} (hb : BrO sz hd sp fl) (hm : 65536 ≤ m) (hn1 : 1 ≤ n) (hp : PtO X Y P n) : Gd (skV X Y P sz hd sp fl w h m n) := by
  obtain ⟨⟨S, s1, s2, s3⟩, hi, hs⟩ := br_o hb
  unfold skV
  rw [s3]
  rw [s3] at hi
  exact (sw_i (fun a b p f q1 q2 => DB_r s2 hi hb.2.2.2 q1 q2) hm hs hp (fun k _ => show rg 0 0 255 = true by decide) (n - 1) (by omega)).2.2
theorem win_i {w : Nat} (h1 : 1 ≤ w) (h2 : w ≤ 24) : fX11_within (Int32.ofNat w) 1 24 = Int32.ofNat w := by
  have a1 : (1 : Int32) ≤ Int32.ofNat w := show Int32.ofNat 1 ≤ Int32.ofNat w from (n_le (by omega) (by omega)).mpr h1
  have a2 : Int32.ofNat w ≤ (24 : Int32) := show Int32.ofNat w ≤ Int32.ofNat 24 from (n_le (by omega) (by omega)).mpr h2
  unfold fX11_within
  rw [if_pos a1, if_pos a2]
def fl_ (f : Nat → Int32) : Nat → Int32 := fl f 576 0
theorem sweep1 {s : e_S} {g : ps_G} {X Y P : Nat → Int32} {sz hd sp fl : Int32} {w h m n : Nat} (hb : BrO sz hd sp fl) (hm : 65536 ≤ m) (hn : n ≤ 20) (hn1 : 1 ≤ n) (hp : PtO X Y P n) (hw1 : 1 ≤ w) (hh1 : 1 ≤ h) (hw : w ≤ 24) (hh : h ≤ 24) (eX : ∀ k, k < n → s.2.1 94 k = X k) (eY : ∀ k, k < n → s.2.1 95 k = Y k) (eP : ∀ k, k < n → s.2.1 96 k = P k) (e1 : s.1 93 1 = sz) (e2 : s.1 93 2 = hd) (e3 : s.1 93 3 = sp) (e4 : s.1 93 4 = fl) (e8 : s.1 93 8 = Int32.ofNat n) : ∃ F, fX1_sweep (e_g s g) 93 (Int32.ofNat w) (Int32.ofNat h) = some (e_g (sA (sF (sF s 93 13 (Int32.ofNat w)) 93 14 (Int32.ofNat h)) 97 F) g) ∧ Ak F (skV X Y P sz hd sp fl w h m n) := by
  obtain ⟨⟨S, s1, s2, s3⟩, hi, hs⟩ := br_o hb
  generalize hs2 : sF (sF s 93 13 (Int32.ofNat w)) 93 14 (Int32.ofNat h) = s'
  have x13 : s'.1 93 13 = Int32.ofNat w := by rw [← hs2]; simp (decide := true) only [ob_n, b2_n, tc_rn, tc_ln, F_sF, A_sF, R_sF, L_sF, F_sA, A_sA, R_sA, L_sA, F_sR, A_sR, R_sR, L_sR, F_sL, A_sL, R_sL, L_sL, and_true, true_and, and_false, false_and, and_self, reduceIte, sF_sF, sA_sA, false_or, or_false, true_or, or_true, not_false_eq_true, not_true_eq_false, decide_true, decide_false, Bool.true_or, Bool.or_true, Bool.false_and, Bool.true_and, Bool.false_or, Bool.or_false, Bool.and_true, Bool.and_false]
  have x14 : s'.1 93 14 = Int32.ofNat h := by rw [← hs2]; simp (decide := true) only [ob_n, b2_n, tc_rn, tc_ln, F_sF, A_sF, R_sF, L_sF, F_sA, A_sA, R_sA, L_sA, F_sR, A_sR, R_sR, L_sR, F_sL, A_sL, R_sL, L_sL, and_true, true_and, and_false, false_and, and_self, reduceIte, sF_sF, sA_sA, false_or, or_false, true_or, or_true, not_false_eq_true, not_true_eq_false, decide_true, decide_false, Bool.true_or, Bool.or_true, Bool.false_and, Bool.true_and, Bool.false_or, Bool.or_false, Bool.and_true, Bool.and_false]
  have xF : ∀ j, j < 13 → s'.1 93 j = s.1 93 j := fun j hj => by rw [← hs2, F_sF, if_neg (by omega), F_sF, if_neg (by omega)]
  have xA : s'.2.1 = s.2.1 := by rw [← hs2]; simp (decide := true) only [ob_n, b2_n, tc_rn, tc_ln, F_sF, A_sF, R_sF, L_sF, F_sA, A_sA, R_sA, L_sA, F_sR, A_sR, R_sR, L_sR, F_sL, A_sL, R_sL, L_sL, and_true, true_and, and_false, false_and, and_self, reduceIte, sF_sF, sA_sA, false_or, or_false, true_or, or_true, not_false_eq_true, not_true_eq_false, decide_true, decide_false, Bool.true_or, Bool.or_true, Bool.false_and, Bool.true_and, Bool.false_or, Bool.or_false, Bool.and_true, Bool.and_false]
  have hD : ∀ a b p f, a.toInt.natAbs ≤ 700 → b.toInt.natAbs ≤ 700 → fX1_dab (e_g (sA s' 97 f) g) 93 a b p = some (e_g (sA s' 97 (DB (4 * sz) (4 * sz * hd / 255) fl w h a b p f)) g) := fun a b p f q1 q2 => by
    have := dab1 (s := sA s' 97 f) (g := g) (w := w) (h := h) (S := S) (px := a) (py := b) (p := p) hw1 hw hh (by rw [F_sA]; exact x13) (by rw [F_sA]; exact x14) (by rw [F_sA, xF _ (by omega), e1]; exact s1) s2 q1 q2
    rw [this, A_sA, if_pos rfl, sA_sA, F_sA, xF _ (by omega), xF _ (by omega), xF _ (by omega), e1, e2, e4]
    rfl
  have hG : ∀ a b p f, rg p 0 255 → Gd f → Gd (DB (4 * sz) (4 * sz * hd / 255) fl w h a b p f) := fun a b p f q1 q2 => by
    rw [s3]
    rw [s3] at hi
    exact DB_r s2 hi hb.2.2.2 q1 q2
  have hK : ∀ a b p f f', Ak f f' → Ak (DB (4 * sz) (4 * sz * hd / 255) fl w h a b p f) (DB (4 * sz) (4 * sz * hd / 255) fl w h a b p f') := fun a b p f f' z => DB_k z
  unfold skV
  generalize DB (4 * sz) (4 * sz * hd / 255) fl w h = D at hD hG hK
  have k0 : ∀ k, k < 576 → fl_ (s.2.1 97) k = 0 := fun k hk => by
    unfold fl_
    rw [fl_lt hk]
  have g0 : Gd (fl_ (s.2.1 97)) := fun k hk => by rw [k0 k hk]; decide
  have fi : fJ7_fill_53178 (e_g s' g) 97 0 = some (e_g (sA s' 97 (fl_ (s.2.1 97))) g) := by
    rw [fillI (s := s') (g := g) (j := 97) (n := 576) (v := 0) t97 (by decide) (by decide), xA]
    unfold fl_
    rfl
  generalize fl_ (s.2.1 97) = f0 at k0 g0 fi
  have ak := (sw_k (D := D) (X := X) (Y := Y) (P := P) (sp := sp) (m := m) (f := f0) (f' := fun _ => 0) hK k0 (n - 1)).2
  have lp := sweepl1 (D := D) (s := s') (g := g) (m := m) (f0 := f0) hm hn hn1 hs hp g0 hG (fun k hk => by rw [xA]; exact eX k hk) (fun k hk => by rw [xA]; exact eY k hk) (fun k hk => by rw [xA]; exact eP k hk) (by rw [xF _ (by omega)]; exact e3) (by rw [xF _ (by omega)]; exact e8) hD
  refine ⟨(swN D X Y P sp m f0 (n - 1)).2, ?_, ak⟩
  obtain ⟨q1, q2, q3⟩ := rs_1 (f := f0) (s := s') (g := g) (show 0 < 20 by omega)
  rw [xA, eX _ hn1] at q1
  rw [xA, eY _ hn1] at q2
  rw [xA, eP _ hn1] at q3
  have q0 := r200 (hp 0 hn1).1
  have q0' := r200 (hp 0 hn1).2.1
  have q1' : q_aI (e_g (sA s' 97 f0) g) 94 0 = some (X 0) := q1
  have q2' : q_aI (e_g (sA s' 97 f0) g) 95 0 = some (Y 0) := q2
  have q3' : q_aI (e_g (sA s' 97 f0) g) 96 0 = some (P 0) := q3
  unfold fX1_sweep jX1_sweep_52 jX1_sweep_87
  rw [win_i hw1 hw, win_i hh1 hh, w93_13, ob_n, w93_14, ob_n, hs2, f93_12, ob_n, ob_n, fi, ob_n, f93_9, ob_n, ob_n, q1', ob_n, f93_10, ob_n, ob_n, q2', ob_n, f93_11, ob_n, ob_n, q3', ob_n, ob93, ob_n, hD _ _ _ _ (by omega) (by omega), ob_n, lp, ob_n]
theorem dabs12 {s : e_S} {g : ps_G} {X Y P : Nat → Int32} {sz hd sp fl : Int32} {w h m n : Nat} (hb : BrO sz hd sp fl) (hm : 65536 ≤ m) (hn : n ≤ 20) (hn1 : 1 ≤ n) (hp : PtO X Y P n) (hw : w ≤ 24) (hh : h ≤ 24) (d1 : s.1 139 13 = Int32.ofNat w) (d2 : s.1 139 14 = Int32.ofNat h) (eX : ∀ k, k < n → s.2.1 159 k = X k) (eY : ∀ k, k < n → s.2.1 160 k = Y k) (eP : ∀ k, k < n → s.2.1 161 k = P k) (e1 : s.1 139 36 = sz) (e2 : s.1 139 37 = hd) (e3 : s.1 139 38 = sp) (e4 : s.1 139 39 = fl) (e8 : s.1 139 43 = Int32.ofNat n) : ∃ F, fX12_dabs (e_g s g) 139 = some (e_g (sA s 162 F) g) ∧ Ak F (skV X Y P sz hd sp fl w h m n) := by
  obtain ⟨⟨S, s1, s2, s3⟩, hi, hs⟩ := br_o hb
  have hD : ∀ a b p f, fX12_dab (e_g (sA s 162 f) g) 139 a b p = some (e_g (sA s 162 (DB (4 * sz) (4 * sz * hd / 255) fl w h a b p f)) g) := fun a b p f => by
    have := dab12 (s := sA s 162 f) (g := g) (w := w) (h := h) (px := a) (py := b) (p := p) hw hh (by rw [F_sA]; exact d1) (by rw [F_sA]; exact d2)
    rw [this, A_sA, if_pos rfl, sA_sA, F_sA, e1, e2, e4]
    rfl
  have lz := fillN (fun f => e_g (sA s 162 f) g) 0 576 (fun _ => 0) (s.2.1 162) (bO := fun t => bX12_dabs_2 139 t.1 t.2) (fun f i hi _ => by
    show bX12_dabs_2 _ _ _ = _
    have c : ¬ (576 : Int32) ≤ Int32.ofNat i := show ¬ Int32.ofNat 576 ≤ Int32.ofNat i from nle hi (by omega)
    unfold bX12_dabs_2
    rw [if_neg c, f139_47, ob_n, ob_n, u162, n_idx (by omega), if_neg (n_in2 hi (by decide)), ob_n, n_suc, A_sA, if_pos rfl, sA_sA, Nat.zero_add]) (fun f => by
    show bX12_dabs_2 _ _ _ = _
    have c : (576 : Int32) ≤ Int32.ofNat 576 := by decide
    unfold bX12_dabs_2
    rw [if_pos c])
  rw [sA_id] at lz
  have k0 : ∀ k, k < 576 → cpT (s.2.1 162) (fun _ => 0) 0 576 k = 0 := fun k hk => by rw [cpT_ge (by omega) (by omega)]
  generalize cpT (s.2.1 162) (fun _ => 0) 0 576 = f0 at lz k0
  have g0 : Gd f0 := fun k hk => by rw [k0 k hk]; decide
  have hG : ∀ a b p f, rg p 0 255 → Gd f → Gd (DB (4 * sz) (4 * sz * hd / 255) fl w h a b p f) := fun a b p f q1 q2 => by
    rw [s3]
    rw [s3] at hi
    exact DB_r s2 hi hb.2.2.2 q1 q2
  have hK : ∀ a b p f f', Ak f f' → Ak (DB (4 * sz) (4 * sz * hd / 255) fl w h a b p f) (DB (4 * sz) (4 * sz * hd / 255) fl w h a b p f') := fun a b p f f' z => DB_k z
  unfold skV
  generalize DB (4 * sz) (4 * sz * hd / 255) fl w h = D at hD hG hK
  have ak := (sw_k (D := D) (X := X) (Y := Y) (P := P) (sp := sp) (m := m) (f := f0) (f' := fun _ => 0) hK k0 (n - 1)).2
  have lp := dabsl12 (D := D) (s := s) (g := g) (m := m) (f0 := f0) hm hn hn1 hs hp g0 hG eX eY eP e3 e8 hD
  refine ⟨(swN D X Y P sp m f0 (n - 1)).2, ?_, ak⟩
  obtain ⟨q1, q2, q3⟩ := rs_12 (f := f0) (s := s) (g := g) (show 0 < 20 by omega)
  rw [eX _ hn1] at q1
  rw [eY _ hn1] at q2
  rw [eP _ hn1] at q3
  have q1' : q_aI (e_g (sA s 162 f0) g) 159 0 = some (X 0) := q1
  have q2' : q_aI (e_g (sA s 162 f0) g) 160 0 = some (Y 0) := q2
  have q3' : q_aI (e_g (sA s 162 f0) g) 161 0 = some (P 0) := q3
  unfold fX12_dabs
  rw [lz, ob_n, f139_44, ob_n, ob_n, q1', ob_n, f139_45, ob_n, ob_n, q2', ob_n, f139_46, ob_n, ob_n, q3', ob_n, ob139, ob_n, hD, ob_n, lp, ob_n]
