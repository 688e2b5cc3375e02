-- needs: 97zt
def DB (r i fl : Int32) (w h : Nat) (px py p : Int32) (f : Nat → Int32) : Nat → Int32 := cpT f (dbV px py r i (fX11_mul p fl) w f) 0 (h * w)
/-- points within their bounds -/
def PtO (X Y P : Nat → Int32) (n : Nat) : Prop := ∀ k, k < n → rg (X k) (-200) 200 ∧ rg (Y k) (-200) 200 ∧ rg (P k) 0 255
theorem r200 {v : Int32} (h : rg v (-200) 200) : v.toInt.natAbs ≤ 200 := by
  have z := rg_i.mp h
  have e1 : (-200 : Int32).toInt = -200 := by decide
  have e2 : (200 : Int32).toInt = 200 := by decide
  omega
theorem pt_b {X Y P : Nat → Int32} {n j : Nat} (h : PtO X Y P n) (hj : j + 1 < n) : Bt (X j) (Y j) (P j) (P (j + 1)) (X (j + 1) - X j) (Y (j + 1) - Y j) := by
  have a := h j (by omega)
  have b := h (j + 1) hj
  have a1 := r200 a.1
  have a2 := r200 a.2.1
  have b1 := r200 b.1
  have b2 := r200 b.2.1
  refine ⟨a1, a2, a.2.2, b.2.2, ?_, ?_⟩
  · rw [i_sub (by omega) (by omega)]; omega
  · rw [i_sub (by omega) (by omega)]; omega
theorem sw_i {D : Int32 → Int32 → Int32 → (Nat → Int32) → (Nat → Int32)} (hD : ∀ a b p f, rg p 0 255 → Gd f → Gd (D a b p f)) {X Y P f0 : Nat → Int32} {sp : Int32} {m n : Nat} (hm : 65536 ≤ m) (hs : 2 ≤ sp.toInt ∧ sp.toInt ≤ 64) (hp : PtO X Y P n) (h0 : Gd f0) : ∀ j, j < n → 0 ≤ (swN D X Y P sp m f0 j).1.toInt ∧ (swN D X Y P sp m f0 j).1.toInt < sp.toInt ∧ Gd (swN D X Y P sp m f0 j).2 := by
  intro j
  induction j with
  | zero =>
    intro hj
    exact ⟨by show 0 ≤ (0 : Int32).toInt; decide, by show (0 : Int32).toInt < _; have : (0 : Int32).toInt = 0 := (by decide); omega, hD _ _ _ _ (hp 0 hj).2.2 h0⟩
  | succ j ih =>
    intro hj
    obtain ⟨a1, a2, a3⟩ := ih (by omega)
    have hl := ln_i (X := X) (Y := Y) (j := j)
    have e1 : (sp - (swN D X Y P sp m f0 j).1).toInt = sp.toInt - (swN D X Y P sp m f0 j).1.toInt := i_sub (by omega) (by omega)
    have e2 : ((swN D X Y P sp m f0 j).1 + lnV X Y j).toInt = (swN D X Y P sp m f0 j).1.toInt + (lnV X Y j).toInt := i_add (by omega) (by omega)
    exact al_i hD (pt_b hp hj) hl hs m _ _ _ (by omega) (by omega) (by omega) (by omega) (by omega) a3
theorem rs_1 {f : Nat → Int32} {s : e_S} {g : ps_G} {k : Nat} (hk : k < 20) : q_aI (e_g (sA s 97 f) g) 94 (Int32.ofNat k) = some (s.2.1 94 k) ∧ q_aI (e_g (sA s 97 f) g) 95 (Int32.ofNat k) = some (s.2.1 95 k) ∧ q_aI (e_g (sA s 97 f) g) 96 (Int32.ofNat k) = some (s.2.1 96 k) := by
  rw [a94, a95, a96, n_idx (by omega), if_neg (n_in2 hk (by decide)), if_neg (n_in2 hk (by decide)), if_neg (n_in2 hk (by decide)), A_sA, if_neg (by decide), A_sA, if_neg (by decide), A_sA, if_neg (by decide)]
  exact ⟨rfl, rfl, rfl⟩
theorem along1 {D : Int32 → Int32 → Int32 → (Nat → Int32) → (Nat → Int32)} {s : e_S} {g : ps_G} {X Y P f : Nat → Int32} {sp rs : Int32} {m n j : Nat} (hm : 65536 ≤ m) (hn : n ≤ 20) (hj : j + 1 < n) (hs : 2 ≤ sp.toInt ∧ sp.toInt ≤ 64) (hp : PtO X Y P n) (eX : ∀ k, k < n → s.2.1 94 k = X k) (eY : ∀ k, k < n → s.2.1 95 k = Y k) (eP : ∀ k, k < n → s.2.1 96 k = P k) (e3 : s.1 93 3 = sp) (hr : 0 ≤ rs.toInt ∧ rs.toInt < sp.toInt) (hD : ∀ a b p f, a.toInt.natAbs ≤ 700 → b.toInt.natAbs ≤ 700 → fX1_dab (e_g (sA s 97 f) g) 93 a b p = some (e_g (sA s 97 (D a b p f)) g)) : fX1_along (e_g (sA s 97 f) g) 93 (Int32.ofNat (j + 1)) rs = some ((alN D (X j) (Y j) (P j) (P (j + 1)) (X (j + 1) - X j) (Y (j + 1) - Y j) (lnV X Y j) sp m (sp - rs) (rs + lnV X Y j) f).1, e_g (sA s 97 (alN D (X j) (Y j) (P j) (P (j + 1)) (X (j + 1) - X j) (Y (j + 1) - Y j) (lnV X Y j) sp m (sp - rs) (rs + lnV X Y j) f).2) g) := by
  have hl := ln_i (X := X) (Y := Y) (j := j)
  have e1 : (sp - rs).toInt = sp.toInt - rs.toInt := i_sub (by omega) (by omega)
  have lp := al_1 (s := s) (g := g) (i := j + 1) (by omega) (eP (j + 1) (by omega)) hD (pt_b hp (show j + 1 < n by omega)) hl hs m (sp - rs) (rs + lnV X Y j) f (by omega) (by omega) (by omega)
  have im : Int32.ofNat (j + 1) - 1 = Int32.ofNat j := by rw [← n_suc, Int32.add_sub_cancel]
  obtain ⟨q1, q2, q3⟩ := rs_1 (f := f) (s := s) (g := g) (show j < 20 by omega)
  obtain ⟨p1, p2, p3⟩ := rs_1 (f := f) (s := s) (g := g) (show j + 1 < 20 by omega)
  rw [eX _ (by omega)] at q1 p1
  rw [eY _ (by omega)] at q2 p2
  rw [eP _ (by omega)] at q3
  have mx : fJ9_max_7cf53 sp 1 = sp := by
    have z1 : (1 : Int32).toInt = 1 := by decide
    unfold fJ9_max_7cf53
    rw [if_neg (fun z => by rw [i_lt] at z; omega)]
  unfold fX1_along jX1_along_160
  rw [f93_9, ob_n, ob_n, im, q1, ob_n, f93_10, ob_n, ob_n, q2, ob_n, f93_11, ob_n, ob_n, q3, ob_n, ob_n, ob_n, p1, ob_n, ob_n, ob_n, p2, ob_n, root11, ob_n, f93_3, F_sA, e3, ob_n, mx]
  show Option.bind (q_lp (fun t => bX1_along_88 93 (Int32.ofNat (j + 1)) (X j) (Y j) (P j) (X (j + 1) - X j) (Y (j + 1) - Y j) (lnV X Y j) sp t.1 t.2.1 t.2.2) (rs + lnV X Y j, sp - rs, e_g (sA s 97 f) g)) _ = _
  rw [lp, ob_n]
theorem sweepl1 {D : Int32 → Int32 → Int32 → (Nat → Int32) → (Nat → Int32)} {s : e_S} {g : ps_G} {X Y P f0 : Nat → Int32} {sp : Int32} {m n : Nat} (hm : 65536 ≤ m) (hn : n ≤ 20) (hn1 : 1 ≤ n) (hs : 2 ≤ sp.toInt ∧ sp.toInt ≤ 64) (hp : PtO X Y P n) (h0 : Gd f0) (hG : ∀ a b p f, rg p 0 255 → Gd f → Gd (D a b p f)) (eX : ∀ k, k < n → s.2.1 94 k = X k) (eY : ∀ k, k < n → s.2.1 95 k = Y k) (eP : ∀ k, k < n → s.2.1 96 k = P k) (e3 : s.1 93 3 = sp) (e8 : s.1 93 8 = Int32.ofNat n) (hD : ∀ a b p f, a.toInt.natAbs ≤ 700 → b.toInt.natAbs ≤ 700 → fX1_dab (e_g (sA s 97 f) g) 93 a b p = some (e_g (sA s 97 (D a b p f)) g)) : q_lp (fun t => bX1_sweep_57 93 t.1 t.2.1 t.2.2) ((0 : Int32), (1 : Int32), e_g (sA s 97 (D (X 0) (Y 0) (P 0) f0)) g) = some (e_g (sA s 97 (swN D X Y P sp m f0 (n - 1)).2) g) := by
  have si := sw_i hG hm hs hp h0
  refine lp_0 (fun j => ((swN D X Y P sp m f0 j).1, Int32.ofNat (j + 1), e_g (sA s 97 (swN D X Y P sp m f0 j).2) g)) (n - 1) rfl (fun j hj => ?_) ?_
  · obtain ⟨a1, a2, a3⟩ := si j (by omega)
    have al := along1 (f := (swN D X Y P sp m f0 j).2) hm hn (show j + 1 < n by omega) hs hp eX eY eP e3 ⟨a1, a2⟩ hD
    have c1 : ¬ (Int32.ofNat n ≤ Int32.ofNat (j + 1) ∨ (20 : Int32) ≤ Int32.ofNat (j + 1)) := by
      have c : ¬ (20 : Int32) ≤ Int32.ofNat (j + 1) := show ¬ Int32.ofNat 20 ≤ Int32.ofNat (j + 1) from nle (by omega) (by omega)
      exact fun z => z.elim (nle (by omega) (by omega)) c
    show bX1_sweep_57 _ _ _ _ = _
    unfold bX1_sweep_57
    dsimp only
    rw [f93_8, F_sA, e8, ob_n, if_neg c1, ob93, ob_n, al, b2_n, n_suc]
    rfl
  · show bX1_sweep_57 _ _ _ _ = _
    unfold bX1_sweep_57
    rw [f93_8, F_sA, e8, ob_n, if_pos (Or.inl (by rw [show n - 1 + 1 = n by omega]; exact nlr (by omega)))]
theorem rs_12 {f : Nat → Int32} {s : e_S} {g : ps_G} {k : Nat} (hk : k < 20) : q_aI (e_g (sA s 162 f) g) 159 (Int32.ofNat k) = some (s.2.1 159 k) ∧ q_aI (e_g (sA s 162 f) g) 160 (Int32.ofNat k) = some (s.2.1 160 k) ∧ q_aI (e_g (sA s 162 f) g) 161 (Int32.ofNat k) = some (s.2.1 161 k) := by
  have hk : k < 40 := by omega
  rw [a159, a160, a161, n_idx (by omega), if_neg (n_in2 hk (by decide)), if_neg (n_in2 hk (by decide)), if_neg (n_in2 hk (by decide)), A_sA, if_neg (by decide), A_sA, if_neg (by decide), A_sA, if_neg (by decide)]
  exact ⟨rfl, rfl, rfl⟩
theorem dabsl12 {D : Int32 → Int32 → Int32 → (Nat → Int32) → (Nat → Int32)} {s : e_S} {g : ps_G} {X Y P f0 : Nat → Int32} {sp : Int32} {m n : Nat} (hm : 65536 ≤ m) (hn : n ≤ 20) (hn1 : 1 ≤ n) (hs : 2 ≤ sp.toInt ∧ sp.toInt ≤ 64) (hp : PtO X Y P n) (h0 : Gd f0) (hG : ∀ a b p f, rg p 0 255 → Gd f → Gd (D a b p f)) (eX : ∀ k, k < n → s.2.1 159 k = X k) (eY : ∀ k, k < n → s.2.1 160 k = Y k) (eP : ∀ k, k < n → s.2.1 161 k = P k) (e3 : s.1 139 38 = sp) (e8 : s.1 139 43 = Int32.ofNat n) (hD : ∀ a b p f, fX12_dab (e_g (sA s 162 f) g) 139 a b p = some (e_g (sA s 162 (D a b p f)) g)) : q_lp (fun t => bX12_dabs_48 139 t.1 t.2.1 t.2.2) ((0 : Int32), (1 : Int32), e_g (sA s 162 (D (X 0) (Y 0) (P 0) f0)) g) = some (e_g (sA s 162 (swN D X Y P sp m f0 (n - 1)).2) g) := by
  have si := sw_i hG hm hs hp h0
  refine lp_0 (fun j => ((swN D X Y P sp m f0 j).1, Int32.ofNat (j + 1), e_g (sA s 162 (swN D X Y P sp m f0 j).2) g)) (n - 1) rfl (fun j hj => ?_) ?_
  · obtain ⟨a1, a2, a3⟩ := si j (by omega)
    have hl := ln_i (X := X) (Y := Y) (j := j)
    have e1 : (sp - (swN D X Y P sp m f0 j).1).toInt = sp.toInt - (swN D X Y P sp m f0 j).1.toInt := i_sub (by omega) (by omega)
    obtain ⟨la, lp, le⟩ := al_12 (s := s) (g := g) (i := j) (rs := (swN D X Y P sp m f0 j).1) (dx := X (j + 1) - X j) (dy := Y (j + 1) - Y j) (l := lnV X Y j) (show j + 1 < 20 by omega) (eX j (by omega)) (eY j (by omega)) (eP j (by omega)) (eP (j + 1) (by omega)) e3 hD hl hs m (sp - (swN D X Y P sp m f0 j).1) (-1) (swN D X Y P sp m f0 j).2 (by omega) (by omega) (by omega)
    have hl1 : (if (0 : Int32) ≤ -1 then lnV X Y j - -1 else (swN D X Y P sp m f0 j).1 + lnV X Y j) = (swN D X Y P sp m f0 j).1 + lnV X Y j := if_neg (by decide)
    rw [hl1] at lp le
    have im : Int32.ofNat (j + 1) - 1 = Int32.ofNat j := by rw [← n_suc, Int32.add_sub_cancel]
    obtain ⟨q1, q2, q3⟩ := rs_12 (f := (swN D X Y P sp m f0 j).2) (s := s) (g := g) (show j < 20 by omega)
    obtain ⟨p1, p2, p3⟩ := rs_12 (f := (swN D X Y P sp m f0 j).2) (s := s) (g := g) (show j + 1 < 20 by omega)
    rw [eX _ (by omega)] at q1 p1
    rw [eY _ (by omega)] at q2 p2
    have es : swN D X Y P sp m f0 (j + 1) = alN D (X j) (Y j) (P j) (P (j + 1)) (X (j + 1) - X j) (Y (j + 1) - Y j) (lnV X Y j) sp m (sp - (swN D X Y P sp m f0 j).1) ((swN D X Y P sp m f0 j).1 + lnV X Y j) (swN D X Y P sp m f0 j).2 := rfl
    show bX12_dabs_48 _ _ _ _ = _
    unfold bX12_dabs_48
    dsimp only
    rw [f139_43, F_sA, e8, ob_n, if_neg (nle (show j + 1 < n by omega) (by omega)), f139_44, ob_n, ob_n, p1, ob_n, ob_n, ob_n, im, q1, ob_n, f139_45, ob_n, ob_n, p2, ob_n, ob_n, ob_n, q2, ob_n, root12, ob_n, f139_38, F_sA, e3, ob_n, n_suc]
    show Option.bind (q_lp (fun t => bX12_dabs_114 139 (swN D X Y P sp m f0 j).1 (Int32.ofNat (j + 1)) (X (j + 1) - X j) (Y (j + 1) - Y j) (lnV X Y j) t.1 t.2.1 t.2.2) ((-1 : Int32), sp - (swN D X Y P sp m f0 j).1, e_g (sA s 162 (swN D X Y P sp m f0 j).2) g)) _ = _
    rw [lp, ob_n, es, ← le]
    rfl
  · show bX12_dabs_48 _ _ _ _ = _
    unfold bX12_dabs_48
    rw [f139_43, F_sA, e8, ob_n, if_pos (by rw [show n - 1 + 1 = n by omega]; exact nlr (by omega))]
