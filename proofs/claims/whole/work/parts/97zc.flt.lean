-- needs: 97zb
/-! ===== what a PATH covers ===== -/
def lnA (l : List Int32) : Nat → Int32 := fun k => l.getD k 0
theorem lw_lt {f : Nat → Int32} {l : List Int32} {k : Nat} (h : k < l.length) : lw f l k = lnA l k := by
  unfold lw lnA
  rw [List.getD_eq_getElem?_getD, List.getD_eq_getElem?_getD, List.getElem?_eq_getElem h]
  rfl
theorem lnA_m {l : List Int32} {k : Nat} (h : k < l.length) : lnA l k ∈ l := by
  unfold lnA
  rw [List.getD_eq_getElem?_getD, List.getElem?_eq_getElem h]
  exact List.getElem_mem h
theorem tnS_c {A B C D A' B' C' D' : Nat → Int32} {x y : Int} : ∀ n, (∀ k, k < n → A k = A' k ∧ B k = B' k ∧ C k = C' k ∧ D k = D' k) → tnS A B C D x y n = tnS A' B' C' D' x y n
  | 0, _ => rfl
  | n + 1, h => by
    obtain ⟨h1, h2, h3, h4⟩ := h n (by omega)
    show tnS A B C D x y n + tcV (A n) (B n) (C n) (D n) x y = tnS A' B' C' D' x y n + tcV (A' n) (B' n) (C' n) (D' n) x y
    rw [tnS_c n (fun k hk => h k (by omega)), h1, h2, h3, h4]
theorem inV_c {A B C D A' B' C' D' : Nat → Int32} {n : Nat} {rule : Int32} (h : ∀ k, k < n → A k = A' k ∧ B k = B' k ∧ C k = C' k ∧ D k = D' k) : inV rule A B C D n = inV rule A' B' C' D' n := by
  funext r i
  unfold inV
  rw [tnS_c n h]
def inT (rule : Int32) (t : TrS) : Nat → Nat → Bool := inV rule (lnA t.ax) (lnA t.ay) (lnA t.ex) (lnA t.ey) t.ax.length
def cvT (rule : Int32) (t : TrS) (w k : Nat) : Int32 := (255 * Int32.ofNat (psV (inT rule t) (k / w) (k % w) 4) + 8) / 16
theorem cvT_r {rule : Int32} {t : TrS} {w k : Nat} : rg (cvT rule t w k) 0 255 := by
  have h := psV_l (b := inT rule t) (y := k / w) (x := k % w) 4
  unfold cvT
  generalize psV (inT rule t) (k / w) (k % w) 4 = m at h
  have : ∀ m : Fin 17, rg ((255 * Int32.ofNat m.1 + 8) / 16) 0 255 = true := by decide +kernel
  exact this ⟨m, by omega⟩
/-! ===== numbers of a line stay small ===== -/
theorem mulc {v : Int32} {c m : Nat} (hv : v.toInt.natAbs ≤ m) (hm : m ≤ 10000000) (hc : c ≤ 8) : (v * Int32.ofNat c).toInt = v.toInt * c ∧ (v.toInt * c).natAbs ≤ m * 8 := by
  have p := pbd (u := v.toInt) (v := (c : Int)) (a := m) (b := 8) hv (by omega)
  have e := n_int (n := c) (by omega)
  refine ⟨?_, p⟩
  rw [i_mul (by rw [e]; omega) (by rw [e]; omega), e]
theorem bz_b {p q e : Int32} {j : Nat} (hp : Bd p) (hq : Bd q) (he : Bd e) (h1 : 1 ≤ j) (h8 : j ≤ 8) : Bd (bzP p q e (Int32.ofNat j)) := by
  unfold Bd at hp hq he ⊢
  unfold bzP
  have e8 : (8 : Int32) - Int32.ofNat j = Int32.ofNat (8 - j) := n_sub (a := 8) h8 (by omega)
  have e2 : (2 : Int32).toInt = 2 := by decide
  have q2 : (2 * q).toInt = 2 * q.toInt := by rw [i_mul (by rw [e2]; omega) (by rw [e2]; omega), e2]
  rw [e8]
  obtain ⟨a1, a2⟩ := mulc (v := p) (c := 8 - j) (m := 40000) hp (by omega) (by omega)
  obtain ⟨a3, a4⟩ := mulc (v := p * Int32.ofNat (8 - j)) (c := 8 - j) (m := 320000) (by rw [a1]; omega) (by omega) (by omega)
  obtain ⟨b1, b2⟩ := mulc (v := 2 * q) (c := j) (m := 80000) (by rw [q2]; omega) (by omega) (by omega)
  obtain ⟨b3, b4⟩ := mulc (v := 2 * q * Int32.ofNat j) (c := 8 - j) (m := 640000) (by rw [b1]; omega) (by omega) (by omega)
  obtain ⟨c1, c2⟩ := mulc (v := e) (c := j) (m := 40000) he (by omega) (by omega)
  obtain ⟨c3, c4⟩ := mulc (v := e * Int32.ofNat j) (c := j) (m := 320000) (by rw [c1]; omega) (by omega) (by omega)
  have s1 := i_add (a := p * Int32.ofNat (8 - j) * Int32.ofNat (8 - j)) (b := 2 * q * Int32.ofNat j * Int32.ofNat (8 - j)) (by rw [a3, b3]; omega) (by rw [a3, b3]; omega)
  have s2 := i_add (a := p * Int32.ofNat (8 - j) * Int32.ofNat (8 - j) + 2 * q * Int32.ofNat j * Int32.ofNat (8 - j)) (b := e * Int32.ofNat j * Int32.ofNat j) (by rw [s1, a3, b3, c3]; omega) (by rw [s1, a3, b3, c3]; omega)
  rw [shr_k (n := 6) (by decide), s2, s1, a3, b3, c3, a1, b1, c1, q2]
  have : j = 1 ∨ j = 2 ∨ j = 3 ∨ j = 4 ∨ j = 5 ∨ j = 6 ∨ j = 7 ∨ j = 8 := by omega
  rcases this with rfl | rfl | rfl | rfl | rfl | rfl | rfl | rfl <;> omega
def TrS.bd (t : TrS) : Prop := Bd t.bx ∧ Bd t.by' ∧ Bd t.px ∧ Bd t.py ∧ (∀ v, v ∈ t.ax → Bd v) ∧ (∀ v, v ∈ t.ay → Bd v) ∧ (∀ v, v ∈ t.ex → Bd v) ∧ ∀ v, v ∈ t.ey → Bd v
theorem bd_ap {l : List Int32} {x : Int32} (h : ∀ v, v ∈ l → Bd v) (hx : Bd x) : ∀ v, v ∈ l ++ [x] → Bd v := fun v hv => by
  rcases List.mem_append.mp hv with z | z
  · exact h v z
  · rw [List.mem_singleton.mp z]; exact hx
theorem TrS.bd_to {t : TrS} {x y : Int32} (h : t.bd) (hx : Bd x) (hy : Bd y) : (t.to x y).bd := by
  obtain ⟨h1, h2, h3, h4, h5, h6, h7, h8⟩ := h
  exact ⟨h1, h2, hx, hy, bd_ap h5 h3, bd_ap h6 h4, bd_ap h7 hx, bd_ap h8 hy⟩
theorem TrS.bd_at {t : TrS} {x y : Int32} (h : t.bd) (hx : Bd x) (hy : Bd y) : (t.at x y).bd := by
  obtain ⟨h1, h2, h3, h4, h5⟩ := h
  exact ⟨hx, hy, hx, hy, h5⟩
theorem TrS.bd_cv {t : TrS} {qx qy ex ey : Int32} (h : t.bd) (a : Bd qx) (b : Bd qy) (c : Bd ex) (d : Bd ey) : ∀ j, j ≤ 8 → (t.cv qx qy ex ey j).bd
  | 0, _ => h
  | j + 1, hj => TrS.bd_to (TrS.bd_cv h a b c d j (by omega)) (bz_b h.2.2.1 a c (by omega) hj) (bz_b h.2.2.2.1 b d (by omega) hj)
theorem trG_bd {K X Y : Nat → Int32} {dx dy : Int32} {n : Nat} (hX : ∀ i, i < n → Bd (X i + dx)) (hY : ∀ i, i < n → Bd (Y i + dy)) : ∀ m i t, t.bd → (trG K X Y dx dy n m i t).bd
  | 0, i, t, h => h
  | m + 1, i, t, h => by
    unfold trG
    by_cases q0 : n ≤ i
    · rw [if_pos q0]; exact h
    · rw [if_neg q0]
      by_cases q1 : i = 0 ∨ K i = 0
      · rw [if_pos q1]
        refine trG_bd hX hY m (i + 1) _ (TrS.bd_at ?_ (hX i (by omega)) (hY i (by omega)))
        by_cases z : i = 0
        · rw [if_pos z]; exact h
        · rw [if_neg z]; exact TrS.bd_to h h.1 h.2.1
      · rw [if_neg q1]
        by_cases q2 : K i = 2
        · rw [if_pos q2]
          by_cases q3 : n ≤ i + 1
          · rw [if_pos q3]; exact h
          · rw [if_neg q3]
            exact trG_bd hX hY m (i + 2) _ (TrS.bd_cv h (hX i (by omega)) (hY i (by omega)) (hX (i + 1) (by omega)) (hY (i + 1) (by omega)) 8 (by omega))
        · rw [if_neg q2]
          exact trG_bd hX hY m (i + 1) _ (TrS.bd_to h (hX i (by omega)) (hY i (by omega)))
/-- the lines of a PATH, as the reference has them -/
def lnT (K X Y : Nat → Int32) (dx dy : Int32) (n : Nat) : TrS := trE n (trG K X Y dx dy n 41 0 (tS 0 0 0 0 [] [] [] []))
theorem lnT_ok {K X Y : Nat → Int32} {dx dy : Int32} {n : Nat} (hn : n ≤ 40) (hX : ∀ i, i < n → Bd (X i + dx)) (hY : ∀ i, i < n → Bd (Y i + dy)) : (lnT K X Y dx dy n).ok ∧ (lnT K X Y dx dy n).ax.length ≤ 330 ∧ (lnT K X Y dx dy n).bd := by
  have z : Bd 0 := by unfold Bd; decide
  have e : ∀ v : Int32, v ∈ ([] : List Int32) → Bd v := fun v hv => by cases hv
  obtain ⟨j, j1, j2, j3⟩ := trG_sm (K := K) (X := X) (Y := Y) (dx := dx) (dy := dy) hn 41 0 (tS 0 0 0 0 [] [] [] []) ⟨⟨rfl, rfl, rfl⟩, Nat.le_refl 0⟩ (by omega)
  have b := trG_bd (K := K) hX hY 41 0 (tS 0 0 0 0 [] [] [] []) ⟨z, z, z, z, e, e, e, e⟩
  unfold lnT trE
  by_cases q : n = 0
  · rw [if_pos q]; exact ⟨j2, by omega, b⟩
  · rw [if_neg q]
    have := TrS.ok_to (x := (trG K X Y dx dy n 41 0 (tS 0 0 0 0 [] [] [] [])).bx) (y := (trG K X Y dx dy n 41 0 (tS 0 0 0 0 [] [] [] [])).by') j2
    exact ⟨this.1, by omega, TrS.bd_to b b.1 b.2.1⟩
theorem ln_bd {t : TrS} (ho : t.ok) (hb : t.bd) : ∀ k, k < t.ax.length → Bd (lnA t.ax k) ∧ Bd (lnA t.ay k) ∧ Bd (lnA t.ex k) ∧ Bd (lnA t.ey k) := fun k hk => by
  obtain ⟨h1, h2, h3⟩ := ho
  obtain ⟨-, -, -, -, b1, b2, b3, b4⟩ := hb
  exact ⟨b1 _ (lnA_m hk), b2 _ (lnA_m (by omega)), b3 _ (lnA_m (by omega)), b4 _ (lnA_m (by omega))⟩
theorem lw_all {t : TrS} {f1 f2 f3 f4 : Nat → Int32} (ho : t.ok) : ∀ k, k < t.ax.length → lw f1 t.ax k = lnA t.ax k ∧ lw f2 t.ay k = lnA t.ay k ∧ lw f3 t.ex k = lnA t.ex k ∧ lw f4 t.ey k = lnA t.ey k := fun k hk => by
  obtain ⟨h1, h2, h3⟩ := ho
  exact ⟨lw_lt hk, lw_lt (by omega), lw_lt (by omega), lw_lt (by omega)⟩
/-- the reference's shape -/
theorem shape12 {s : e_S} {g : ps_G} {p n w h : Nat} {rule dx dy : Int32} {K X Y : Nat → Int32} (hp : p < 8) (hn : n ≤ 40) (hw : w ≤ 24) (hh : h ≤ 24) (e13 : s.1 139 13 = Int32.ofNat w) (e14 : s.1 139 14 = Int32.ofNat h) (e163 : s.2.1 163 p = Int32.ofNat n) (eK : ∀ i, i < n → s.2.1 164 (40 * p + i) = K i) (rK : ∀ i, i < n → rg (K i) 0 2) (eX : ∀ i, i < n → s.2.1 165 (40 * p + i) = X i) (eY : ∀ i, i < n → s.2.1 166 (40 * p + i) = Y i) (hX : ∀ i, i < n → Bd (X i + dx)) (hY : ∀ i, i < n → Bd (Y i + dy)) : ∃ F, fX12_shapeOfPath (e_g s g) 139 (Int32.ofNat p) rule dx dy = some (e_g (sA (tM s (lnT K X Y dx dy n)) 156 F) g) ∧ ∀ k, k < w * h → F k = cvT rule (lnT K X Y dx dy n) w k := by
  have ln : fX12_linesOf (e_g s g) 139 (Int32.ofNat p) dx dy = some (e_g (tM s (lnT K X Y dx dy n)) g) := lines12 (s := s) (g := g) (dx := dx) (dy := dy) hp hn e163 eK rK eX eY
  obtain ⟨ok, le, bd⟩ := lnT_ok (K := K) (n := n) hn hX hY
  generalize lnT K X Y dx dy n = t at ln ok le bd
  have la := lw_all (f1 := s.2.1 167) (f2 := s.2.1 168) (f3 := s.2.1 169) (f4 := s.2.1 170) ok
  have lb := ln_bd ok bd
  have sh := sh12 (s := tM s t) (g := g) (n := t.ax.length) (w := w) (h := h) (rule := rule) (by omega) hw hh (by unfold tM; simp (decide := true) only [ob_n, b2_n, tc_rn, tc_ln, F_sF, A_sF, R_sF, L_sF, F_sA, A_sA, R_sA, L_sA, F_sR, A_sR, R_sR, L_sR, F_sL, A_sL, R_sL, L_sL, and_true, true_and, and_false, false_and, and_self, reduceIte, sF_sF, sA_sA, false_or, or_false, true_or, or_true, not_false_eq_true, not_true_eq_false, decide_true, decide_false, Bool.true_or, Bool.or_true, Bool.false_and, Bool.true_and, Bool.false_or, Bool.or_false, Bool.and_true, Bool.and_false]; exact e13) (by unfold tM; simp (decide := true) only [ob_n, b2_n, tc_rn, tc_ln, F_sF, A_sF, R_sF, L_sF, F_sA, A_sA, R_sA, L_sA, F_sR, A_sR, R_sR, L_sR, F_sL, A_sL, R_sL, L_sL, and_true, true_and, and_false, false_and, and_self, reduceIte, sF_sF, sA_sA, false_or, or_false, true_or, or_true, not_false_eq_true, not_true_eq_false, decide_true, decide_false, Bool.true_or, Bool.or_true, Bool.false_and, Bool.true_and, Bool.false_or, Bool.or_false, Bool.and_true, Bool.and_false]; exact e14) tM_F (fun k hk => by
    rw [tM_r.1, tM_r.2.1, tM_r.2.2.1, tM_r.2.2.2, (la k hk).1, (la k hk).2.1, (la k hk).2.2.1, (la k hk).2.2.2]
    exact lb k hk)
  rw [tM_r.1, tM_r.2.1, tM_r.2.2.1, tM_r.2.2.2, inV_c la] at sh
  refine ⟨cpT ((tM s t).2.1 156) (fun k => (255 * Int32.ofNat (psV (inV rule (lnA t.ax) (lnA t.ay) (lnA t.ex) (lnA t.ey) t.ax.length) (k / w) (k % w) 4) + 8) / 16) 0 (h * w), ?_, fun k hk => ?_⟩
  rotate_left
  · have := cpT_in (A := (tM s t).2.1 156) (N := fun k => (255 * Int32.ofNat (psV (inV rule (lnA t.ax) (lnA t.ay) (lnA t.ex) (lnA t.ey) t.ax.length) (k / w) (k % w) 4) + 8) / 16) (b := 0) (n := h * w) (k := k) (by rw [Nat.mul_comm]; exact hk)
    rw [Nat.zero_add] at this
    exact this
  · unfold fX12_shapeOfPath
    rw [ob139, ob_n, ln, ob_n, sh, ob_n]
/-- one layer of colour through a cover -/
noncomputable def plV (cov A : Nat → Int32) (col dx dy : Int32) (w h : Nat) (f : Nat → Int32) (k : Nat) : Int32 := ptV 0 (f k) col (fX11_mul (cov k) (shV w h A dx dy k))
theorem fillSh12 {s : e_S} {g : ps_G} {l w h : Nat} {cov : Nat → Int32} (hw : w ≤ 24) (hh : h ≤ 24) (hw1 : 1 ≤ w) (e13 : s.1 139 13 = Int32.ofNat w) (e14 : s.1 139 14 = Int32.ofNat h) (hl : l < 30) (hA : ∀ k, k < 576 → rg (s.2.1 155 k) 0 255) (hc : ∀ k, k < w * h → s.2.1 156 k = cov k ∧ rg (cov k) 0 255) : fX12_fillShape (e_g s g) 139 (Int32.ofNat l) = some (e_g (sA s 142 (cpT (s.2.1 142) (plV cov (s.2.1 155) (s.1 139 34) (s.2.1 142 (1169 * l + 8)) (s.2.1 142 (1169 * l + 9)) w h (pxN (s.2.1 142) l)) (1169 * l + 17) (h * w))) g) := by
  have hwh := wh_le hw hh
  have lp := fill1 (fun F => e_g (sA s 142 F) g) (1169 * l + 17) w h (plV cov (s.2.1 155) (s.1 139 34) (s.2.1 142 (1169 * l + 8)) (s.2.1 142 (1169 * l + 9)) w h (pxN (s.2.1 142) l)) (s.2.1 142) (bI := fun y t => bX12_fillShape_12 139 (Int32.ofNat l) y t.1 t.2) (bO := fun t => bX12_fillShape_2 139 (Int32.ofNat l) t.1 t.2) (fun F y x hy hx hF => ?_) (fun F y hy => ?_) (fun F y hy => ?_) (fun F => ?_)
  · rw [sA_id] at lp
    unfold fX12_fillShape
    rw [lp, ob_n]
  · have hlt := at_lt hx hy
    have v8 : F (1169 * l + 8) = s.2.1 142 (1169 * l + 8) := by rw [hF, cpT_out (by omega)]
    have v9 : F (1169 * l + 9) = s.2.1 142 (1169 * l + 9) := by rw [hF, cpT_out (by omega)]
    have vp : F (1169 * l + 17 + (y * w + x)) = pxN (s.2.1 142) l (y * w + x) := by
      rw [hF, cpT_out (by omega)]
      unfold pxN
      rw [Nat.add_assoc]
    have c := hc (y * w + x) hlt
    have hr : rg (bAt w h (s.2.1 155) (Int32.ofNat x + s.2.1 142 (1169 * l + 8)) (Int32.ofNat y + s.2.1 142 (1169 * l + 9))) 0 255 = true := bAt_r (fun k hk => hA k (by omega))
    have sv := shV_n (h := h) (y := y) (A := s.2.1 155) (dx := s.2.1 142 (1169 * l + 8)) (dy := s.2.1 142 (1169 * l + 9)) hx
    have sf := shifted12 (s := sA s 142 F) (g := g) (w := w) (h := h) (l := l) (x := Int32.ofNat x) (y := Int32.ofNat y) (dx := s.2.1 142 (1169 * l + 8)) (dy := s.2.1 142 (1169 * l + 9)) hw hh (by rw [F_sA]; exact e13) (by rw [F_sA]; exact e14) hl (by rw [A_sA, if_pos rfl]; exact v8) (by rw [A_sA, if_pos rfl]; exact v9)
    rw [A_sA, if_neg (by decide)] at sf
    have po := putOver12 (s := sA s 142 F) (g := g) (l := l) (k := y * w + x) (c := s.1 139 34) (t := fX11_mul (cov (y * w + x)) (bAt w h (s.2.1 155) (Int32.ofNat x + s.2.1 142 (1169 * l + 8)) (Int32.ofNat y + s.2.1 142 (1169 * l + 9)))) hl (by omega) (mul_r c.2 hr)
    rw [A_sA, if_pos rfl, vp, sA_sA] at po
    have rc : q_aI (e_g (sA s 142 F) g) 156 (Int32.ofNat (y * w + x)) = some (cov (y * w + x)) := by
      rw [a156, n_idx (by omega), if_neg (n_in2 (show y * w + x < 576 by omega) (by decide)), A_sA, if_neg (by decide), c.1]
    have ev : plV cov (s.2.1 155) (s.1 139 34) (s.2.1 142 (1169 * l + 8)) (s.2.1 142 (1169 * l + 9)) w h (pxN (s.2.1 142) l) (y * w + x) = ptV 0 (pxN (s.2.1 142) l (y * w + x)) (s.1 139 34) (fX11_mul (cov (y * w + x)) (bAt w h (s.2.1 155) (Int32.ofNat x + s.2.1 142 (1169 * l + 8)) (Int32.ofNat y + s.2.1 142 (1169 * l + 9)))) := by
      unfold plV
      rw [sv]
    have a12 := at12n (s := sA s 142 F) (g := g) (x := x) (y := y) (by rw [F_sA]; exact e13)
    show bX12_fillShape_12 _ _ _ _ _ = _
    unfold bX12_fillShape_12
    dsimp only
    rw [f139_13, F_sA, e13, ob_n, if_neg (nle hx (by omega)), ob139, ob_n, a12, ob_n, f139_34, F_sA, ob_n, f139_32, ob_n, ob_n, ob_n, ob_n, rc, ob_n, ob_n, sf, ob_n, ob_n, mul12, po, ob_n, n_suc, ev]
  · show bX12_fillShape_12 _ _ _ _ _ = _
    unfold bX12_fillShape_12
    dsimp only
    rw [f139_13, F_sA, e13, ob_n, if_pos (nlr (by omega))]
  · show bX12_fillShape_2 _ _ _ _ = _
    unfold bX12_fillShape_2
    dsimp only
    rw [f139_14, F_sA, e14, ob_n, if_neg (nle hy (by omega))]
  · show bX12_fillShape_2 _ _ _ _ = _
    unfold bX12_fillShape_2
    dsimp only
    rw [f139_14, F_sA, e14, ob_n, if_pos (nlr (by omega))]
