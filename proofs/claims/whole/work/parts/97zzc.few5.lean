-- needs: 97zzb
theorem vl_r {k : Nat} {x : Int32} : 0 ≤ (vl k x).toInt ∧ (vl k x).toInt ≤ 255 := and_255
theorem lo_all {R : Nat → Int32} {k f : Nat} {v : Int32} (hv : 0 ≤ v.toInt ∧ v.toInt ≤ 255) : ∀ n, (∀ i, i < n + 1 → vl k (R (f + i)) = v) → loN R k f (n + 1) = v ∧ hiN R k f (n + 1) = v := by
  intro n
  induction n with
  | zero =>
    intro h
    have e := h 0 (by omega)
    have e0 : (0 : Int32).toInt = 0 := by decide
    have e5 : (255 : Int32).toInt = 255 := by decide
    constructor
    · show fJ9_min_7cf53 255 (vl k (R (f + 0))) = v
      rw [e, i_eq, mn_i, e5]; split <;> omega
    · show fJ9_max_7cf53 0 (vl k (R (f + 0))) = v
      rw [e, i_eq, mx_i, e0]; split <;> omega
  | succ n ih =>
    intro h
    obtain ⟨a, b⟩ := ih (fun i hi => h i (by omega))
    have e := h (n + 1) (by omega)
    constructor
    · show fJ9_min_7cf53 (loN R k f (n + 1)) (vl k (R (f + (n + 1)))) = v
      rw [e, a, i_eq, mn_i]; split <;> omega
    · show fJ9_max_7cf53 (hiN R k f (n + 1)) (vl k (R (f + (n + 1)))) = v
      rw [e, b, i_eq, mx_i]; split <;> omega
theorem sd_pos {R : Nat → Int32} {k f m : Nat} (hm : 1 ≤ m) (h : 0 < sdV R k f m) : ∃ i, i < m ∧ ¬ vl k (R (f + i)) = vl k (R f) := by
  refine Classical.byContradiction fun z => ?_
  have hv : ∀ i, i < m → vl k (R (f + i)) = vl k (R f) := fun i hi => Classical.byContradiction fun q => z ⟨i, hi, q⟩
  obtain ⟨n, rfl⟩ : ∃ n, m = n + 1 := ⟨m - 1, by omega⟩
  obtain ⟨a, b⟩ := lo_all (vl_r (k := k) (x := R f)) n hv
  unfold sdV at h
  rw [a, b, Int32.sub_self] at h
  exact absurd h (by decide)
theorem so_df {R : Nat → Int32} {k fr m : Nat} (hm : 1 ≤ m) (h : 0 < sdV R k fr m) : Df (soN k fr R (m - 1)) k fr m := by
  obtain ⟨i, h1, h2⟩ := sd_pos hm h
  obtain ⟨a, a1, a2⟩ := so_h (k := k) (fr := fr) (m := m) (R := R) (x := R (fr + i)) ⟨i, h1, rfl⟩ (m - 1) (by omega)
  obtain ⟨b, b1, b2⟩ := so_h (k := k) (fr := fr) (m := m) (R := R) (x := R fr) ⟨0, hm, rfl⟩ (m - 1) (by omega)
  unfold Df
  generalize soN k fr R (m - 1) = R' at *
  have ee : fr + (m - 1) = fr + m - 1 := by omega
  by_cases q : vl k (R' (fr + a)) = vl k (R' (fr + m - 1))
  · refine ⟨b, ?_, fun z => h2 ?_⟩
    · have : ¬ b = m - 1 := fun z => h2 (by rw [← a2, ← b2, q, z, ee])
      omega
    · rw [← a2, ← b2, q, z]
  · refine ⟨a, ?_, q⟩
    have : ¬ a = m - 1 := fun z => q (by rw [z, ee])
    omega
/-- what the widest is -/
def WdO (D : Nat → Nat → Int32) (n : Nat) (t : Int32 × Int32 × Int32) : Prop := (t = (-1, 0, 0)) ∨ ∃ b k, b < n ∧ k < 3 ∧ t = (Int32.ofNat b, Int32.ofNat k, D b k) ∧ 0 < D b k
theorem wd_1 {D : Nat → Nat → Int32} {n b k : Nat} {t : Int32 × Int32 × Int32} (h : WdO D n t) (hb : b < n) (hk : k < 3) : WdO D n (w1 (D b k) (Int32.ofNat b) (Int32.ofNat k) t) := by
  unfold w1
  by_cases q : t.2.2 < D b k
  · rw [if_pos q]
    refine Or.inr ⟨b, k, hb, hk, rfl, ?_⟩
    rcases h with h | ⟨b', k', _, _, h, h'⟩
    · rw [h] at q; exact q
    · rw [h] at q
      rw [i_lt] at q h' ⊢
      have q' : (D b' k').toInt < (D b k).toInt := q
      omega
  · rw [if_neg q]; exact h
theorem wd_m {D : Nat → Nat → Int32} {n n' : Nat} {t : Int32 × Int32 × Int32} (h : WdO D n t) (hn : n ≤ n') : WdO D n' t := by
  rcases h with h | ⟨b, k, h1, h2⟩
  · exact Or.inl h
  · exact Or.inr ⟨b, k, by omega, h2⟩
theorem wb_o {D : Nat → Nat → Int32} : ∀ n, WdO D n (wb D n) := by
  intro n
  induction n with
  | zero => exact Or.inl rfl
  | succ n ih =>
    have h0 := wd_m ih (Nat.le_succ n)
    have h1 := wd_1 h0 (show n < n + 1 by omega) (show 0 < 3 by omega)
    have h2 := wd_1 h1 (show n < n + 1 by omega) (show 1 < 3 by omega)
    exact wd_1 h2 (show n < n + 1 by omega) (show 2 < 3 by omega)
theorem wk_c {D D' : Nat → Nat → Int32} {b : Nat} {t : Int32 × Int32 × Int32} (e : ∀ k, D b k = D' b k) : ∀ k, wk D b t k = wk D' b t k := by
  intro k
  induction k with
  | zero => rfl
  | succ k ih =>
    show w1 _ _ _ _ = w1 _ _ _ _
    rw [ih, e]
theorem wb_c {D D' : Nat → Nat → Int32} : ∀ n, (∀ b, b < n → ∀ k, D b k = D' b k) → wb D n = wb D' n := by
  intro n
  induction n with
  | zero => exact fun _ => rfl
  | succ n ih =>
    intro e
    show wk D n (wb D n) 3 = wk D' n (wb D' n) 3
    rw [ih (fun b hb => e b (by omega)), wk_c (e n (by omega))]
theorem lo_c {R R' : Nat → Int32} {k f al : Nat} (h : Al al R R') : ∀ n, f + n ≤ al → loN R k f n = loN R' k f n ∧ hiN R k f n = hiN R' k f n := by
  intro n
  induction n with
  | zero => exact fun _ => ⟨rfl, rfl⟩
  | succ n ih =>
    intro hn
    obtain ⟨a, b⟩ := ih (by omega)
    have e := h (f + n) (by omega)
    constructor
    · show fJ9_min_7cf53 (loN R k f n) (vl k (R (f + n))) = fJ9_min_7cf53 (loN R' k f n) (vl k (R' (f + n)))
      rw [a, e]
    · show fJ9_max_7cf53 (hiN R k f n) (vl k (R (f + n))) = fJ9_max_7cf53 (hiN R' k f n) (vl k (R' (f + n)))
      rw [b, e]
theorem up_c {R R' : Nat → Int32} {k fr al : Nat} (e : Al al R R') : ∀ d h, fr + h + d ≤ al → upN R k fr d h = upN R' k fr d h := by
  intro d
  induction d with
  | zero => exact fun _ _ => rfl
  | succ d ih =>
    intro h hd
    show (if vl k (R (fr + h)) = vl k (R (fr + h - 1)) then upN R k fr d (h + 1) else h) = (if vl k (R' (fr + h)) = vl k (R' (fr + h - 1)) then upN R' k fr d (h + 1) else h)
    rw [e (fr + h) (by omega), e (fr + h - 1) (by omega), ih (h + 1) (by omega)]
theorem dn_c {R R' : Nat → Int32} {k fr al : Nat} {v : Int32} (e : Al al R R') : ∀ h, fr + h ≤ al → dnN R k fr v h = dnN R' k fr v h := by
  intro h
  induction h with
  | zero => exact fun _ => rfl
  | succ h ih =>
    intro hd
    show (if vl k (R (fr + h)) = v then dnN R k fr v h else h + 1) = (if vl k (R' (fr + h)) = v then dnN R' k fr v h else h + 1)
    rw [e (fr + h) (by omega), ih (by omega)]
theorem ct_c {R R' : Nat → Int32} {k fr m al : Nat} (e : Al al R R') (hm : fr + m ≤ al) (h1 : 1 ≤ m) : ctV R k fr m = ctV R' k fr m := by
  unfold ctV
  rw [up_c e _ _ (by omega), dn_c e _ (by omega), e (fr + m - 1) (by omega)]
/-- the boxes after a cut -/
def frC (Fr : Nat → Nat) (n b h : Nat) : Nat → Nat := fun x => if x = n then Fr b + h else Fr x
def mnC (Mn : Nat → Nat) (n b h : Nat) : Nat → Nat := fun x => if x = n then Mn b - h else if x = b then h else Mn x
theorem cut12 {s : e_S} {g : ps_G} {n al b k : Nat} {Fr Mn : Nat → Nat} (hn : n < 16) (hB : BxO (s.2.1 176) (s.2.1 177) n al Fr Mn) (hS : Sh (s.2.1 175) al) (hb : b < n) (hk : k < 3) (ht : (wb (fun b k => sdV (s.2.1 175) k (Fr b) (Mn b)) n).1 = Int32.ofNat b) (ht2 : (wb (fun b k => sdV (s.2.1 175) k (Fr b) (Mn b)) n).2.1 = Int32.ofNat k) (hp : 0 < sdV (s.2.1 175) k (Fr b) (Mn b)) : ∃ A M, fX12_cutBox (e_g s g) 139 (Int32.ofNat n) = some (1, e_g (sA (sA (sA s 175 (soN k (Fr b) (s.2.1 175) (Mn b - 1))) 176 A) 177 M) g) ∧ BxO A M (n + 1) al (frC Fr n b (ctV (soN k (Fr b) (s.2.1 175) (Mn b - 1)) k (Fr b) (Mn b))) (mnC Mn n b (ctV (soN k (Fr b) (s.2.1 175) (Mn b - 1)) k (Fr b) (Mn b))) := by
  have wd := widest12 (s := s) (g := g) hB
  have so := sort12 (s := s) (g := g) hB hS hb hk
  obtain ⟨h1, h2, h3⟩ := id hB
  obtain ⟨c1, c2, c3, c4⟩ := h3 b hb
  have df := so_df c4 hp
  have hc := ct_i df
  generalize hR : soN k (Fr b) (s.2.1 175) (Mn b - 1) = R at *
  have rf : q_aI (e_g (sA s 175 R) g) 176 (Int32.ofNat b) = some (Int32.ofNat (Fr b)) := by
    rw [a176, n_idx (by omega), if_neg (n_in2 (show b < 16 by omega) (by decide)), A_sA, if_neg (by decide), c1]
  have rm : q_aI (e_g (sA s 175 R) g) 177 (Int32.ofNat b) = some (Int32.ofNat (Mn b)) := by
    rw [a177, n_idx (by omega), if_neg (n_in2 (show b < 16 by omega) (by decide)), A_sA, if_neg (by decide), c2]
  have d2 : Int32.ofNat (Mn b) / 2 = Int32.ofNat (Mn b / 2) := n_div (b := 2) (by omega) (by omega)
  have m2 : 2 ≤ Mn b := by omega
  have up := up12 (s := sA s 175 R) (g := g) (k := k) (fr := Fr b) (m := Mn b) (x1 := Int32.ofNat n) (x2 := Int32.ofNat b) hk (by omega) (Mn b - Mn b / 2) (Mn b / 2) (by omega) (by omega)
  rw [A_sA, if_pos rfl] at up
  have u := up_i (R := R) (k := k) (fr := Fr b) (Mn b - Mn b / 2) (Mn b / 2)
  refine ⟨upd (s.2.1 176) n (Int32.ofNat (Fr b + ctV R k (Fr b) (Mn b))), upd (upd (s.2.1 177) b (Int32.ofNat (ctV R k (Fr b) (Mn b)))) n (Int32.ofNat (Mn b - ctV R k (Fr b) (Mn b))), ?_, ?_⟩
  · have em : Int32.ofNat (Mn b) - Int32.ofNat (ctV R k (Fr b) (Mn b)) = Int32.ofNat (Mn b - ctV R k (Fr b) (Mn b)) := by
      refine n_of ?_
      rw [i_sub (by rw [n_int (by omega), n_int (by omega)]; omega) (by rw [n_int (by omega), n_int (by omega)]; omega), n_int (by omega), n_int (by omega)]
      omega
    have jn : jX12_cutBox_196 (e_g (sA s 175 R) g) 139 (Int32.ofNat n) (Int32.ofNat b) (Int32.ofNat (Fr b)) (Int32.ofNat (Mn b)) (Int32.ofNat (ctV R k (Fr b) (Mn b))) = some (1, e_g (sA (sA (sA s 175 R) 176 (upd (s.2.1 176) n (Int32.ofNat (Fr b + ctV R k (Fr b) (Mn b))))) 177 (upd (upd (s.2.1 177) b (Int32.ofNat (ctV R k (Fr b) (Mn b)))) n (Int32.ofNat (Mn b - ctV R k (Fr b) (Mn b))))) g) := by
      unfold jX12_cutBox_196
      rw [f139_63, ob_n, ob_n, u177, n_idx (by omega), if_neg (n_in2 (show b < 16 by omega) (by decide)), ob_n, f139_62, ob_n, ob_n, n_add, u176, n_idx (by omega), if_neg (n_in2 hn (by decide)), ob_n, f139_63, ob_n, ob_n, em, u177, n_idx (by omega), if_neg (n_in2 hn (by decide)), ob_n]
      simp (decide := true) only [A_sA, reduceIte]
      rw [sA_cm (show ¬ 177 = 176 by decide), sA_sA]
    unfold fX12_cutBox jX12_cutBox_147
    rw [wd, ob_n]
    dsimp only
    rw [ht, ht2, if_pos (show (0 : Int32) ≤ Int32.ofNat b from (n_le (n := 0) (by omega) (by omega)).mpr (by omega)), ob139, ob_n, so, ob_n, f139_62, ob_n, ob_n, rf, ob_n, f139_63, ob_n, ob_n, rm, ob_n, d2, up, ob_n]
    by_cases q : upN R k (Fr b) (Mn b - Mn b / 2) (Mn b / 2) < Mn b
    · have ec : ctV R k (Fr b) (Mn b) = upN R k (Fr b) (Mn b - Mn b / 2) (Mn b / 2) := if_pos q
      have c : ¬ Int32.ofNat (upN R k (Fr b) (Mn b - Mn b / 2) (Mn b / 2)) = Int32.ofNat (Mn b) := fun z => by
        have := (n_eq (by omega) (by omega)).mp z
        omega
      rw [if_pos c, ← ec, jn]
    · have ec : ctV R k (Fr b) (Mn b) = dnN R k (Fr b) (vl k (R (Fr b + Mn b - 1))) (Mn b - 1) := if_neg q
      have eu : upN R k (Fr b) (Mn b - Mn b / 2) (Mn b / 2) = Mn b := by omega
      have e1 : Int32.ofNat (Mn b) + -1 = Int32.ofNat (Mn b - 1) := by
        have := (pm1 (p := Mn b - 1)).2
        rw [show Mn b - 1 + 1 = Mn b by omega] at this
        exact this
      have dn := dn12 (s := sA s 175 R) (g := g) (k := k) (fr := Fr b) (m := Mn b) (x1 := Int32.ofNat n) (x2 := Int32.ofNat b) (v := vl k (R (Fr b + Mn b - 1))) hk (by omega) (Mn b - 1) (by omega) (by rw [A_sA, if_pos rfl, show Fr b + (Mn b - 1) = Fr b + Mn b - 1 by omega]) (by rw [A_sA, if_pos rfl]; exact df)
      rw [A_sA, if_pos rfl] at dn
      rw [eu, if_neg (fun z => z rfl), e1, dn, ob_n, ← ec, jn]
  · refine ⟨h1, by omega, fun x hx => ?_⟩
    unfold frC mnC
    by_cases q1 : x = n
    · subst q1
      rw [upd_s, upd_s, if_pos rfl, if_pos rfl]
      exact ⟨rfl, rfl, by omega, by omega⟩
    · rw [upd_n q1, upd_n q1, if_neg q1, if_neg q1]
      obtain ⟨x1, x2, x3, x4⟩ := h3 x (by omega)
      by_cases q2 : x = b
      · subst q2
        rw [upd_s, if_pos rfl]
        exact ⟨x1, rfl, by omega, by omega⟩
      · rw [upd_n q2, if_neg q2]
        exact ⟨x1, x2, x3, x4⟩
