-- needs: 97zzzn
/-! ===== png: codes told: the lengths of the lengths ===== -/
theorem xb_6 {i : Nat} (hi : i < 19) : tbV 6 i = Int32.ofNat (xbV 6 i) ∧ xbV 6 i < 19 := by
  have : ∀ i : Fin 19, tbV 6 i.1 = Int32.ofNat (xbV 6 i.1) ∧ xbV 6 i.1 < 19 := by decide +kernel
  exact this ⟨i, hi⟩
def clO (K : Nat → Int32) (n : Nat) : Nat → Nat → Nat → (Nat → Nat) → Option (Nat × (Nat → Nat))
  | 0, _, b, L => some (b, L)
  | m + 1, i, b, L => (rbO K n b 3).bind fun v => clO K n m (i + 1) v.2 (fun j => if j = xbV 6 i then v.1 else L j)
theorem cl_u {K : Nat → Int32} {n m i b : Nat} {L : Nat → Nat} : clO K n (m + 1) i b L = (rbO K n b 3).bind fun v => clO K n m (i + 1) v.2 (fun j => if j = xbV 6 i then v.1 else L j) := rfl
/-- rows that hold lengths -/
def Ln (B : Nat → Int32) (L : Nat → Nat) (n : Nat) : Prop := ∀ j, j < n → B j = Int32.ofNat (L j) ∧ L j < 16
def KD (s s' : e_S) : Prop := Kp [130, 131, 132, 133, 134, 135, 136] 128 [2, 3, 5] s s'
def KN (s s' : e_S) : Prop := Kp [187, 191, 192, 193] 139 [75, 87, 88] s s'
theorem kd_c {s s' : e_S} (h : KC s s') : KD s s' := kp_w h (fun j hj => by
  rw [List.contains_iff_mem] at hj ⊢
  have : ∀ j, j ∈ [130] → j ∈ [130, 131, 132, 133, 134, 135, 136] := by decide
  exact this j hj) (fun _ h => h)
theorem kd_x {s s' : e_S} (h : Kp [131, 132, 133, 134, 135, 136] 128 [] s s') : KD s s' := kp_w h (fun j hj => by
  rw [List.contains_iff_mem] at hj ⊢
  have : ∀ j, j ∈ [131, 132, 133, 134, 135, 136] → j ∈ [130, 131, 132, 133, 134, 135, 136] := by decide
  exact this j hj) (fun j hj => by cases hj)
theorem kn_m {s s' : e_S} (h : KM s s') : KN s s' := kp_w h (fun j hj => by
  rw [List.contains_iff_mem] at hj ⊢
  have : ∀ j, j ∈ [187] → j ∈ [187, 191, 192, 193] := by decide
  exact this j hj) (fun _ h => h)
theorem kn_y {s s' : e_S} (h : Kp [191, 192, 193] 139 [] s s') : KN s s' := kp_w h (fun j hj => by
  rw [List.contains_iff_mem] at hj ⊢
  have : ∀ j, j ∈ [191, 192, 193] → j ∈ [187, 191, 192, 193] := by decide
  exact this j hj) (fun j hj => by cases hj)
theorem ln_u {B : Nat → Int32} {L : Nat → Nat} {n k v : Nat} (h : Ln B L n) (hv : v < 16) : Ln (upd B k (Int32.ofNat v)) (fun j => if j = k then v else L j) n := fun j hj => by
  rw [upd_r]
  dsimp only
  by_cases q : j = k
  · rw [if_pos q, if_pos q]; exact ⟨rfl, hv⟩
  · rw [if_neg q, if_neg q]; exact h j hj
theorem clo7 {g : ps_G} {K : Nat → Int32} {n d sz told : Nat} {O : Nat → Int32} {x1 x2 : Int32} (hT : TbC g) (ht : told ≤ 19) : ∀ (m i b : Nat) (L : Nat → Nat) (s : e_S), i + m = told → GC s K n d b sz O → Ln (s.2.1 131) L 19 → ∃ s', q_lp (fun t => bX2_toldCodes_64 128 x1 x2 (Int32.ofNat told) t.1 t.2) (Int32.ofNat i, e_g s g) = some (e_g s' g) ∧ KD s s' ∧ (∀ b' L', clO K n m i b L = some (b', L') → GC s' K n d b' sz O ∧ b ≤ b' ∧ Ln (s'.2.1 131) L' 19) ∧ (clO K n m i b L = none → BC s' K n) := by
  intro m
  induction m with
  | zero =>
    intro i b L s hi h hL
    have e : i = told := hi
    subst e
    refine ⟨s, lp_end ?_, kp_rf, fun b' L' z => ?_, fun z => (by cases z)⟩
    · show bX2_toldCodes_64 _ _ _ _ _ _ = _
      unfold bX2_toldCodes_64
      rw [if_pos (nlr (by omega))]
    · have z' := Option.some.inj z
      have e1 : b = b' := congrArg Prod.fst z'
      have e2 : L = L' := congrArg Prod.snd z'
      rw [← e1, ← e2]
      exact ⟨h, Nat.le_refl _, hL⟩
  | succ m ih =>
    intro i b L s hi h hL
    have l6 : q_len (e_g s g) 6 = some 19 := d_len (Or.inr (Or.inl (by decide))) (hT 6 (by decide))
    have r6 : q_aI (e_g s g) 6 (Int32.ofNat i) = some (tbV 6 i) := tb_r hT (by decide) (show i < 19 by omega) (by omega)
    have x6 := xb_6 (i := i) (by omega)
    have c19 : ¬ (19 : Int32) ≤ Int32.ofNat i := show ¬ Int32.ofNat 19 ≤ _ from nle (by omega) (by omega)
    have R := rb7 (g := g) (m := 3) h (by omega)
    have stp : ∀ {v : Int32} {S : e_S}, fX2_readBits (e_g s g) 128 (Int32.ofNat 3) = some (v, e_g S g) → bX2_toldCodes_64 128 x1 x2 (Int32.ofNat told) (Int32.ofNat i) (e_g s g) = some (.inl (Int32.ofNat (i + 1), e_g (sA S 131 (upd (S.2.1 131) (xbV 6 i) v)) g)) := fun {v S} z => by
      have z' : fX2_readBits (e_g s g) 128 3 = some (v, e_g S g) := z
      unfold bX2_toldCodes_64
      rw [if_neg (nle (by omega) (by omega)), l6, ob_n, if_neg c19, f128_3, h.2.1, ob_n, if_neg (fun z => z rfl), f128_7, ob_n, ob_n, r6, ob_n, ob128, ob_n, z', b2_n, x6.1, tb_wr t131 (by decide) (by omega) (by omega), ob_n, n_suc]
    cases er : rbO K n b 3 with
    | none =>
      obtain ⟨v, s1, r1, r2, r3⟩ := R.2 er
      have kk : Kp [131, 132, 133, 134, 135, 136] 128 [] s1 (sA s1 131 (upd (s1.2.1 131) (xbV 6 i) v)) := kp_A kp_rf (by decide)
      have bS := bc_k r2 kk
      rw [cl_u, er, ob_no, lp_go2 (bX2_toldCodes_64 128 x1 x2 (Int32.ofNat told)) (stp r1)]
      refine ⟨sA s1 131 (upd (s1.2.1 131) (xbV 6 i) v), lp_end ?_, kp_tr (kd_c r3) (kd_x kk), fun b' L' z => (by cases z), fun _ => bS⟩
      show bX2_toldCodes_64 _ _ _ _ _ _ = _
      unfold bX2_toldCodes_64
      by_cases q1 : Int32.ofNat told ≤ Int32.ofNat (i + 1)
      · rw [if_pos q1]
      · have l6' : ∀ S : e_S, q_len (e_g S g) 6 = some 19 := fun S => d_len (Or.inr (Or.inl (by decide))) (hT 6 (by decide))
        rw [if_neg q1, l6', ob_n]
        by_cases q2 : (19 : Int32) ≤ Int32.ofNat (i + 1)
        · rw [if_pos q2]
        · rw [if_neg q2, f128_3, bS.1, ob_n, if_pos (by decide)]
    | some p =>
      obtain ⟨v, b1⟩ := p
      obtain ⟨r1, r2, r3⟩ := R.1 v b1 er
      have rs := rbO_s er
      have p3 : (2 : Nat) ^ 3 = 8 := by decide
      have kk : Kp [131, 132, 133, 134, 135, 136] 128 [] (sF s 128 2 (Int32.ofNat b1)) (sA (sF s 128 2 (Int32.ofNat b1)) 131 (upd ((sF s 128 2 (Int32.ofNat b1)).2.1 131) (xbV 6 i) (Int32.ofNat v))) := kp_A kp_rf (by decide)
      have k0 : KC s (sF s 128 2 (Int32.ofNat b1)) := kcF (by decide)
      obtain ⟨s', l1, l2, l3, l4⟩ := ih (i + 1) b1 (fun j => if j = xbV 6 i then v else L j) _ (by omega) (gc_k r2 kk) (by
        rw [A_sA, if_pos rfl, A_sF]
        exact ln_u hL (by omega))
      rw [cl_u, er, ob_n, lp_go2 (bX2_toldCodes_64 128 x1 x2 (Int32.ofNat told)) (stp r1)]
      refine ⟨s', l1, kp_tr (kp_tr (kd_c k0) (kd_x kk)) l2, fun b' L' z => ?_, l4⟩
      obtain ⟨y1, y2, y3⟩ := l3 b' L' z
      exact ⟨y1, by omega, y3⟩
theorem clo12 {g : ps_G} {K : Nat → Int32} {n d sz told : Nat} {O : Nat → Int32} {x1 x2 : Int32} (ht : told ≤ 19) : ∀ (m i b : Nat) (L : Nat → Nat) (s : e_S), i + m = told → (∀ j, j < 19 → s.2.1 186 j = tbV 6 j) → GM s K n d b sz O → Ln (s.2.1 193) L 19 → ∃ s', q_lp (fun t => bX12_ownCodes_79 139 x1 x2 (Int32.ofNat told) t.1 t.2) (Int32.ofNat i, e_g s g) = some (e_g s' g) ∧ KN s s' ∧ (∀ b' L', clO K n m i b L = some (b', L') → GM s' K n d b' sz O ∧ Ln (s'.2.1 193) L' 19) ∧ (clO K n m i b L = none → s'.1 139 87 = 1) := by
  have stp : ∀ (i : Nat) (s : e_S) {v : Int32} {S : e_S}, i < told → (∀ j, j < 19 → s.2.1 186 j = tbV 6 j) → fX12_low (e_g s g) 139 (Int32.ofNat 3) = some (v, e_g S g) → bX12_ownCodes_79 139 x1 x2 (Int32.ofNat told) (Int32.ofNat i) (e_g s g) = some (.inl (Int32.ofNat (i + 1), e_g (sA S 193 (upd (S.2.1 193) (xbV 6 i) v)) g)) := fun i s {v S} hi h6 z => by
    have z' : fX12_low (e_g s g) 139 3 = some (v, e_g S g) := z
    have x6 := xb_6 (i := i) (by omega)
    unfold bX12_ownCodes_79
    rw [if_neg (nle (by omega) (by omega)), f139_92, ob_n, ob_n, f139_72, ob_n, ob_n, tb_rd t186 (show i < 19 by omega) (by omega), ob_n, h6 i (by omega), ob139, ob_n, z', b2_n, x6.1, tb_wr t193 (by decide) (by omega) (by omega), ob_n, n_suc]
  -- once ill
  have bad : ∀ (m i : Nat) (s : e_S), i + m = told → (∀ j, j < 19 → s.2.1 186 j = tbV 6 j) → s.1 139 87 = 1 → ∃ s', q_lp (fun t => bX12_ownCodes_79 139 x1 x2 (Int32.ofNat told) t.1 t.2) (Int32.ofNat i, e_g s g) = some (e_g s' g) ∧ KN s s' ∧ s'.1 139 87 = 1 := by
    intro m
    induction m with
    | zero =>
      intro i s hi h6 hs
      have e : i = told := hi
      subst e
      refine ⟨s, lp_end ?_, kp_rf, hs⟩
      show bX12_ownCodes_79 _ _ _ _ _ _ = _
      unfold bX12_ownCodes_79
      rw [if_pos (nlr (by omega))]
    | succ m ih =>
      intro i s hi h6 hs
      obtain ⟨v, lv⟩ := low12b (g := g) (m := 3) hs (by omega)
      have kk : Kp [191, 192, 193] 139 [] s (sA s 193 (upd (s.2.1 193) (xbV 6 i) v)) := kp_A kp_rf (by decide)
      obtain ⟨s', l1, l2, l3⟩ := ih (i + 1) (sA s 193 (upd (s.2.1 193) (xbV 6 i) v)) (by omega) (fun j hj => by rw [A_sA, if_neg (by decide)]; exact h6 j hj) (by rw [F_sA]; exact hs)
      refine ⟨s', ?_, kp_tr (kn_y kk) l2, l3⟩
      rw [lp_go2 (bX12_ownCodes_79 139 x1 x2 (Int32.ofNat told)) (stp i s (by omega) h6 lv)]
      exact l1
  intro m
  induction m with
  | zero =>
    intro i b L s hi h6 h hL
    have e : i = told := hi
    subst e
    refine ⟨s, lp_end ?_, kp_rf, fun b' L' z => ?_, fun z => (by cases z)⟩
    · show bX12_ownCodes_79 _ _ _ _ _ _ = _
      unfold bX12_ownCodes_79
      rw [if_pos (nlr (by omega))]
    · have z' := Option.some.inj z
      have e1 : b = b' := congrArg Prod.fst z'
      have e2 : L = L' := congrArg Prod.snd z'
      rw [← e1, ← e2]
      exact ⟨h, hL⟩
  | succ m ih =>
    intro i b L s hi h6 h hL
    have R := rb12 (g := g) (m := 3) h (by omega)
    cases er : rbO K n b 3 with
    | none =>
      obtain ⟨v, s1, r1, r2, r3⟩ := R.2 er
      have kk : Kp [191, 192, 193] 139 [] s1 (sA s1 193 (upd (s1.2.1 193) (xbV 6 i) v)) := kp_A kp_rf (by decide)
      obtain ⟨s', l1, l2, l3⟩ := bad m (i + 1) (sA s1 193 (upd (s1.2.1 193) (xbV 6 i) v)) (by omega) (fun j hj => by rw [A_sA, if_neg (by decide), r3.1 186 (by decide)]; exact h6 j hj) (by rw [F_sA]; exact r2)
      rw [cl_u, er, ob_no, lp_go2 (bX12_ownCodes_79 139 x1 x2 (Int32.ofNat told)) (stp i s (by omega) h6 r1)]
      exact ⟨s', l1, kp_tr (kp_tr (kn_m r3) (kn_y kk)) l2, fun b' L' z => (by cases z), fun _ => l3⟩
    | some p =>
      obtain ⟨v, b1⟩ := p
      obtain ⟨r1, r2, r3⟩ := R.1 v b1 er
      have p3 : (2 : Nat) ^ 3 = 8 := by decide
      have kk : Kp [191, 192, 193] 139 [] (sF s 139 88 (Int32.ofNat b1)) (sA (sF s 139 88 (Int32.ofNat b1)) 193 (upd ((sF s 139 88 (Int32.ofNat b1)).2.1 193) (xbV 6 i) (Int32.ofNat v))) := kp_A kp_rf (by decide)
      have k0 : KM s (sF s 139 88 (Int32.ofNat b1)) := kmF (by decide)
      obtain ⟨s', l1, l2, l3, l4⟩ := ih (i + 1) b1 (fun j => if j = xbV 6 i then v else L j) _ (by omega) (fun j hj => by rw [A_sA, if_neg (by decide), A_sF]; exact h6 j hj) (gm_k r2 kk) (by
        rw [A_sA, if_pos rfl, A_sF]
        exact ln_u hL (by omega))
      rw [cl_u, er, ob_n, lp_go2 (bX12_ownCodes_79 139 x1 x2 (Int32.ofNat told)) (stp i s (by omega) h6 r1)]
      exact ⟨s', l1, kp_tr (kp_tr (kn_m k0) (kn_y kk)) l2, l3, l4⟩
