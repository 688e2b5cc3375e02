-- needs: 07 10 13 14 20 21 22 23 24 25 26 27 32 38 41 43 46 47 48 50 52 53 54 57 60 61 70 71 72 73 74 80 81 82 83 84 85 86
theorem stS_0 {s : e_S} {w h : Nat} {G : Nat → Nat → Int32} {l : Nat} {S : (Nat → Int32) × (Nat → Int32)} : stS s w h 0 0 G l S = laS (aD s w h) w h (G l) (decide (¬ lR (s.2.1 142) l 6 = 0)) (decide (lR (s.2.1 142) l 7 = 1)) (lR (s.2.1 142) l 5) (lR (s.2.1 142) l) S := by
  unfold stS
  rw [if_pos (Or.inl rfl), if_pos rfl]
  have e1 : decide (¬ (0 : Int32) = 0 ∨ ¬ lR (s.2.1 142) l 6 = 0) = decide (¬ lR (s.2.1 142) l 6 = 0) := by
    by_cases q : lR (s.2.1 142) l 6 = 0
    · rw [decide_eq_false (fun z => z.elim (fun z => z rfl) (fun z => z q)), decide_eq_false (fun z => z q)]
    · rw [decide_eq_true (Or.inr q), decide_eq_true q]
  have e2 : decide ((0 : Int32) = 0 ∧ lR (s.2.1 142) l 7 = 1) = decide (lR (s.2.1 142) l 7 = 1) := by
    by_cases q : lR (s.2.1 142) l 7 = 1
    · rw [decide_eq_true ⟨rfl, q⟩, decide_eq_true q]
    · rw [decide_eq_false (fun z => q z.2), decide_eq_false q]
  rw [e1, e2]
theorem laS_A {A A' : (Nat → Int32) → (Nat → Int32) → Nat → Int32} {w h n : Nat} {G : Nat → Int32} {sh cl : Bool} {md : Int32} {r : Nat → Int32} {S : (Nat → Int32) × (Nat → Int32)} (hA : 3 < r 1 → ∀ k, k < n → A r S.1 k = A' r S.1 k) : (∀ k, k < n → (laS A w h G sh cl md r S).1 k = (laS A' w h G sh cl md r S).1 k) ∧ (laS A w h G sh cl md r S).2 = (laS A' w h G sh cl md r S).2 := by
  unfold laS
  by_cases q : sh = false
  · rw [if_pos q, if_pos q]; exact ⟨fun _ _ => rfl, rfl⟩
  rw [if_neg q, if_neg q]
  by_cases q2 : 3 < r 1
  · rw [if_pos q2, if_pos q2]
    refine ⟨fun k hk => ?_, rfl⟩
    show fX11_mixColours _ _ _ = fX11_mixColours _ _ _
    rw [hA q2 k hk]
  · rw [if_neg q2, if_neg q2]; exact ⟨fun _ _ => rfl, rfl⟩
theorem view11 {g : ps_G} {a w h la oa sz : Nat} {ly : Nat → Option Nat} {od : Nat → Int32} {o : Nat → Nat} {s0 : e_S} (hS : StD g a w h (s0.2.1 142) la oa sz ly od o) (hk : CpOk s0 w h sz od o) (h11 : ∀ s, q_len (e_g s g) 0 = some 0) (a0 : ∀ s, q_fI 9 0 (e_g s g) a = some (Int32.ofNat w)) (a1 : ∀ s, q_fI 9 1 (e_g s g) a = some (Int32.ofNat h)) : ∀ m P d, 30 ≤ d + m → d ≤ 30 → (∀ l, l < 30 → s0.2.1 142 (1169 * l) = 1 → s0.2.1 142 (1169 * l + 2) = P → d ≤ dpN (s0.2.1 142) l) → ∀ s, Kc s → (∀ r V k, RwN r → 3 < r 1 → aC s w h r V k = aD s0 w h r V k) → ∃ s', fX10_viewOf (m + 1) (e_g s g) 20 a P (Int32.ofNat d) = some (e_g s' g) ∧ Vw d s s' ∧ ∀ k, k < w * h → s'.2.1 (22 + d) k = vwF s0 w h sz o (m + 1) P k := by
  obtain ⟨ht, ho, hrow, hw1, hh1, hw, hh, e1, e2, hdv, hC⟩ := id hk
  have hn := wh_le hw hh
  have dp := dp_all ht
  intro m
  induction m with
  | zero =>
    intro P d hd hd0 hP s hK hA
    have := hS
    -- no GROUP can lie here
    have nog : ∀ l, l < 30 → s0.2.1 142 (1169 * l) = 1 → ¬ s0.2.1 142 (1169 * l + 2) = P := fun l hl h1 h2 => by
      have a := hP l hl h1 h2
      have b := dp.1 l hl h1
      omega
    have hd31 : d < 31 := by omega
    have v0 : vwF s0 w h sz o 1 P = fun _ => 0 := by
      have : ∀ i, i ≤ sz → cmF s0 w h 0 0 P (fun l => vwF s0 w h sz o 0 (Int32.ofNat l)) o i = (fun _ => 0, fun _ => 0) := by
        intro i
        induction i with
        | zero => intro _; rfl
        | succ i ih =>
          intro hi
          have oi := ho.2.1 i (by omega)
          have nc : ¬ chO (s0.2.1 142) o P i = true := fun z => nog _ oi.2.1 oi.2.2 (of_decide_eq_true z)
          have ih := ih (by omega)
          unfold cmF at ih ⊢
          rw [fsS_f nc]; exact ih
      show (cmF s0 w h 0 0 P _ o sz).1 = _
      rw [this sz (Nat.le_refl _)]
    have loop : ∀ s, q_lp (fun x => bX10_viewOf_34 (fX10_viewOf 0) 20 a P (Int32.ofNat d) x.1 x.2) ((0 : Int32), e_g s g) = some (e_g s g) := by
      intro s
      refine lp_0 (fun i => (Int32.ofNat i, e_g s g)) sz rfl (fun i hi => ?_) ?_
      · have oi := ho.2.1 i hi
        have nc : ¬ chO (s0.2.1 142) o P i = true := fun z => nog _ oi.2.1 oi.2.2 (of_decide_eq_true z)
        have := ho.1
        show bX10_viewOf_34 _ _ _ _ _ _ _ = _
        unfold bX10_viewOf_34 jX10_viewOf_65_34
        rw [hS.f4, ob_n, if_neg (nle hi (by omega)), hS.ob, ob_n, child9 hS hi, if_neg nc, ob_n, if_pos rfl, n_suc]
      · have := ho.1
        show bX10_viewOf_34 _ _ _ _ _ _ _ = _
        unfold bX10_viewOf_34
        rw [hS.f4, ob_n, if_pos (nlr (by omega))]
    have c0 : ¬ Int32.ofNat d < 0 ∧ Int32.ofNat d < 31 := ⟨n_neg (by omega), (n_lt (m := 31) (by omega) (by omega)).mpr hd31⟩
    refine ⟨sA (sA s (22 + d) (fl (s.2.1 (22 + d)) 576 0)) (54 + d) (fl ((sA s (22 + d) (fl (s.2.1 (22 + d)) 576 0)).2.1 (54 + d)) 576 0), ?_, vw_tr (vw_sA (Or.inr (Or.inr (Or.inl ⟨Nat.le_refl _, by omega⟩)))) (vw_sA (Or.inr (Or.inr (Or.inr ⟨Nat.le_refl _, by omega⟩)))), fun k hk => ?_⟩
    · show fX10_viewOfB (fX10_viewOf 0) _ _ _ _ _ = _
      unfold fX10_viewOfB
      rw [if_pos c0, f20_1, ob_n, ob_n, rV hd31, ob_n, ob_n, fillI (tV hd31) (by omega) (by omega), ob_n, f20_2, ob_n, ob_n, rB hd31, ob_n, ob_n, fillI (tB hd31) (by omega) (by omega), ob_n, loop, ob_n]
    · have m1 : ¬ 22 + d = 54 + d := by omega
      rw [A_sA, if_neg m1, A_sA, if_pos rfl, fl_lt (by omega), v0]
  | succ m ih =>
    intro P d hd hd0 hP s hK hA
    have hd31 : d < 31 := by omega
    have m1 : ¬ 22 + d = 54 + d := by omega
    have c0 : ¬ Int32.ofNat d < 0 ∧ Int32.ofNat d < 31 := ⟨n_neg (by omega), (n_lt (m := 31) (by omega) (by omega)).mpr hd31⟩
    have szl := ho.1
    have rR := cmF_r (s := s0) (w := w) (h := h) (on := 0) (al := 0) (P := P) (G := fun l => vwF s0 w h sz o (m + 1) (Int32.ofNat l)) hn ho hrow
    generalize hSS : cmF s0 w h 0 0 P (fun l => vwF s0 w h sz o (m + 1) (Int32.ofNat l)) o = SS at rR
    have vv : vwF s0 w h sz o (m + 1 + 1) P = (SS sz).1 := by rw [← hSS]; rfl
    have SSt : ∀ i, chO (s0.2.1 142) o P i = true → SS (i + 1) = laS (aD s0 w h) w h (vwF s0 w h sz o (m + 1) (Int32.ofNat (o i))) (decide (¬ lR (s0.2.1 142) (o i) 6 = 0)) (decide (lR (s0.2.1 142) (o i) 7 = 1)) (lR (s0.2.1 142) (o i) 5) (lR (s0.2.1 142) (o i)) (SS i) := fun i hi => by
      rw [← hSS]
      exact (fsS_t hi).trans stS_0
    have SSf : ∀ i, ¬ chO (s0.2.1 142) o P i = true → SS (i + 1) = SS i := fun i hi => by
      rw [← hSS]; exact fsS_f hi
    have SS0 : SS 0 = (fun _ => 0, fun _ => 0) := by rw [← hSS]; rfl
    have vb : Vw d s (sA (sA s (22 + d) (fl (s.2.1 (22 + d)) 576 0)) (54 + d) (fl ((sA s (22 + d) (fl (s.2.1 (22 + d)) 576 0)).2.1 (54 + d)) 576 0)) := vw_tr (vw_sA (Or.inr (Or.inr (Or.inl ⟨Nat.le_refl _, by omega⟩)))) (vw_sA (Or.inr (Or.inr (Or.inr ⟨Nat.le_refl _, by omega⟩))))
    have b22 : ∀ k, k < w * h → (sA (sA s (22 + d) (fl (s.2.1 (22 + d)) 576 0)) (54 + d) (fl ((sA s (22 + d) (fl (s.2.1 (22 + d)) 576 0)).2.1 (54 + d)) 576 0)).2.1 (22 + d) k = 0 := fun k hk => by
      rw [A_sA, if_neg m1, A_sA, if_pos rfl, fl_lt (by omega)]
    have b54 : ∀ k, k < w * h → (sA (sA s (22 + d) (fl (s.2.1 (22 + d)) 576 0)) (54 + d) (fl ((sA s (22 + d) (fl (s.2.1 (22 + d)) 576 0)).2.1 (54 + d)) 576 0)).2.1 (54 + d) k = 0 := fun k hk => by
      rw [A_sA, if_pos rfl, fl_lt (by omega)]
    have hf : ∀ VV, (fX10_viewOfB VV (e_g s g) 20 a P (Int32.ofNat d)) = Option.bind (q_lp (fun x => bX10_viewOf_34 VV 20 a P (Int32.ofNat d) x.1 x.2) ((0 : Int32), e_g (sA (sA s (22 + d) (fl (s.2.1 (22 + d)) 576 0)) (54 + d) (fl ((sA s (22 + d) (fl (s.2.1 (22 + d)) 576 0)).2.1 (54 + d)) 576 0)) g)) fun z => some z := by
      intro VV
      unfold fX10_viewOfB
      rw [if_pos c0, f20_1, ob_n, ob_n, rV hd31, ob_n, ob_n, fillI (tV hd31) (by omega) (by omega), ob_n, f20_2, ob_n, ob_n, rB hd31, ob_n, ob_n, fillI (tB hd31) (by omega) (by omega), ob_n]
    generalize sA (sA s (22 + d) (fl (s.2.1 (22 + d)) 576 0)) (54 + d) (fl ((sA s (22 + d) (fl (s.2.1 (22 + d)) 576 0)).2.1 (54 + d)) 576 0) = sb at vb b22 b54 hf
    obtain ⟨r', q1, s', q2, q3, q4⟩ := lp_n (b := fun x => bX10_viewOf_34 (fX10_viewOf (m + 1)) 20 a P (Int32.ofNat d) x.1 x.2) (fun i x => ∃ s', x = (Int32.ofNat i, e_g s' g) ∧ Vw d s s' ∧ (∀ k, k < w * h → s'.2.1 (22 + d) k = (SS i).1 k) ∧ ∀ k, k < w * h → s'.2.1 (54 + d) k = (SS i).2 k) (fun x => ∃ s', x = e_g s' g ∧ Vw d s s' ∧ ∀ k, k < w * h → s'.2.1 (22 + d) k = (SS sz).1 k) sz (fun i x hi hx => by
        obtain ⟨s1, rfl, v1, i1, i2⟩ := hx
        have oi := ho.2.1 i hi
        show ∃ s', bX10_viewOf_34 _ _ _ _ _ _ _ = _ ∧ _
        unfold bX10_viewOf_34 jX10_viewOf_65_34
        rw [hS.f4, ob_n, if_neg (nle hi (by omega)), hS.ob, ob_n, child9 hS hi, n_suc]
        by_cases hch : chO (s0.2.1 142) o P i = true
        · obtain ⟨b, hb, hLy⟩ := hS.ly oi.2.1 oi.2.2
          have hp : s0.2.1 142 (1169 * o i + 2) = P := of_decide_eq_true hch
          have dpi := hP _ oi.2.1 oi.2.2 hp
          have dlt := dp.1 _ oi.2.1 oi.2.2
          have kk := kc_vw (w := w) (h := h) v1 hK
          have hA1 : ∀ r V k, RwN r → 3 < r 1 → aC s1 w h r V k = aD s0 w h r V k := fun r V k h1 h2 => by rw [kk.2]; exact hA r V k h1 h2
          obtain ⟨s2, l1, l2, l3, l4⟩ := lay11 (VV := fX10_viewOf (m + 1)) (s := s1) (G := vwF s0 w h sz o (m + 1) (Int32.ofNat (o i))) (S := SS i) h11 hd31 hw1 hh1 hw hh a0 a1 hLy kk.1 i1 i2 (rR i (by omega)) (fun hg => ⟨by omega, ih (Int32.ofNat (o i)) (d + 1) (by omega) (by omega) (fun l hl h1 h2 => by
            have := (dp.2.2 l (o i) hl h1 oi.2.1 h2).2.2
            omega) s1 kk.1 hA1⟩)
          have lA := laS_A (A := aC s1 w h) (A' := aD s0 w h) (w := w) (h := h) (n := w * h) (G := vwF s0 w h sz o (m + 1) (Int32.ofNat (o i))) (sh := decide (¬ lR (s0.2.1 142) (o i) 6 = 0)) (cl := decide (lR (s0.2.1 142) (o i) 7 = 1)) (md := lR (s0.2.1 142) (o i) 5) (r := lR (s0.2.1 142) (o i)) (S := SS i) (fun h3 k _ => hA1 _ _ _ (hrow _ oi.2.1 oi.2.2) h3)
          rw [if_pos hch, hb, ob_n, if_neg (by intro z; cases z), ob_n, ob20, ob_n, l1, ob_n]
          refine ⟨_, rfl, s2, rfl, vw_tr v1 l2, fun k hk => ?_, fun k hk => ?_⟩
          · rw [l3 k hk, SSt i hch]; exact lA.1 k hk
          · rw [l4 k hk, SSt i hch, lA.2]
        · rw [if_neg hch, ob_n, if_pos rfl]
          refine ⟨_, rfl, s1, rfl, v1, ?_, ?_⟩
          · rw [SSf i hch]; exact i1
          · rw [SSf i hch]; exact i2) (fun x hx => by
        obtain ⟨s1, rfl, v1, i1, i2⟩ := hx
        refine ⟨e_g s1 g, ?_, s1, rfl, v1, i1⟩
        show bX10_viewOf_34 _ _ _ _ _ _ _ = _
        unfold bX10_viewOf_34
        rw [hS.f4, ob_n, if_pos (nlr (by omega))]) (s := ((0 : Int32), e_g sb g)) ⟨sb, rfl, vb, fun k hk => by rw [SS0]; exact b22 k hk, fun k hk => by rw [SS0]; exact b54 k hk⟩
    refine ⟨s', ?_, q3, fun k hk => by rw [vv]; exact q4 k hk⟩
    show fX10_viewOfB (fX10_viewOf (m + 1)) _ _ _ _ _ = _
    rw [hf, q1, q2, ob_n]
theorem e_cp {s : e_S} {g : ps_G} {i j : Nat} (hi : e_tb[i]? = some (2, 576, [])) (hj : e_tb[j]? = some (2, 576, [])) (i8 : 8 ≤ i) (j8 : 8 ≤ j) : q_cp (e_g s g) i 0 j 0 576 = some (e_g (sA s j (cpT (s.2.1 j) (s.2.1 i) 0 576)) g) := by
  unfold q_cp
  show (q_I 0 (e_c s i _)).bind (fun x => (q_I 0 (e_c s j _)).bind _) = _
  rw [e_c_I hi, e_c_I hj]
  unfold q_I
  dsimp only
  rw [if_pos rfl, if_pos rfl, ob_n, ob_n]
  dsimp only
  rw [if_neg (by
    rintro (z | z | z | z | z | z | z)
    · omega
    · omega
    · exact absurd z (by decide)
    · exact absurd z (by decide)
    · exact absurd z (by decide)
    · exact absurd z (by decide)
    · exact absurd z (by decide))]
  have : va_cpy (s.2.1 i) (s.2.1 j) (0 : Int32).toNatClampNeg (0 : Int32).toNatClampNeg (576 : Int32).toNatClampNeg = cpT (s.2.1 j) (s.2.1 i) 0 576 := by
    funext k
    show (if 0 ≤ k ∧ k < 0 + 576 then s.2.1 i (0 + (k - 0)) else s.2.1 j k) = if 0 ≤ k ∧ k < 0 + 576 then s.2.1 i (k - 0) else s.2.1 j k
    rw [Nat.zero_add (k - 0)]
  rw [this]
  congr 1
  refine e_up ?_ (fun a ha => ⟨rfl, ?_, rfl, rfl⟩)
  · rw [e_c_I hj]
    show Sum.inl (0, (576, Sum.inl (rs s.2.1 j _ j))) = _
    rw [rs_s]
  · show s.2.1 a = rs s.2.1 j _ a
    rw [rs_n ha]
