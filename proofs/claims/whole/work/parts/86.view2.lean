-- needs: 07 10 13 14 20 21 22 23 24 25 26 27 32 38 41 46 47 48 50 52 53 54 57 60 61 70 71 72 73 80 81 82 83 84 85
theorem cover11 {VV : ps_G → Nat → Nat → Int32 → Int32 → Option ps_G} {s : e_S} {g : ps_G} {a b w h l d : Nat} {r G : Nat → Int32} (h11 : ∀ s, q_len (e_g s g) 0 = some 0) (hd : d < 31) (hw1 : 1 ≤ w) (hw : w ≤ 24) (hh : h ≤ 24) (a0 : ∀ s, q_fI 9 0 (e_g s g) a = some (Int32.ofNat w)) (a1 : ∀ s, q_fI 9 1 (e_g s g) a = some (Int32.ofNat h)) (hL : LyN g b w h l r) (h3 : ¬ 3 < r 1) (hB : ∀ k, k < w * h → rg (s.2.1 (54 + d) k) 0 255) (hV : r 1 = 1 → d + 1 < 31 ∧ ∃ s1, VV (e_g s g) 20 a (Int32.ofNat l) (Int32.ofNat (d + 1)) = some (e_g s1 g) ∧ Vw (d + 1) s s1 ∧ ∀ k, k < w * h → s1.2.1 (22 + (d + 1)) k = G k) : ∃ s', fX10_cover VV (e_g s g) 20 a b (Int32.ofNat d) = some (e_g s' g) ∧ Vw d s s' ∧ (∀ k, k < w * h → s'.2.1 (22 + d) k = blV (s.2.1 (22 + d) k) (coV w h G r k) (exV w h G r (fun k => if r 7 = 0 then 255 else s.2.1 (54 + d) k) k) (r 5)) ∧ ∀ k, k < w * h → s'.2.1 (54 + d) k = if r 7 = 0 then exV w h G r (fun k => if r 7 = 0 then 255 else s.2.1 (54 + d) k) k else s.2.1 (54 + d) k := by
  have hn := wh_le hw hh
  have hr := rwN_l hL
  have F := ly_f hL
  have tv := tV hd
  have tb := tB hd
  have d22 : ¬ 22 + d = 54 + d := by omega
  have d54 : ¬ 54 + d = 22 + d := by omega
  -- the inner view
  have st1 : ∃ s1 IN, fX10_cover VV (e_g s g) 20 a b (Int32.ofNat d) = jX10_cover_37 VV (e_g s1 g) 20 a b (Int32.ofNat d) IN ∧ Vw (d + 1) s s1 ∧ (r 1 = 1 → IN = Int32.ofNat (d + 1) ∧ d + 1 < 31 ∧ ∀ k, k < w * h → s1.2.1 (22 + (d + 1)) k = G k) := by
    unfold fX10_cover
    rw [(F s).2.2.1, ob_n]
    by_cases q : r 1 = 1
    · obtain ⟨hd1, s1, v1, v2, v3⟩ := hV q
      rw [if_neg (fun z => z q), (F s).2.1, ob_n, ob20, ob_n, n_suc, v1, ob_n]
      refine ⟨s1, _, rfl, v2, fun _ => ⟨if_neg (nle (b := 31) hd1 (by omega)), hd1, v3⟩⟩
    · rw [if_pos q]
      exact ⟨s, _, rfl, vw_rf, fun z => absurd z q⟩
  obtain ⟨s1, IN, j1, v1, g1⟩ := st1
  have e22 : s1.2.1 (22 + d) = s.2.1 (22 + d) := v1.2.2.2 _ (by omega) (by omega) (by omega) (by omega)
  have e54 : s1.2.1 (54 + d) = s.2.1 (54 + d) := v1.2.2.2 _ (by omega) (by omega) (by omega) (by omega)
  rw [← e22, ← e54]
  rw [← e54] at hB
  generalize hcv : (fun k => if r 7 = 0 then 255 else s1.2.1 (54 + d) k) = cv
  have cvk : ∀ k, cv k = if r 7 = 0 then 255 else s1.2.1 (54 + d) k := fun k => by rw [← hcv]
  have er : ∀ k, k < w * h → rg (exV w h G r cv k) 0 255 := fun k hk => ex_r hr (by omega) (by
    rw [cvk]
    split
    · decide
    · exact hB k hk)
  have fin := fillS (fun i => e_g (sA (sA s1 (54 + d) (if r 7 = 0 then cpT (s1.2.1 (54 + d)) (exV w h G r cv) 0 i else s1.2.1 (54 + d))) (22 + d) (cpT (s1.2.1 (22 + d)) (fun k => blV (s1.2.1 (22 + d) k) (coV w h G r k) (exV w h G r cv k) (r 5)) 0 i)) g) w h (bI := fun y x => bX10_cover_52 VV 20 a b (Int32.ofNat d) IN y x.1 x.2) (bO := fun x => bX10_cover_40 VV 20 a b (Int32.ofNat d) IN x.1 x.2) (fun y x hy hx => ?_) (fun y hy => ?_) (fun y hy => ?_) ?_
  · have sid : ∀ (s : e_S) j, sA s j (s.2.1 j) = s := by
      intro s j
      obtain ⟨x1, x2, x3, x4⟩ := s
      show (x1, (fun a => if a = j then x2 j else x2 a), x3, x4) = (x1, x2, x3, x4)
      have : (fun a => if a = j then x2 j else x2 a) = x2 := by
        funext a
        by_cases q : a = j
        · rw [if_pos q, q]
        · rw [if_neg q]
      rw [this]
    rw [cpT_0, cpT_0, ite_self, sid s1 (54 + d), sid s1 (22 + d)] at fin
    refine ⟨_, by rw [j1]; unfold jX10_cover_37; rw [fin, ob_n], vw_tr (vw_mo (by omega) v1) (vw_tr (vw_sA (Or.inr (Or.inr (Or.inr ⟨Nat.le_refl _, by omega⟩)))) (vw_sA (Or.inr (Or.inr (Or.inl ⟨Nat.le_refl _, by omega⟩))))), fun k hk => ?_, fun k hk => ?_⟩
    · rw [A_sA, if_pos rfl]
      have := cpT_in (A := s1.2.1 (22 + d)) (N := fun k => blV (s1.2.1 (22 + d) k) (coV w h G r k) (exV w h G r cv k) (r 5)) (b := 0) (n := h * w) (k := k) (by rw [Nat.mul_comm]; exact hk)
      rw [Nat.zero_add] at this
      exact this
    · rw [A_sA, if_neg d54, A_sA, if_pos rfl]
      by_cases q : r 7 = 0
      · rw [if_pos q, if_pos q]
        have := cpT_in (A := s1.2.1 (54 + d)) (N := exV w h G r cv) (b := 0) (n := h * w) (k := k) (by rw [Nat.mul_comm]; exact hk)
        rw [Nat.zero_add] at this
        exact this
      · rw [if_neg q, if_neg q]
  · have hi := at_lt hx hy
    have d1 : (y * w + x) % w = x := by rw [Nat.mul_comm, Nat.mul_add_mod, Nat.mod_eq_of_lt hx]
    have d2 : (y * w + x) / w = y := by rw [Nat.mul_comm, Nat.mul_add_div (by omega), Nat.div_eq_of_lt hx, Nat.add_zero]
    have key : jX10_cover_138_52 VV (e_g (sA (sA s1 (54 + d) (if r 7 = 0 then cpT (s1.2.1 (54 + d)) (exV w h G r cv) 0 (y * w + x) else s1.2.1 (54 + d))) (22 + d) (cpT (s1.2.1 (22 + d)) (fun k => blV (s1.2.1 (22 + d) k) (coV w h G r k) (exV w h G r cv k) (r 5)) 0 (y * w + x))) g) 20 a b (Int32.ofNat d) IN (Int32.ofNat y) (Int32.ofNat x) (Int32.ofNat (y * w + x)) (coV w h G r (y * w + x)) = some (.inl (Int32.ofNat (x + 1), e_g (sA (sA s1 (54 + d) (if r 7 = 0 then cpT (s1.2.1 (54 + d)) (exV w h G r cv) 0 (y * w + x + 1) else s1.2.1 (54 + d))) (22 + d) (cpT (s1.2.1 (22 + d)) (fun k => blV (s1.2.1 (22 + d) k) (coV w h G r k) (exV w h G r cv k) (r 5)) 0 (y * w + x + 1))) g)) := by
      generalize y * w + x = i at hi
      have up1 := cpT_up (A := s1.2.1 (22 + d)) (N := fun k => blV (s1.2.1 (22 + d) k) (coV w h G r k) (exV w h G r cv k) (r 5)) (b := 0) (n := i)
      have up2 := cpT_up (A := s1.2.1 (54 + d)) (N := exV w h G r cv) (b := 0) (n := i)
      rw [Nat.zero_add] at up1 up2
      have o1 : cpT (s1.2.1 (22 + d)) (fun k => blV (s1.2.1 (22 + d) k) (coV w h G r k) (exV w h G r cv k) (r 5)) 0 i i = s1.2.1 (22 + d) i := cpT_out (by omega)
      have j200 : ∀ β e, e = exV w h G r cv i → jX10_cover_200_52 VV (e_g (sA (sA s1 (54 + d) β) (22 + d) (cpT (s1.2.1 (22 + d)) (fun k => blV (s1.2.1 (22 + d) k) (coV w h G r k) (exV w h G r cv k) (r 5)) 0 i)) g) 20 a b (Int32.ofNat d) IN (Int32.ofNat y) (Int32.ofNat x) (Int32.ofNat i) (coV w h G r i) e = some (.inl (Int32.ofNat (x + 1), e_g (sA (sA s1 (54 + d) β) (22 + d) (cpT (s1.2.1 (22 + d)) (fun k => blV (s1.2.1 (22 + d) k) (coV w h G r k) (exV w h G r cv k) (r 5)) 0 (i + 1))) g)) := by
        intro β e he
        subst he
        unfold jX10_cover_200_52
        rw [f20_1, ob_n, ob_n, rV hd, ob_n, ob_n, ob_n, ob_n, rV hd, ob_n, ob_n, rdI tv (by omega), A_sA, if_pos rfl, ob_n, (F _).2.2.2.2.1, ob_n, o1, blend11 hr.2.2.1 (er i hi), ob_n, wrI tv (by omega) (by omega), A_sA, if_pos rfl, sA_sA, ob_n, n_suc, ← up1]
      unfold jX10_cover_138_52
      rw [(F _).2.2.2.1, ob_n, (F _).1, ob_n, maskAt4 h11 hL (by omega), ob_n, (F _).2.2.2.2.2.2.1, ob_n]
      by_cases q : r 7 = 0
      · have ee : fX11_mul (fX11_mul (q_ush (coV w h G r i) 24) (r 4)) (msV r i) = exV w h G r cv i := by
          unfold exV
          rw [cvk, if_pos q, mul_255 (mul_r (mul_r al_r hr.2.1) (mk_r hr (by omega)))]
        rw [if_pos q, if_pos q, if_pos q, f20_2, ob_n, ob_n, rB hd, ob_n, ob_n, wrI tb (by omega) (by omega), A_sA, if_neg d54, A_sA, if_pos rfl, ob_n, sA_cm d22, sA_sA, ee, up2, j200 _ _ rfl]
      · have ee : fX11_mul (fX11_mul (fX11_mul (q_ush (coV w h G r i) 24) (r 4)) (msV r i)) (s1.2.1 (54 + d) i) = exV w h G r cv i := by
          unfold exV
          rw [cvk, if_neg q]
        rw [if_neg q, if_neg q, if_neg q, f20_2, ob_n, ob_n, rB hd, ob_n, ob_n, rdI tb (by omega), A_sA, if_neg d54, A_sA, if_pos rfl, ob_n, j200 _ _ ee]
    show bX10_cover_52 _ _ _ _ _ _ _ _ _ = _
    unfold bX10_cover_52
    rw [a0, ob_n, if_neg (nle hx (by omega)), ob_n, (F _).2.2.1, ob_n]
    unfold coV at key
    rw [d1, d2] at key
    by_cases q0 : r 1 = 0
    · rw [if_pos q0] at key
      rw [if_neg (fun z => z q0), (F _).2.2.2.2.2.2.2.1, ob_n, (F _).2.2.2.2.2.2.2.2.1, ob_n, ob_n, a1, ob_n, (F _).1, ob_n, own4 hw hh hL q0, ob_n, n_mul, n_add]
      exact key
    rw [if_neg q0] at key
    by_cases q1 : r 1 = 1
    · rw [if_pos q1] at key
      obtain ⟨gi, gd, gk⟩ := g1 q1
      have m1 : ¬ 22 + (d + 1) = 22 + d := by omega
      have m2 : ¬ 22 + (d + 1) = 54 + d := by omega
      rw [if_pos q0, ob_n, if_neg (fun z => z q1), f20_1, ob_n, ob_n, n_mul, n_add, show q_aR _ 21 IN = some (some (22 + (d + 1))) by rw [gi]; exact rV gd, ob_n, ob_n, rdI (tV gd) (by omega), A_sA, if_neg m1, A_sA, if_neg m2, gk _ hi, ob_n]
      exact key
    rw [if_neg q1] at key
    have k23 : r 1 = 2 ∨ r 1 = 3 := by
      have k1 := rg_i.mp hr.1
      rw [show (0 : Int32).toInt = 0 from rfl, show (5 : Int32).toInt = 5 from rfl] at k1
      rw [i_lt, show (3 : Int32).toInt = 3 from rfl] at h3
      rw [i_eq, show (0 : Int32).toInt = 0 from rfl] at q0
      rw [i_eq, show (1 : Int32).toInt = 1 from rfl] at q1
      rw [i_eq, i_eq, show (2 : Int32).toInt = 2 from rfl, show (3 : Int32).toInt = 3 from rfl]
      omega
    rw [if_pos q0, ob_n, if_pos q1, (F _).1, ob_n, painted4 hL k23, ob_n, n_mul, n_add]
    exact key
  · show bX10_cover_52 _ _ _ _ _ _ _ _ _ = _
    unfold bX10_cover_52
    rw [a0, ob_n, if_pos (nlr (by omega))]
  · show bX10_cover_40 _ _ _ _ _ _ _ _ = _
    unfold bX10_cover_40
    rw [a1, ob_n, if_neg (nle hy (by omega))]
  · show bX10_cover_40 _ _ _ _ _ _ _ _ = _
    unfold bX10_cover_40
    rw [a1, ob_n, if_pos (nlr (by omega))]
theorem lay11 {VV : ps_G → Nat → Nat → Int32 → Int32 → Option ps_G} {s : e_S} {g : ps_G} {a b w h l d : Nat} {r G : Nat → Int32} {S : (Nat → Int32) × (Nat → Int32)} (h11 : ∀ s, q_len (e_g s g) 0 = some 0) (hd : d < 31) (hw1 : 1 ≤ w) (hh1 : 1 ≤ h) (hw : w ≤ 24) (hh : h ≤ 24) (a0 : ∀ s, q_fI 9 0 (e_g s g) a = some (Int32.ofNat w)) (a1 : ∀ s, q_fI 9 1 (e_g s g) a = some (Int32.ofNat h)) (hL : LyN g b w h l r) (hK : Kc s) (i1 : ∀ k, k < w * h → s.2.1 (22 + d) k = S.1 k) (i2 : ∀ k, k < w * h → s.2.1 (54 + d) k = S.2 k) (rI : ∀ k, k < w * h → rg (S.2 k) 0 255) (hV : r 1 = 1 → d + 1 < 31 ∧ ∃ s1, VV (e_g s g) 20 a (Int32.ofNat l) (Int32.ofNat (d + 1)) = some (e_g s1 g) ∧ Vw (d + 1) s s1 ∧ ∀ k, k < w * h → s1.2.1 (22 + (d + 1)) k = G k) : ∃ s', fX10_lay VV (e_g s g) 20 a b (Int32.ofNat d) = some (e_g s' g) ∧ Vw d s s' ∧ (∀ k, k < w * h → s'.2.1 (22 + d) k = (laS (aC s w h) w h G (decide (¬ r 6 = 0)) (decide (r 7 = 1)) (r 5) r S).1 k) ∧ ∀ k, k < w * h → s'.2.1 (54 + d) k = (laS (aC s w h) w h G (decide (¬ r 6 = 0)) (decide (r 7 = 1)) (r 5) r S).2 k := by
  have hn := wh_le hw hh
  have hr := rwN_l hL
  have F := ly_f hL
  have d54 : ¬ 22 + d = 54 + d := by omega
  have h7 : decide (r 7 = 1) = decide (¬ r 7 = 0) := by
    have k1 := rg_i.mp hr.2.2.2.2.1
    rw [show (0 : Int32).toInt = 0 from rfl, show (1 : Int32).toInt = 1 from rfl] at k1
    have : r 7 = 1 ↔ ¬ r 7 = 0 := by
      rw [i_eq, i_eq, show (0 : Int32).toInt = 0 from rfl, show (1 : Int32).toInt = 1 from rfl]; omega
    by_cases q : r 7 = 1
    · rw [decide_eq_true q, decide_eq_true (this.mp q)]
    · rw [decide_eq_false q, decide_eq_false (fun z => q (this.mpr z))]
  rw [h7]
  have head : fX10_lay VV (e_g s g) 20 a b (Int32.ofNat d) = jX10_lay_21 VV (e_g s g) 20 a b (Int32.ofNat d) (if 3 < r 1 then 1 else 0) := by
    have k1 := rg_i.mp hr.1
    rw [show (0 : Int32).toInt = 0 from rfl, show (5 : Int32).toInt = 5 from rfl] at k1
    have e : 3 < r 1 ↔ r 1 = 4 ∨ r 1 = 5 := by
      rw [i_lt, i_eq, i_eq, show (3 : Int32).toInt = 3 from rfl, show (4 : Int32).toInt = 4 from rfl, show (5 : Int32).toInt = 5 from rfl]; omega
    unfold fX10_lay jX10_lay_16
    rw [(F s).2.2.1, ob_n]
    by_cases q : r 1 = 4
    · rw [if_pos q, if_pos (e.mpr (Or.inl q))]
    · rw [if_neg q, ob_n]
      by_cases q5 : r 1 = 5
      · rw [if_neg (fun z => z q5), if_pos (e.mpr (Or.inr q5))]
      · rw [if_pos q5, if_neg (fun z => (e.mp z).elim q q5)]
  have fill0 : ∃ s1, (∀ K0, jX10_lay_42 VV (e_g s g) 20 a b (Int32.ofNat d) K0 = jX10_lay_52 VV (e_g s1 g) 20 a b (Int32.ofNat d) K0) ∧ Vw d s s1 ∧ s1.2.1 (22 + d) = s.2.1 (22 + d) ∧ ∀ k, k < w * h → s1.2.1 (54 + d) k = 0 := by
    refine ⟨sA s (54 + d) (fl (s.2.1 (54 + d)) 576 0), fun K0 => ?_, vw_sA (Or.inr (Or.inr (Or.inr ⟨Nat.le_refl _, by omega⟩))), by rw [A_sA, if_neg d54], fun k hk => by rw [A_sA, if_pos rfl]; exact fl_lt (by omega)⟩
    unfold jX10_lay_42
    rw [f20_2, ob_n, ob_n, rB hd, ob_n, ob_n, fillI (tB hd) (by omega) (by omega), ob_n]
  obtain ⟨s1, fj, fv, f22, f54⟩ := fill0
  have kk := kc_vw (w := w) (h := h) fv hK
  rw [head]
  unfold jX10_lay_21 laS
  rw [(F s).2.2.2.2.2.2.1, ob_n]
  have ad : ∀ s2, Vw d s s2 → Kc s2 → (∀ k, k < w * h → s2.2.1 (22 + d) k = S.1 k) → 3 < r 1 → aC s2 w h = aC s w h → ∃ s', fX10_adjust (e_g s2 g) 20 a b (Int32.ofNat d) = some (e_g s' g) ∧ Vw d s2 s' ∧ s'.2.1 (54 + d) = s2.2.1 (54 + d) ∧ ∀ k, k < w * h → s'.2.1 (22 + d) k = fX11_mixColours (S.1 k) (aC s w h r S.1 k) (fX11_mul (fX11_mul (r 4) (msV r k)) (if r 7 = 0 then 255 else s2.2.1 (54 + d) k)) := by
    intro s2 v2 k2 i2 q3 ea
    have k45 : r 1 = 4 ∨ r 1 = 5 := by
      have k1 := rg_i.mp hr.1
      rw [show (0 : Int32).toInt = 0 from rfl, show (5 : Int32).toInt = 5 from rfl] at k1
      rw [i_lt, show (3 : Int32).toInt = 3 from rfl] at q3
      rw [i_eq, i_eq, show (4 : Int32).toInt = 4 from rfl, show (5 : Int32).toInt = 5 from rfl]; omega
    obtain ⟨s', b1, b2, b3, b4⟩ := adjust11 (s := s2) h11 hd hw1 hh1 hw hh a0 a1 hL k45 k2
    refine ⟨s', b1, b2, b3, fun k hk => ?_⟩
    rw [b4 k hk, i2 k hk, ea]
    have : aC s w h r (s2.2.1 (22 + d)) k = aC s w h r S.1 k := ad_c hw1 hh1 i2 hk
    rw [this]
  have n1 : ¬ (1 : Int32) = 0 := by decide
  by_cases q6 : r 6 = 0
  · -- hidden
    have n6 : ¬ ¬ r 6 = 0 := fun z => z q6
    rw [decide_eq_false n6, if_pos rfl]
    have e52 : ∀ s2 K0, jX10_lay_52 VV (e_g s2 g) 20 a b (Int32.ofNat d) K0 = some (e_g s2 g) := fun s2 K0 => by
      unfold jX10_lay_52 jX10_lay_71 jX10_lay_90
      rw [(F s2).2.2.2.2.2.1, ob_n, if_pos (Or.inl q6), ob_n, if_pos (Or.inl q6)]
    by_cases q7 : r 7 = 0
    · have n7 : ¬ ¬ r 7 = 0 := fun z => z q7
      rw [if_neg n7, decide_eq_false n7]
      have : (if ¬ (if 3 < r 1 then (1 : Int32) else 0) = 0 then jX10_lay_42 VV (e_g s g) 20 a b (Int32.ofNat d) (if 3 < r 1 then 1 else 0) else Option.bind (q_fI 4 5 (e_g s g) b) fun v28 => if ¬ v28 = 0 then jX10_lay_52 VV (e_g s g) 20 a b (Int32.ofNat d) (if 3 < r 1 then 1 else 0) else jX10_lay_42 VV (e_g s g) 20 a b (Int32.ofNat d) (if 3 < r 1 then 1 else 0)) = some (e_g s1 g) := by
        rw [(F s).2.2.2.2.2.1, ob_n, if_neg n6, fj, e52, ite_self]
      rw [this]
      exact ⟨s1, rfl, fv, fun k hk => by rw [f22]; exact i1 k hk, f54⟩
    · rw [if_pos q7, e52, decide_eq_true q7]
      exact ⟨s, rfl, vw_rf, i1, i2⟩
  · rw [decide_eq_true q6, if_neg (show ¬ true = false by decide)]
    by_cases q3 : 3 < r 1
    · rw [if_pos q3, if_pos q3]
      have e52 : ∀ s2, jX10_lay_52 VV (e_g s2 g) 20 a b (Int32.ofNat d) 1 = Option.bind (fX10_adjust (e_g s2 g) 20 a b (Int32.ofNat d)) fun v => jX10_lay_71 VV v 20 a b (Int32.ofNat d) 1 := fun s2 => by
        unfold jX10_lay_52
        rw [(F s2).2.2.2.2.2.1, ob_n, if_neg (fun z => z.elim q6 n1), ob20, ob_n]
      have e71 : ∀ s2, jX10_lay_71 VV (e_g s2 g) 20 a b (Int32.ofNat d) 1 = some (e_g s2 g) := fun s2 => by
        unfold jX10_lay_71 jX10_lay_90
        rw [(F s2).2.2.2.2.2.1, ob_n, if_pos (Or.inr n1)]
      by_cases q7 : r 7 = 0
      · obtain ⟨s', b1, b2, b3, b4⟩ := ad s1 fv kk.1 (fun k hk => by rw [f22]; exact i1 k hk) q3 kk.2
        have n7 : ¬ ¬ r 7 = 0 := fun z => z q7
        rw [if_neg n7, decide_eq_false n7, if_pos n1, fj, e52, b1, ob_n, e71]
        refine ⟨s', rfl, vw_tr fv b2, fun k hk => ?_, fun k hk => ?_⟩
        · rw [b4 k hk, if_pos q7]; rfl
        · rw [b3]; exact f54 k hk
      · obtain ⟨s', b1, b2, b3, b4⟩ := ad s vw_rf hK i1 q3 rfl
        rw [if_pos q7, decide_eq_true q7, e52, b1, ob_n, e71]
        refine ⟨s', rfl, b2, fun k hk => ?_, fun k hk => ?_⟩
        · rw [b4 k hk, if_neg q7, i2 k hk]; rfl
        · rw [b3]; exact i2 k hk
    · rw [if_neg q3, if_neg q3]
      have e52 : jX10_lay_52 VV (e_g s g) 20 a b (Int32.ofNat d) 0 = Option.bind (fX10_cover VV (e_g s g) 20 a b (Int32.ofNat d)) fun v => some v := by
        unfold jX10_lay_52 jX10_lay_71 jX10_lay_90
        rw [(F s).2.2.2.2.2.1, ob_n, if_pos (Or.inr rfl), ob_n, if_neg (fun z => z.elim q6 (fun z => z rfl)), ob20, ob_n]
      obtain ⟨s', b1, b2, b3, b4⟩ := cover11 (s := s) (VV := VV) (G := G) h11 hd hw1 hw hh a0 a1 hL q3 (fun k hk => by rw [i2 k hk]; exact rI k hk) hV
      have ev : ∀ k, k < w * h → exV w h G r (fun k => if r 7 = 0 then 255 else s.2.1 (54 + d) k) k = exV w h G r (ovE (decide (¬ r 7 = 0)) S.2) k := fun k hk => by
        unfold exV ovE
        dsimp only
        by_cases q7 : r 7 = 0
        · rw [if_pos q7, if_neg (by rw [decide_eq_true_iff]; exact fun z => z q7)]
        · rw [if_neg q7, if_pos (decide_eq_true q7), i2 k hk]
      have res : (if ¬ r 7 = 0 then jX10_lay_52 VV (e_g s g) 20 a b (Int32.ofNat d) 0 else if ¬ (0 : Int32) = 0 then jX10_lay_42 VV (e_g s g) 20 a b (Int32.ofNat d) 0 else Option.bind (q_fI 4 5 (e_g s g) b) fun v28 => if ¬ v28 = 0 then jX10_lay_52 VV (e_g s g) 20 a b (Int32.ofNat d) 0 else jX10_lay_42 VV (e_g s g) 20 a b (Int32.ofNat d) 0) = some (e_g s' g) := by
        rw [(F s).2.2.2.2.2.1, ob_n, if_pos q6, if_neg (show ¬ ¬ (0 : Int32) = 0 from fun z => z rfl), e52, b1, ob_n, ite_self]
      rw [res]
      refine ⟨s', rfl, b2, fun k hk => ?_, fun k hk => ?_⟩
      · rw [b3 k hk, i1 k hk, ev k hk]
      · rw [b4 k hk]
        by_cases q7 : r 7 = 0
        · have n7 : ¬ ¬ r 7 = 0 := fun z => z q7
          rw [if_pos q7, ev k hk, decide_eq_false n7]; rfl
        · rw [if_neg q7, i2 k hk, decide_eq_true q7]; rfl
