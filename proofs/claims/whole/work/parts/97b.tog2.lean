-- needs: 07 10 13 14 20 21 22 23 24 25 26 27 32 38 41 43 46 47 48 50 52 53 54 55 57 60 61 70 71 72 73 74 80 81 82 83 84 85 86 87 88 89 90 91 97a
/-- two LAYERS, the second over the first -/
theorem tog_2 {g : ps_G} {a b b2 w h la oa sz l m : Nat} {ly : Nat → Option Nat} {od r t : Nat → Int32} {o : Nat → Nat} {s0 s : e_S} (hg : 195 ≤ g.1) (hS : StD g a w h (s0.2.1 142) la oa sz ly od o) (hk : CpOk s0 w h sz od o) (h11 : ∀ s, q_len (e_g s g) 0 = some 0) (a0 : ∀ s, q_fI 9 0 (e_g s g) a = some (Int32.ofNat w)) (a1 : ∀ s, q_fI 9 1 (e_g s g) a = some (Int32.ofNat h)) (hK : Kc s) (hA : ∀ r V k, RwN r → 3 < r 1 → aC s w h r V k = aD s0 w h r V k) (hL : LyN g b w h l r) (hl : l < 30) (hM : LyN g b2 w h m t) (hm : m < 30) : ∃ s', fX10_together (e_g s g) 20 a b (some b2) = some (some g.1, e_g s' (mkA g (s'.2.1 22))) ∧ Vw 0 s s' ∧ ∀ k, k < w * h → s'.2.1 22 k = (laS (aD s0 w h) w h (vwF s0 w h sz o 31 (Int32.ofNat m)) (decide (¬ t 6 = 0)) (decide (t 7 = 1)) (t 5) t (laS (aD s0 w h) w h (vwF s0 w h sz o 31 (Int32.ofNat l)) (decide (¬ r 6 = 0)) (decide (r 7 = 1)) (r 5) r (fun _ => 0, fun _ => 0))).1 k := by
  obtain ⟨ht, ho, hrow, hw1, hh1, hw, hh, e1, e2, hdv, hC⟩ := id hk
  have hn := wh_le hw hh
  have dp := dp_all ht
  have vb : Vw 0 s (sA (sA s 22 (fl (s.2.1 22) 576 0)) 54 (fl ((sA s 22 (fl (s.2.1 22) 576 0)).2.1 54) 576 0)) := vw_tr (vw_sA (Or.inr (Or.inr (Or.inl ⟨Nat.le_refl _, by omega⟩)))) (vw_sA (Or.inr (Or.inr (Or.inr ⟨Nat.le_refl _, by omega⟩))))
  have b22 : ∀ k, k < w * h → (sA (sA s 22 (fl (s.2.1 22) 576 0)) 54 (fl ((sA s 22 (fl (s.2.1 22) 576 0)).2.1 54) 576 0)).2.1 (22 + 0) k = 0 := fun k hk => by
    rw [A_sA, if_neg (by decide), A_sA, if_pos rfl, fl_lt (by omega)]
  have b54 : ∀ k, k < w * h → (sA (sA s 22 (fl (s.2.1 22) 576 0)) 54 (fl ((sA s 22 (fl (s.2.1 22) 576 0)).2.1 54) 576 0)).2.1 (54 + 0) k = 0 := fun k hk => by
    rw [A_sA, if_pos rfl, fl_lt (by omega)]
  have r0 : ∀ s', q_aR (e_g s' g) 21 0 = some (some 22) := fun s' => rV (d := 0) (by omega)
  have rb0 : ∀ s', q_aR (e_g s' g) 53 0 = some (some 54) := fun s' => rB (d := 0) (by omega)
  unfold fX10_together jX10_together_38
  rw [f20_1, ob_n, ob_n, r0, ob_n, ob_n, fillI t22 (by omega) (by omega), ob_n, f20_2, ob_n, ob_n, rb0, ob_n, ob_n, fillI t54 (by omega) (by omega), ob_n, ob20, ob_n]
  generalize sA (sA s 22 (fl (s.2.1 22) 576 0)) 54 (fl ((sA s 22 (fl (s.2.1 22) 576 0)).2.1 54) 576 0) = sb at vb b22 b54
  have kk := kc_vw (w := w) (h := h) vb hK
  have hA1 : ∀ r V k, RwN r → 3 < r 1 → aC sb w h r V k = aD s0 w h r V k := fun r V k h1 h2 => by rw [kk.2]; exact hA r V k h1 h2
  have vw : ∀ n, n < 30 → ∀ s', Kc s' → (∀ r V k, RwN r → 3 < r 1 → aC s' w h r V k = aD s0 w h r V k) → ∃ s1, fX10_viewOf 31 (e_g s' g) 20 a (Int32.ofNat n) (Int32.ofNat (0 + 1)) = some (e_g s1 g) ∧ Vw (0 + 1) s' s1 ∧ ∀ k, k < w * h → s1.2.1 (22 + (0 + 1)) k = vwF s0 w h sz o 31 (Int32.ofNat n) k := fun n hn9 s' k1 k2 => view11 hS hk h11 a0 a1 30 (Int32.ofNat n) (0 + 1) (by omega) (by omega) (fun c hc h1 h2 => by
    have := (dp.2.2 c n hc h1 hn9 h2).2.2
    omega) s' k1 k2
  obtain ⟨s2, l1, l2, l3, l4⟩ := lay11 (VV := fX10_viewOf 31) (s := sb) (d := 0) (G := vwF s0 w h sz o 31 (Int32.ofNat l)) (S := (fun _ => 0, fun _ => 0)) h11 (by omega) hw1 hh1 hw hh a0 a1 hL kk.1 b22 b54 (fun _ _ => by show rg 0 0 255 = true; decide) (fun _ => ⟨by omega, vw l hl sb kk.1 hA1⟩)
  have lA := laS_A (A := aC sb w h) (A' := aD s0 w h) (w := w) (h := h) (n := w * h) (G := vwF s0 w h sz o 31 (Int32.ofNat l)) (sh := decide (¬ r 6 = 0)) (cl := decide (r 7 = 1)) (md := r 5) (r := r) (S := (fun _ => 0, fun _ => 0)) (fun h3 k _ => hA1 _ _ _ (rwN_l hL) h3)
  have rI := laS_r (A := aD s0 w h) (w := w) (h := h) (n := w * h) (G := vwF s0 w h sz o 31 (Int32.ofNat l)) (sh := decide (¬ r 6 = 0)) (cl := decide (r 7 = 1)) (md := r 5) (r := r) (S := (fun _ => 0, fun _ => 0)) hn (rwN_l hL) (fun _ _ => by show rg 0 0 255 = true; decide)
  have i1 : ∀ k, k < w * h → s2.2.1 (22 + 0) k = (laS (aD s0 w h) w h (vwF s0 w h sz o 31 (Int32.ofNat l)) (decide (¬ r 6 = 0)) (decide (r 7 = 1)) (r 5) r (fun _ => 0, fun _ => 0)).1 k := fun k hk => (l3 k hk).trans (lA.1 k hk)
  have i2 : ∀ k, k < w * h → s2.2.1 (54 + 0) k = (laS (aD s0 w h) w h (vwF s0 w h sz o 31 (Int32.ofNat l)) (decide (¬ r 6 = 0)) (decide (r 7 = 1)) (r 5) r (fun _ => 0, fun _ => 0)).2 k := fun k hk => by rw [l4 k hk, lA.2]
  generalize laS (aD s0 w h) w h (vwF s0 w h sz o 31 (Int32.ofNat l)) (decide (¬ r 6 = 0)) (decide (r 7 = 1)) (r 5) r (fun _ => 0, fun _ => 0) = S at rI i1 i2
  have kk2 := kc_vw (w := w) (h := h) l2 kk.1
  have hA2 : ∀ r V k, RwN r → 3 < r 1 → aC s2 w h r V k = aD s0 w h r V k := fun r V k h1 h2 => by rw [kk2.2]; exact hA1 r V k h1 h2
  obtain ⟨s3, m1, m2, m3, m4⟩ := lay11 (VV := fX10_viewOf 31) (s := s2) (d := 0) (G := vwF s0 w h sz o 31 (Int32.ofNat m)) (S := S) h11 (by omega) hw1 hh1 hw hh a0 a1 hM kk2.1 i1 i2 rI (fun _ => ⟨by omega, vw m hm s2 kk2.1 hA2⟩)
  have mA := laS_A (A := aC s2 w h) (A' := aD s0 w h) (w := w) (h := h) (n := w * h) (G := vwF s0 w h sz o 31 (Int32.ofNat m)) (sh := decide (¬ t 6 = 0)) (cl := decide (t 7 = 1)) (md := t 5) (r := t) (S := S) (fun h3 k _ => hA2 _ _ _ (rwN_l hM) h3)
  have l1' : fX10_lay (fX10_viewOf 31) (e_g sb g) 20 a b 0 = some (e_g s2 g) := l1
  have m1' : fX10_lay (fX10_viewOf 31) (e_g s2 g) 20 a b2 0 = some (e_g s3 g) := m1
  refine ⟨s3, ?_, vw_tr vb (vw_tr l2 m2), fun k hk => ?_⟩
  · rw [l1', ob_n, if_neg (by intro z; cases z), ob_n, ob20, ob_n, m1', ob_n, f20_1, ob_n, ob_n, r0, ob_n, ob_n, e_cl t22 (by omega) hg, ob_n]
    rfl
  · have := m3 k hk
    rw [show 22 + 0 = 22 from rfl] at this
    rw [this]
    exact mA.1 k hk
