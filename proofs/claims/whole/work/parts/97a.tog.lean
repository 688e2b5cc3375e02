-- needs: 07 10 13 14 20 21 22 23 24 25 26 27 32 38 41 43 46 47 48 50 52 53 54 55 57 60 61 70 71 72 73 74 80 81 82 83 84 85 86 87 88 89 90 91
/-! ===== flat and merge: on an empty background the mode doesn't matter ===== -/
theorem bl_0 {s e m m' : Int32} (hm : rg m 0 15) (hm' : rg m' 0 15) : blV 0 s e m = blV 0 s e m' := by
  have z : q_ush 0 24 = 0 := by decide
  have mx : ∀ y v v', fX11_mix y v 0 = fX11_mix y v' 0 := fun y v v' => by
    unfold fX11_mix
    rw [Int32.mul_zero, Int32.mul_zero]
  have body : ∀ D L, (fun t : Int32 × Int32 => bX11_blend_58 cmG 0 s e m 0 D L t.1 t.2) = fun t => bX11_blend_58 cmG 0 s e m' 0 D L t.1 t.2 := by
    intro D L
    funext t
    unfold bX11_blend_58
    by_cases q : t.2 < 0
    · rw [if_pos q, if_pos q]
    · obtain ⟨v, hv⟩ := blended_t (g := cmG) (x := q_shr 0 t.2 &&& 255) (y := q_shr s t.2 &&& 255) (l := L) hm by_r
      obtain ⟨v', hv'⟩ := blended_t (g := cmG) (x := q_shr 0 t.2 &&& 255) (y := q_shr s t.2 &&& 255) (l := L) hm' by_r
      rw [if_neg q, if_neg q, hv, hv', ob_n, ob_n, mx _ v v']
  unfold blV fX11_blend
  rw [z, body]
theorem e_cl {s : e_S} {g : ps_G} {j : Nat} (ht : e_tb[j]? = some (2, 576, [])) (h8 : 8 ≤ j) (hg : 195 ≤ g.1) : q_cl (e_g s g) j = some (e_g s (mkA g (s.2.1 j))) := by
  unfold q_cl
  show (q_I 0 (e_c s j _)).bind _ = _
  rw [e_c_I ht]
  unfold q_I
  dsimp only
  rw [if_pos rfl, ob_n]
  have e1 : (e_g s g).1 = g.1 := rfl
  rw [e1, if_neg (by omega), e_nw hg]
  rfl
/-- one LAYER alone on nothing -/
theorem tog_1 {g : ps_G} {a b w h la oa sz l : Nat} {ly : Nat → Option Nat} {od r : Nat → Int32} {o : Nat → Nat} {s0 s : e_S} (hg : 195 ≤ g.1) (hS : StD g a w h (s0.2.1 142) la oa sz ly od o) (hk : CpOk s0 w h sz od o) (h11 : ∀ s, q_len (e_g s g) 0 = some 0) (a0 : ∀ s, q_fI 9 0 (e_g s g) a = some (Int32.ofNat w)) (a1 : ∀ s, q_fI 9 1 (e_g s g) a = some (Int32.ofNat h)) (hK : Kc s) (hA : ∀ r V k, RwN r → 3 < r 1 → aC s w h r V k = aD s0 w h r V k) (hL : LyN g b w h l r) (hl : l < 30) : ∃ s', fX10_together (e_g s g) 20 a b none = some (some g.1, e_g s' (mkA g (s'.2.1 22))) ∧ Vw 0 s s' ∧ ∀ k, k < w * h → s'.2.1 22 k = (laS (aD s0 w h) w h (vwF s0 w h sz o 31 (Int32.ofNat l)) (decide (¬ r 6 = 0)) (decide (r 7 = 1)) (r 5) r (fun _ => 0, fun _ => 0)).1 k := by
  obtain ⟨ht, ho, hrow, hw1, hh1, hw, hh, e1, e2, hdv, hC⟩ := id hk
  have hn := wh_le hw hh
  have dp := dp_all ht
  have vb : Vw 0 s (sA (sA s 22 (fl (s.2.1 22) 576 0)) 54 (fl ((sA s 22 (fl (s.2.1 22) 576 0)).2.1 54) 576 0)) := vw_tr (vw_sA (Or.inr (Or.inr (Or.inl ⟨Nat.le_refl _, by omega⟩)))) (vw_sA (Or.inr (Or.inr (Or.inr ⟨Nat.le_refl _, by omega⟩))))
  have b22 : ∀ k, k < w * h → (sA (sA s 22 (fl (s.2.1 22) 576 0)) 54 (fl ((sA s 22 (fl (s.2.1 22) 576 0)).2.1 54) 576 0)).2.1 (22 + 0) k = 0 := fun k hk => by
    rw [A_sA, if_neg (by decide), A_sA, if_pos rfl, fl_lt (by omega)]
  have b54 : ∀ k, k < w * h → (sA (sA s 22 (fl (s.2.1 22) 576 0)) 54 (fl ((sA s 22 (fl (s.2.1 22) 576 0)).2.1 54) 576 0)).2.1 (54 + 0) k = 0 := fun k hk => by
    rw [A_sA, if_pos rfl, fl_lt (by omega)]
  have r0 : ∀ s', q_aR (e_g s' g) 21 0 = some (some 22) := fun s' => rV (d := 0) (by omega)
  have rb0 : ∀ s', q_aR (e_g s' g) 53 0 = some (some 54) := fun s' => rB (d := 0) (by omega)
  unfold fX10_together jX10_together_38
  rw [f20_1, ob_n, ob_n, r0, ob_n, ob_n, fillI t22 (by omega) (by omega), ob_n, f20_2, ob_n, ob_n, rb0, ob_n, ob_n, fillI t54 (by omega) (by omega), ob_n, ob20, ob_n]
  generalize sA (sA s 22 (fl (s.2.1 22) 576 0)) 54 (fl ((sA s 22 (fl (s.2.1 22) 576 0)).2.1 54) 576 0) = sb at vb b22 b54
  have kk := kc_vw (w := w) (h := h) vb hK
  have hA1 : ∀ r V k, RwN r → 3 < r 1 → aC sb w h r V k = aD s0 w h r V k := fun r V k h1 h2 => by rw [kk.2]; exact hA r V k h1 h2
  obtain ⟨s2, l1, l2, l3, l4⟩ := lay11 (VV := fX10_viewOf 31) (s := sb) (d := 0) (G := vwF s0 w h sz o 31 (Int32.ofNat l)) (S := (fun _ => 0, fun _ => 0)) h11 (by omega) hw1 hh1 hw hh a0 a1 hL kk.1 b22 b54 (fun _ _ => by show rg 0 0 255 = true; decide) (fun hg => ⟨by omega, view11 hS hk h11 a0 a1 30 (Int32.ofNat l) (0 + 1) (by omega) (by omega) (fun c hc h1 h2 => by
    have := (dp.2.2 c l hc h1 hl h2).2.2
    omega) sb kk.1 hA1⟩)
  have lA := laS_A (A := aC sb w h) (A' := aD s0 w h) (w := w) (h := h) (n := w * h) (G := vwF s0 w h sz o 31 (Int32.ofNat l)) (sh := decide (¬ r 6 = 0)) (cl := decide (r 7 = 1)) (md := r 5) (r := r) (S := (fun _ => 0, fun _ => 0)) (fun h3 k _ => hA1 _ _ _ (rwN_l hL) h3)
  have l1' : fX10_lay (fX10_viewOf 31) (e_g sb g) 20 a b 0 = some (e_g s2 g) := l1
  refine ⟨s2, ?_, vw_tr vb l2, fun k hk => ?_⟩
  · rw [l1', ob_n, if_pos rfl, f20_1, ob_n, ob_n, r0, ob_n, ob_n, e_cl t22 (by omega) hg, ob_n]
    rfl
  · have := l3 k hk
    rw [show 22 + 0 = 22 from rfl] at this
    rw [this]
    exact lA.1 k hk
