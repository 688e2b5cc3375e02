-- needs: 07 10 13 14 20 21 22 23 24 25 26 27 32 38 41 43 46 47 48 50 52 53 54 55 57 60 61 62 63 64 65 70 71 72 73 74 97b 97c
theorem bec_c {s : e_S} {g : ps_G} {l w h c : Nat} (hl : l < 30) (hw : w ≤ 24) (hh : h ≤ 24) (e0 : s.1 139 13 = Int32.ofNat w) (e1 : s.1 139 14 = Int32.ofNat h) (hP : (576 : Int32) * (s.2.1 142 (1169 * l + 2) + 1) = Int32.ofNat (576 * c)) (hc : c ≤ 30) : q_lp (fun t => bX12_becomePixels_86 139 (Int32.ofNat l) t.1 t.2) ((0 : Int32), e_g s g) = some (e_g (sA s 142 (cpT (s.2.1 142) (fun k => if k < w * h then s.2.1 145 (576 * c + k) else 0) (1169 * l + 17) 576)) g) := by
  have hwh := wh_le hw hh
  refine lp_0 (fun i => (Int32.ofNat i, e_g (sA s 142 (cpT (s.2.1 142) (fun k => if k < w * h then s.2.1 145 (576 * c + k) else 0) (1169 * l + 17) i)) g)) 576 ?_ (fun i hi => ?_) ?_
  · rw [cpT_0, sA_id]; rfl
  · have q1 : ¬ (576 : Int32) ≤ Int32.ofNat i := nle (b := 576) hi (by decide)
    have e9 : (sA s 142 (cpT (s.2.1 142) (fun k => if k < w * h then s.2.1 145 (576 * c + k) else 0) (1169 * l + 17) i)).2.1 142 = cpT (s.2.1 142) (fun k => if k < w * h then s.2.1 145 (576 * c + k) else 0) (1169 * l + 17) i := by rw [A_sA, if_pos rfl]
    have g2 : fX12_get (e_g (sA s 142 (cpT (s.2.1 142) (fun k => if k < w * h then s.2.1 145 (576 * c + k) else 0) (1169 * l + 17) i)) g) 139 (Int32.ofNat l) 2 = some (s.2.1 142 (1169 * l + 2)) := by
      have := get12 (s := sA s 142 (cpT (s.2.1 142) (fun k => if k < w * h then s.2.1 145 (576 * c + k) else 0) (1169 * l + 17) i)) (g := g) (n := 2) hl (by omega)
      rw [e9, cpT_out (by omega)] at this
      exact this
    have pp := fun v => put12n (s := sA s 142 (cpT (s.2.1 142) (fun k => if k < w * h then s.2.1 145 (576 * c + k) else 0) (1169 * l + 17) i)) (g := g) (v := v) hl hi
    rw [e9] at pp
    have rd : ∀ (k : Nat), k < 18000 → q_aI (e_g (sA s 142 (cpT (s.2.1 142) (fun k => if k < w * h then s.2.1 145 (576 * c + k) else 0) (1169 * l + 17) i)) g) 145 (Int32.ofNat k) = some (s.2.1 145 k) := fun k hk => by
      rw [a145, n_idx (by omega), if_neg (n_in2 hk (by decide)), A_sA, if_neg (by decide)]
    have up := cpT_up (A := s.2.1 142) (N := fun k => if k < w * h then s.2.1 145 (576 * c + k) else 0) (b := 1169 * l + 17) (n := i)
    show bX12_becomePixels_86 _ _ _ _ = _
    unfold bX12_becomePixels_86 jX12_becomePixels_135_86
    dsimp only
    rw [if_neg q1, f139_13, F_sA, e0, ob_n, f139_14, F_sA, e1, ob_n, n_mul, n_suc]
    by_cases q : i < w * h
    · rw [if_pos q] at up
      rw [if_neg (nle q (by omega)), f139_16, ob_n, ob_n, ob139, ob_n, g2, ob_n, hP, n_add, rd _ (by omega), ob_n, ob_n, pp, ob_n, sA_sA, up]
    · rw [if_neg q] at up
      rw [if_pos ((n_le (by omega) (by omega)).mpr (by omega)), ob139, ob_n, pp, ob_n, sA_sA, up]
  · show bX12_becomePixels_86 _ _ _ _ = _
    unfold bX12_becomePixels_86
    dsimp only
    rw [if_pos (show (576 : Int32) ≤ Int32.ofNat 576 by decide)]
theorem bec_d {s : e_S} {g : ps_G} {l : Nat} (hl : l < 30) : q_lp (fun t => bX12_becomePixels_146 139 (Int32.ofNat l) t.1 t.2) ((0 : Int32), e_g s g) = some (e_g (sA s 142 (cpT (s.2.1 142) (fun _ => 0) (1169 * l + 593) 576)) g) := by
  refine lp_0 (fun i => (Int32.ofNat i, e_g (sA s 142 (cpT (s.2.1 142) (fun _ => 0) (1169 * l + 593) i)) g)) 576 ?_ (fun i hi => ?_) ?_
  · rw [cpT_0, sA_id]; rfl
  · have q1 : ¬ (576 : Int32) ≤ Int32.ofNat i := nle (b := 576) hi (by decide)
    have e9 : (sA s 142 (cpT (s.2.1 142) (fun _ => 0) (1169 * l + 593) i)).2.1 142 = cpT (s.2.1 142) (fun _ => 0) (1169 * l + 593) i := by rw [A_sA, if_pos rfl]
    have pp : fX12_put (e_g (sA s 142 (cpT (s.2.1 142) (fun _ => 0) (1169 * l + 593) i)) g) 139 (Int32.ofNat l) (593 + Int32.ofNat i) 0 = some (e_g (sA s 142 (cpT (s.2.1 142) (fun _ => 0) (1169 * l + 593) (i + 1))) g) := by
      have := put12 (s := sA s 142 (cpT (s.2.1 142) (fun _ => 0) (1169 * l + 593) i)) (g := g) (l := l) (n := 593 + i) (v := 0) hl (by omega)
      rw [e9, sA_sA, ← Nat.add_assoc, cpT_up (A := s.2.1 142) (N := fun _ => 0) (b := 1169 * l + 593) (n := i)] at this
      rw [show (593 : Int32) + Int32.ofNat i = Int32.ofNat (593 + i) from n_add (n := 593)]
      exact this
    show bX12_becomePixels_146 _ _ _ _ = _
    unfold bX12_becomePixels_146
    dsimp only
    rw [if_neg q1, ob139, ob_n, pp, ob_n, n_suc]
  · show bX12_becomePixels_146 _ _ _ _ = _
    unfold bX12_becomePixels_146
    dsimp only
    rw [if_pos (show (576 : Int32) ≤ Int32.ofNat 576 by decide)]
