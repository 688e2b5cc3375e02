-- needs: 07 10 13 14 20 21 22 23 24 25 26 27 32 38 41 43 46 47 48 50 52 53 54 55 57 60 61 62 63 64 65 70 71 72 73 74 97b 97c 97d
theorem bec_e {s : e_S} {g : ps_G} {l : Nat} (hl : l < 30) : q_lp (fun t => bX12_becomePixels_197 139 (Int32.ofNat l) t.1 t.2) ((8 : Int32), e_g s g) = some (e_g (sA s 142 (cpT (s.2.1 142) (fun _ => 0) (1169 * l + 8) 2)) g) := by
  refine lp_0 (fun i => (Int32.ofNat (8 + i), e_g (sA s 142 (cpT (s.2.1 142) (fun _ => 0) (1169 * l + 8) i)) g)) 2 ?_ (fun i hi => ?_) ?_
  · rw [cpT_0, sA_id]; rfl
  · have q1 : ¬ (9 : Int32) < Int32.ofNat (8 + i) := fun q => by
      have := (n_lt (n := 9) (m := 8 + i) (by omega) (by omega)).mp q
      omega
    have e9 : (sA s 142 (cpT (s.2.1 142) (fun _ => 0) (1169 * l + 8) i)).2.1 142 = cpT (s.2.1 142) (fun _ => 0) (1169 * l + 8) i := by rw [A_sA, if_pos rfl]
    have pp : fX12_put (e_g (sA s 142 (cpT (s.2.1 142) (fun _ => 0) (1169 * l + 8) i)) g) 139 (Int32.ofNat l) (Int32.ofNat (8 + i)) 0 = some (e_g (sA s 142 (cpT (s.2.1 142) (fun _ => 0) (1169 * l + 8) (i + 1))) g) := by
      have := put12 (s := sA s 142 (cpT (s.2.1 142) (fun _ => 0) (1169 * l + 8) i)) (g := g) (l := l) (n := 8 + i) (v := 0) hl (by omega)
      rw [e9, sA_sA, ← Nat.add_assoc, cpT_up (A := s.2.1 142) (N := fun _ => 0) (b := 1169 * l + 8) (n := i)] at this
      exact this
    show bX12_becomePixels_197 _ _ _ _ = _
    unfold bX12_becomePixels_197
    dsimp only
    rw [if_neg q1, ob139, ob_n, pp, ob_n, n_suc]
    rfl
  · show bX12_becomePixels_197 _ _ _ _ = _
    unfold bX12_becomePixels_197
    dsimp only
    rw [if_pos (show (9 : Int32) < Int32.ofNat (8 + 2) by decide)]
theorem bec_f {s : e_S} {g : ps_G} {l : Nat} (hl : l < 30) : q_lp (fun t => bX12_becomePixels_219 139 (Int32.ofNat l) t.1 t.2) ((11 : Int32), e_g s g) = some (e_g (sA s 142 (cpT (s.2.1 142) (fun _ => 0) (1169 * l + 11) 6)) g) := by
  refine lp_0 (fun i => (Int32.ofNat (11 + i), e_g (sA s 142 (cpT (s.2.1 142) (fun _ => 0) (1169 * l + 11) i)) g)) 6 ?_ (fun i hi => ?_) ?_
  · rw [cpT_0, sA_id]; rfl
  · have q1 : ¬ (17 : Int32) ≤ Int32.ofNat (11 + i) := nle (b := 17) (by omega) (by decide)
    have e9 : (sA s 142 (cpT (s.2.1 142) (fun _ => 0) (1169 * l + 11) i)).2.1 142 = cpT (s.2.1 142) (fun _ => 0) (1169 * l + 11) i := by rw [A_sA, if_pos rfl]
    have pp : fX12_put (e_g (sA s 142 (cpT (s.2.1 142) (fun _ => 0) (1169 * l + 11) i)) g) 139 (Int32.ofNat l) (Int32.ofNat (11 + i)) 0 = some (e_g (sA s 142 (cpT (s.2.1 142) (fun _ => 0) (1169 * l + 11) (i + 1))) g) := by
      have := put12 (s := sA s 142 (cpT (s.2.1 142) (fun _ => 0) (1169 * l + 11) i)) (g := g) (l := l) (n := 11 + i) (v := 0) hl (by omega)
      rw [e9, sA_sA, ← Nat.add_assoc, cpT_up (A := s.2.1 142) (N := fun _ => 0) (b := 1169 * l + 11) (n := i)] at this
      exact this
    show bX12_becomePixels_219 _ _ _ _ = _
    unfold bX12_becomePixels_219
    dsimp only
    rw [if_neg q1, ob139, ob_n, pp, ob_n, n_suc]
    rfl
  · show bX12_becomePixels_219 _ _ _ _ = _
    unfold bX12_becomePixels_219
    dsimp only
    rw [if_pos (show (17 : Int32) ≤ Int32.ofNat (11 + 6) by decide)]
/-- the reference's row, l now of pixels V -/
def bpN (N : Nat → Int32) (l : Nat) (V : Nat → Int32) : Nat → Int32 := cpT (cpT (upd (upd (upd (cpT (cpT (upd (lvN N (nsD N l) 30) (1169 * l + 1) 0) V (1169 * l + 17) 576) (fun _ => 0) (1169 * l + 593) 576) (1169 * l + 4) 255) (1169 * l + 5) 0) (1169 * l + 10) 0) (fun _ => 0) (1169 * l + 8) 2) (fun _ => 0) (1169 * l + 11) 6
theorem bpN_o {N : Nat → Int32} {l k : Nat} {V : Nat → Int32} (h : k < 1169 * l + 1 ∨ k = 1169 * l + 2 ∨ k = 1169 * l + 3 ∨ k = 1169 * l + 6 ∨ k = 1169 * l + 7 ∨ 1169 * l + 1169 ≤ k) : bpN N l V k = lvN N (nsD N l) 30 k := by
  unfold bpN
  rw [cpT_out (by omega), cpT_out (by omega), upd_n (by omega), upd_n (by omega), upd_n (by omega), cpT_out (by omega), cpT_out (by omega), upd_n (by omega)]
theorem bpN_m {N : Nat → Int32} {l m j : Nat} {V : Nat → Int32} (hne : ¬ m = l) (hj : j < 1169) (h0 : ¬ j = 0) : bpN N l V (1169 * m + j) = N (1169 * m + j) := by
  rw [bpN_o (by omega), lvN_i hj h0]
theorem bpN_l {N : Nat → Int32} {l j : Nat} {V : Nat → Int32} (h : j = 2 ∨ j = 3 ∨ j = 6 ∨ j = 7) : bpN N l V (1169 * l + j) = N (1169 * l + j) := by
  rw [bpN_o (by omega), lvN_i (by omega) (by omega)]
theorem bpN_px {N : Nat → Int32} {l k : Nat} {V : Nat → Int32} (hk : k < 576) : bpN N l V (1169 * l + (17 + k)) = V k := by
  unfold bpN
  rw [cpT_out (by omega), cpT_out (by omega), upd_n (by omega), upd_n (by omega), upd_n (by omega), cpT_out (by omega), ← Nat.add_assoc]
  exact cpT_in hk
theorem bpN_1 {N : Nat → Int32} {l : Nat} {V : Nat → Int32} : bpN N l V (1169 * l + 1) = 0 := by
  unfold bpN
  rw [cpT_out (by omega), cpT_out (by omega), upd_n (by omega), upd_n (by omega), upd_n (by omega), cpT_out (by omega), cpT_out (by omega), upd_s]
theorem bpN_4 {N : Nat → Int32} {l : Nat} {V : Nat → Int32} : bpN N l V (1169 * l + 4) = 255 := by
  unfold bpN
  rw [cpT_out (by omega), cpT_out (by omega), upd_n (by omega), upd_n (by omega), upd_s]
theorem bpN_5 {N : Nat → Int32} {l : Nat} {V : Nat → Int32} : bpN N l V (1169 * l + 5) = 0 := by
  unfold bpN
  rw [cpT_out (by omega), cpT_out (by omega), upd_n (by omega), upd_s]
theorem bpN_10 {N : Nat → Int32} {l : Nat} {V : Nat → Int32} : bpN N l V (1169 * l + 10) = 0 := by
  unfold bpN
  rw [cpT_out (by omega), cpT_out (by omega), upd_s]
theorem bpN_89 {N : Nat → Int32} {l k : Nat} {V : Nat → Int32} (hk : k < 2) : bpN N l V (1169 * l + (8 + k)) = 0 := by
  unfold bpN
  rw [cpT_out (by omega), ← Nat.add_assoc]
  exact cpT_in hk
theorem bpN_11 {N : Nat → Int32} {l k : Nat} {V : Nat → Int32} (hk : k < 6) : bpN N l V (1169 * l + (11 + k)) = 0 := by
  unfold bpN
  rw [← Nat.add_assoc]
  exact cpT_in hk
theorem bpN_70 {N : Nat → Int32} {l : Nat} {V : Nat → Int32} (hl : l < 30) : bpN N l V 35070 = N 35070 := by
  rw [bpN_o (by omega), lvN_hi (by omega)]
theorem bpN_z {N : Nat → Int32} {l m : Nat} {V : Nat → Int32} (hm : m < 30) : bpN N l V (1169 * m) = if nsD N l m then 0 else N (1169 * m) := by
  rw [bpN_o (by omega), lvN_z hm]
theorem becomePixels12 {s : e_S} {g : ps_G} {l w h c : Nat} (ht : TrN (s.2.1 142)) (hl : l < 30) (hw : w ≤ 24) (hh : h ≤ 24) (e0 : s.1 139 13 = Int32.ofNat w) (e1 : s.1 139 14 = Int32.ofNat h) (hP : (576 : Int32) * (s.2.1 142 (1169 * l + 2) + 1) = Int32.ofNat (576 * c)) (hc : c ≤ 30) : ∃ R, fX12_becomePixels (e_g s g) 139 (Int32.ofNat l) = some (e_g (sA (sA s 144 R) 142 (bpN (s.2.1 142) l (fun k => if k < w * h then s.2.1 145 (576 * c + k) else 0))) g) := by
  generalize hN : s.2.1 142 = N at ht hP
  have l1 := bec_a (s := s) (g := g) (l := l) (by rw [hN]; exact ht) hl
  rw [hN] at l1
  generalize hR : cpT (s.2.1 144) (fun k => if nsD N l k then 1 else 0) 0 30 = R at l1
  have hRk : ∀ k, k < 30 → R k = if nsD N l k then 1 else 0 := fun k hk => by
    have := cpT_in (A := s.2.1 144) (N := fun k => if nsD N l k then 1 else 0) (b := 0) hk
    rw [Nat.zero_add, hR] at this
    exact this
  have l2 := bec_b (s := sA s 144 R) (g := g) (l := l) (N := N) (R := R) (by rw [A_sA, if_neg (by decide)]; exact hN) (by rw [A_sA, if_pos rfl]) hRk
  refine ⟨R, ?_⟩
  generalize hs : sA s 144 R = s1 at l1 l2
  have e9 : ∀ F, (sA s1 142 F).2.1 142 = F := fun F => by rw [A_sA, if_pos rfl]
  have e5 : ∀ F, (sA s1 142 F).2.1 145 = s.2.1 145 := fun F => by rw [A_sA, if_neg (by decide), ← hs, A_sA, if_neg (by decide)]
  have eF : ∀ F, (sA s1 142 F).1 = s.1 := fun F => by rw [F_sA, ← hs, F_sA]
  have pp : ∀ (F : Nat → Int32) (n : Nat) (v : Int32), n < 1169 → fX12_put (e_g (sA s1 142 F) g) 139 (Int32.ofNat l) (OfNat.ofNat n) v = some (e_g (sA s1 142 (upd F (1169 * l + n) v)) g) := by
    intro F n v hn
    have := put12 (s := sA s1 142 F) (g := g) (n := n) (v := v) hl hn
    rw [e9, sA_sA] at this
    exact this
  have p1 := fun F v => pp F 1 v (by omega)
  have p4 := fun F v => pp F 4 v (by omega)
  have p5 := fun F v => pp F 5 v (by omega)
  have p10 := fun F v => pp F 10 v (by omega)
  have l3 := bec_c (s := sA s1 142 (upd (lvN N (nsD N l) 30) (1169 * l + 1) 0)) (g := g) (l := l) (w := w) (h := h) (c := c) hl hw hh (by rw [eF]; exact e0) (by rw [eF]; exact e1) (by rw [e9, upd_n (by omega), lvN_i (by omega) (by omega)]; exact hP) hc
  rw [e9, e5, sA_sA] at l3
  have l4 := fun F => bec_d (s := sA s1 142 F) (g := g) (l := l) hl
  have l5 := fun F => bec_e (s := sA s1 142 F) (g := g) (l := l) hl
  have l6 := fun F => bec_f (s := sA s1 142 F) (g := g) (l := l) hl
  simp only [e9, sA_sA] at l4 l5 l6
  unfold fX12_becomePixels
  rw [l1, ob_n, l2, ob_n, ob139, ob_n, p1, ob_n, l3, ob_n, l4, ob_n, ob139, ob_n, p4, ob_n, ob139, ob_n, p5, ob_n, ob139, ob_n, p10, ob_n, l5, ob_n, l6, ob_n]
  rfl
