-- needs: 97zzzzj
/-! ===== png: pixels painted ===== -/
/-- part of a picture put into a row: y rows of W, x of the next -/
def reT (f0 : Nat → Int32) (φ : Nat → Nat → Int32) (b w W y x : Nat) : Nat → Int32 := fun k => if b ≤ k ∧ (k - b) % w < W ∧ ((k - b) / w < y ∨ ((k - b) / w = y ∧ (k - b) % w < x)) then φ ((k - b) % w) ((k - b) / w) else f0 k
theorem re_0 {f0 : Nat → Int32} {φ : Nat → Nat → Int32} {b w W : Nat} : reT f0 φ b w W 0 0 = f0 := by
  funext k
  unfold reT
  rw [if_neg]
  rintro ⟨-, -, z | z⟩
  · exact Nat.not_lt_zero _ z
  · exact Nat.not_lt_zero _ z.2
theorem re_n {f0 : Nat → Int32} {φ : Nat → Nat → Int32} {b w W y : Nat} : reT f0 φ b w W y W = reT f0 φ b w W (y + 1) 0 := by
  funext k
  unfold reT
  by_cases q : b ≤ k ∧ (k - b) % w < W ∧ ((k - b) / w < y ∨ ((k - b) / w = y ∧ (k - b) % w < W))
  · rw [if_pos q, if_pos ⟨q.1, q.2.1, by have := q.2.2; omega⟩]
  · rw [if_neg q, if_neg (fun z => q ⟨z.1, z.2.1, by have := z.2.1; have := z.2.2; omega⟩)]
theorem re_s {f0 : Nat → Int32} {φ : Nat → Nat → Int32} {b w W y x : Nat} (hx : x < W) (hW : W ≤ w) : upd (reT f0 φ b w W y x) (b + (y * w + x)) (φ x y) = reT f0 φ b w W y (x + 1) := by
  funext k
  rw [upd_r]
  by_cases e : k = b + (y * w + x)
  · have dm := md (w := w) (x := x) (y := y) (by omega)
    have ek : k - b = y * w + x := by omega
    rw [if_pos e]
    unfold reT
    rw [ek, dm.1, dm.2, if_pos ⟨by omega, hx, Or.inr ⟨rfl, by omega⟩⟩]
  · rw [if_neg e]
    unfold reT
    by_cases q : b ≤ k ∧ (k - b) % w < W ∧ ((k - b) / w < y ∨ ((k - b) / w = y ∧ (k - b) % w < x))
    · rw [if_pos q, if_pos ⟨q.1, q.2.1, by have := q.2.2; omega⟩]
    · rw [if_neg q, if_neg]
      rintro ⟨z1, z2, z3⟩
      refine q ⟨z1, z2, ?_⟩
      rcases z3 with z | ⟨za, zb⟩
      · exact Or.inl z
      · refine Or.inr ⟨za, ?_⟩
        by_cases ex : (k - b) % w = x
        · exfalso
          have d := Nat.div_add_mod (k - b) w
          rw [za, ex, Nat.mul_comm] at d
          omega
        · omega
theorem fillR {σ : Type} (S : (Nat → Int32) → σ) (b w W H : Nat) (φ : Nat → Nat → Int32) (f0 : Nat → Int32) {bI : Int32 → Int32 × σ → Option ((Int32 × σ) ⊕ σ)} {bO : Int32 × σ → Option ((Int32 × σ) ⊕ σ)} (hW : W ≤ w) (hI : ∀ f y x, y < H → x < W → bI (Int32.ofNat y) (Int32.ofNat x, S f) = some (.inl (Int32.ofNat (x + 1), S (upd f (b + (y * w + x)) (φ x y))))) (hIe : ∀ f y, y < H → bI (Int32.ofNat y) (Int32.ofNat W, S f) = some (.inr (S f))) (hO : ∀ f y, y < H → bO (Int32.ofNat y, S f) = (q_lp (bI (Int32.ofNat y)) ((0 : Int32), S f)).bind fun s' => some (.inl (Int32.ofNat y + 1, s'))) (hOe : ∀ f, bO (Int32.ofNat H, S f) = some (.inr (S f))) : q_lp bO ((0 : Int32), S f0) = some (S (reT f0 φ b w W H 0)) := by
  obtain ⟨r, h1, h2⟩ := lp_n (b := bO) (fun y s => s = (Int32.ofNat y, S (reT f0 φ b w W y 0))) (fun r => r = S (reT f0 φ b w W H 0)) H (fun y s hy hp => by
    obtain ⟨r, h1, h2⟩ := lp_n (b := bI (Int32.ofNat y)) (fun x s => s = (Int32.ofNat x, S (reT f0 φ b w W y x))) (fun r => r = S (reT f0 φ b w W y W)) W (fun x s hx hp => by
      refine ⟨_, ?_, rfl⟩
      rw [hp, hI _ y x hy hx, re_s hx hW]) (fun s hp => by
      refine ⟨_, ?_, rfl⟩
      rw [hp, hIe _ y hy]) (s := ((0 : Int32), S (reT f0 φ b w W y 0))) rfl
    refine ⟨_, ?_, rfl⟩
    rw [hp, hO _ y hy, h1, ob_n, h2, n_suc, re_n]) (fun s hp => by
    refine ⟨_, ?_, rfl⟩
    rw [hp, hOe]) (s := ((0 : Int32), S f0)) (by rw [re_0]; rfl)
  rw [h1, h2]
/-- the pixel of a file at a place -/
def pxQ (Q : CQ) (P : Nat → Int32) (c w x y : Nat) : Int32 := pxP Q P c (y * (1 + w * chN c) + 1 + x * chN c)
theorem paint8 {s : e_S} {g : ps_G} {Q : CQ} {P : Nat → Int32} {c w h w' h' : Nat} {f0 : Nat → Int32} (hg : 195 ≤ g.1) (hw : w ≤ 24) (hh : h ≤ 24) (hP : PQ Q P c w' h') (hQ : QC s Q) (ro : RO s (h' * (1 + w' * chN c)) P) : fX8_paint (e_g s (mkA g f0)) 125 g.1 (Int32.ofNat w) (Int32.ofNat h) = some (e_g s (mkA g (reT f0 (pxQ Q P c w') 0 w (min w w') (min h h') 0))) := by
  have hwh := wh_le hw hh
  have q1 := hP.1
  obtain ⟨c1, w1, h1, x1, x2, x3, x4, x5, x6, x7⟩ : ∃ c w h', Q.1 = some (c, w, h') ∧ c < 7 ∧ (1 ≤ w ∧ w ≤ 24) ∧ (1 ≤ h' ∧ h' ≤ 24) ∧ s.1 125 6 = Int32.ofNat c ∧ s.1 125 4 = Int32.ofNat w ∧ s.1 125 5 = Int32.ofNat h' := hQ.1.elim (fun y => by rw [q1] at y; cases y.1) id
  rw [q1] at x1
  have x1' := Option.some.inj x1
  have ec : c = c1 := congrArg Prod.fst x1'
  have ew : w' = w1 := congrArg (fun t => t.2.1) x1'
  have eh : h' = h1 := congrArg (fun t => t.2.2) x1'
  subst ec ew eh
  have m1 := Nat.min_le_left w w'
  have m2 := Nat.min_le_right w w'
  have m3 := Nat.min_le_left h h'
  have m4 := Nat.min_le_right h h'
  have lp : q_lp (fun t => bX8_paint_3 125 g.1 (Int32.ofNat w) (Int32.ofNat h) t.1 t.2) ((0 : Int32), e_g s (mkA g f0)) = some (e_g s (mkA g (reT f0 (pxQ Q P c w') 0 w (min w w') (min h h') 0))) := by
    refine fillR (fun f => e_g s (mkA g f)) 0 w (min w w') (min h h') (pxQ Q P c w') f0 (bI := fun y t => bX8_paint_21 125 g.1 (Int32.ofNat w) (Int32.ofNat h) y t.1 t.2) m1 (fun f y x hy hx => ?_) (fun f y hy => ?_) (fun f y hy => ?_) (fun f => ?_)
    · have hlt := at_lt (w := w) (h := h) (a := x) (b := y) (by omega) (by omega)
      have lt : y * w + x < 576 := by omega
      have ln : q_len (e_g s (mkA g f)) g.1 = some (Int32.ofNat 576) := d_len (Or.inl hg) nw_at
      have cl : fX8_colourAt (e_g s (mkA g f)) 125 (Int32.ofNat x) (Int32.ofNat y) = some (pxQ Q P c w' x y) := colour8 hP hQ ro (by omega) (by omega)
      show bX8_paint_21 _ _ _ _ _ _ _ = _
      unfold bX8_paint_21 jX8_paint_64_21
      dsimp only
      rw [if_neg (nle (by omega) (by omega)), f125_4, x6, ob_n, if_neg (nle (by omega) (by omega)), ln, ob_n, n_mul, n_add, if_neg (nle lt (by omega)), ob125, ob_n, cl, ob_n, wI_mk hg, n_idx (by omega), if_neg (n_in2 lt (by decide)), ob_n, n_suc, Nat.zero_add]
    · show bX8_paint_21 _ _ _ _ _ _ _ = _
      unfold bX8_paint_21
      dsimp only
      by_cases q : w ≤ w'
      · rw [Nat.min_eq_left q, if_pos (nlr (by omega))]
      · rw [Nat.min_eq_right (by omega), if_neg (nle (by omega) (by omega)), f125_4, x6, ob_n, if_pos (nlr (by omega))]
    · show bX8_paint_3 _ _ _ _ _ _ = _
      unfold bX8_paint_3
      dsimp only
      rw [if_neg (nle (by omega) (by omega)), f125_5, x7, ob_n, if_neg (nle (by omega) (by omega))]
      rfl
    · show bX8_paint_3 _ _ _ _ _ _ = _
      unfold bX8_paint_3
      dsimp only
      by_cases q : h ≤ h'
      · rw [Nat.min_eq_left q, if_pos (nlr (by omega))]
      · rw [Nat.min_eq_right (by omega), if_neg (nle (by omega) (by omega)), f125_5, x7, ob_n, if_pos (nlr (by omega))]
  unfold fX8_paint jX8_paint_76
  rw [lp, ob_n]
theorem qm_A {s : e_S} {Q : CQ} {f : Nat → Int32} (h : QM s Q) : QM (sA s 142 f) Q := by
  unfold QM at h ⊢
  rw [F_sA, A_sA, if_neg (by decide), A_sA, if_neg (by decide), A_sA, if_neg (by decide)]
  exact h
theorem rm_A {s : e_S} {u w h d : Nat} {P f : Nat → Int32} (hR : RM s u w h d P) : RM (sA s 142 f) u w h d P := by
  unfold RM at hR ⊢
  rw [F_sA, A_sA, if_neg (by decide)]
  exact hR
theorem pngl12 {s : e_S} {g : ps_G} {Q : CQ} {P : Nat → Int32} {c w h w' h' l : Nat} (hw : w ≤ 24) (hh : h ≤ 24) (e13 : s.1 139 13 = Int32.ofNat w) (e14 : s.1 139 14 = Int32.ofNat h) (hl : l < 30) (hP : PQ Q P c w' h') (hQ : QM s Q) (ro : RM s (chN c) w' h' (h' * (1 + w' * chN c)) P) : q_lp (fun t => bX12_png_56 139 (Int32.ofNat l) t.1 t.2) ((0 : Int32), e_g s g) = some (e_g (sA s 142 (reT (s.2.1 142) (pxQ Q P c w') (1169 * l + 17) w (min w w') (min h h') 0)) g) := by
  have hwh := wh_le hw hh
  have q1 := hP.1
  obtain ⟨c1, w1, h1, x1, x2, x3, x4, x5, x6, x7⟩ : ∃ c w h', Q.1 = some (c, w, h') ∧ c < 7 ∧ (1 ≤ w ∧ w ≤ 24) ∧ (1 ≤ h' ∧ h' ≤ 24) ∧ s.1 139 85 = Int32.ofNat c ∧ s.1 139 83 = Int32.ofNat w ∧ s.1 139 84 = Int32.ofNat h' := hQ.1.elim (fun y => by rw [q1] at y; cases y) id
  rw [q1] at x1
  have x1' := Option.some.inj x1
  have ec : c = c1 := congrArg Prod.fst x1'
  have ew : w' = w1 := congrArg (fun t => t.2.1) x1'
  have eh : h' = h1 := congrArg (fun t => t.2.2) x1'
  subst ec ew eh
  have m1 := Nat.min_le_left w w'
  have m2 := Nat.min_le_right w w'
  have m3 := Nat.min_le_left h h'
  have m4 := Nat.min_le_right h h'
  have lp := fillR (fun F => e_g (sA s 142 F) g) (1169 * l + 17) w (min w w') (min h h') (pxQ Q P c w') (s.2.1 142) (bI := fun y t => bX12_png_74 139 (Int32.ofNat l) y t.1 t.2) (bO := fun t => bX12_png_56 139 (Int32.ofNat l) t.1 t.2) m1 (fun f y x hy hx => ?_) (fun f y hy => ?_) (fun f y hy => ?_) (fun f => ?_)
  · rw [sA_id] at lp
    exact lp
  · have hlt := at_lt (w := w) (h := h) (a := x) (b := y) (by omega) (by omega)
    have a83 : (sA s 142 f).1 139 83 = Int32.ofNat w' := by rw [F_sA]; exact x6
    have a13 : (sA s 142 f).1 139 13 = Int32.ofNat w := by rw [F_sA]; exact e13
    have pp := put12n (s := sA s 142 f) (g := g) (v := pxQ Q P c w' x y) hl (show y * w + x < 576 by omega)
    rw [A_sA, if_pos rfl, sA_sA] at pp
    have cl : fX12_pngPixel (e_g (sA s 142 f) g) 139 (Int32.ofNat x) (Int32.ofNat y) = some (pxQ Q P c w' x y) := pngPx12 hP (qm_A hQ) (rm_A ro) (by omega) (by omega)
    show bX12_png_74 _ _ _ _ _ = _
    unfold bX12_png_74
    dsimp only
    rw [f139_83, a83, ob_n, if_neg (nle (by omega) (by omega)), f139_13, a13, ob_n, if_neg (nle (by omega) (by omega)), ob139, ob_n, at12n a13, ob_n, ob_n, cl, ob_n, ob_n, pp, ob_n, n_suc]
  · have a83 : (sA s 142 f).1 139 83 = Int32.ofNat w' := by rw [F_sA]; exact x6
    have a13 : (sA s 142 f).1 139 13 = Int32.ofNat w := by rw [F_sA]; exact e13
    show bX12_png_74 _ _ _ _ _ = _
    unfold bX12_png_74
    dsimp only
    rw [f139_83, a83, ob_n]
    by_cases q : w' ≤ w
    · rw [Nat.min_eq_right q, if_pos (nlr (by omega))]
    · rw [Nat.min_eq_left (by omega), if_neg (nle (by omega) (by omega)), f139_13, a13, ob_n, if_pos (nlr (by omega))]
  · have a84 : (sA s 142 f).1 139 84 = Int32.ofNat h' := by rw [F_sA]; exact x7
    have a14 : (sA s 142 f).1 139 14 = Int32.ofNat h := by rw [F_sA]; exact e14
    show bX12_png_56 _ _ _ _ = _
    unfold bX12_png_56
    dsimp only
    rw [f139_84, a84, ob_n, if_neg (nle (by omega) (by omega)), f139_14, a14, ob_n, if_neg (nle (by omega) (by omega))]
    rfl
  · have a84 : (sA s 142 f).1 139 84 = Int32.ofNat h' := by rw [F_sA]; exact x7
    have a14 : (sA s 142 f).1 139 14 = Int32.ofNat h := by rw [F_sA]; exact e14
    show bX12_png_56 _ _ _ _ = _
    unfold bX12_png_56
    dsimp only
    rw [f139_84, a84, ob_n]
    by_cases q : h' ≤ h
    · rw [Nat.min_eq_right q, if_pos (nlr (by omega))]
    · rw [Nat.min_eq_left (by omega), if_neg (nle (by omega) (by omega)), f139_14, a14, ob_n, if_pos (nlr (by omega))]
