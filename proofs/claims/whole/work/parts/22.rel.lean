-- needs: 07 10 13 14 20 21
/-! ===== the state of the two, held together ===== -/
/-- v lies between a and b -/
def rg (v a b : Int32) : Bool := decide (¬ v < a ∧ v ≤ b)
theorem rg_i {v a b : Int32} : rg v a b = true ↔ a.toInt ≤ v.toInt ∧ v.toInt ≤ b.toInt := by
  unfold rg
  rw [decide_eq_true_iff, i_lt, i_le]
  omega
/-- one of the 30 places for a number of a LAYER, in the reference's row -/
def lR (N : Nat → Int32) (l : Nat) : Nat → Int32 := fun k => N (1169 * l + k)
/-- a state that holds just what is looked at for what is seen -/
def cmS (N K M X Y : Nat → Int32) (dv os : Int32) (w h : Nat) : e_S := (fun a b => if a = 139 then (if b = 13 then Int32.ofNat w else if b = 14 then Int32.ofNat h else if b = 25 then dv else if b = 26 then os else 0) else 0, fun a => if a = 142 then N else if a = 150 then K else if a = 152 then M else if a = 153 then X else if a = 154 then Y else fun _ => 0, fun _ _ => none, fun _ _ => 0)
def cmG : ps_G := (195, 0, fun _ => ps_e0)
/-- what is seen (by the reference's row and what the looks hold) -/
noncomputable def CM (N K M X Y : Nat → Int32) (dv os : Int32) (w h : Nat) : Nat → Int32 := fun k => ((fX12_composeAll (e_g (cmS N K M X Y dv os w h) cmG) 139).bind fun G => q_aI G 145 (Int32.ofNat k)).getD 0
/-- INPUT -/
def G1 (s : e_S) : Prop := ∃ n : Nat, n ≤ 8000 ∧ s.1 8 14 = Int32.ofNat n ∧ s.1 139 2 = Int32.ofNat n ∧ (∀ k, k < n → s.2.1 137 k = s.2.1 140 k ∧ 0 ≤ (s.2.1 140 k).toInt ∧ (s.2.1 140 k).toInt ≤ 255) ∧ s.1 8 15 = s.1 139 4 ∧ s.1 8 16 = s.1 139 5
/-- the brush and its POINTS -/
def G2 (s : e_S) : Prop := s.1 93 0 = s.1 139 34 ∧ s.1 93 1 = s.1 139 36 ∧ s.1 93 2 = s.1 139 37 ∧ s.1 93 3 = s.1 139 38 ∧ s.1 93 4 = s.1 139 39 ∧ s.1 93 5 = s.1 139 40 ∧ s.1 93 6 = s.1 139 41 ∧ s.1 93 7 = s.1 139 42 ∧ rg (s.1 139 36) 1 64 ∧ rg (s.1 139 37) 0 255 ∧ rg (s.1 139 38) 2 64 ∧ rg (s.1 139 39) 0 255 ∧ rg (s.1 139 40) 0 255 ∧ rg (s.1 139 41) (-100) 100 ∧ rg (s.1 139 42) (-100) 100 ∧ ∃ n : Nat, n ≤ 20 ∧ s.1 93 8 = Int32.ofNat n ∧ s.1 139 43 = Int32.ofNat n ∧ ∀ k, k < n → s.2.1 94 k = s.2.1 159 k ∧ s.2.1 95 k = s.2.1 160 k ∧ s.2.1 96 k = s.2.1 161 k ∧ rg (s.2.1 159 k) (-200) 200 ∧ rg (s.2.1 160 k) (-200) 200 ∧ rg (s.2.1 161 k) 0 255
/-- the own KERNEL -/
def G3 (s : e_S) : Prop := (∀ k, k < 9 → s.2.1 18 k = s.2.1 150 k ∧ rg (s.2.1 150 k) (-100) 100) ∧ s.1 14 4 = s.1 139 25 ∧ rg (s.1 139 25) 1 1000 ∧ s.1 14 5 = s.1 139 26 ∧ rg (s.1 139 26) (-255) 255
/-- the CURVES -/
def G4 (s : e_S) : Prop := ∀ c, c < 32 → s.2.1 17 c = s.2.1 152 c ∧ ∃ n : Nat, n ≤ 8 ∧ s.2.1 152 c = Int32.ofNat n ∧ ∀ k, k < n → s.2.1 15 (8 * c + k) = s.2.1 153 (8 * c + k) ∧ s.2.1 16 (8 * c + k) = s.2.1 154 (8 * c + k) ∧ rg (s.2.1 153 (8 * c + k)) 0 255 ∧ rg (s.2.1 154 (8 * c + k)) 0 255 ∧ (0 < k → s.2.1 153 (8 * c + k - 1) < s.2.1 153 (8 * c + k))
/-- PROFILES and the frame's numbers -/
def G5 (s : e_S) : Prop := (∀ k, k < 40 → s.2.1 112 k = s.2.1 173 k ∧ (if k % 10 = 9 then rg (s.2.1 173 k) 0 2 else rg (s.2.1 173 k) (-4096) 4096)) ∧ ∀ k, k < 4 → s.2.1 113 k = s.2.1 180 k ∧ (if k = 0 then rg (s.2.1 180 k) 0 4095 else rg (s.2.1 180 k) 0 1024)
/-- PATHS and GLYPHS -/
def G6 (s : e_S) : Prop := (∀ p, p < 8 → s.2.1 99 p = s.2.1 163 p ∧ ∃ n : Nat, n ≤ 40 ∧ s.2.1 163 p = Int32.ofNat n ∧ ∀ k, k < n → s.2.1 100 (40 * p + k) = s.2.1 164 (40 * p + k) ∧ s.2.1 101 (40 * p + k) = s.2.1 165 (40 * p + k) ∧ s.2.1 102 (40 * p + k) = s.2.1 166 (40 * p + k) ∧ rg (s.2.1 164 (40 * p + k)) 0 2 ∧ rg (s.2.1 165 (40 * p + k)) (-2000) 2000 ∧ rg (s.2.1 166 (40 * p + k)) (-2000) 2000) ∧ ∀ b, b < 256 → s.2.1 103 b = s.2.1 171 b ∧ s.2.1 104 b = s.2.1 172 b ∧ rg (s.2.1 171 b) (-1) 7 ∧ rg (s.2.1 172 b) 0 800
/-- the picture's measure, and what is chosen -/
def G7 (s : e_S) (w h : Nat) : Prop := 1 ≤ w ∧ w ≤ 24 ∧ 1 ≤ h ∧ h ≤ 24 ∧ s.1 139 13 = Int32.ofNat w ∧ s.1 139 14 = Int32.ofNat h ∧ s.1 89 0 = Int32.ofNat w ∧ s.1 89 1 = Int32.ofNat h ∧ ∀ k, k < 576 → s.2.1 90 k = s.2.1 155 k ∧ rg (s.2.1 155 k) 0 255
/-- the TILES -/
def G8 (s : e_S) (w h : Nat) : Prop := s.1 20 8 = s.1 139 23 ∧ (∀ t, t < 9 → (s.2.1 148 t = 0 ∨ s.2.1 148 t = 1) ∧ (s.2.1 88 t = 0 ∨ s.2.1 88 t = 1)) ∧ (∀ x y, x < 3 → y < 3 → s.2.1 88 (3 * y + x) = if x < (w + 7) / 8 ∧ y < (h + 7) / 8 then s.2.1 148 ((w + 7) / 8 * y + x) else 0) ∧ (∀ t, t < 9 → (w + 7) / 8 * ((h + 7) / 8) ≤ t → s.2.1 148 t = 0) ∧ (∀ x y, x < w → y < h → s.2.1 88 (3 * (y / 8) + x / 8) = 1 → s.2.1 87 (y * w + x) = s.2.1 149 (y * w + x)) ∧ (s.1 20 5 = 0 ∨ s.1 20 5 = 1) ∧ (s.1 20 5 = 1 → ∀ k, k < w * h → s.2.1 86 k = CM (s.2.1 142) (s.2.1 150) (s.2.1 152) (s.2.1 153) (s.2.1 154) (s.1 139 25) (s.1 139 26) w h k)
/-- what was MADE -/
def G9 (s : e_S) : Prop := ∃ n : Nat, n ≤ 3000 ∧ s.1 122 1 = Int32.ofNat n ∧ s.1 139 7 = Int32.ofNat n ∧ ∀ k, k < n → s.2.1 123 k = s.2.1 141 k ∧ rg (s.2.1 141 k) 0 255
/-- a LAYER of the class, and its row -/
def LyN (g : ps_G) (b w h l : Nat) (r : Nat → Int32) : Prop := e_fr b ∧ b < g.1 ∧ ∃ p q x0 y0 x1 y1 pa ma, g.2.2 b = .inr (4, [.int (Int32.ofNat l), .int (r 1), .int (r 2), .int (r 4), .int (r 5), .int (r 6), .int (r 7), .int (r 8), .int (r 9), .int p, .int q, .int x0, .int y0, .int x1, .int y1, .ref pa, .ref ma]) ∧ rg (r 1) 0 5 ∧ rg (r 4) 0 255 ∧ rg (r 5) 0 15 ∧ rg (r 6) 0 1 ∧ rg (r 7) 0 1 ∧ rg (r 8) (-64) 64 ∧ rg (r 9) (-64) 64 ∧ (if r 1 < 2 then r 11 = 0 ∧ r 12 = 0 else r 11 = p ∧ r 12 = q ∧ (¬ (r 1 = 3 ∨ r 1 = 5) → q = 0)) ∧ (if r 1 = 3 then r 13 = x0 ∧ r 14 = y0 ∧ r 15 = x1 ∧ r 16 = y1 ∧ rg x0 (-100) 100 ∧ rg y0 (-100) 100 ∧ rg x1 (-100) 100 ∧ rg y1 (-100) 100 else r 13 = 0 ∧ r 14 = 0 ∧ r 15 = 0 ∧ r 16 = 0) ∧ (r 1 = 4 → rg p 0 7) ∧ (r 1 = 5 → rg p 0 13 ∧ rg q (fX5_leastAmount p) (fX5_greatestAmount p)) ∧ (r 1 = 0 → e_fr pa ∧ 8 ≤ pa ∧ pa < g.1 ∧ ∃ f, g.2.2 pa = .inl (0, (576, .inl f)) ∧ ∀ k, k < w * h → f k = r (17 + k)) ∧ ((¬ r 1 = 0 → pa = 0) ∧ 8 ≤ b) ∧ ((r 10 = 0 ∧ ma = 0) ∨ (r 10 = 1 ∧ e_fr ma ∧ 8 ≤ ma ∧ ma < g.1 ∧ ∃ f, g.2.2 ma = .inl (0, (576, .inl f)) ∧ ∀ k, k < 576 → f k = r (593 + k) ∧ rg (f k) 0 255))
/-- the numbers of LAYERS in their order: those within one parent stand by their places -/
def OrN (N : Nat → Int32) (sz : Nat) (od : Nat → Int32) : Prop := sz ≤ 30 ∧ ∃ o : Nat → Nat, (∀ i, i < sz → od i = Int32.ofNat (o i) ∧ o i < 30 ∧ N (1169 * o i) = 1) ∧ (∀ i j, i < j → j < sz → ¬ o i = o j) ∧ (∀ l, l < 30 → N (1169 * l) = 1 → ∃ i, i < sz ∧ o i = l) ∧ (∀ i j, i < j → j < sz → N (1169 * o i + 2) = N (1169 * o j + 2) → N (1169 * o i + 3) < N (1169 * o j + 3))
/-- the reference's row is a tree -/
def TrN (N : Nat → Int32) : Prop := (∃ n : Nat, n ≤ 30 ∧ N 35070 = Int32.ofNat n ∧ ∀ l, n ≤ l → l < 30 → N (1169 * l) = 0) ∧ (∀ l, l < 30 → N (1169 * l) = 0 ∨ N (1169 * l) = 1) ∧ (∀ l, l < 30 → N (1169 * l) = 1 → N (1169 * l + 2) = -1 ∨ ∃ p : Nat, p < 30 ∧ N (1169 * l + 2) = Int32.ofNat p ∧ N (1169 * p) = 1 ∧ N (1169 * p + 1) = 1) ∧ (∃ d : Nat → Nat, ∀ l, l < 30 → N (1169 * l) = 1 → ∀ p : Nat, p < 30 → N (1169 * l + 2) = Int32.ofNat p → d p < d l) ∧ (∀ l, l < 30 → N (1169 * l) = 1 → ∃ p : Nat, p < 30 ∧ N (1169 * l + 3) = Int32.ofNat p ∧ ∀ q : Nat, q < p → ∃ m : Nat, m < 30 ∧ N (1169 * m) = 1 ∧ N (1169 * m + 2) = N (1169 * l + 2) ∧ N (1169 * m + 3) = Int32.ofNat q)
/-- a STAND of the class, and the reference's row -/
def StN (g : ps_G) (a w h : Nat) (N : Nat → Int32) : Prop := TrN N ∧ e_fr a ∧ a < g.1 ∧ ∃ la oa sz ly od, e_fr la ∧ 8 ≤ la ∧ la < g.1 ∧ e_fr oa ∧ 8 ≤ oa ∧ oa < g.1 ∧ g.2.2 a = .inr (9, [.int (Int32.ofNat w), .int (Int32.ofNat h), .ref la, .ref oa, .int (Int32.ofNat sz), .int (N 35070)]) ∧ g.2.2 la = .inl (3, (30, .inr (.inr (.inr (.inr ly))))) ∧ g.2.2 oa = .inl (0, (30, .inl od)) ∧ OrN N sz od ∧ ∀ l, l < 30 → if N (1169 * l) = 1 then ∃ b, ly l = some b ∧ LyN g b w h l (lR N l) else ly l = none
/-- the place of a STAND in the reference's ring -/
def kp (A : Nat → Int32) (st i : Nat) : Nat → Int32 := fun k => A (35071 * ((st + i) % 25) + k)
def G10 (s : e_S) (g : ps_G) (w h : Nat) : Prop := ∃ a st pc uc : Nat, st < 25 ∧ pc + uc ≤ 24 ∧ s.2.2.1 8 0 = some a ∧ s.1 8 2 = Int32.ofNat pc ∧ s.1 8 4 = Int32.ofNat uc ∧ s.1 139 10 = Int32.ofNat st ∧ s.1 139 11 = Int32.ofNat pc ∧ s.1 139 12 = Int32.ofNat (pc + uc + 1) ∧ StN g a w h (s.2.1 142) ∧ (∀ k, k < 35071 → s.2.1 143 (35071 * ((st + pc) % 25) + k) = s.2.1 142 k) ∧ (∀ i, i < pc → ∃ b, s.2.2.1 12 i = some b ∧ StN g b w h (kp (s.2.1 143) st i)) ∧ (∀ i, i < uc → ∃ b, s.2.2.1 13 i = some b ∧ StN g b w h (kp (s.2.1 143) st (pc + uc - i)))
/-- tables that never change -/
def G11 (s : e_S) (g : ps_G) : Prop := (∀ i, i < 29 → s.2.1 182 i = (ps_sv 2).getD i 0 ∧ s.2.1 183 i = (ps_sv 3).getD i 0) ∧ (∀ i, i < 30 → s.2.1 184 i = (ps_sv 4).getD i 0 ∧ s.2.1 185 i = (ps_sv 5).getD i 0) ∧ (∀ i, i < 19 → s.2.1 186 i = (ps_sv 6).getD i 0) ∧ (∀ j, j < 7 → g.2.2 j = .inl (0, ((ps_sv j).length, .inl fun i => (ps_sv j).getD i 0))) ∧ 195 ≤ g.1
def Rel (s : e_S) (g : ps_G) : Prop := G1 s ∧ G2 s ∧ G3 s ∧ G4 s ∧ G5 s ∧ G6 s ∧ (∃ w h, G7 s w h ∧ G8 s w h ∧ G10 s g w h) ∧ G9 s ∧ G11 s g
/-- the cells grew, and what was made stays as it was -/
def Ext (g g' : ps_G) : Prop := g.1 ≤ g'.1 ∧ g'.1 ≤ g.1 + 100 ∧ g.2.1 ≤ g'.2.1 ∧ g'.2.1 ≤ g.2.1 + 10000 ∧ ∀ a, a < g.1 → g'.2.2 a = g.2.2 a
def nx (g : ps_G) : ps_G := ps_nw g 6 ps_e0
theorem ext_rf {g : ps_G} : Ext g g := ⟨Nat.le_refl _, by omega, Nat.le_refl _, by omega, fun _ _ => rfl⟩
theorem ext_nx {g : ps_G} : Ext g (nx g) := by
  refine ⟨Nat.le_succ _, ?_, Nat.le_add_right _ _, ?_, fun a ha => ?_⟩
  · show g.1 + 1 ≤ g.1 + 100; omega
  · show g.2.1 + 6 ≤ g.2.1 + 10000; omega
  · show (if a = g.1 then ps_e0 else g.2.2 a) = g.2.2 a
    rw [if_neg (by omega)]
theorem lyN_ext {g g' : ps_G} {b w h l : Nat} {r : Nat → Int32} (hE : Ext g g') (hl : LyN g b w h l r) : LyN g' b w h l r := by
  obtain ⟨h1, h2, p, q, x0, y0, x1, y1, pa, ma, h3, c1, c2, c3, c4, c5, c6, c7, c8, c9, c10, c11, c12, c13, c14⟩ := hl
  have hE5 := hE.2.2.2.2
  have hE1 := hE.1
  refine ⟨h1, Nat.lt_of_lt_of_le h2 hE1, p, q, x0, y0, x1, y1, pa, ma, by rw [hE5 b h2]; exact h3, c1, c2, c3, c4, c5, c6, c7, c8, c9, c10, c11, fun hk => ?_, c13, ?_⟩
  · obtain ⟨d1, d0, d2, f, d3, d4⟩ := c12 hk
    exact ⟨d1, d0, Nat.lt_of_lt_of_le d2 hE1, f, by rw [hE5 pa d2]; exact d3, d4⟩
  · rcases c14 with c | ⟨d1, d2, d0, d3, f, d4, d5⟩
    · exact Or.inl c
    · exact Or.inr ⟨d1, d2, d0, Nat.lt_of_lt_of_le d3 hE1, f, by rw [hE5 ma d3]; exact d4, d5⟩
theorem stN_ext {g g' : ps_G} {a w h : Nat} {N : Nat → Int32} (hE : Ext g g') (hs : StN g a w h N) : StN g' a w h N := by
  obtain ⟨t, h1, h2, la, oa, sz, ly, od, c1, c0, c2, c3, c9, c4, c5, c6, c7, c8, c10⟩ := hs
  have hE5 := hE.2.2.2.2
  have hE1 := hE.1
  refine ⟨t, h1, Nat.lt_of_lt_of_le h2 hE1, la, oa, sz, ly, od, c1, c0, Nat.lt_of_lt_of_le c2 hE1, c3, c9, Nat.lt_of_lt_of_le c4 hE1, by rw [hE5 a h2]; exact c5, by rw [hE5 la c2]; exact c6, by rw [hE5 oa c4]; exact c7, c8, fun l hl => ?_⟩
  have := c10 l hl
  by_cases hc : N (1169 * l) = 1
  · rw [if_pos hc] at this ⊢
    obtain ⟨b, d1, d2⟩ := this
    exact ⟨b, d1, lyN_ext hE d2⟩
  · rw [if_neg hc] at this ⊢
    exact this
theorem G10_ext {s : e_S} {g g' : ps_G} {w h : Nat} (hE : Ext g g') (hs : G10 s g w h) : G10 s g' w h := by
  obtain ⟨a, st, pc, uc, h1, h2, h3, h4, h5, h6, h7, h8, h9, h10, h11, h12⟩ := hs
  refine ⟨a, st, pc, uc, h1, h2, h3, h4, h5, h6, h7, h8, stN_ext hE h9, h10, fun i hi => ?_, fun i hi => ?_⟩
  · obtain ⟨b, d1, d2⟩ := h11 i hi
    exact ⟨b, d1, stN_ext hE d2⟩
  · obtain ⟨b, d1, d2⟩ := h12 i hi
    exact ⟨b, d1, stN_ext hE d2⟩
theorem G11_ext {s : e_S} {g g' : ps_G} (hE : Ext g g') (hs : G11 s g) : G11 s g' := by
  obtain ⟨h1, h2, h3, h4, h5⟩ := hs
  have hE5 := hE.2.2.2.2
  have hE1 := hE.1
  exact ⟨h1, h2, h3, fun j hj => by rw [hE5 j (by omega)]; exact h4 j hj, by omega⟩
theorem rel_ext {s : e_S} {g g' : ps_G} (hE : Ext g g') (hs : Rel s g) : Rel s g' := by
  obtain ⟨h1, h2, h3, h4, h5, h6, ⟨w, h, h7, h8, h9⟩, h10, h11⟩ := hs
  exact ⟨h1, h2, h3, h4, h5, h6, ⟨w, h, h7, h8, G10_ext hE h9⟩, h10, G11_ext hE h11⟩
theorem rel_g {s : e_S} {g : ps_G} (h : Rel s g) : 195 ≤ g.1 := h.2.2.2.2.2.2.2.2.2.2.2.2
theorem rng {s : e_S} {g : ps_G} {v a b : Int32} (hg : 195 ≤ g.1) : fX11_range (e_g s g) v a b = if rg v a b then some (.inr (), e_g s g) else some (.inl "java/lang/IllegalArgumentException", e_g s (nx g)) := by
  unfold fX11_range
  rw [e_nw hg]
  by_cases h : rg v a b = true
  · rw [if_pos h, if_pos (of_decide_eq_true h)]
  · rw [if_neg h, if_neg (fun q => h (decide_eq_true q))]
    rfl
theorem rin {v a b : Int32} : fX12_in v a b = if rg v a b then 1 else 0 := by
  have e : (v < a ∨ b < v) ↔ ¬ rg v a b = true := by
    rw [rg_i, i_lt, i_lt]
    omega
  unfold fX12_in
  by_cases h : rg v a b = true
  · rw [if_neg (fun q => e.mp q h), if_pos h]
  · rw [if_pos (e.mpr h), if_neg h]
/-- a call of a wrapper that puts its answer, and the reference's -/
def CI (w : Option (Int32 × ps_G)) (m : ps_G → Option (Int32 × ps_G)) (s2 : e_S) (g1 : ps_G) : Prop := ∃ k s1 b, w = some (k, e_g s1 g1) ∧ m (e_g s1 g1) = some (b, e_g s2 g1) ∧ s2.1 139 0 = k ∧ (k = 0 → s2.2.2.2 194 0 = b.toInt64)
/-- a call of a wrapper without an answer -/
def CV (w : Option (Int32 × ps_G)) (m : ps_G → Option ps_G) (s2 : e_S) (g1 : ps_G) : Prop := ∃ k s1, w = some (k, e_g s1 g1) ∧ m (e_g s1 g1) = some (e_g s2 g1) ∧ s2.1 139 0 = k
/-- a call keeps all -/
def KI (w : Option (Int32 × ps_G)) (m : ps_G → Option (Int32 × ps_G)) (g : ps_G) : Prop := ∃ s2 g1, CI w m s2 g1 ∧ Rel s2 g1 ∧ Ext g g1
def KV (w : Option (Int32 × ps_G)) (m : ps_G → Option ps_G) (g : ps_G) : Prop := ∃ s2 g1, CV w m s2 g1 ∧ Rel s2 g1 ∧ Ext g g1
theorem wr_l {α : Type} {hs : List ps_H} {E : String} {g : ps_G} {k : α → ps_G → Option (Int32 × ps_G)} {y : Int32} (h : ps_hf hs E = some y) : q_wr hs (some ((.inl E : String ⊕ α), g)) k = some (y, g) := by
  show (ps_hf hs E).bind _ = _
  rw [h]; rfl
theorem wr_r {α : Type} {hs : List ps_H} {v : α} {g : ps_G} {k : α → ps_G → Option (Int32 × ps_G)} : q_wr hs (some ((.inr v : String ⊕ α), g)) k = k v g := rfl
/-- where nothing but the reference's `thrown` is put -/
theorem rel_thrown {s : e_S} {g : ps_G} {v : Int32} (h : Rel s g) : Rel (sF s 139 0 v) g := by
  obtain ⟨h1, h2, h3, h4, h5, h6, ⟨w, h, h7, h8, h9⟩, h10, h11⟩ := h
  refine ⟨?_, ?_, ?_, h4, h5, h6, ⟨w, h, ?_, ?_, ?_⟩, ?_, h11⟩
  · unfold G1 at h1 ⊢; simp (decide := true) only [ob_s, b2_s, tc_r, tc_l, F_sF, A_sF, R_sF, L_sF, F_sA, A_sA, R_sA, L_sA, F_sR, A_sR, R_sR, L_sR, F_sL, A_sL, R_sL, L_sL, and_true, true_and, and_false, false_and, and_self, reduceIte, sF_sF, sA_sA, false_or, or_false, true_or, or_true, not_false_eq_true, not_true_eq_false, decide_true, decide_false, Bool.true_or, Bool.or_true, Bool.false_and, Bool.true_and, Bool.false_or, Bool.or_false, Bool.and_true, Bool.and_false]; exact h1
  · unfold G2 at h2 ⊢; simp (decide := true) only [ob_s, b2_s, tc_r, tc_l, F_sF, A_sF, R_sF, L_sF, F_sA, A_sA, R_sA, L_sA, F_sR, A_sR, R_sR, L_sR, F_sL, A_sL, R_sL, L_sL, and_true, true_and, and_false, false_and, and_self, reduceIte, sF_sF, sA_sA, false_or, or_false, true_or, or_true, not_false_eq_true, not_true_eq_false, decide_true, decide_false, Bool.true_or, Bool.or_true, Bool.false_and, Bool.true_and, Bool.false_or, Bool.or_false, Bool.and_true, Bool.and_false]; exact h2
  · unfold G3 at h3 ⊢; simp (decide := true) only [ob_s, b2_s, tc_r, tc_l, F_sF, A_sF, R_sF, L_sF, F_sA, A_sA, R_sA, L_sA, F_sR, A_sR, R_sR, L_sR, F_sL, A_sL, R_sL, L_sL, and_true, true_and, and_false, false_and, and_self, reduceIte, sF_sF, sA_sA, false_or, or_false, true_or, or_true, not_false_eq_true, not_true_eq_false, decide_true, decide_false, Bool.true_or, Bool.or_true, Bool.false_and, Bool.true_and, Bool.false_or, Bool.or_false, Bool.and_true, Bool.and_false]; exact h3
  · unfold G7 at h7 ⊢; simp (decide := true) only [ob_s, b2_s, tc_r, tc_l, F_sF, A_sF, R_sF, L_sF, F_sA, A_sA, R_sA, L_sA, F_sR, A_sR, R_sR, L_sR, F_sL, A_sL, R_sL, L_sL, and_true, true_and, and_false, false_and, and_self, reduceIte, sF_sF, sA_sA, false_or, or_false, true_or, or_true, not_false_eq_true, not_true_eq_false, decide_true, decide_false, Bool.true_or, Bool.or_true, Bool.false_and, Bool.true_and, Bool.false_or, Bool.or_false, Bool.and_true, Bool.and_false]; exact h7
  · unfold G8 at h8 ⊢; simp (decide := true) only [ob_s, b2_s, tc_r, tc_l, F_sF, A_sF, R_sF, L_sF, F_sA, A_sA, R_sA, L_sA, F_sR, A_sR, R_sR, L_sR, F_sL, A_sL, R_sL, L_sL, and_true, true_and, and_false, false_and, and_self, reduceIte, sF_sF, sA_sA, false_or, or_false, true_or, or_true, not_false_eq_true, not_true_eq_false, decide_true, decide_false, Bool.true_or, Bool.or_true, Bool.false_and, Bool.true_and, Bool.false_or, Bool.or_false, Bool.and_true, Bool.and_false]; exact h8
  · unfold G10 at h9 ⊢; simp (decide := true) only [ob_s, b2_s, tc_r, tc_l, F_sF, A_sF, R_sF, L_sF, F_sA, A_sA, R_sA, L_sA, F_sR, A_sR, R_sR, L_sR, F_sL, A_sL, R_sL, L_sL, and_true, true_and, and_false, false_and, and_self, reduceIte, sF_sF, sA_sA, false_or, or_false, true_or, or_true, not_false_eq_true, not_true_eq_false, decide_true, decide_false, Bool.true_or, Bool.or_true, Bool.false_and, Bool.true_and, Bool.false_or, Bool.or_false, Bool.and_true, Bool.and_false]; exact h9
  · unfold G9 at h10 ⊢; simp (decide := true) only [ob_s, b2_s, tc_r, tc_l, F_sF, A_sF, R_sF, L_sF, F_sA, A_sA, R_sA, L_sA, F_sR, A_sR, R_sR, L_sR, F_sL, A_sL, R_sL, L_sL, and_true, true_and, and_false, false_and, and_self, reduceIte, sF_sF, sA_sA, false_or, or_false, true_or, or_true, not_false_eq_true, not_true_eq_false, decide_true, decide_false, Bool.true_or, Bool.or_true, Bool.false_and, Bool.true_and, Bool.false_or, Bool.or_false, Bool.and_true, Bool.and_false]; exact h10
theorem rel_out {s : e_S} {g : ps_G} {r : Nat → Int64} (h : Rel s g) : Rel (sL s 194 r) g := h
/-- the answer was put -/
def pO (s : e_S) (v : Int64) : e_S := sL s 194 (vp_updL (s.2.2.2 194) 0 v)
theorem KI_r {hs : List ps_H} {c : Option ((String ⊕ Int32) × ps_G)} {m : ps_G → Option (Int32 × ps_G)} {s s1 s2 : e_S} {g g1 : ps_G} {v : Int32} (hc : c = some (.inr v, e_g s1 g1)) (hm : m (e_g (pO s1 v.toInt64) g1) = some (v, e_g s2 g1)) (h3 : s2.1 139 0 = 0) (hL : s2.2.2.2 = (pO s1 v.toInt64).2.2.2) (hR : Rel s2 g1) (hE : Ext g g1) : KI (Option.bind (q_ob 11 (e_g s g) 8) fun _ => q_wr hs c (fun v g1 => Option.bind (q_wL g1 194 (0 : Int32) (Int32.toInt64 v)) fun g2 => some ((0 : Int32), g2))) m g := by
  refine ⟨s2, g1, ⟨0, pO s1 v.toInt64, v, ?_, hm, h3, fun _ => ?_⟩, hR, hE⟩
  · rw [hc, ob8, ob_s, wr_r, u194, if_neg (by decide)]
    rfl
  · rw [hL]
    show vp_updL (s1.2.2.2 194) 0 v.toInt64 0 = v.toInt64
    simp [vp_updL]
theorem KI_l {hs : List ps_H} {c : Option ((String ⊕ Int32) × ps_G)} {m : ps_G → Option (Int32 × ps_G)} {s s1 s2 : e_S} {g g1 : ps_G} {E : String} {y b : Int32} {kk : Int32 → ps_G → Option (Int32 × ps_G)} (hc : c = some (.inl E, e_g s1 g1)) (hy : ps_hf hs E = some y) (hy0 : ¬ y = 0) (hm : m (e_g s1 g1) = some (b, e_g s2 g1)) (h3 : s2.1 139 0 = y) (hR : Rel s2 g1) (hE : Ext g g1) : KI (Option.bind (q_ob 11 (e_g s g) 8) fun _ => q_wr hs c kk) m g := by
  refine ⟨s2, g1, ⟨y, s1, b, ?_, hm, h3, fun q => absurd q hy0⟩, hR, hE⟩
  rw [hc, ob8, ob_s, wr_l hy]
theorem KV_r {hs : List ps_H} {c : Option ((String ⊕ Unit) × ps_G)} {m : ps_G → Option ps_G} {s s1 s2 : e_S} {g g1 : ps_G} (hc : c = some (.inr (), e_g s1 g1)) (hm : m (e_g s1 g1) = some (e_g s2 g1)) (h3 : s2.1 139 0 = 0) (hR : Rel s2 g1) (hE : Ext g g1) : KV (Option.bind (q_ob 11 (e_g s g) 8) fun _ => q_wr hs c (fun v g1 => some ((0 : Int32), g1))) m g := by
  refine ⟨s2, g1, ⟨0, s1, ?_, hm, h3⟩, hR, hE⟩
  rw [hc, ob8, ob_s, wr_r]
theorem KV_l {hs : List ps_H} {c : Option ((String ⊕ Unit) × ps_G)} {m : ps_G → Option ps_G} {s s1 s2 : e_S} {g g1 : ps_G} {E : String} {y : Int32} {kk : Unit → ps_G → Option (Int32 × ps_G)} (hc : c = some (.inl E, e_g s1 g1)) (hy : ps_hf hs E = some y) (hm : m (e_g s1 g1) = some (e_g s2 g1)) (h3 : s2.1 139 0 = y) (hR : Rel s2 g1) (hE : Ext g g1) : KV (Option.bind (q_ob 11 (e_g s g) 8) fun _ => q_wr hs c kk) m g := by
  refine ⟨s2, g1, ⟨y, s1, ?_, hm, h3⟩, hR, hE⟩
  rw [hc, ob8, ob_s, wr_l hy]
/-- a refusal that changes nothing -/
theorem KI_no {hs : List ps_H} {c : Option ((String ⊕ Int32) × ps_G)} {m : ps_G → Option (Int32 × ps_G)} {s : e_S} {g : ps_G} {E : String} {y b : Int32} {kk : Int32 → ps_G → Option (Int32 × ps_G)} (hR : Rel s g) (hc : c = some (.inl E, e_g s (nx g))) (hy : ps_hf hs E = some y) (hy0 : ¬ y = 0) (hm : m (e_g s (nx g)) = some (b, e_g (sF s 139 0 y) (nx g))) : KI (Option.bind (q_ob 11 (e_g s g) 8) fun _ => q_wr hs c kk) m g :=
  KI_l hc hy hy0 hm (by simp (decide := true) only [ob_s, b2_s, tc_r, tc_l, F_sF, A_sF, R_sF, L_sF, F_sA, A_sA, R_sA, L_sA, F_sR, A_sR, R_sR, L_sR, F_sL, A_sL, R_sL, L_sL, and_true, true_and, and_false, false_and, and_self, reduceIte, sF_sF, sA_sA, false_or, or_false, true_or, or_true, not_false_eq_true, not_true_eq_false, decide_true, decide_false, Bool.true_or, Bool.or_true, Bool.false_and, Bool.true_and, Bool.false_or, Bool.or_false, Bool.and_true, Bool.and_false]) (rel_thrown (rel_ext ext_nx hR)) ext_nx
theorem KV_no {hs : List ps_H} {c : Option ((String ⊕ Unit) × ps_G)} {m : ps_G → Option ps_G} {s : e_S} {g : ps_G} {E : String} {y : Int32} {kk : Unit → ps_G → Option (Int32 × ps_G)} (hR : Rel s g) (hc : c = some (.inl E, e_g s (nx g))) (hy : ps_hf hs E = some y) (hm : m (e_g s (nx g)) = some (e_g (sF s 139 0 y) (nx g))) : KV (Option.bind (q_ob 11 (e_g s g) 8) fun _ => q_wr hs c kk) m g :=
  KV_l hc hy hm (by simp (decide := true) only [ob_s, b2_s, tc_r, tc_l, F_sF, A_sF, R_sF, L_sF, F_sA, A_sA, R_sA, L_sA, F_sR, A_sR, R_sR, L_sR, F_sL, A_sL, R_sL, L_sL, and_true, true_and, and_false, false_and, and_self, reduceIte, sF_sF, sA_sA, false_or, or_false, true_or, or_true, not_false_eq_true, not_true_eq_false, decide_true, decide_false, Bool.true_or, Bool.or_true, Bool.false_and, Bool.true_and, Bool.false_or, Bool.or_false, Bool.and_true, Bool.and_false]) (rel_thrown (rel_ext ext_nx hR)) ext_nx
