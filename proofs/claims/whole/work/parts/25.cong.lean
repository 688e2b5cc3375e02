-- needs: 07 10 13 14 20 21 22 23 24
/-! ===== the relation looks at 35071 numbers of a row only ===== -/
theorem trN_c {N N' : Nat → Int32} (e : ∀ k, k < 35071 → N k = N' k) (h : TrN N) : TrN N' := by
  obtain ⟨⟨n, a1, a2, a3⟩, b1, c1, ⟨d, d1⟩, f1⟩ := h
  refine ⟨⟨n, a1, by rw [← e _ (by omega)]; exact a2, fun l h1 h2 => by rw [← e _ (by omega)]; exact a3 l h1 h2⟩, fun l hl => by rw [← e _ (by omega)]; exact b1 l hl, fun l hl q => ?_, ⟨d, fun l hl q p hp q2 => ?_⟩, fun l hl q => ?_⟩
  · rw [← e _ (by omega)] at q ⊢
    rcases c1 l hl q with z | ⟨p, z1, z2, z3, z4⟩
    · exact Or.inl z
    · exact Or.inr ⟨p, z1, z2, by rw [← e _ (by omega)]; exact z3, by rw [← e _ (by omega)]; exact z4⟩
  · rw [← e _ (by omega)] at q q2
    exact d1 l hl q p hp q2
  · rw [← e _ (by omega)] at q
    obtain ⟨p, z1, z2, z3⟩ := f1 l hl q
    refine ⟨p, z1, by rw [← e _ (by omega)]; exact z2, fun i hi => ?_⟩
    obtain ⟨m, y1, y2, y3, y4⟩ := z3 i hi
    exact ⟨m, y1, by rw [← e _ (by omega)]; exact y2, by rw [← e _ (by omega), ← e _ (by omega)]; exact y3, by rw [← e _ (by omega)]; exact y4⟩
theorem orN_c {N N' : Nat → Int32} {sz : Nat} {od : Nat → Int32} (e : ∀ k, k < 35071 → N k = N' k) (h : OrN N sz od) : OrN N' sz od := by
  obtain ⟨a1, o, a2, a3, a4, a5⟩ := h
  refine ⟨a1, o, fun i hi => ?_, a3, fun l hl q => ?_, fun i j hij hj q => ?_⟩
  · obtain ⟨z1, z2, z3⟩ := a2 i hi
    exact ⟨z1, z2, by rw [← e _ (by omega)]; exact z3⟩
  · rw [← e _ (by omega)] at q
    exact a4 l hl q
  · have z1 := (a2 i (by omega)).2.1
    have z2 := (a2 j hj).2.1
    rw [← e _ (by omega), ← e _ (by omega)] at q ⊢
    exact a5 i j hij hj q
theorem lyN_c {g : ps_G} {b w h l : Nat} {r r' : Nat → Int32} (hw : w * h ≤ 576) (e : ∀ k, k < 1169 → r k = r' k) (hl : LyN g b w h l r) : LyN g b w h l r' := by
  obtain ⟨h1, h2, p, q, x0, y0, x1, y1, pa, ma, h3, c1, c2, c3, c4, c5, c6, c7, c8, c9, c10, c11, c12, c13, c14⟩ := hl
  rw [e 1 (by omega)] at h3 c1 c8 c9 c10 c11 c12 c13
  rw [e 2 (by omega)] at h3
  rw [e 4 (by omega)] at h3 c2
  rw [e 5 (by omega)] at h3 c3
  rw [e 6 (by omega)] at h3 c4
  rw [e 7 (by omega)] at h3 c5
  rw [e 8 (by omega)] at h3 c6
  rw [e 9 (by omega)] at h3 c7
  rw [e 11 (by omega), e 12 (by omega)] at c8
  rw [e 13 (by omega), e 14 (by omega), e 15 (by omega), e 16 (by omega)] at c9
  rw [e 10 (by omega)] at c14
  refine ⟨h1, h2, p, q, x0, y0, x1, y1, pa, ma, h3, c1, c2, c3, c4, c5, c6, c7, c8, c9, c10, c11, fun hk => ?_, c13, ?_⟩
  · obtain ⟨d1, d0, d2, f, d3, d4⟩ := c12 hk
    exact ⟨d1, d0, d2, f, d3, fun k hk => by rw [← e _ (by omega)]; exact d4 k hk⟩
  · rcases c14 with c | ⟨d1, d2, d0, d3, f, d4, d5⟩
    · exact Or.inl c
    · exact Or.inr ⟨d1, d2, d0, d3, f, d4, fun k hk => by rw [← e _ (by omega)]; exact d5 k hk⟩
theorem stN_c {g : ps_G} {a w h : Nat} {N N' : Nat → Int32} (hw : w * h ≤ 576) (e : ∀ k, k < 35071 → N k = N' k) (hs : StN g a w h N) : StN g a w h N' := by
  obtain ⟨t, h1, h2, la, oa, sz, ly, od, c1, c0, c2, c3, c9, c4, c5, c6, c7, c8, c10⟩ := hs
  rw [e 35070 (by omega)] at c5
  refine ⟨trN_c e t, h1, h2, la, oa, sz, ly, od, c1, c0, c2, c3, c9, c4, c5, c6, c7, orN_c e c8, fun l hl => ?_⟩
  have := c10 l hl
  rw [e _ (by omega)] at this
  by_cases hc : N' (1169 * l) = 1
  · rw [if_pos hc] at this ⊢
    obtain ⟨b, d1, d2⟩ := this
    exact ⟨b, d1, lyN_c hw (fun k hk => e _ (by omega)) d2⟩
  · rw [if_neg hc] at this ⊢
    exact this
