theorem ps_pure (L : Nat) (xs : Nat → Int32) (hL : L ≤ 448) : ∃ g', fL_law (ps_g0 L xs) 7 = some ((1 : Int32), g') ∧ g'.1 - 8 ≤ 600128 ∧ g'.2.1 ≤ 7301098 := z_pure L xs hL
theorem ps_law : ∀ (L : Nat) (xs : Nat → Int32), L ≤ 448 → ps_Ok mL_law 400 [.ref 7] (ps_g0 L xs) (fun r g => r = .inl (some (.int 1)) ∧ g.1 - 8 ≤ 600128 ∧ g.2.1 ≤ 7301098) := by
  intro L xs hL
  obtain ⟨g', h, b1, b2⟩ := ps_pure L xs hL
  exact rL_law (d := 295) h ⟨rfl, b1, b2⟩
