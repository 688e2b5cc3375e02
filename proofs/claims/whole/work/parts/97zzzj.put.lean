-- needs: 97zzzi
/-! ===== png: bytes put down ===== -/
def GC (s : e_S) (K : Nat → Int32) (n d b sz : Nat) (O : Nat → Int32) : Prop := PC s K n b ∧ s.1 128 3 = 0 ∧ s.1 128 6 = Int32.ofNat d ∧ d ≤ 2328 ∧ s.1 128 5 = Int32.ofNat sz ∧ sz ≤ d ∧ ∀ i, i < sz → s.2.1 130 i = O i
def BC (s : e_S) (K : Nat → Int32) (n : Nat) : Prop := s.1 128 3 = 1 ∧ ∃ b, PC s K n b
def GM (s : e_S) (K : Nat → Int32) (n d b sz : Nat) (O : Nat → Int32) : Prop := PM s K n b ∧ s.1 139 87 = 0 ∧ s.1 139 89 = Int32.ofNat d ∧ d ≤ 2328 ∧ s.1 139 75 = Int32.ofNat sz ∧ sz ≤ d ∧ ∀ i, i < sz → s.2.1 187 i = O i
theorem pc_F {s : e_S} {K : Nat → Int32} {n b f : Nat} {v : Int32} (h : PC s K n b) (h1 : ¬ f = 1) (h2 : ¬ f = 2) : PC (sF s 128 f v) K n b := ⟨h.1, h.2.1, by rw [F_sF, if_neg (fun z => h1 z.2.symm)]; exact h.2.2.1, by rw [F_sF, if_neg (fun z => h2 z.2.symm)]; exact h.2.2.2.1, fun i hi => by rw [A_sF]; exact h.2.2.2.2 i hi⟩
theorem pc_A {s : e_S} {K : Nat → Int32} {n b j : Nat} {r : Nat → Int32} (h : PC s K n b) (h1 : ¬ 129 = j) : PC (sA s j r) K n b := ⟨h.1, h.2.1, by rw [F_sA]; exact h.2.2.1, by rw [F_sA]; exact h.2.2.2.1, fun i hi => by rw [A_sA, if_neg h1]; exact h.2.2.2.2 i hi⟩
theorem pc_b {s : e_S} {K : Nat → Int32} {n b b' : Nat} (h : PC s K n b) (hb : b' ≤ 8 * n) : PC (sF s 128 2 (Int32.ofNat b')) K n b' := ⟨h.1, hb, by rw [F_sF, if_neg (by decide)]; exact h.2.2.1, by rw [F_sF, if_pos ⟨rfl, rfl⟩], fun i hi => by rw [A_sF]; exact h.2.2.2.2 i hi⟩
theorem pm_F {s : e_S} {K : Nat → Int32} {n b f : Nat} {v : Int32} (h : PM s K n b) (h1 : ¬ f = 79) (h2 : ¬ f = 88) : PM (sF s 139 f v) K n b := ⟨h.1, h.2.1, by rw [F_sF, if_neg (fun z => h1 z.2.symm)]; exact h.2.2.1, by rw [F_sF, if_neg (fun z => h2 z.2.symm)]; exact h.2.2.2.1, fun i hi => by rw [A_sF]; exact h.2.2.2.2 i hi⟩
theorem pm_A {s : e_S} {K : Nat → Int32} {n b j : Nat} {r : Nat → Int32} (h : PM s K n b) (h1 : ¬ 188 = j) : PM (sA s j r) K n b := ⟨h.1, h.2.1, by rw [F_sA]; exact h.2.2.1, by rw [F_sA]; exact h.2.2.2.1, fun i hi => by rw [A_sA, if_neg h1]; exact h.2.2.2.2 i hi⟩
theorem pm_b {s : e_S} {K : Nat → Int32} {n b b' : Nat} (h : PM s K n b) (hb : b' ≤ 8 * n) : PM (sF s 139 88 (Int32.ofNat b')) K n b' := ⟨h.1, hb, by rw [F_sF, if_neg (by decide)]; exact h.2.2.1, by rw [F_sF, if_pos ⟨rfl, rfl⟩], fun i hi => by rw [A_sF]; exact h.2.2.2.2 i hi⟩
theorem gc_b {s : e_S} {K : Nat → Int32} {n d b b' sz : Nat} {O : Nat → Int32} (h : GC s K n d b sz O) (hb : b' ≤ 8 * n) : GC (sF s 128 2 (Int32.ofNat b')) K n d b' sz O := ⟨pc_b h.1 hb, by rw [F_sF, if_neg (by decide)]; exact h.2.1, by rw [F_sF, if_neg (by decide)]; exact h.2.2.1, h.2.2.2.1, by rw [F_sF, if_neg (by decide)]; exact h.2.2.2.2.1, h.2.2.2.2.2.1, fun i hi => by rw [A_sF]; exact h.2.2.2.2.2.2 i hi⟩
theorem gm_b {s : e_S} {K : Nat → Int32} {n d b b' sz : Nat} {O : Nat → Int32} (h : GM s K n d b sz O) (hb : b' ≤ 8 * n) : GM (sF s 139 88 (Int32.ofNat b')) K n d b' sz O := ⟨pm_b h.1 hb, by rw [F_sF, if_neg (by decide)]; exact h.2.1, by rw [F_sF, if_neg (by decide)]; exact h.2.2.1, h.2.2.2.1, by rw [F_sF, if_neg (by decide)]; exact h.2.2.2.2.1, h.2.2.2.2.2.1, fun i hi => by rw [A_sF]; exact h.2.2.2.2.2.2 i hi⟩
theorem bc_w {s : e_S} {K : Nat → Int32} {n b : Nat} (h : PC s K n b) : BC (sF s 128 3 1) K n := ⟨by rw [F_sF, if_pos ⟨rfl, rfl⟩], b, pc_F h (by decide) (by decide)⟩
/-- what stays of the class's state, of the reference's -/
def KC (s s' : e_S) : Prop := Kp [130] 128 [2, 3, 5] s s'
def KM (s s' : e_S) : Prop := Kp [187] 139 [75, 87, 88] s s'
theorem kcF {s : e_S} {f : Nat} {v : Int32} (hf : [2, 3, 5].contains f = true) : KC s (sF s 128 f v) := kp_F kp_rf hf
theorem kmF {s : e_S} {f : Nat} {v : Int32} (hf : [75, 87, 88].contains f = true) : KM s (sF s 139 f v) := kp_F kp_rf hf
theorem kc_w {s s' : e_S} (h : Kp [] 128 [2, 3] s s') : KC s s' := kp_w h (fun j hj => by cases hj) (fun j hj => by
  rw [List.contains_iff_mem] at hj ⊢
  have : ∀ j, j ∈ [2, 3] → j ∈ [2, 3, 5] := by decide
  exact this j hj)
theorem km_w {s s' : e_S} (h : Kp [] 139 [87, 88] s s') : KM s s' := kp_w h (fun j hj => by cases hj) (fun j hj => by
  rw [List.contains_iff_mem] at hj ⊢
  have : ∀ j, j ∈ [87, 88] → j ∈ [75, 87, 88] := by decide
  exact this j hj)
theorem emit7 {s : e_S} {g : ps_G} {K : Nat → Int32} {n d b sz : Nat} {O : Nat → Int32} {v : Int32} (h : GC s K n d b sz O) : ∃ s', fX2_emit (e_g s g) 128 v = some (e_g s' g) ∧ KC s s' ∧ (sz < d → GC s' K n d b (sz + 1) (upd O sz v)) ∧ (¬ sz < d → BC s' K n) := by
  obtain ⟨hP, hw, f6, hd, f5, hz, hO⟩ := h
  unfold fX2_emit jX2_emit_21 jX2_emit_49
  by_cases q : sz < d
  · have c : Int32.ofNat sz < (2328 : Int32) := show _ < Int32.ofNat 2328 from (n_lt (by omega) (by omega)).mpr (by omega)
    refine ⟨sF (sA s 130 (upd (s.2.1 130) sz v)) 128 5 (Int32.ofNat (sz + 1)), ?_, kp_F (kp_A kp_rf (by decide)) (by decide), fun _ => ⟨pc_F (pc_A hP (by decide)) (by decide) (by decide), by rw [F_sF, if_neg (by decide), F_sA]; exact hw, by rw [F_sF, if_neg (by decide), F_sA]; exact f6, hd, by rw [F_sF, if_pos ⟨rfl, rfl⟩], q, fun i hi => ?_⟩, fun z => absurd q z⟩
    · rw [f128_5, f5, ob_n, f128_6, f6, ob_n, if_neg (nle q (by omega)), ob_n, if_pos c, f128_4, ob_n, ob_n, ob_n, tb_wr t130 (by decide) (by omega) (by omega), ob_n, f128_5, F_sA, f5, ob_n, w128_5, ob_n, n_suc]
    · rw [A_sF, A_sA, if_pos rfl, upd_r, upd_r]
      by_cases e : i = sz
      · rw [if_pos e, if_pos e]
      · rw [if_neg e, if_neg e]; exact hO i (by omega)
  · refine ⟨sF s 128 3 1, ?_, kcF (by decide), fun z => absurd z q, fun _ => bc_w hP⟩
    rw [f128_5, f5, ob_n, f128_6, f6, ob_n, if_pos ((n_le (by omega) (by omega)).mpr (by omega)), w128_3 (Or.inr rfl), ob_n]
theorem putRow12 {s : e_S} {g : ps_G} {K : Nat → Int32} {n d b sz : Nat} {O : Nat → Int32} {v : Int32} (h : GM s K n d b sz O) : ∃ s', fX12_putRow (e_g s g) 139 v = some (e_g s' g) ∧ KM s s' ∧ (sz < d → GM s' K n d b (sz + 1) (upd O sz v)) ∧ (¬ sz < d → s'.1 139 87 = 1) := by
  obtain ⟨hP, hw, f6, hd, f5, hz, hO⟩ := h
  unfold fX12_putRow jX12_putRow_16
  by_cases q : sz < d
  · have c : ¬ Int32.ofNat sz = Int32.ofNat d := fun z => by
      have := (n_eq (by omega) (by omega)).mp z
      omega
    refine ⟨sF (sA s 187 (upd (s.2.1 187) sz v)) 139 75 (Int32.ofNat (sz + 1)), ?_, kp_F (kp_A kp_rf (by decide)) (by decide), fun _ => ⟨pm_F (pm_A hP (by decide)) (by decide) (by decide), by rw [F_sF, if_neg (by decide), F_sA]; exact hw, by rw [F_sF, if_neg (by decide), F_sA]; exact f6, hd, by rw [F_sF, if_pos ⟨rfl, rfl⟩], q, fun i hi => ?_⟩, fun z => absurd q z⟩
    · rw [f139_75, f5, ob_n, f139_89, f6, ob_n, if_pos c, f139_87, hw, ob_n, if_pos rfl, f139_74, ob_n, ob_n, ob_n, tb_wr t187 (by decide) (by omega) (by omega), ob_n, f139_75, F_sA, f5, ob_n, w139_75, ob_n, n_suc]
    · rw [A_sF, A_sA, if_pos rfl, upd_r, upd_r]
      by_cases e : i = sz
      · rw [if_pos e, if_pos e]
      · rw [if_neg e, if_neg e]; exact hO i (by omega)
  · have c : Int32.ofNat sz = Int32.ofNat d := by rw [show sz = d by omega]
    refine ⟨sF s 139 87 1, ?_, kmF (by decide), fun z => absurd z q, fun _ => by rw [F_sF, if_pos ⟨rfl, rfl⟩]⟩
    rw [f139_75, f5, ob_n, f139_89, f6, ob_n, if_neg (fun z => z c), w139_87 (Or.inr rfl), ob_n, f139_87, F_sF, if_pos ⟨rfl, rfl⟩, ob_n, if_neg (by decide)]
/-- once ill, nothing is put down -/
theorem putRow12i {s : e_S} {g : ps_G} {v : Int32} (hi : s.1 139 87 = 1) : fX12_putRow (e_g s g) 139 v = some (e_g s g) := by
  have id1 : sF s 139 87 1 = s := by rw [← hi, sF_id]
  unfold fX12_putRow jX12_putRow_16
  have z1 : ¬ (1 : Int32) = 0 := by decide
  rw [f139_75, ob_n, f139_89, ob_n]
  by_cases q : ¬ s.1 139 75 = s.1 139 89
  · rw [if_pos q, f139_87, hi, ob_n, if_neg z1]
  · rw [if_neg q, w139_87 (Or.inr rfl), ob_n, id1, f139_87, hi, ob_n, if_neg z1]
/-- bytes copied from dist before -/
def cyV (O : Nat → Int32) (sz dist : Nat) : Nat → Nat → Int32
  | 0 => O
  | k + 1 => upd (cyV O sz dist k) (sz + k) (cyV O sz dist k (sz + k - dist))
theorem copyl7 {g : ps_G} {K : Nat → Int32} {n d b sz dist many : Nat} {O : Nat → Int32} (h1 : 1 ≤ dist) (h2 : dist ≤ sz) (hmm : many < 2000000) (hd' : dist < 2000000) : ∀ (m k : Nat) (s : e_S), k + m = many → GC s K n d b (sz + k) (cyV O sz dist k) → ∃ s', q_lp (fun t => bX2_copy_115 128 (Int32.ofNat many) (Int32.ofNat dist) t.1 t.2) (Int32.ofNat k, e_g s g) = some (e_g s' g) ∧ KC s s' ∧ (sz + many ≤ d → GC s' K n d b (sz + many) (cyV O sz dist many)) ∧ (¬ sz + many ≤ d → BC s' K n) := by
  intro m
  induction m with
  | zero =>
    intro k s hk h
    have e : k = many := hk
    subst e
    refine ⟨s, lp_end ?_, kp_rf, fun _ => h, fun z => ?_⟩
    · show bX2_copy_115 _ _ _ _ _ = _
      unfold bX2_copy_115
      rw [if_pos (nlr (by omega))]
    · have := h.2.2.2.2.2.1
      exact absurd this z
  | succ m ih =>
    intro k s hk h
    obtain ⟨s1, e1, e2, e3, e4⟩ := emit7 (g := g) (v := cyV O sz dist k (sz + k - dist)) h
    obtain ⟨hP, hw, f6, hd, f5, hz, hO⟩ := id h
    have ix : Int32.ofNat (sz + k) - Int32.ofNat dist = Int32.ofNat (sz + k - dist) := sb_n (by omega) (by omega)
    have at7 : fX2_at (e_g s g) 128 (Int32.ofNat (sz + k - dist)) = some (cyV O sz dist k (sz + k - dist)) := by
      unfold fX2_at jX2_at_28 jX2_at_29
      have c : ¬ (Int32.ofNat (sz + k) ≤ Int32.ofNat (sz + k - dist) ∨ (2328 : Int32) ≤ Int32.ofNat (sz + k - dist)) := by
        rintro (z | z)
        · have := (n_le (by omega) (by omega)).mp z
          omega
        · have z' : Int32.ofNat 2328 ≤ Int32.ofNat (sz + k - dist) := z
          have := (n_le (by omega) (by omega)).mp z'
          omega
      rw [if_neg (n_neg (by omega)), f128_5, f5, ob_n, if_neg c, f128_4, ob_n, ob_n, tb_rd t130 (by omega) (by omega), ob_n, hO _ (by omega)]
    have st : bX2_copy_115 128 (Int32.ofNat many) (Int32.ofNat dist) (Int32.ofNat k) (e_g s g) = some (.inl (Int32.ofNat (k + 1), e_g s1 g)) := by
      unfold bX2_copy_115
      rw [if_neg (nle (by omega) (by omega)), f128_3, hw, ob_n, if_neg (fun z => z rfl), f128_5, f5, ob_n, ob128, ob_n, ix, at7, ob_n, ob_n, e1, ob_n, n_suc]
    rw [lp_go2 (bX2_copy_115 128 (Int32.ofNat many) (Int32.ofNat dist)) st]
    by_cases q : sz + k < d
    · obtain ⟨s', r1, r2, r3⟩ := ih (k + 1) s1 (by omega) (e3 q)
      exact ⟨s', r1, kp_tr e2 r2, r3⟩
    · have b4 := e4 q
      refine ⟨s1, lp_end ?_, e2, fun z => by omega, fun _ => b4⟩
      show bX2_copy_115 _ _ _ _ _ = _
      unfold bX2_copy_115
      by_cases q2 : Int32.ofNat many ≤ Int32.ofNat (k + 1)
      · rw [if_pos q2]
      · rw [if_neg q2, f128_3, b4.1, ob_n, if_pos (by decide)]
theorem copyl12 {g : ps_G} {K : Nat → Int32} {n d b sz dist many : Nat} {O : Nat → Int32} (h1 : 1 ≤ dist) (h2 : dist ≤ sz) (hmm : many < 2000000) (hd' : dist < 2000000) : ∀ (m k : Nat) (s : e_S), k + m = many → GM s K n d b (sz + k) (cyV O sz dist k) → ∃ s', q_lp (fun t => bX12_letters_151 139 (Int32.ofNat many) (Int32.ofNat dist) t.1 t.2) (Int32.ofNat k, e_g s g) = some (e_g s' g) ∧ KM s s' ∧ (sz + many ≤ d → GM s' K n d b (sz + many) (cyV O sz dist many)) ∧ (¬ sz + many ≤ d → s'.1 139 87 = 1) := by
  intro m
  induction m with
  | zero =>
    intro k s hk h
    have e : k = many := hk
    subst e
    refine ⟨s, lp_end ?_, kp_rf, fun _ => h, fun z => ?_⟩
    · show bX12_letters_151 _ _ _ _ _ = _
      unfold bX12_letters_151
      rw [if_pos (nlr (by omega))]
    · have := h.2.2.2.2.2.1
      exact absurd this z
  | succ m ih =>
    intro k s hk h
    obtain ⟨s1, e1, e2, e3, e4⟩ := putRow12 (g := g) (v := cyV O sz dist k (sz + k - dist)) h
    obtain ⟨hP, hw, f6, hd, f5, hz, hO⟩ := id h
    have ix : Int32.ofNat (sz + k) - Int32.ofNat dist = Int32.ofNat (sz + k - dist) := sb_n (by omega) (by omega)
    have st : bX12_letters_151 139 (Int32.ofNat many) (Int32.ofNat dist) (Int32.ofNat k) (e_g s g) = some (.inl (Int32.ofNat (k + 1), e_g s1 g)) := by
      unfold bX12_letters_151
      rw [if_neg (nle (by omega) (by omega)), f139_87, hw, ob_n, if_neg (fun z => z rfl), f139_74, ob_n, ob_n, f139_75, f5, ob_n, ix, tb_rd t187 (by omega) (by omega), ob_n, ob139, ob_n, hO _ (by omega), e1, ob_n, n_suc]
    rw [lp_go2 (bX12_letters_151 139 (Int32.ofNat many) (Int32.ofNat dist)) st]
    by_cases q : sz + k < d
    · obtain ⟨s', r1, r2, r3⟩ := ih (k + 1) s1 (by omega) (e3 q)
      exact ⟨s', r1, kp_tr e2 r2, r3⟩
    · have b4 := e4 q
      refine ⟨s1, lp_end ?_, e2, fun z => by omega, fun _ => b4⟩
      show bX12_letters_151 _ _ _ _ _ = _
      unfold bX12_letters_151
      by_cases q2 : Int32.ofNat many ≤ Int32.ofNat (k + 1)
      · rw [if_pos q2]
      · rw [if_neg q2, f139_87, b4, ob_n, if_pos (by decide)]
