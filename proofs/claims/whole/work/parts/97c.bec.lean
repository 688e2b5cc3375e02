-- needs: 07 10 13 14 20 21 22 23 24 25 26 27 32 38 41 43 46 47 48 50 52 53 54 55 57 60 61 62 63 64 65 70 71 72 73 74 97b
/-! ===== becomePixels: those inside go ===== -/
def nsD (N : Nat → Int32) (l k : Nat) : Bool := inB N l k && !decide (k = l)
theorem bec_a {s : e_S} {g : ps_G} {l : Nat} (ht : TrN (s.2.1 142)) (hl : l < 30) : q_lp (fun t => bX12_becomePixels_2 139 (Int32.ofNat l) t.1 t.2) ((0 : Int32), e_g s g) = some (e_g (sA s 144 (cpT (s.2.1 144) (fun k => if nsD (s.2.1 142) l k then 1 else 0) 0 30)) g) := by
  have z0 : vp_nar .boolean (0 : Int32) = 0 := by decide
  have z1 : vp_nar .boolean (1 : Int32) = 1 := by decide
  have e2 : ∀ f, (sA s 144 f).2.1 142 = s.2.1 142 := fun f => by rw [A_sA, if_neg (by decide)]
  have lp1 := fillN (fun f => e_g (sA s 144 f) g) 0 30 (fun k => if nsD (s.2.1 142) l k then 1 else 0) (s.2.1 144) (bO := fun t => bX12_becomePixels_2 139 (Int32.ofNat l) t.1 t.2) (fun f i hi _ => ?_) (fun f => ?_)
  · rw [sA_id] at lp1
    exact lp1
  · have q1 : ¬ (30 : Int32) ≤ Int32.ofNat i := nle (b := 30) hi (by decide)
    have is := isLayer12 (s := sA s 144 f) (g := g) (x := Int32.ofNat i)
    rw [e2, isL_o hi] at is
    have wr : ∀ v, v = 0 ∨ v = 1 → q_wB (e_g (sA s 144 f) g) 144 (Int32.ofNat i) v = some (e_g (sA s 144 (upd f i v)) g) := by
      intro v hv
      rw [u144, n_idx (by omega), if_neg (n_in2 hi (by decide)), A_sA, if_pos rfl, sA_sA]
      rcases hv with e | e
      · rw [e, z0]
      · rw [e, z1]
    show bX12_becomePixels_2 _ _ _ _ = _
    unfold bX12_becomePixels_2 jX12_becomePixels_39_2 jX12_becomePixels_40_2
    dsimp only
    rw [if_neg q1, f139_15, ob_n, ob_n, ob139, ob_n, is, ob_n, Nat.zero_add, n_suc]
    simp only [ob_n]
    rw [wr 0 (Or.inl rfl), wr 1 (Or.inr rfl)]
    simp only [ob_n]
    by_cases y1 : s.2.1 142 (1169 * i) = 1
    · by_cases y2 : i = l
      · have : nsD (s.2.1 142) l i = false := by unfold nsD; rw [decide_eq_true y2]; simp
        rw [if_pos (Or.inr (by rw [y2])), this]
        rfl
      · have ii := isIn12 (s := sA s 144 f) (g := g) (G := Int32.ofNat l) (l := i) (by rw [e2]; exact ht) hi (by rw [e2]; exact y1)
        rw [e2, isB_31 hl hi y1, decide_eq_false y2, Bool.false_or] at ii
        have nn : ¬ ((if decide (s.2.1 142 (1169 * i) = 1) = true then (1 : Int32) else 0) = 0 ∨ Int32.ofNat i = Int32.ofNat l) := by
          rintro (z | z)
          · rw [decide_eq_true y1] at z; exact absurd z (by decide)
          · exact y2 ((n_eq (by omega) (by omega)).mp z)
        have ed : nsD (s.2.1 142) l i = inB (s.2.1 142) l i := by unfold nsD; rw [decide_eq_false y2]; simp
        rw [if_neg nn, ii, ob_n, ed]
        by_cases y3 : inB (s.2.1 142) l i = true
        · rw [if_pos y3, if_neg (by decide)]
        · rw [if_neg y3, if_pos rfl]
    · have : nsD (s.2.1 142) l i = false := by unfold nsD inB; rw [decide_eq_false y1]; rfl
      rw [if_pos (Or.inl (by rw [decide_eq_false y1]; rfl)), this]
      rfl
  · show bX12_becomePixels_2 _ _ _ _ = _
    unfold bX12_becomePixels_2
    dsimp only
    rw [if_pos (show (30 : Int32) ≤ Int32.ofNat 30 by decide)]
theorem bec_b {s : e_S} {g : ps_G} {l : Nat} {N R : Nat → Int32} (hN : s.2.1 142 = N) (hR : s.2.1 144 = R) (hRk : ∀ k, k < 30 → R k = if nsD N l k then 1 else 0) : q_lp (fun t => bX12_becomePixels_49 139 (Int32.ofNat l) t.1 t.2) ((0 : Int32), e_g s g) = some (e_g (sA s 142 (lvN N (nsD N l) 30)) g) := by
  refine lp_0 (fun i => (Int32.ofNat i, e_g (sA s 142 (lvN N (nsD N l) i)) g)) 30 ?_ (fun i hi => ?_) ?_
  · have := @sA_id s 142
    rw [hN] at this
    rw [lvN_0, this]; rfl
  · have q1 : ¬ (30 : Int32) ≤ Int32.ofNat i := nle (b := 30) hi (by decide)
    have pp := put12 (s := sA s 142 (lvN N (nsD N l) i)) (g := g) (n := 0) (v := 0) hi (by omega)
    have e9 : (sA s 142 (lvN N (nsD N l) i)).2.1 142 = lvN N (nsD N l) i := by rw [A_sA, if_pos rfl]
    rw [e9, sA_sA, Nat.add_zero] at pp
    have pp' : fX12_put (e_g (sA s 142 (lvN N (nsD N l) i)) g) 139 (Int32.ofNat i) 0 0 = some (e_g (sA s 142 (upd (lvN N (nsD N l) i) (1169 * i) 0)) g) := pp
    have rd : q_aB (e_g (sA s 142 (lvN N (nsD N l) i)) g) 144 (Int32.ofNat i) = some (if nsD N l i then 1 else 0) := by
      rw [a144, n_idx (by omega), if_neg (n_in2 hi (by decide)), A_sA, if_neg (by decide), hR, hRk i hi]
    show bX12_becomePixels_49 _ _ _ _ = _
    unfold bX12_becomePixels_49 jX12_becomePixels_71_49
    dsimp only
    rw [if_neg q1, f139_15, ob_n, ob_n, rd, ob_n, n_suc]
    by_cases z : nsD N l i = true
    · rw [lvN_t z] at pp'
      rw [if_pos z, if_neg (by decide), ob139, ob_n, pp', ob_n]
    · rw [if_neg z, if_pos rfl, ← lvN_f z]
  · show bX12_becomePixels_49 _ _ _ _ = _
    unfold bX12_becomePixels_49
    dsimp only
    rw [if_pos (show (30 : Int32) ≤ Int32.ofNat 30 by decide)]
