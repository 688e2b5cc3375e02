-- needs: 07 10 13 14 20 21 22 23 24 25 26 27 32 33 34 36 38 39 40 41 42 43 44 46 47 48 49 50 52 53 54 55 57 60 61 62 63 64 65 70 71 72 73 74 80 81 82 83 84 85 86 87 88 89 90 91 97a 97b 97c 97d 97e 97f 97g
/-! ===== flat and merge: what both need ===== -/
theorem laS_67 {A : (Nat → Int32) → (Nat → Int32) → Nat → Int32} {w h : Nat} {G : Nat → Int32} {sh cl : Bool} {md : Int32} {r r' : Nat → Int32} {S : (Nat → Int32) × (Nat → Int32)} (h3 : ¬ 3 < r 1) (er : ∀ j, ¬ j = 6 → ¬ j = 7 → r' j = r j) : laS A w h G sh cl md r' S = laS A w h G sh cl md r S := by
  have e := fun j (q : ¬ j = 6 ∧ ¬ j = 7) => er j q.1 q.2
  have ep : (fun i => r' (17 + i)) = fun i => r (17 + i) := funext fun i => e _ (by omega)
  have em : ∀ k, msV r' k = msV r k := fun k => by unfold msV; rw [e 10 (by omega), e (593 + k) (by omega)]
  have ec : ∀ k, coV w h G r' k = coV w h G r k := fun k => by
    unfold coV rpV
    rw [ep, e 1 (by omega), e 8 (by omega), e 9 (by omega), e 11 (by omega), e 12 (by omega), e 13 (by omega), e 14 (by omega), e 15 (by omega), e 16 (by omega)]
  have ee : ∀ c, exV w h G r' c = exV w h G r c := fun c => by
    funext k
    unfold exV
    rw [ec, em, e 4 (by omega)]
  unfold laS
  rw [e 1 (by omega), if_neg h3, if_neg h3, ee]
  simp only [ec]
/-- on nothing a mode is as good as another -/
theorem laS_md {A : (Nat → Int32) → (Nat → Int32) → Nat → Int32} {w h : Nat} {G : Nat → Int32} {sh cl : Bool} {md md' : Int32} {r : Nat → Int32} (h3 : ¬ 3 < r 1) (hm : rg md 0 15) (hm' : rg md' 0 15) : laS A w h G sh cl md r (fun _ => 0, fun _ => 0) = laS A w h G sh cl md' r (fun _ => 0, fun _ => 0) := by
  unfold laS
  rw [if_neg h3, if_neg h3]
  have e : ∀ s e, blV 0 s e md = blV 0 s e md' := fun s e => bl_0 hm hm'
  simp only [e]
theorem lyN_67 {g : ps_G} {b w h l : Nat} {r r' : Nat → Int32} {v6 v7 : Int32} {p q x0 y0 x1 y1 : Int32} {pa ma : Nat} (hg : 195 ≤ g.1) (hL : LyN g b w h l r) (y3 : g.2.2 b = .inr (4, [.int (Int32.ofNat l), .int (r 1), .int (r 2), .int (r 4), .int (r 5), .int (r 6), .int (r 7), .int (r 8), .int (r 9), .int p, .int q, .int x0, .int y0, .int x1, .int y1, .ref pa, .ref ma])) (e6 : r' 6 = v6) (e7 : r' 7 = v7) (h6 : rg v6 0 1) (h7 : rg v7 0 1) (er : ∀ j, ¬ j = 6 → ¬ j = 7 → r' j = r j) : LyN (mkL g [.int (Int32.ofNat l), .int (r 1), .int (r 2), .int (r 4), .int (r 5), .int v6, .int v7, .int (r 8), .int (r 9), .int p, .int q, .int x0, .int y0, .int x1, .int y1, .ref pa, .ref ma]) g.1 w h l r' := by
  have hE := ext_mkL (g := g) (fs := [.int (Int32.ofNat l), .int (r 1), .int (r 2), .int (r 4), .int (r 5), .int v6, .int v7, .int (r 8), .int (r 9), .int p, .int q, .int x0, .int y0, .int x1, .int y1, .ref pa, .ref ma])
  obtain ⟨m1, m2, p', q', x0', y0', x1', y1', pa', ma', m3, cc⟩ := lyN_ext hE hL
  rw [hE.2.2.2.2 b hL.2.1, y3] at m3
  cases m3
  have e := fun j (h : ¬ j = 6 ∧ ¬ j = 7) => er j h.1 h.2
  refine ⟨Or.inl hg, by show g.1 < g.1 + 1; omega, p, q, x0, y0, x1, y1, pa, ma, ?_, ?_⟩
  · rw [e 1 (by omega), e 2 (by omega), e 4 (by omega), e 5 (by omega), e6, e7, e 8 (by omega), e 9 (by omega)]
    exact nw_at
  · obtain ⟨c1, c2, c3, c4, c5, c6, c7, c8, c9, c10, c11, c12, c13, c14⟩ := cc
    rw [e 1 (by omega), e 4 (by omega), e 5 (by omega), e6, e7, e 8 (by omega), e 9 (by omega), e 10 (by omega), e 11 (by omega), e 12 (by omega), e 13 (by omega), e 14 (by omega), e 15 (by omega), e 16 (by omega)]
    refine ⟨c1, c2, c3, h6, h7, c6, c7, c8, c9, c10, c11, fun hk => ?_, ⟨c13.1, by omega⟩, ?_⟩
    · obtain ⟨d1, d0, d2, f, d3, d4⟩ := c12 hk
      exact ⟨d1, d0, d2, f, d3, fun k hk => by rw [e _ (by omega)]; exact d4 k hk⟩
    · rcases c14 with c | ⟨d1, d2, d0, d3, f, d4, d5⟩
      · exact Or.inl c
      · exact Or.inr ⟨d1, d2, d0, d3, f, d4, fun k hk => by rw [e _ (by omega)]; exact d5 k hk⟩
theorem fsS_k {σ : Type} {P : Nat → Bool} {st : Nat → σ → σ} {z : σ} {n : Nat} : ∀ m, (∀ i, n ≤ i → i < n + m → P i = true → ∀ S, st i S = S) → fsS P st z (n + m) = fsS P st z n
  | 0, _ => rfl
  | m + 1, h => by
    have ih := fsS_k (P := P) (st := st) (z := z) (n := n) m (fun i h1 h2 => h i h1 (by omega))
    show fsS P st z (n + m + 1) = _
    by_cases q : P (n + m) = true
    · rw [fsS_t q, h (n + m) (by omega) (by omega) q, ih]
    · rw [fsS_f q, ih]
theorem sm_frC {s s' : e_S} {a b pc : Nat} (h : Sm s s') : Sm (fgC (rmC s a b pc)) (fgC (rmC s' a b pc)) := by
  have h2 := sm_rmC (a := a) (b := b) (pc := pc) h
  unfold fgC
  rw [h2.1 87 (by decide), h2.1 88 (by decide)]
  exact sm_A2 (sm_A2 (sm_F2 h2))
/-- where a parent's row lies -/
theorem par_at {N : Nat → Int32} {l : Nat} (ht : TrN N) (hl : l < 30) (h1 : N (1169 * l) = 1) : ∃ c : Nat, c ≤ 30 ∧ (576 : Int32) * (N (1169 * l + 2) + 1) = Int32.ofNat (576 * c) ∧ ∀ m, m < 30 → N (1169 * m) = 1 → N (1169 * m + 2) = N (1169 * l + 2) → ¬ m + 1 = c := by
  rcases par_c ht hl h1 with z | ⟨p, z1, z2, z3, z4⟩
  · exact ⟨0, by omega, by rw [z]; decide, fun m _ _ _ => by omega⟩
  · refine ⟨p + 1, by omega, ?_, fun m hm q1 q2 q3 => ?_⟩
    · rw [z2, n_suc]; exact n_mul (n := 576)
    · obtain ⟨d, -, hd⟩ := trN_rk ht
      have e : m = p := by omega
      subst e
      have := hd m hm q1 m hm (by rw [q2]; exact z2)
      omega
