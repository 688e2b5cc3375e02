-- needs: 97zzzh
/-! ===== png: the reference makes its codes ===== -/
def okC (L : Nat → Nat) (n st : Nat) : Prop := lfV L n 15 = 0 ∨ (0 < lfV L n 15 ∧ ((n = cnN L n 0 + 1 ∧ cnN L n 1 = 1) ∨ (n = cnN L n 0 ∧ st = 1)))
def yT (s : e_S) (C Y : Nat → Int32) : e_S := sA (sA s 191 C) 192 Y
theorem y_id {s : e_S} : yT s (s.2.1 191) (s.2.1 192) = s := by
  unfold yT
  rw [sA_id, sA_id]
theorem y_c {s : e_S} {C Y C' : Nat → Int32} : sA (yT s C Y) 191 C' = yT s C' Y := by
  unfold yT
  rw [sA_cm (by decide), sA_sA]
theorem y_y {s : e_S} {C Y Y' : Nat → Int32} : sA (yT s C Y) 192 Y' = yT s C Y' := by
  unfold yT
  rw [sA_sA]
theorem y_rc {s : e_S} {C Y : Nat → Int32} : (yT s C Y).2.1 191 = C := by
  unfold yT
  rw [A_sA, if_neg (by decide), A_sA, if_pos rfl]
theorem y_ry {s : e_S} {C Y : Nat → Int32} : (yT s C Y).2.1 192 = Y := by
  unfold yT
  rw [A_sA, if_pos rfl]
theorem y_rl {s : e_S} {C Y : Nat → Int32} {j : Nat} (h1 : ¬ j = 191) (h2 : ¬ j = 192) : (yT s C Y).2.1 j = s.2.1 j := by
  unfold yT
  rw [A_sA, if_neg h2, A_sA, if_neg h1]
theorem lf_neg {L : Nat → Nat} {n : Nat} : ∀ j i, lfV L n i < 0 → lfV L n (i + j) < 0 := by
  intro j
  induction j with
  | zero => exact fun i h => h
  | succ j ih =>
    intro i h
    have z := ih i h
    have u : lfV L n (i + (j + 1)) = if lfV L n (i + j) < 0 then lfV L n (i + j) else 2 * lfV L n (i + j) - cnN L n (i + j + 1) := rfl
    rw [u, if_pos z]
    exact z
theorem makeCodes12 {s : e_S} {g : ps_G} {st fr n : Nat} {L : Nat → Nat} (hst : st < 3) (hn : n ≤ 320) (hf : fr + n ≤ 340) (hL : ∀ i, i < n → s.2.1 193 (fr + i) = Int32.ofNat (L i) ∧ L i < 16) : ∃ C Y, (okC L n st → fX12_makeCodes (e_g s g) 139 (Int32.ofNat st) (Int32.ofNat fr) (Int32.ofNat n) = some (e_g (yT s C Y) g) ∧ Tb (fun k => C (16 * st + k)) (fun k => Y (320 * st + k)) L n) ∧ (¬ okC L n st → fX12_makeCodes (e_g s g) 139 (Int32.ofNat st) (Int32.ofNat fr) (Int32.ofNat n) = some (e_g (sF (yT s C Y) 139 87 1) g)) ∧ (∀ k, k < 16 * st ∨ 16 * st + 16 ≤ k → C k = s.2.1 191 k) ∧ (∀ k, k < 320 * st ∨ 320 * st + 320 ≤ k → Y k = s.2.1 192 k) := by
  have e16 : (16 : Int32) * Int32.ofNat st = Int32.ofNat (16 * st) := n_mul (n := 16)
  have e320 : (320 : Int32) * Int32.ofNat st = Int32.ofNat (320 * st) := n_mul (n := 320)
  have rl : ∀ (C Y : Nat → Int32) (i : Nat), i < n → q_aI (e_g (yT s C Y) g) 193 (Int32.ofNat (fr + i)) = some (Int32.ofNat (L i)) := fun C Y i hi => by
    rw [tb_rd t193 (by omega) (by omega), y_rl (by decide) (by decide), (hL i hi).1]
  have rc : ∀ (C Y : Nat → Int32) (k : Nat), k < 16 → q_aI (e_g (yT s C Y) g) 191 (Int32.ofNat (16 * st + k)) = some (C (16 * st + k)) := fun C Y k hk => by
    rw [tb_rd t191 (by omega) (by omega), y_rc]
  have wc : ∀ (C Y : Nat → Int32) (k : Nat) (v : Int32), k < 16 → q_wI (e_g (yT s C Y) g) 191 (Int32.ofNat (16 * st + k)) v = some (e_g (yT s (upd C (16 * st + k) v) Y) g) := fun C Y k v hk => by
    rw [tb_wr t191 (by decide) (by omega) (by omega), y_rc, y_c]
  -- emptied
  obtain ⟨r0, lp0, C0, e0, h0, k0⟩ := lp_n (b := fun t => bX12_makeCodes_3 139 (Int32.ofNat st) (Int32.ofNat fr) (Int32.ofNat n) t.1 t.2) (fun i t => ∃ C, t = (Int32.ofNat i, e_g (yT s C (s.2.1 192)) g) ∧ (∀ k, k < i → C (16 * st + k) = 0) ∧ ∀ k, k < 16 * st ∨ 16 * st + 16 ≤ k → C k = s.2.1 191 k) (fun r => ∃ C, r = e_g (yT s C (s.2.1 192)) g ∧ (∀ k, k < 16 → C (16 * st + k) = 0) ∧ ∀ k, k < 16 * st ∨ 16 * st + 16 ≤ k → C k = s.2.1 191 k) 16 (fun i t hi ⟨C, ht, hC, hk⟩ => by
    refine ⟨(Int32.ofNat (i + 1), e_g (yT s (upd C (16 * st + i) 0) (s.2.1 192)) g), ?_, _, rfl, fun k k1 => ?_, fun k k1 => ?_⟩
    · rw [ht]
      show bX12_makeCodes_3 _ _ _ _ _ _ = _
      unfold bX12_makeCodes_3
      have c : ¬ (16 : Int32) ≤ Int32.ofNat i := show ¬ Int32.ofNat 16 ≤ _ from nle hi (by omega)
      dsimp only
      rw [if_neg c, f139_90, ob_n, ob_n, e16, n_add, wc _ _ _ _ hi, ob_n, n_suc]
    · rw [upd_r]
      by_cases e : 16 * st + k = 16 * st + i
      · rw [if_pos e]
      · rw [if_neg e]; exact hC k (by omega)
    · rw [upd_r, if_neg (by omega)]; exact hk k k1) (fun t ⟨C, ht, hC, hk⟩ => by
    refine ⟨_, ?_, C, rfl, hC, hk⟩
    rw [ht]
    show bX12_makeCodes_3 _ _ _ _ _ _ = _
    unfold bX12_makeCodes_3
    dsimp only
    rw [if_pos (show (16 : Int32) ≤ Int32.ofNat 16 by decide)]) (s := ((0 : Int32), e_g s g)) ⟨s.2.1 191, by rw [y_id]; rfl, fun k hk => absurd hk (Nat.not_lt_zero k), fun k _ => rfl⟩
  -- counted
  obtain ⟨r1, lp1, C, e1, hC, kC⟩ := lp_n (b := fun t => bX12_makeCodes_32 139 (Int32.ofNat st) (Int32.ofNat fr) (Int32.ofNat n) t.1 t.2) (fun i t => ∃ C, t = (Int32.ofNat i, e_g (yT s C (s.2.1 192)) g) ∧ (∀ k, k < 16 → C (16 * st + k) = Int32.ofNat (cnN L i k)) ∧ ∀ k, k < 16 * st ∨ 16 * st + 16 ≤ k → C k = s.2.1 191 k) (fun r => ∃ C, r = e_g (yT s C (s.2.1 192)) g ∧ (∀ k, k < 16 → C (16 * st + k) = Int32.ofNat (cnN L n k)) ∧ ∀ k, k < 16 * st ∨ 16 * st + 16 ≤ k → C k = s.2.1 191 k) n (fun i t hi ⟨C, ht, hC, hk⟩ => by
    obtain ⟨v1, v2⟩ := hL i hi
    refine ⟨(Int32.ofNat (i + 1), e_g (yT s (upd C (16 * st + L i) (C (16 * st + L i) + 1)) (s.2.1 192)) g), ?_, _, rfl, fun k k1 => ?_, fun k k1 => ?_⟩
    · rw [ht]
      show bX12_makeCodes_32 _ _ _ _ _ _ = _
      unfold bX12_makeCodes_32
      dsimp only
      rw [if_neg (nle hi (by omega)), f139_90, ob_n, ob_n, f139_92, ob_n, ob_n, n_add, rl _ _ i hi, ob_n, e16, n_add, rc _ _ _ v2, ob_n, wc _ _ _ _ v2, ob_n, n_suc]
    · rw [upd_r, cn_s]
      by_cases q : k = L i
      · rw [if_pos (by rw [q]), if_pos q.symm, hC _ v2, n_suc, q]
      · rw [if_neg (by omega), if_neg (fun z => q z.symm), hC k k1]
    · rw [upd_r, if_neg (by omega)]; exact hk k k1) (fun t ⟨C, ht, hC, hk⟩ => by
    refine ⟨_, ?_, C, rfl, hC, hk⟩
    rw [ht]
    show bX12_makeCodes_32 _ _ _ _ _ _ = _
    unfold bX12_makeCodes_32
    dsimp only
    rw [if_pos (nlr (by omega))]) (s := ((0 : Int32), e_g (yT s C0 (s.2.1 192)) g)) ⟨C0, rfl, fun k hk => by
      have : cnN L 0 k = 0 := Nat.le_zero.mp (cn_le 0)
      rw [this]
      exact h0 k hk, k0⟩
  -- room left
  have z0 : (0 : Int32).toInt = 0 := by decide
  have z2 : (2 : Int32).toInt = 2 := by decide
  have lp2 : ∀ (x5 : Int32) (j i : Nat) (x : Int32), i + j = 15 → x.toInt = lfV L n i → 0 ≤ lfV L n i → (0 ≤ lfV L n 15 → ∃ x', x'.toInt = lfV L n 15 ∧ q_lp (fun t => bX12_makeCodes_86 139 (Int32.ofNat st) (Int32.ofNat fr) (Int32.ofNat n) x5 t.1 t.2.1 t.2.2) (x, Int32.ofNat (i + 1), e_g (yT s C (s.2.1 192)) g) = some (.inl (x', e_g (yT s C (s.2.1 192)) g))) ∧ (lfV L n 15 < 0 → q_lp (fun t => bX12_makeCodes_86 139 (Int32.ofNat st) (Int32.ofNat fr) (Int32.ofNat n) x5 t.1 t.2.1 t.2.2) (x, Int32.ofNat (i + 1), e_g (yT s C (s.2.1 192)) g) = some (.inr (e_g (sF (yT s C (s.2.1 192)) 139 87 1) g))) := by
    intro x5 j
    induction j with
    | zero =>
      intro i x hi hx hp
      have e : i = 15 := hi
      subst e
      refine ⟨fun _ => ⟨x, hx, lp_end ?_⟩, fun h => by omega⟩
      show bX12_makeCodes_86 _ _ _ _ _ _ _ _ = _
      unfold bX12_makeCodes_86
      rw [if_pos (show (16 : Int32) ≤ Int32.ofNat (15 + 1) by decide)]
    | succ j ih =>
      intro i x hi hx hp
      have lb := lf_b (L := L) (n := n) i
      have pi : (2 : Int) ^ i ≤ 2 ^ 15 := by
        have a := Nat.pow_le_pow_right (show 0 < 2 by omega) (show i ≤ 15 by omega)
        have e : ((2 ^ i : Nat) : Int) = (2 : Int) ^ i := by exact Int.natCast_pow 2 i
        have e' : ((2 ^ 15 : Nat) : Int) = (2 : Int) ^ 15 := by exact Int.natCast_pow 2 15
        omega
      have p15 : (2 : Int) ^ 15 = 32768 := by decide
      have cl := cn_le (L := L) (b := i + 1) n
      have ul : lfV L n (i + 1) = if lfV L n i < 0 then lfV L n i else 2 * lfV L n i - cnN L n (i + 1) := rfl
      rw [if_neg (by omega)] at ul
      have m2 : (2 * x).toInt = 2 * lfV L n i := by
        rw [i_mul (by rw [z2, hx]; omega) (by rw [z2, hx]; omega), z2, hx]
      have cI : (Int32.ofNat (cnN L n (i + 1))).toInt = cnN L n (i + 1) := n_int (by omega)
      have s2 : (2 * x - Int32.ofNat (cnN L n (i + 1))).toInt = lfV L n (i + 1) := by
        rw [i_sub (by rw [m2, cI]; omega) (by rw [m2, cI]; omega), m2, cI, ul]
      have c16 : ¬ (16 : Int32) ≤ Int32.ofNat (i + 1) := show ¬ Int32.ofNat 16 ≤ _ from nle (by omega) (by omega)
      by_cases q : 0 ≤ lfV L n (i + 1)
      · have cq : (0 : Int32) ≤ 2 * x - Int32.ofNat (cnN L n (i + 1)) := by rw [i_le, z0, s2]; exact q
        have stp : bX12_makeCodes_86 139 (Int32.ofNat st) (Int32.ofNat fr) (Int32.ofNat n) x5 x (Int32.ofNat (i + 1)) (e_g (yT s C (s.2.1 192)) g) = some (.inl (2 * x - Int32.ofNat (cnN L n (i + 1)), Int32.ofNat (i + 1 + 1), e_g (yT s C (s.2.1 192)) g)) := by
          unfold bX12_makeCodes_86
          have e1 : Int32.ofNat (i + 1) + 1 = Int32.ofNat (i + 1 + 1) := n_suc
          rw [if_neg c16, f139_90, ob_n, ob_n, e16, n_add, rc _ _ _ (by omega), ob_n, hC _ (by omega), if_pos cq, e1]
        rw [lp_go3 (bX12_makeCodes_86 139 (Int32.ofNat st) (Int32.ofNat fr) (Int32.ofNat n) x5) stp]
        exact ih (i + 1) _ (by omega) s2 q
      · have ng := lf_neg (L := L) (n := n) (15 - (i + 1)) (i + 1) (by omega)
        rw [show i + 1 + (15 - (i + 1)) = 15 by omega] at ng
        refine ⟨fun h => by omega, fun _ => lp_end ?_⟩
        have cq : ¬ (0 : Int32) ≤ 2 * x - Int32.ofNat (cnN L n (i + 1)) := fun z => by rw [i_le, z0, s2] at z; exact q z
        show bX12_makeCodes_86 _ _ _ _ _ _ _ _ = _
        unfold bX12_makeCodes_86
        rw [if_neg c16, f139_90, ob_n, ob_n, e16, n_add, rc _ _ _ (by omega), ob_n, hC _ (by omega), if_neg cq, w139_87 (Or.inr rfl), ob_n]
  have c0n := cn_le (L := L) (b := 0) n
  have c1n := cn_le (L := L) (b := 1) n
  have r16 : q_aI (e_g (yT s C (s.2.1 192)) g) 191 (16 * Int32.ofNat st) = some (Int32.ofNat (cnN L n 0)) := by
    have := rc C (s.2.1 192) 0 (by omega)
    rw [hC 0 (by omega), Nat.add_zero] at this
    rw [e16]
    exact this
  have r17 : q_aI (e_g (yT s C (s.2.1 192)) g) 191 (16 * Int32.ofNat st + 1) = some (Int32.ofNat (cnN L n 1)) := by
    have := rc C (s.2.1 192) 1 (by omega)
    rw [hC 1 (by omega)] at this
    rw [e16, n_suc]
    exact this
  have al : Int32.ofNat n - Int32.ofNat (cnN L n 0) = Int32.ofNat (n - cnN L n 0) := sb_n (by omega) (by omega)
  obtain ⟨p1, p2⟩ := lp2 (Int32.ofNat (n - cnN L n 0)) 15 0 1 rfl (by show (1 : Int32).toInt = 1; decide) (by show (0 : Int) ≤ 1; decide)
  have pre : fX12_makeCodes (e_g s g) 139 (Int32.ofNat st) (Int32.ofNat fr) (Int32.ofNat n) = Option.bind (q_lp (fun t => bX12_makeCodes_86 139 (Int32.ofNat st) (Int32.ofNat fr) (Int32.ofNat n) (Int32.ofNat (n - cnN L n 0)) t.1 t.2.1 t.2.2) (1, Int32.ofNat (0 + 1), e_g (yT s C (s.2.1 192)) g)) fun s34 => Sum.elim (fun r35 => if ¬ (Int32.ofNat (n - cnN L n 0)) = (1 : Int32) then (jX12_makeCodes_154 r35.2 139 (Int32.ofNat st) (Int32.ofNat fr) (Int32.ofNat n) r35.1 (Int32.ofNat (n - cnN L n 0))) else (Option.bind (q_fR 12 90 r35.2 139) fun v69 => Option.bind (v69) fun a70 => Option.bind (q_aI r35.2 a70 (((16 : Int32) * (Int32.ofNat st)) + (1 : Int32))) fun v71 => if ¬ v71 = (1 : Int32) then (jX12_makeCodes_154 r35.2 139 (Int32.ofNat st) (Int32.ofNat fr) (Int32.ofNat n) r35.1 (Int32.ofNat (n - cnN L n 0))) else (jX12_makeCodes_155 r35.2 139 (Int32.ofNat st) (Int32.ofNat fr) (Int32.ofNat n) r35.1 (Int32.ofNat (n - cnN L n 0)) (1 : Int32)))) (fun v77 => some v77) s34 := by
    unfold fX12_makeCodes
    rw [lp0, ob_n, e0, lp1, ob_n, e1, f139_90, ob_n, ob_n, r16, ob_n, al]
    rfl
  by_cases ng : lfV L n 15 < 0
  · refine ⟨C, s.2.1 192, fun h => ?_, fun _ => ?_, kC, fun k _ => rfl⟩
    · rcases h with h | h <;> omega
    · rw [pre, p2 ng, ob_n]
      rfl
  · obtain ⟨x, hx, lpx⟩ := p1 (by omega)
    -- laid
    have lay : ∀ S : e_S, S.2.1 193 = s.2.1 193 → ∃ Y, jX12_makeCodes_182 (e_g (yT S C (s.2.1 192)) g) 139 (Int32.ofNat st) (Int32.ofNat fr) (Int32.ofNat n) = some (e_g (yT S C Y) g) ∧ (∀ b, 1 ≤ b → b < 16 → ∀ r, r < cnN L n b → Y (320 * st + (ofN L n b + r)) = Int32.ofNat (ntN L n b r)) ∧ ∀ k, k < 320 * st ∨ 320 * st + 320 ≤ k → Y k = s.2.1 192 k := by
      intro S hS
      have rlS : ∀ (Y : Nat → Int32) (i : Nat), i < n → q_aI (e_g (yT S C Y) g) 193 (Int32.ofNat (fr + i)) = some (Int32.ofNat (L i)) := fun Y i hi => by
        rw [tb_rd t193 (by omega) (by omega), y_rl (by decide) (by decide), hS, (hL i hi).1]
      have inner : ∀ (b : Nat) (Y : Nat → Int32), 1 ≤ b → b < 16 → ∃ Y', q_lp (fun t => bX12_makeCodes_198 139 (Int32.ofNat st) (Int32.ofNat fr) (Int32.ofNat n) (Int32.ofNat b) t.1 t.2.1 t.2.2) (Int32.ofNat (ofN L n b), (0 : Int32), e_g (yT S C Y) g) = some (Int32.ofNat (ofN L n (b + 1)), e_g (yT S C Y') g) ∧ (∀ r, r < cnN L n b → Y' (320 * st + (ofN L n b + r)) = Int32.ofNat (ntN L n b r)) ∧ ∀ k, k < 320 * st + ofN L n b ∨ 320 * st + 320 ≤ k → Y' k = Y k := by
        intro b Y b1 b2
        have o1 := of_s (L := L) (i := n) (b := b) b1
        have o2 := of_le (L := L) (b := b + 1) (by omega) n
        obtain ⟨r, lp, Y', e, hY, kY⟩ := lp_n (b := fun t => bX12_makeCodes_198 139 (Int32.ofNat st) (Int32.ofNat fr) (Int32.ofNat n) (Int32.ofNat b) t.1 t.2.1 t.2.2) (fun i t => ∃ Y', t = (Int32.ofNat (ofN L n b + cnN L i b), Int32.ofNat i, e_g (yT S C Y') g) ∧ (∀ r, r < cnN L i b → Y' (320 * st + (ofN L n b + r)) = Int32.ofNat (ntN L i b r)) ∧ ∀ k, k < 320 * st + ofN L n b ∨ 320 * st + 320 ≤ k → Y' k = Y k) (fun r => ∃ Y', r = (Int32.ofNat (ofN L n b + cnN L n b), e_g (yT S C Y') g) ∧ (∀ r, r < cnN L n b → Y' (320 * st + (ofN L n b + r)) = Int32.ofNat (ntN L n b r)) ∧ ∀ k, k < 320 * st + ofN L n b ∨ 320 * st + 320 ≤ k → Y' k = Y k) n (fun i t hi ⟨Y', ht, hY, kY⟩ => by
          obtain ⟨v1, v2⟩ := hL i hi
          have ci : cnN L i b ≤ cnN L n b := by
            have a := cn_mo (L := L) (b := b) (n - i) i
            rw [show i + (n - i) = n by omega] at a
            exact a
          by_cases q : L i = b
          · have cm : cnN L i b + 1 ≤ cnN L n b := by
              have a := cn_mo (L := L) (b := b) (n - (i + 1)) (i + 1)
              rw [cn_s, if_pos q, show i + 1 + (n - (i + 1)) = n by omega] at a
              exact a
            refine ⟨(Int32.ofNat (ofN L n b + cnN L (i + 1) b), Int32.ofNat (i + 1), e_g (yT S C (upd Y' (320 * st + (ofN L n b + cnN L i b)) (Int32.ofNat i))) g), ?_, _, rfl, fun r hr => ?_, fun k hk => ?_⟩
            · rw [ht]
              show bX12_makeCodes_198 _ _ _ _ _ _ _ _ = _
              unfold bX12_makeCodes_198 jX12_makeCodes_239_198
              dsimp only
              rw [if_neg (nle hi (by omega)), f139_92, ob_n, ob_n, n_add, rlS _ i hi, ob_n, if_pos (by rw [q]), f139_91, ob_n, ob_n, e320, n_add, tb_wr t192 (by decide) (by omega) (by omega), ob_n, y_ry, y_y, n_suc, n_suc, cn_s, if_pos q, Nat.add_assoc]
            · rw [upd_r]
              rw [cn_s, if_pos q] at hr
              by_cases e2 : r = cnN L i b
              · rw [e2, if_pos rfl, nt_n q]
              · rw [if_neg (by omega), nt_o (by omega)]
                exact hY r (by omega)
            · rw [upd_r, if_neg (by omega)]; exact kY k hk
          · refine ⟨(Int32.ofNat (ofN L n b + cnN L (i + 1) b), Int32.ofNat (i + 1), e_g (yT S C Y') g), ?_, Y', rfl, fun r hr => ?_, kY⟩
            · rw [ht]
              show bX12_makeCodes_198 _ _ _ _ _ _ _ _ = _
              unfold bX12_makeCodes_198 jX12_makeCodes_239_198
              dsimp only
              have cq : ¬ Int32.ofNat (L i) = Int32.ofNat b := fun z => q ((n_eq (by omega) (by omega)).mp z)
              rw [if_neg (nle hi (by omega)), f139_92, ob_n, ob_n, n_add, rlS _ i hi, ob_n, if_neg cq, n_suc, cn_s, if_neg q]
            · rw [cn_s, if_neg q] at hr
              rw [nt_o hr]
              exact hY r hr) (fun t ⟨Y', ht, hY, kY⟩ => by
          refine ⟨_, ?_, Y', rfl, hY, kY⟩
          rw [ht]
          show bX12_makeCodes_198 _ _ _ _ _ _ _ _ = _
          unfold bX12_makeCodes_198
          dsimp only
          rw [if_pos (nlr (by omega))]) (s := (Int32.ofNat (ofN L n b), (0 : Int32), e_g (yT S C Y) g)) ⟨Y, by
            have : cnN L 0 b = 0 := Nat.le_zero.mp (cn_le 0)
            rw [this]
            rfl, fun r hr => by
            have : cnN L 0 b = 0 := Nat.le_zero.mp (cn_le 0)
            omega, fun k _ => rfl⟩
        refine ⟨Y', ?_, hY, kY⟩
        rw [lp, e, o1]
      obtain ⟨r, lp, Y, e, hY, kY⟩ := lp_n (b := fun t => bX12_makeCodes_188 139 (Int32.ofNat st) (Int32.ofNat fr) (Int32.ofNat n) t.1 t.2.1 t.2.2) (fun i t => ∃ Y, t = (Int32.ofNat (ofN L n (i + 1)), Int32.ofNat (i + 1), e_g (yT S C Y) g) ∧ (∀ b, 1 ≤ b → b < i + 1 → ∀ r, r < cnN L n b → Y (320 * st + (ofN L n b + r)) = Int32.ofNat (ntN L n b r)) ∧ ∀ k, k < 320 * st ∨ 320 * st + 320 ≤ k → Y k = s.2.1 192 k) (fun r => ∃ Y, r = e_g (yT S C Y) g ∧ (∀ b, 1 ≤ b → b < 16 → ∀ r, r < cnN L n b → Y (320 * st + (ofN L n b + r)) = Int32.ofNat (ntN L n b r)) ∧ ∀ k, k < 320 * st ∨ 320 * st + 320 ≤ k → Y k = s.2.1 192 k) 15 (fun i t hi ⟨Y, ht, hY, kY⟩ => by
        obtain ⟨Y', l1, l2, l3⟩ := inner (i + 1) Y (by omega) (by omega)
        refine ⟨(Int32.ofNat (ofN L n (i + 1 + 1)), Int32.ofNat (i + 1 + 1), e_g (yT S C Y') g), ?_, Y', rfl, fun b b1 b2 r hr => ?_, fun k hk => ?_⟩
        · rw [ht]
          show bX12_makeCodes_188 _ _ _ _ _ _ _ = _
          unfold bX12_makeCodes_188
          have c : ¬ (16 : Int32) ≤ Int32.ofNat (i + 1) := show ¬ Int32.ofNat 16 ≤ _ from nle (by omega) (by omega)
          have e1 : Int32.ofNat (i + 1) + 1 = Int32.ofNat (i + 1 + 1) := n_suc
          dsimp only
          rw [if_neg c, l1, ob_n]
          dsimp only
          rw [e1]
        · by_cases e : b = i + 1
          · rw [e] at hr ⊢
            exact l2 r hr
          · have a := of_mo (L := L) (i := n) (b := b + 1) (i + 1 - (b + 1)) (by omega)
            rw [show b + 1 + (i + 1 - (b + 1)) = i + 1 by omega] at a
            have ob := of_s (L := L) (i := n) (b := b) b1
            rw [l3 _ (by omega)]
            exact hY b b1 (by omega) r hr
        · rw [l3 k (by omega)]; exact kY k hk) (fun t ⟨Y, ht, hY, kY⟩ => by
        refine ⟨_, ?_, Y, rfl, hY, kY⟩
        rw [ht]
        show bX12_makeCodes_188 _ _ _ _ _ _ _ = _
        unfold bX12_makeCodes_188
        dsimp only
        rw [if_pos (show (16 : Int32) ≤ Int32.ofNat (15 + 1) by decide)]) (s := ((0 : Int32), (1 : Int32), e_g (yT S C (s.2.1 192)) g)) ⟨s.2.1 192, rfl, fun b b1 b2 => by omega, fun k _ => rfl⟩
      refine ⟨Y, ?_, hY, kY⟩
      unfold jX12_makeCodes_182
      rw [lp, ob_n, e]
    -- single, none
    have k155 : ∀ k0 : Int32, (k0 = 0 ∨ k0 = 1) → jX12_makeCodes_155 (e_g (yT s C (s.2.1 192)) g) 139 (Int32.ofNat st) (Int32.ofNat fr) (Int32.ofNat n) x (Int32.ofNat (n - cnN L n 0)) k0 = if lfV L n 15 = 0 ∨ k0 = 1 ∨ (n = cnN L n 0 ∧ st = 1) then jX12_makeCodes_182 (e_g (yT s C (s.2.1 192)) g) 139 (Int32.ofNat st) (Int32.ofNat fr) (Int32.ofNat n) else jX12_makeCodes_182 (e_g (sF (yT s C (s.2.1 192)) 139 87 1) g) 139 (Int32.ofNat st) (Int32.ofNat fr) (Int32.ofNat n) := by
      intro k0 hk
      unfold jX12_makeCodes_155
      have cx : x ≤ 0 ↔ lfV L n 15 = 0 := by
        rw [i_le, z0, hx]
        omega
      by_cases a1 : lfV L n 15 = 0
      · rw [if_pos (Or.inl (cx.mpr a1)), if_pos (Or.inl a1)]
      · rcases hk with hk | hk
        · have c2 : ¬ (x ≤ 0 ∨ ¬ k0 = 0) := by
            rintro (z | z)
            · exact a1 (cx.mp z)
            · exact z hk
          rw [if_neg c2]
          have eq1 : (¬ (¬ Int32.ofNat (n - cnN L n 0) = 0) ∧ Int32.ofNat st = 1) ↔ (n = cnN L n 0 ∧ st = 1) := by
            have i1 : Int32.ofNat (n - cnN L n 0) = 0 ↔ n - cnN L n 0 = 0 := n_eq (b := 0) (by omega) (by omega)
            have i2 : Int32.ofNat st = 1 ↔ st = 1 := n_eq (b := 1) (by omega) (by omega)
            rw [i1, i2]
            omega
          have k1 : ¬ k0 = 1 := by rw [hk]; decide
          by_cases a2 : n = cnN L n 0 ∧ st = 1
          · rw [if_pos (eq1.mpr a2), if_pos (Or.inr (Or.inr a2))]
          · rw [if_neg (fun z => a2 (eq1.mp z)), if_neg (by rintro (z | z | z); exact a1 z; exact k1 z; exact a2 z), w139_87 (Or.inr rfl), ob_n]
        · rw [if_pos (Or.inr (by rw [hk]; decide)), if_pos (Or.inr (Or.inl hk))]
    have c1 : Int32.ofNat (n - cnN L n 0) = 1 ↔ n = cnN L n 0 + 1 := by
      have i1 : Int32.ofNat (n - cnN L n 0) = 1 ↔ n - cnN L n 0 = 1 := n_eq (b := 1) (by omega) (by omega)
      rw [i1]
      omega
    have c2 : Int32.ofNat (cnN L n 1) = 1 ↔ cnN L n 1 = 1 := n_eq (b := 1) (by omega) (by omega)
    have tot : fX12_makeCodes (e_g s g) 139 (Int32.ofNat st) (Int32.ofNat fr) (Int32.ofNat n) = jX12_makeCodes_155 (e_g (yT s C (s.2.1 192)) g) 139 (Int32.ofNat st) (Int32.ofNat fr) (Int32.ofNat n) x (Int32.ofNat (n - cnN L n 0)) (if n = cnN L n 0 + 1 ∧ cnN L n 1 = 1 then 1 else 0) := by
      rw [pre, lpx, ob_n]
      show (if ¬ Int32.ofNat (n - cnN L n 0) = (1 : Int32) then _ else _) = _
      by_cases a1 : n = cnN L n 0 + 1
      · rw [if_neg (fun z => z (c1.mpr a1)), f139_90, ob_n, ob_n, r17, ob_n]
        by_cases a2 : cnN L n 1 = 1
        · rw [if_neg (fun z => z (c2.mpr a2)), if_pos ⟨a1, a2⟩]
        · rw [if_pos (fun z => a2 (c2.mp z)), if_neg (fun z => a2 z.2)]
          rfl
      · rw [if_pos (fun z => a1 (c1.mp z)), if_neg (fun z => a1 z.1)]
        rfl
    have okE : okC L n st ↔ (lfV L n 15 = 0 ∨ (if n = cnN L n 0 + 1 ∧ cnN L n 1 = 1 then (1 : Int32) else 0) = 1 ∨ (n = cnN L n 0 ∧ st = 1)) := by
      unfold okC
      by_cases a1 : n = cnN L n 0 + 1 ∧ cnN L n 1 = 1
      · rw [if_pos a1]
        refine ⟨fun h => h.elim Or.inl (fun _ => Or.inr (Or.inl rfl)), fun _ => ?_⟩
        by_cases a0 : lfV L n 15 = 0
        · exact Or.inl a0
        · exact Or.inr ⟨by omega, Or.inl a1⟩
      · rw [if_neg a1]
        refine ⟨fun h => h.elim Or.inl (fun z => Or.inr (Or.inr (z.2.elim (fun y => absurd y a1) id))), fun h => ?_⟩
        by_cases a0 : lfV L n 15 = 0
        · exact Or.inl a0
        · rcases h with h | h | h
          · exact Or.inl h
          · exact absurd h (by decide)
          · exact Or.inr ⟨by omega, Or.inr h⟩
    rw [tot, k155 _ (by split; exact Or.inr rfl; exact Or.inl rfl)]
    by_cases ok : okC L n st
    · obtain ⟨Y, l1, l2, l3⟩ := lay s rfl
      refine ⟨C, Y, fun _ => ⟨?_, hC, l2⟩, fun h => absurd ok h, kC, l3⟩
      rw [if_pos (okE.mp ok), l1]
    · obtain ⟨Y, l1, l2, l3⟩ := lay (sF s 139 87 1) (by rw [A_sF])
      have e : ∀ Y, yT (sF s 139 87 1) C Y = sF (yT s C Y) 139 87 1 := fun Y => by
        unfold yT
        rw [sA_sF, sA_sF]
      rw [e, e] at l1
      refine ⟨C, Y, fun h => absurd h ok, fun _ => ?_, kC, l3⟩
      rw [if_neg (fun z => ok (okE.mpr z)), l1]
