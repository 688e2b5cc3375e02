-- needs: 97zzzg
/-! ===== png: the class orders the symbols ===== -/
def lfV (L : Nat → Nat) (n : Nat) : Nat → Int
  | 0 => 1
  | k + 1 => if lfV L n k < 0 then lfV L n k else 2 * lfV L n k - cnN L n (k + 1)
theorem lf_b {L : Nat → Nat} {n : Nat} : ∀ k, -(n : Int) ≤ lfV L n k ∧ lfV L n k ≤ 2 ^ k := by
  intro k
  induction k with
  | zero => exact ⟨by show -(n : Int) ≤ 1; omega, by show (1 : Int) ≤ 2 ^ 0; decide⟩
  | succ k ih =>
    have u : lfV L n (k + 1) = if lfV L n k < 0 then lfV L n k else 2 * lfV L n k - cnN L n (k + 1) := rfl
    have c := cn_le (L := L) (b := k + 1) n
    have p : (2 : Int) ^ (k + 1) = 2 * 2 ^ k := by rw [Int.pow_succ]; omega
    obtain ⟨z, pp⟩ : ∃ z : Nat, (z : Int) = (2 : Int) ^ k := ⟨2 ^ k, Int.natCast_pow 2 k⟩
    rw [u, p]
    by_cases q : lfV L n k < 0
    · rw [if_pos q]; omega
    · rw [if_neg q]; omega
theorem tb_rd {s : e_S} {g : ps_G} {j n i : Nat} {ks : List Nat} (ht : e_tb[j]? = some (2, n, ks)) (hi : i < n) (hn : n < 2147483648) : q_aI (e_g s g) j (Int32.ofNat i) = some (s.2.1 j i) := by
  rw [e_aI ht, n_idx (by omega), if_neg (n_in2 hi (by omega))]
theorem tb_wr {s : e_S} {g : ps_G} {j n i : Nat} {ks : List Nat} {v : Int32} (ht : e_tb[j]? = some (2, n, ks)) (h8 : 8 ≤ j) (hi : i < n) (hn : n < 2147483648) : q_wI (e_g s g) j (Int32.ofNat i) v = some (e_g (sA s j (upd (s.2.1 j) i v)) g) := by
  rw [e_wI ht h8, n_idx (by omega), if_neg (n_in2 hi (by omega))]
def xT (s : e_S) (c0 y0 : Nat) (C Y O : Nat → Int32) : e_S := sA (sA (sA s c0 C) y0 Y) 136 O
theorem x_id {s : e_S} {c0 y0 : Nat} : xT s c0 y0 (s.2.1 c0) (s.2.1 y0) (s.2.1 136) = s := by
  unfold xT
  rw [sA_id, sA_id, sA_id]
theorem x_c {s : e_S} {c0 y0 : Nat} {C Y O C' : Nat → Int32} (h1 : ¬ c0 = y0) (h2 : ¬ c0 = 136) : sA (xT s c0 y0 C Y O) c0 C' = xT s c0 y0 C' Y O := by
  unfold xT
  rw [sA_cm (fun z => h2 z.symm), sA_cm (fun z => h1 z.symm), sA_sA]
theorem x_y {s : e_S} {c0 y0 : Nat} {C Y O Y' : Nat → Int32} (h2 : ¬ y0 = 136) : sA (xT s c0 y0 C Y O) y0 Y' = xT s c0 y0 C Y' O := by
  unfold xT
  rw [sA_cm (fun z => h2 z.symm), sA_sA]
theorem x_o {s : e_S} {c0 y0 : Nat} {C Y O O' : Nat → Int32} : sA (xT s c0 y0 C Y O) 136 O' = xT s c0 y0 C Y O' := by
  unfold xT
  rw [sA_sA]
theorem x_rc {s : e_S} {c0 y0 : Nat} {C Y O : Nat → Int32} (h1 : ¬ c0 = y0) (h2 : ¬ c0 = 136) : (xT s c0 y0 C Y O).2.1 c0 = C := by
  unfold xT
  rw [A_sA, if_neg h2, A_sA, if_neg h1, A_sA, if_pos rfl]
theorem x_ry {s : e_S} {c0 y0 : Nat} {C Y O : Nat → Int32} (h2 : ¬ y0 = 136) : (xT s c0 y0 C Y O).2.1 y0 = Y := by
  unfold xT
  rw [A_sA, if_neg h2, A_sA, if_pos rfl]
theorem x_ro {s : e_S} {c0 y0 : Nat} {C Y O : Nat → Int32} : (xT s c0 y0 C Y O).2.1 136 = O := by
  unfold xT
  rw [A_sA, if_pos rfl]
theorem x_rl {s : e_S} {c0 y0 j : Nat} {C Y O : Nat → Int32} (h1 : ¬ j = c0) (h2 : ¬ j = y0) (h3 : ¬ j = 136) : (xT s c0 y0 C Y O).2.1 j = s.2.1 j := by
  unfold xT
  rw [A_sA, if_neg h3, A_sA, if_neg h2, A_sA, if_neg h1]
theorem order7 {s : e_S} {g : ps_G} {c0 y0 ly first many : Nat} {L : Nat → Nat} (tc : e_tb[c0]? = some (2, 16, [])) (ty : e_tb[y0]? = some (2, ly, [])) (c8 : 8 ≤ c0) (y8 : 8 ≤ y0) (ne : ¬ c0 = y0) (n1 : ¬ 131 = c0) (n2 : ¬ c0 = 136) (n3 : ¬ 131 = y0) (n4 : ¬ y0 = 136) (hly : ly ≤ 288) (hm : many ≤ ly) (hf : first + many ≤ 320) (hL : ∀ i, i < many → s.2.1 131 (first + i) &&& 15 = Int32.ofNat (L i) ∧ L i < 16) : ∃ left C Y O, fX2_order (e_g s g) 128 c0 y0 (Int32.ofNat first) (Int32.ofNat many) = some (left, e_g (xT s c0 y0 C Y O) g) ∧ left.toInt = lfV L many 15 ∧ Tb C Y L many := by
  have rl : ∀ (C Y O : Nat → Int32) (i : Nat), i < many → q_aI (e_g (xT s c0 y0 C Y O) g) 131 (Int32.ofNat (first + i)) = some (s.2.1 131 (first + i)) := fun C Y O i hi => by
    rw [tb_rd t131 (by omega) (by omega), x_rl n1 n3 (by decide)]
  have l1 : ∀ S : e_S, q_len (e_g S g) 131 = some (Int32.ofNat 320) := fun S => l131
  -- emptied
  have fi : fJ7_fill_53178 (e_g s g) c0 0 = some (e_g (xT s c0 y0 (fl (s.2.1 c0) 16 0) (s.2.1 y0) (s.2.1 136)) g) := by
    have q := fillI (s := s) (g := g) (v := 0) tc c8 (by omega)
    have e : sA s c0 (fl (s.2.1 c0) 16 0) = xT s c0 y0 (fl (s.2.1 c0) 16 0) (s.2.1 y0) (s.2.1 136) := by
      have e0 := x_c (s := s) (C := s.2.1 c0) (Y := s.2.1 y0) (O := s.2.1 136) (C' := fl (s.2.1 c0) 16 0) ne n2
      rw [x_id] at e0
      exact e0
    rw [e] at q
    exact q
  -- counted
  obtain ⟨r1, lp1, C, e1, hC⟩ := lp_n (b := fun t => bX2_order_8 128 c0 y0 (Int32.ofNat first) (Int32.ofNat many) t.1 t.2) (fun i t => ∃ C, t = (Int32.ofNat (first + i), e_g (xT s c0 y0 C (s.2.1 y0) (s.2.1 136)) g) ∧ ∀ k, k < 16 → C k = Int32.ofNat (cnN L i k)) (fun r => ∃ C, r = e_g (xT s c0 y0 C (s.2.1 y0) (s.2.1 136)) g ∧ ∀ k, k < 16 → C k = Int32.ofNat (cnN L many k)) many (fun i t hi ⟨C, ht, hC⟩ => by
    obtain ⟨v1, v2⟩ := hL i hi
    refine ⟨_, ?_, upd C (L i) (C (L i) + 1), rfl, fun k hk => ?_⟩
    · rw [ht]
      show bX2_order_8 _ _ _ _ _ _ _ = _
      unfold bX2_order_8
      dsimp only
      rw [n_add, if_neg (nle (by omega) (by omega)), f128_7, ob_n, ob_n, l1, ob_n, if_neg (nle (by omega) (by omega)), ob_n, ob_n, rl _ _ _ i hi, ob_n, v1, tb_rd tc v2 (by omega), ob_n, tb_wr tc c8 v2 (by omega), ob_n, x_rc ne n2, x_c ne n2, n_suc, Nat.add_assoc]
    · rw [upd_r, cn_s]
      by_cases q : k = L i
      · rw [if_pos q, if_pos q.symm, hC _ v2, n_suc, q]
      · rw [if_neg q, if_neg (fun z => q z.symm), hC k hk]) (fun t ⟨C, ht, hC⟩ => by
    refine ⟨_, ?_, C, rfl, hC⟩
    rw [ht]
    show bX2_order_8 _ _ _ _ _ _ _ = _
    unfold bX2_order_8
    dsimp only
    rw [n_add, if_pos (nlr (by omega))]) (s := (Int32.ofNat first, e_g (xT s c0 y0 (fl (s.2.1 c0) 16 0) (s.2.1 y0) (s.2.1 136)) g)) ⟨_, rfl, fun k hk => by
      rw [fl_lt hk]
      have : cnN L 0 k = 0 := Nat.le_zero.mp (cn_le 0)
      rw [this]
      rfl⟩
  -- offsets
  obtain ⟨r2, lp2, O, x, e2, hx, hO⟩ := lp_n (b := fun t => bX2_order_62 128 c0 y0 (Int32.ofNat first) (Int32.ofNat many) t.1 t.2.1 t.2.2) (fun i t => ∃ O x, t = (x, Int32.ofNat (i + 1), e_g (xT s c0 y0 C (s.2.1 y0) O) g) ∧ x.toInt = lfV L many i ∧ ∀ k, 1 ≤ k → k ≤ i + 1 → O k = Int32.ofNat (ofN L many k)) (fun r => ∃ O x, r = (x, e_g (xT s c0 y0 C (s.2.1 y0) O) g) ∧ x.toInt = lfV L many 15 ∧ ∀ k, 1 ≤ k → k ≤ 16 → O k = Int32.ofNat (ofN L many k)) 15 (fun i t hi ⟨O, x, ht, hx, hO⟩ => by
    have lb := lf_b (L := L) (n := many) i
    have pi : (2 : Int) ^ i ≤ 2 ^ 15 := by
      have a := Nat.pow_le_pow_right (show 0 < 2 by omega) (show i ≤ 15 by omega)
      have e : ((2 ^ i : Nat) : Int) = (2 : Int) ^ i := by exact Int.natCast_pow 2 i
      have e' : ((2 ^ 15 : Nat) : Int) = (2 : Int) ^ 15 := by exact Int.natCast_pow 2 15
      omega
    have p15 : (2 : Int) ^ 15 = 32768 := by decide
    have cl := cn_le (L := L) (b := i + 1) many
    have z0 : (0 : Int32).toInt = 0 := by decide
    have z2 : (2 : Int32).toInt = 2 := by decide
    have rc : ∀ O', q_aI (e_g (xT s c0 y0 C (s.2.1 y0) O') g) c0 (Int32.ofNat (i + 1)) = some (Int32.ofNat (cnN L many (i + 1))) := fun O' => by
      rw [tb_rd tc (by omega) (by omega), x_rc ne n2, hC _ (by omega)]
    have ro : q_aI (e_g (xT s c0 y0 C (s.2.1 y0) O) g) 136 (Int32.ofNat (i + 1)) = some (Int32.ofNat (ofN L many (i + 1))) := by
      rw [tb_rd t136 (by omega) (by omega), x_ro, hO _ (by omega) (by omega)]
    have ul : lfV L many (i + 1) = if lfV L many i < 0 then lfV L many i else 2 * lfV L many i - cnN L many (i + 1) := rfl
    have c15 : ¬ (15 : Int32) < Int32.ofNat (i + 1) := fun z => by
      have z' : Int32.ofNat 15 < Int32.ofNat (i + 1) := z
      have := (n_lt (by omega) (by omega)).mp z'
      omega
    have jj : ∀ x' : Int32, jX2_order_88_62 (e_g (xT s c0 y0 C (s.2.1 y0) O) g) 128 c0 y0 (Int32.ofNat first) (Int32.ofNat many) (Int32.ofNat (i + 1)) x' = some (.inl (x', Int32.ofNat (i + 1 + 1), e_g (xT s c0 y0 C (s.2.1 y0) (upd O (i + 1 + 1) (Int32.ofNat (ofN L many (i + 1 + 1))))) g)) := fun x' => by
      unfold jX2_order_88_62
      have e1 : Int32.ofNat (i + 1) + 1 = Int32.ofNat (i + 1 + 1) := n_suc
      rw [f128_12, ob_n, ob_n, ob_n, ob_n, ro, ob_n, rc, ob_n, e1, n_add, ← of_s (by omega), tb_wr t136 (by decide) (by omega) (by omega), ob_n, x_ro, x_o]
    have hO' : ∀ k, 1 ≤ k → k ≤ i + 1 + 1 → upd O (i + 1 + 1) (Int32.ofNat (ofN L many (i + 1 + 1))) k = Int32.ofNat (ofN L many k) := fun k k1 k2 => by
      rw [upd_r]
      by_cases q : k = i + 1 + 1
      · rw [if_pos q, q]
      · rw [if_neg q, hO k k1 (by omega)]
    by_cases q : lfV L many i < 0
    · refine ⟨(x, Int32.ofNat (i + 1 + 1), e_g (xT s c0 y0 C (s.2.1 y0) (upd O (i + 1 + 1) (Int32.ofNat (ofN L many (i + 1 + 1))))) g), ?_, _, x, rfl, by rw [ul, if_pos q, hx], hO'⟩
      rw [ht]
      show bX2_order_62 _ _ _ _ _ _ _ _ = _
      unfold bX2_order_62
      dsimp only
      have c0' : ¬ (0 : Int32) ≤ x := fun z => by rw [i_le, z0, hx] at z; omega
      rw [if_neg c15, if_neg c0', jj]
    · have m2 : (2 * x).toInt = 2 * lfV L many i := by
        rw [i_mul (by rw [z2, hx]; omega) (by rw [z2, hx]; omega), z2, hx]
      have cI : (Int32.ofNat (cnN L many (i + 1))).toInt = cnN L many (i + 1) := n_int (by omega)
      have s2 : (2 * x - Int32.ofNat (cnN L many (i + 1))).toInt = 2 * lfV L many i - cnN L many (i + 1) := by
        rw [i_sub (by rw [m2, cI]; omega) (by rw [m2, cI]; omega), m2, cI]
      refine ⟨(2 * x - Int32.ofNat (cnN L many (i + 1)), Int32.ofNat (i + 1 + 1), e_g (xT s c0 y0 C (s.2.1 y0) (upd O (i + 1 + 1) (Int32.ofNat (ofN L many (i + 1 + 1))))) g), ?_, _, _, rfl, by rw [ul, if_neg q, s2], hO'⟩
      rw [ht]
      show bX2_order_62 _ _ _ _ _ _ _ _ = _
      unfold bX2_order_62
      dsimp only
      have c0' : (0 : Int32) ≤ x := by rw [i_le, z0, hx]; omega
      rw [if_neg c15, if_pos c0', rc, ob_n, jj]) (fun t ⟨O, x, ht, hx, hO⟩ => by
    refine ⟨_, ?_, O, x, rfl, hx, hO⟩
    rw [ht]
    show bX2_order_62 _ _ _ _ _ _ _ _ = _
    unfold bX2_order_62
    dsimp only
    rw [if_pos (show (15 : Int32) < Int32.ofNat (15 + 1) by decide)]) (s := ((1 : Int32), (1 : Int32), e_g (xT s c0 y0 C (s.2.1 y0) (upd (s.2.1 136) 1 0)) g)) ⟨_, 1, rfl, by show (1 : Int32).toInt = 1; decide, fun k k1 k2 => by
      have e : k = 1 := by omega
      rw [e, upd_s]
      rfl⟩
  -- laid
  obtain ⟨r3, lp3, Y, O3, e3, hY⟩ := lp_n (b := fun t => bX2_order_120 128 y0 (Int32.ofNat first) (Int32.ofNat many) x t.1 t.2) (fun i t => ∃ Y O, t = (Int32.ofNat i, e_g (xT s c0 y0 C Y O) g) ∧ (∀ k, 1 ≤ k → k < 16 → O k = Int32.ofNat (ofN L many k + cnN L i k)) ∧ ∀ b, 1 ≤ b → b < 16 → ∀ r, r < cnN L i b → Y (ofN L many b + r) = Int32.ofNat (ntN L i b r)) (fun r => ∃ Y O, r = e_g (xT s c0 y0 C Y O) g ∧ ∀ b, 1 ≤ b → b < 16 → ∀ r, r < cnN L many b → Y (ofN L many b + r) = Int32.ofNat (ntN L many b r)) many (fun i t hi ⟨Y, O, ht, hO, hY⟩ => by
    obtain ⟨v1, v2⟩ := hL i hi
    have pre : bX2_order_120 128 y0 (Int32.ofNat first) (Int32.ofNat many) x (Int32.ofNat i) (e_g (xT s c0 y0 C Y O) g) = if Int32.ofNat (L i) = 0 then (jX2_order_192_120 (e_g (xT s c0 y0 C Y O) g) 128 y0 (Int32.ofNat first) (Int32.ofNat many) x (Int32.ofNat i)) else (Option.bind (q_aI (e_g (xT s c0 y0 C Y O) g) 136 (Int32.ofNat (L i))) fun v54 => Option.bind (q_len (e_g (xT s c0 y0 C Y O) g) y0) fun v55 => if v55 ≤ v54 then (jX2_order_192_120 (e_g (xT s c0 y0 C Y O) g) 128 y0 (Int32.ofNat first) (Int32.ofNat many) x (Int32.ofNat i)) else (Option.bind (q_aI (e_g (xT s c0 y0 C Y O) g) 136 (Int32.ofNat (L i))) fun v60 => Option.bind (q_wI (e_g (xT s c0 y0 C Y O) g) y0 v60 (Int32.ofNat i)) fun g61 => Option.bind (q_fR 2 12 g61 128) fun v62 => Option.bind (v62) fun a63 => Option.bind (q_aI g61 a63 (Int32.ofNat (L i))) fun v64 => Option.bind (q_wI g61 a63 (Int32.ofNat (L i)) (v64 + (1 : Int32))) fun g65 => jX2_order_192_120 g65 128 y0 (Int32.ofNat first) (Int32.ofNat many) x (Int32.ofNat i))) := by
      unfold bX2_order_120
      rw [if_neg (nle hi (by omega)), f128_7, ob_n, ob_n, l1, ob_n, n_add, if_neg (nle (by omega) (by omega)), ob_n, ob_n, rl _ _ _ i hi, ob_n, v1, f128_12, ob_n, ob_n, ob_n, ob_n]
    by_cases q : L i = 0
    · refine ⟨(Int32.ofNat (i + 1), e_g (xT s c0 y0 C Y O) g), ?_, Y, O, rfl, fun k k1 k2 => ?_, fun b b1 b2 r hr => ?_⟩
      · rw [ht]
        show bX2_order_120 _ _ _ _ _ _ _ = _
        rw [pre, if_pos (by rw [q]; rfl)]
        unfold jX2_order_192_120
        rw [n_suc]
      · rw [cn_s, if_neg (by omega)]; exact hO k k1 k2
      · rw [cn_s, if_neg (by omega)] at hr
        rw [nt_o hr]; exact hY b b1 b2 r hr
    · have cm : cnN L i (L i) + 1 ≤ cnN L many (L i) := by
        have a := cn_mo (L := L) (b := L i) (many - (i + 1)) (i + 1)
        rw [cn_s, if_pos rfl, show i + 1 + (many - (i + 1)) = many by omega] at a
        exact a
      have o1 := of_s (L := L) (i := many) (b := L i) (by omega)
      have o2 := of_le (L := L) (b := L i + 1) (by omega) many
      have c0' : ¬ Int32.ofNat (L i) = 0 := fun z => by
        have z' : Int32.ofNat (L i) = Int32.ofNat 0 := z
        exact q ((n_eq (by omega) (by omega)).mp z')
      have ro : ∀ Y', q_aI (e_g (xT s c0 y0 C Y' O) g) 136 (Int32.ofNat (L i)) = some (Int32.ofNat (ofN L many (L i) + cnN L i (L i))) := fun Y' => by
        rw [tb_rd t136 (by omega) (by omega), x_ro, hO _ (by omega) v2]
      have ln : q_len (e_g (xT s c0 y0 C Y O) g) y0 = some (Int32.ofNat ly) := e_len ty
      refine ⟨(Int32.ofNat (i + 1), e_g (xT s c0 y0 C (upd Y (ofN L many (L i) + cnN L i (L i)) (Int32.ofNat i)) (upd O (L i) (Int32.ofNat (ofN L many (L i) + cnN L i (L i) + 1)))) g), ?_, _, _, rfl, fun k k1 k2 => ?_, fun b b1 b2 r hr => ?_⟩
      · rw [ht]
        show bX2_order_120 _ _ _ _ _ _ _ = _
        rw [pre, if_neg c0', ro, ob_n, ln, ob_n, if_neg (nle (by omega) (by omega)), ob_n, tb_wr ty y8 (by omega) (by omega), ob_n, x_ry n4, x_y n4, f128_12, ob_n, ob_n, ro, ob_n, n_suc, tb_wr t136 (by decide) (by omega) (by omega), ob_n, x_ro, x_o]
        unfold jX2_order_192_120
        rw [n_suc]
      · rw [upd_r, cn_s]
        by_cases e : k = L i
        · rw [if_pos e, if_pos e.symm, e]; rfl
        · rw [if_neg e, if_neg (fun z => e z.symm)]; exact hO k k1 k2
      · rw [upd_r]
        by_cases e : b = L i
        · rw [cn_s, if_pos e.symm] at hr
          by_cases e2 : r = cnN L i b
          · rw [e2, e, if_pos rfl, nt_n rfl]
          · have hr' : r < cnN L i b := by omega
            rw [e] at hr' e2 ⊢
            rw [if_neg (by omega), nt_o hr']
            exact hY _ (by omega) v2 r hr'
        · rw [cn_s, if_neg (fun z => e z.symm)] at hr
          have cb : cnN L i b ≤ cnN L many b := by
            have a := cn_mo (L := L) (b := b) (many - i) i
            rw [show i + (many - i) = many by omega] at a
            exact a
          have ob := of_s (L := L) (i := many) (b := b) b1
          have dj : ¬ ofN L many b + r = ofN L many (L i) + cnN L i (L i) := by
            by_cases lt : b < L i
            · have a := of_mo (L := L) (i := many) (b := b + 1) (L i - (b + 1)) (by omega)
              rw [show b + 1 + (L i - (b + 1)) = L i by omega] at a
              omega
            · have a := of_mo (L := L) (i := many) (b := L i + 1) (b - (L i + 1)) (by omega)
              rw [show L i + 1 + (b - (L i + 1)) = b by omega] at a
              omega
          rw [if_neg dj, nt_o hr]
          exact hY b b1 b2 r hr) (fun t ⟨Y, O, ht, hO, hY⟩ => by
    refine ⟨_, ?_, Y, O, rfl, hY⟩
    rw [ht]
    show bX2_order_120 _ _ _ _ _ _ _ = _
    unfold bX2_order_120
    dsimp only
    rw [if_pos (nlr (by omega))]) (s := ((0 : Int32), e_g (xT s c0 y0 C (s.2.1 y0) O) g)) ⟨s.2.1 y0, O, rfl, fun k k1 k2 => by
      have : cnN L 0 k = 0 := Nat.le_zero.mp (cn_le 0)
      rw [this, Nat.add_zero]
      exact hO k k1 (by omega), fun b b1 b2 r hr => by
      have : cnN L 0 b = 0 := Nat.le_zero.mp (cn_le 0)
      omega⟩
  refine ⟨x, C, Y, O3, ?_, hx, hC, hY⟩
  have w1 : q_wI (e_g (xT s c0 y0 C (s.2.1 y0) (s.2.1 136)) g) 136 1 0 = some (e_g (xT s c0 y0 C (s.2.1 y0) (upd (s.2.1 136) 1 0)) g) := by
    have q := tb_wr (s := xT s c0 y0 C (s.2.1 y0) (s.2.1 136)) (g := g) (i := 1) (v := 0) t136 (by decide) (by omega) (by omega)
    rw [x_ro, x_o] at q
    exact q
  unfold fX2_order jX2_order_49 jX2_order_198
  rw [fi, ob_n, lp1, ob_n, e1, f128_12, ob_n, ob_n, w1, ob_n, lp2, ob_n, e2, lp3, ob_n, e3]
