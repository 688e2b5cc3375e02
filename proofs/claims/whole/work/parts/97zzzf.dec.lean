-- needs: 97zzze
/-! ===== png: codes by their lengths ===== -/
/-- the symbols below i whose code is b long -/
def ftL (L : Nat → Nat) (b i : Nat) : List Nat := (List.range i).filter (fun j => L j == b)
def cnN (L : Nat → Nat) (i b : Nat) : Nat := (ftL L b i).length
theorem ft_s {L : Nat → Nat} {b i : Nat} : ftL L b (i + 1) = if L i = b then ftL L b i ++ [i] else ftL L b i := by
  unfold ftL
  rw [List.range_succ, List.filter_append]
  by_cases q : L i = b
  · rw [if_pos q]
    have e : List.filter (fun j => L j == b) [i] = [i] := by simp [q]
    rw [e]
  · rw [if_neg q]
    have e : List.filter (fun j => L j == b) [i] = [] := by simp [q]
    rw [e, List.append_nil]
theorem cn_s {L : Nat → Nat} {b i : Nat} : cnN L (i + 1) b = if L i = b then cnN L i b + 1 else cnN L i b := by
  unfold cnN
  rw [ft_s]
  split
  · rw [List.length_append]; rfl
  · rfl
theorem cn_le {L : Nat → Nat} {b : Nat} : ∀ i, cnN L i b ≤ i := by
  intro i
  induction i with
  | zero => exact Nat.le_refl _
  | succ i ih => rw [cn_s]; split <;> omega
theorem cn_mo {L : Nat → Nat} {b : Nat} : ∀ j i, cnN L i b ≤ cnN L (i + j) b := by
  intro j
  induction j with
  | zero => exact fun i => Nat.le_refl _
  | succ j ih =>
    intro i
    have := ih i
    have e : cnN L (i + (j + 1)) b = if L (i + j) = b then cnN L (i + j) b + 1 else cnN L (i + j) b := cn_s
    rw [e]
    split <;> omega
/-- the r-th of them -/
def ntN (L : Nat → Nat) (i b r : Nat) : Nat := (ftL L b i).getD r 0
theorem nt_o {L : Nat → Nat} {i b r : Nat} (hr : r < cnN L i b) : ntN L (i + 1) b r = ntN L i b r := by
  unfold ntN
  rw [ft_s]
  split
  · rw [List.getD_eq_getElem?_getD, List.getD_eq_getElem?_getD, List.getElem?_append_left hr]
  · rfl
theorem nt_n {L : Nat → Nat} {i b : Nat} (h : L i = b) : ntN L (i + 1) b (cnN L i b) = i := by
  unfold ntN
  rw [ft_s, if_pos h, List.getD_eq_getElem?_getD]
  show (ftL L b i ++ [i])[(ftL L b i).length]?.getD 0 = i
  rw [List.getElem?_append_right (Nat.le_refl _), Nat.sub_self]
  rfl
theorem nt_lt {L : Nat → Nat} {b : Nat} : ∀ i r, r < cnN L i b → ntN L i b r < i := by
  intro i
  induction i with
  | zero =>
    intro r hr
    have := cn_le (L := L) (b := b) 0
    omega
  | succ i ih =>
    intro r hr
    by_cases q : r < cnN L i b
    · rw [nt_o q]
      have := ih r q
      omega
    · rw [cn_s] at hr
      by_cases q2 : L i = b
      · rw [if_pos q2] at hr
        have e : r = cnN L i b := by omega
        rw [e, nt_n q2]
        omega
      · rw [if_neg q2] at hr
        omega
/-- how many codes are shorter than b -/
def ofN (L : Nat → Nat) (i : Nat) : Nat → Nat
  | 0 => 0
  | 1 => 0
  | b + 2 => ofN L i (b + 1) + cnN L i (b + 1)
theorem of_s {L : Nat → Nat} {i b : Nat} (h : 1 ≤ b) : ofN L i (b + 1) = ofN L i b + cnN L i b := by
  obtain ⟨c, rfl⟩ : ∃ c, b = c + 1 := ⟨b - 1, by omega⟩
  rfl
theorem of_i {L : Nat → Nat} {b : Nat} : ∀ m i, b ≤ 16 → m = b → ofN L (i + 1) m ≤ ofN L i m + 1 ∧ ofN L i m ≤ ofN L (i + 1) m ∧ (m ≤ L i → ofN L (i + 1) m = ofN L i m) := by
  intro m
  induction m generalizing b with
  | zero => exact fun i _ _ => ⟨by show 0 ≤ 0 + 1; omega, Nat.le_refl _, fun _ => rfl⟩
  | succ m ih =>
    intro i hb he
    by_cases q : m = 0
    · subst q
      exact ⟨by show 0 ≤ 0 + 1; omega, Nat.le_refl _, fun _ => rfl⟩
    · have z := ih (b := m) i (by omega) rfl
      rw [of_s (by omega), of_s (by omega), cn_s]
      by_cases q2 : L i = m
      · rw [if_pos q2]
        have e := z.2.2 (by omega)
        refine ⟨by omega, by omega, fun h => by omega⟩
      · rw [if_neg q2]
        refine ⟨by omega, by omega, fun h => by have := z.2.2 (by omega); omega⟩
theorem of_le {L : Nat → Nat} {b : Nat} (hb : b ≤ 16) : ∀ i, ofN L i b ≤ i := by
  intro i
  induction i with
  | zero =>
    have : ∀ b, ofN L 0 b = 0 := by
      intro b
      induction b with
      | zero => rfl
      | succ b ih =>
        by_cases q : b = 0
        · subst q; rfl
        · rw [of_s (by omega), ih]
          have := cn_le (L := L) (b := b) 0
          omega
    rw [this]
    exact Nat.le_refl _
  | succ i ih =>
    have := (of_i (L := L) (b := b) b i hb rfl).1
    omega
theorem of_mo {L : Nat → Nat} {i b : Nat} : ∀ j, 1 ≤ b → ofN L i b ≤ ofN L i (b + j) := by
  intro j
  induction j with
  | zero => exact fun _ => Nat.le_refl _
  | succ j ih =>
    intro h
    have := ih h
    have e : ofN L i (b + (j + 1)) = ofN L i (b + j) + cnN L i (b + j) := of_s (b := b + j) (by omega)
    omega
/-- rows that hold the codes -/
def Tb (C Y : Nat → Int32) (L : Nat → Nat) (n : Nat) : Prop := (∀ k, k < 16 → C k = Int32.ofNat (cnN L n k)) ∧ ∀ b, 1 ≤ b → b < 16 → ∀ r, r < cnN L n b → Y (ofN L n b + r) = Int32.ofNat (ntN L n b r)
/-- a symbol by its code -/
def dcN (L : Nat → Nat) (n : Nat) (K : Nat → Int32) (nn : Nat) : Nat → Nat → Nat → Nat → Option (Nat × Nat)
  | 0, _, _, _ => none
  | m + 1, c, f, b => if 8 * nn ≤ b then none else if c + btN K b < f + cnN L n (15 - m) then some (ntN L n (15 - m) (c + btN K b - f), b + 1) else dcN L n K nn m (2 * (c + btN K b)) (2 * (f + cnN L n (15 - m))) (b + 1)
theorem dc_i {L : Nat → Nat} {n nn : Nat} {K : Nat → Int32} : ∀ m c f b, m ≤ 15 → f ≤ c → ∀ v b', dcN L n K nn m c f b = some (v, b') → v < n ∧ b < b' ∧ b' ≤ 8 * nn := by
  intro m
  induction m with
  | zero =>
    intro c f b _ _ v b' h
    cases h
  | succ m ih =>
    intro c f b hm hf v b' h
    have u : dcN L n K nn (m + 1) c f b = if 8 * nn ≤ b then none else if c + btN K b < f + cnN L n (15 - m) then some (ntN L n (15 - m) (c + btN K b - f), b + 1) else dcN L n K nn m (2 * (c + btN K b)) (2 * (f + cnN L n (15 - m))) (b + 1) := rfl
    rw [u] at h
    by_cases q : 8 * nn ≤ b
    · rw [if_pos q] at h
      cases h
    · rw [if_neg q] at h
      by_cases q2 : c + btN K b < f + cnN L n (15 - m)
      · rw [if_pos q2] at h
        have h' := Option.some.inj h
        have e1 : ntN L n (15 - m) (c + btN K b - f) = v := congrArg Prod.fst h'
        have e2 : b + 1 = b' := congrArg Prod.snd h'
        have := nt_lt (L := L) (b := 15 - m) n (c + btN K b - f) (by omega)
        omega
      · rw [if_neg q2] at h
        have := ih _ _ _ (by omega) (by omega) v b' h
        omega
theorem n_2 {x : Nat} : (2 : Int32) * Int32.ofNat x = Int32.ofNat (2 * x) := n_mul (n := 2)
theorem shl1 {x : Nat} : q_shl (Int32.ofNat x) 1 = Int32.ofNat (2 * x) := by
  apply Int32.toBitVec_inj.mp
  apply BitVec.eq_of_toNat_eq
  have e : (q_shl (Int32.ofNat x) 1).toBitVec = (BitVec.ofNat 32 x) <<< 1 := rfl
  have e2 : (Int32.ofNat (2 * x)).toBitVec = BitVec.ofNat 32 (2 * x) := rfl
  rw [e, e2, BitVec.toNat_shiftLeft, BitVec.toNat_ofNat, BitVec.toNat_ofNat, Nat.shiftLeft_eq]
  omega
theorem or_1 {x y : Nat} (hy : y ≤ 1) : Int32.ofNat (2 * x) ||| Int32.ofNat y = Int32.ofNat (2 * x + y) := by
  rw [n_or]
  have e := Nat.two_pow_add_eq_or_of_lt (show y < 2 ^ 1 by omega) x
  rw [← e]
theorem rb_1 {K : Nat → Int32} {b : Nat} : rbN K b 1 = btN K b := by
  show 0 + 2 ^ 0 * btN K b = _
  omega
/-- the class finds a symbol -/
theorem decl7 {g : ps_G} {L : Nat → Nat} {n nn c0 y0 : Nat} {K : Nat → Int32} {C Y : Nat → Int32} {ly : Nat} (hn : n ≤ 288) (hl : n ≤ ly) (hl2 : ly ≤ 288) (hT : Tb C Y L n) (rC : ∀ S : e_S, S.2.1 c0 = C → ∀ k, k < 16 → q_aI (e_g S g) c0 (Int32.ofNat k) = some (C k)) (rY : ∀ S : e_S, S.2.1 y0 = Y → q_len (e_g S g) y0 = some (Int32.ofNat ly) ∧ ∀ k, k < ly → q_aI (e_g S g) y0 (Int32.ofNat k) = some (Y k)) : ∀ (m c f b : Nat) (s : e_S), m ≤ 15 → s.2.1 c0 = C → s.2.1 y0 = Y → PC s K nn b → s.1 128 3 = 0 → f ≤ 2 * c → 2 * c < 2 ^ (16 - m) → (∀ v b', dcN L n K nn m (2 * c) f b = some (v, b') → q_lp (fun t => bX2_decode_11 128 c0 y0 t.1 t.2.1 t.2.2.1 t.2.2.2.1 t.2.2.2.2) (Int32.ofNat (2 * c), Int32.ofNat f, Int32.ofNat (ofN L n (16 - m)), Int32.ofNat (16 - m), e_g s g) = some (.inr (Int32.ofNat v, e_g (sF s 128 2 (Int32.ofNat b')) g))) ∧ (dcN L n K nn m (2 * c) f b = none → ∃ r s', q_lp (fun t => bX2_decode_11 128 c0 y0 t.1 t.2.1 t.2.2.1 t.2.2.2.1 t.2.2.2.2) (Int32.ofNat (2 * c), Int32.ofNat f, Int32.ofNat (ofN L n (16 - m)), Int32.ofNat (16 - m), e_g s g) = some r ∧ (r = .inl (e_g s' g) ∨ ∃ v, r = .inr (v, e_g s' g) ∧ s'.1 128 3 = 1) ∧ (∃ b', PC s' K nn b') ∧ Kp [] 128 [2, 3] s s') := by
  intro m
  induction m with
  | zero =>
    intro c f b s hm hC hY hP hw hf hc
    refine ⟨fun v b' h => (by cases h), fun _ => ⟨.inl (e_g s g), s, lp_end ?_, Or.inl rfl, ⟨b, hP⟩, kp_rf⟩⟩
    show bX2_decode_11 _ _ _ _ _ _ _ _ = _
    unfold bX2_decode_11
    rw [if_pos (show (15 : Int32) < Int32.ofNat (16 - 0) by decide)]
  | succ m ih =>
    intro c f b s hm hC hY hP hw hf hc
    have u : dcN L n K nn (m + 1) (2 * c) f b = if 8 * nn ≤ b then none else if 2 * c + btN K b < f + cnN L n (15 - m) then some (ntN L n (15 - m) (2 * c + btN K b - f), b + 1) else dcN L n K nn m (2 * (2 * c + btN K b)) (2 * (f + cnN L n (15 - m))) (b + 1) := rfl
    have e15 : 16 - (m + 1) = 15 - m := by omega
    have e16 : 15 - m + 1 = 16 - m := by omega
    have p2 : (2 : Nat) ^ (16 - m) = 2 * 2 ^ (15 - m) := by rw [← e16, Nat.pow_succ]; omega
    have pl : (2 : Nat) ^ (15 - m) ≤ 2 ^ 15 := Nat.pow_le_pow_right (by omega) (by omega)
    have p15 : (2 : Nat) ^ 15 = 32768 := by decide
    have p14 : (2 : Nat) ^ (15 - m) = 2 * 2 ^ (14 - m) := by rw [show 15 - m = 14 - m + 1 by omega, Nat.pow_succ]; omega
    rw [e15] at hc ⊢
    have hbt := (bt_e (K := K) (b := b)).2
    have cle := cn_le (L := L) (b := 15 - m) n
    have c1 : ¬ (15 : Int32) < Int32.ofNat (15 - m) := fun z => by
      have z' : Int32.ofNat 15 < Int32.ofNat (15 - m) := z
      have := (n_lt (by omega) (by omega)).mp z'
      omega
    have rb := readBits7 (g := g) (m := 1) hP (by omega)
    have rb' : fX2_readBits (e_g s g) 128 1 = _ := rb
    obtain ⟨hnn, hb, f1, f2, hK⟩ := id hP
    by_cases q : 8 * nn ≤ b
    · -- no bit left
      rw [u, if_pos q]
      rw [if_neg (show ¬ b + 1 ≤ 8 * nn by omega)] at rb'
      refine ⟨fun v b' h => (by cases h), fun _ => ?_⟩
      have eb : b = 8 * nn := by omega
      have kS : Kp [] 128 [2, 3] s (sF (sF s 128 2 (Int32.ofNat (8 * nn))) 128 3 1) := kp_F (kp_F kp_rf (by decide)) (by decide)
      have pS : PC (sF (sF s 128 2 (Int32.ofNat (8 * nn))) 128 3 1) K nn (8 * nn) := ⟨hnn, Nat.le_refl _, by rw [F_sF, if_neg (by decide), F_sF, if_neg (by decide)]; exact f1, by rw [F_sF, if_neg (by decide), F_sF, if_pos ⟨rfl, rfl⟩], fun i hi => by rw [A_sF, A_sF]; exact hK i hi⟩
      have wS : (sF (sF s 128 2 (Int32.ofNat (8 * nn))) 128 3 1).1 128 3 = 1 := by rw [F_sF, if_pos ⟨rfl, rfl⟩]
      have CS : (sF (sF s 128 2 (Int32.ofNat (8 * nn))) 128 3 1).2.1 c0 = C := by rw [A_sF, A_sF]; exact hC
      have YS : (sF (sF s 128 2 (Int32.ofNat (8 * nn))) 128 3 1).2.1 y0 = Y := by rw [A_sF, A_sF]; exact hY
      generalize sF (sF s 128 2 (Int32.ofNat (8 * nn))) 128 3 1 = S at rb' kS pS wS CS YS
      have x0 : Int32.ofNat (2 * c) ||| (0 : Int32) = Int32.ofNat (2 * c) := or_1 (x := c) (y := 0) (by omega)
      have pre : bX2_decode_11 128 c0 y0 (Int32.ofNat (2 * c)) (Int32.ofNat f) (Int32.ofNat (ofN L n (15 - m))) (Int32.ofNat (15 - m)) (e_g s g) = Option.bind (q_aI (e_g S g) c0 (Int32.ofNat (15 - m))) fun v7 => if Int32.ofNat f ≤ (Int32.ofNat (2 * c) - v7) then (Option.bind (q_aI (e_g S g) c0 (Int32.ofNat (15 - m))) fun v9 => Option.bind (q_aI (e_g S g) c0 (Int32.ofNat (15 - m))) fun v10 => some (.inl (q_shl (Int32.ofNat (2 * c)) (1 : Int32), q_shl (Int32.ofNat f + v10) (1 : Int32), Int32.ofNat (ofN L n (15 - m)) + v9, Int32.ofNat (15 - m) + (1 : Int32), e_g S g))) else (if ((Int32.ofNat (ofN L n (15 - m)) + Int32.ofNat (2 * c)) - Int32.ofNat f) < 0 then (jX2_decode_72_11 (e_g S g)) else (Option.bind (q_len (e_g S g) y0) fun v12 => if v12 ≤ ((Int32.ofNat (ofN L n (15 - m)) + Int32.ofNat (2 * c)) - Int32.ofNat f) then (jX2_decode_72_11 (e_g S g)) else (Option.bind (q_aI (e_g S g) y0 ((Int32.ofNat (ofN L n (15 - m)) + Int32.ofNat (2 * c)) - Int32.ofNat f)) fun v14 => jX2_decode_73_11 (e_g S g) v14))) := by
        unfold bX2_decode_11
        rw [if_neg c1, f128_3, hw, ob_n, if_neg (fun z => z rfl), ob128, ob_n, rb', b2_n, x0]
      rw [rC S CS _ (by omega), ob_n, hT.1 _ (by omega)] at pre
      have of1 := of_le (L := L) (b := 15 - m) (by omega) n
      by_cases q2 : 2 * c < f + cnN L n (15 - m)
      · -- a symbol, but wrong
        have c2 : ¬ Int32.ofNat f ≤ Int32.ofNat (2 * c) - Int32.ofNat (cnN L n (15 - m)) := fun z => by
          rw [i_le, n_int (by omega), i_sub (by rw [n_int (by omega), n_int (by omega)]; omega) (by rw [n_int (by omega), n_int (by omega)]; omega), n_int (by omega), n_int (by omega)] at z
          omega
        have ix : Int32.ofNat (ofN L n (15 - m)) + Int32.ofNat (2 * c) - Int32.ofNat f = Int32.ofNat (ofN L n (15 - m) + 2 * c - f) := by
          rw [n_add, sb_n (by omega) (by omega)]
        rw [if_neg c2, ix, if_neg (n_neg (by omega)), (rY S YS).1, ob_n] at pre
        have oo := of_s (L := L) (i := n) (b := 15 - m) (by omega)
        have o16 := of_le (L := L) (b := 15 - m + 1) (by omega) n
        rw [if_neg (nle (show ofN L n (15 - m) + 2 * c - f < ly by omega) (by omega)), (rY S YS).2 _ (by omega), ob_n] at pre
        exact ⟨_, S, lp_end pre, Or.inr ⟨_, rfl, wS⟩, ⟨_, pS⟩, kS⟩
      · -- the next turn ends it
        have c2 : Int32.ofNat f ≤ Int32.ofNat (2 * c) - Int32.ofNat (cnN L n (15 - m)) := by
          rw [sb_n (by omega) (by omega)]
          exact (n_le (by omega) (by omega)).mpr (by omega)
        rw [if_pos c2, ob_n, ob_n] at pre
        refine ⟨.inl (e_g S g), S, ?_, Or.inl rfl, ⟨_, pS⟩, kS⟩
        rw [lp_go5 (bX2_decode_11 128 c0 y0) pre]
        refine lp_end ?_
        show bX2_decode_11 _ _ _ _ _ _ _ _ = _
        unfold bX2_decode_11
        dsimp only
        by_cases q3 : (15 : Int32) < Int32.ofNat (15 - m) + 1
        · rw [if_pos q3]
        · rw [if_neg q3, f128_3, wS, ob_n, if_pos (by decide)]
    · rw [u, if_neg q]
      rw [if_pos (show b + 1 ≤ 8 * nn by omega), rb_1] at rb'
      have pS : PC (sF s 128 2 (Int32.ofNat (b + 1))) K nn (b + 1) := ⟨hnn, by omega, by rw [F_sF, if_neg (by decide)]; exact f1, by rw [F_sF, if_pos ⟨rfl, rfl⟩], fun i hi => by rw [A_sF]; exact hK i hi⟩
      have wS : (sF s 128 2 (Int32.ofNat (b + 1))).1 128 3 = 0 := by rw [F_sF, if_neg (by decide)]; exact hw
      have CS : (sF s 128 2 (Int32.ofNat (b + 1))).2.1 c0 = C := by rw [A_sF]; exact hC
      have YS : (sF s 128 2 (Int32.ofNat (b + 1))).2.1 y0 = Y := by rw [A_sF]; exact hY
      have pre : bX2_decode_11 128 c0 y0 (Int32.ofNat (2 * c)) (Int32.ofNat f) (Int32.ofNat (ofN L n (15 - m))) (Int32.ofNat (15 - m)) (e_g s g) = Option.bind (q_aI (e_g (sF s 128 2 (Int32.ofNat (b + 1))) g) c0 (Int32.ofNat (15 - m))) fun v7 => if Int32.ofNat f ≤ (Int32.ofNat (2 * c + btN K b) - v7) then (Option.bind (q_aI (e_g (sF s 128 2 (Int32.ofNat (b + 1))) g) c0 (Int32.ofNat (15 - m))) fun v9 => Option.bind (q_aI (e_g (sF s 128 2 (Int32.ofNat (b + 1))) g) c0 (Int32.ofNat (15 - m))) fun v10 => some (.inl (q_shl (Int32.ofNat (2 * c + btN K b)) (1 : Int32), q_shl (Int32.ofNat f + v10) (1 : Int32), Int32.ofNat (ofN L n (15 - m)) + v9, Int32.ofNat (15 - m) + (1 : Int32), e_g (sF s 128 2 (Int32.ofNat (b + 1))) g))) else (if ((Int32.ofNat (ofN L n (15 - m)) + Int32.ofNat (2 * c + btN K b)) - Int32.ofNat f) < 0 then (jX2_decode_72_11 (e_g (sF s 128 2 (Int32.ofNat (b + 1))) g)) else (Option.bind (q_len (e_g (sF s 128 2 (Int32.ofNat (b + 1))) g) y0) fun v12 => if v12 ≤ ((Int32.ofNat (ofN L n (15 - m)) + Int32.ofNat (2 * c + btN K b)) - Int32.ofNat f) then (jX2_decode_72_11 (e_g (sF s 128 2 (Int32.ofNat (b + 1))) g)) else (Option.bind (q_aI (e_g (sF s 128 2 (Int32.ofNat (b + 1))) g) y0 ((Int32.ofNat (ofN L n (15 - m)) + Int32.ofNat (2 * c + btN K b)) - Int32.ofNat f)) fun v14 => jX2_decode_73_11 (e_g (sF s 128 2 (Int32.ofNat (b + 1))) g) v14))) := by
        unfold bX2_decode_11
        rw [if_neg c1, f128_3, hw, ob_n, if_neg (fun z => z rfl), ob128, ob_n, rb', b2_n, or_1 hbt]
      rw [rC _ CS _ (by omega), ob_n, hT.1 _ (by omega)] at pre
      have of1 := of_le (L := L) (b := 15 - m) (by omega) n
      by_cases q2 : 2 * c + btN K b < f + cnN L n (15 - m)
      · have c2 : ¬ Int32.ofNat f ≤ Int32.ofNat (2 * c + btN K b) - Int32.ofNat (cnN L n (15 - m)) := fun z => by
          rw [i_le, n_int (by omega), i_sub (by rw [n_int (by omega), n_int (by omega)]; omega) (by rw [n_int (by omega), n_int (by omega)]; omega), n_int (by omega), n_int (by omega)] at z
          omega
        have ix : Int32.ofNat (ofN L n (15 - m)) + Int32.ofNat (2 * c + btN K b) - Int32.ofNat f = Int32.ofNat (ofN L n (15 - m) + (2 * c + btN K b - f)) := by
          rw [n_add, sb_n (by omega) (by omega)]
          congr 1
          omega
        have oo := of_s (L := L) (i := n) (b := 15 - m) (by omega)
        have o16 := of_le (L := L) (b := 15 - m + 1) (by omega) n
        rw [if_neg c2, ix, if_neg (n_neg (by omega)), (rY _ YS).1, ob_n] at pre
        rw [if_neg (nle (show ofN L n (15 - m) + (2 * c + btN K b - f) < ly by omega) (by omega)), (rY _ YS).2 _ (by omega), ob_n, hT.2 _ (by omega) (by omega) _ (by omega)] at pre
        rw [if_pos q2]
        refine ⟨fun v b' h => ?_, fun h => (by cases h)⟩
        have h' := Option.some.inj h
        have e1 : ntN L n (15 - m) (2 * c + btN K b - f) = v := congrArg Prod.fst h'
        have e2 : b + 1 = b' := congrArg Prod.snd h'
        rw [e1] at pre
        rw [← e2]
        exact lp_end pre
      · have c2 : Int32.ofNat f ≤ Int32.ofNat (2 * c + btN K b) - Int32.ofNat (cnN L n (15 - m)) := by
          rw [sb_n (by omega) (by omega)]
          exact (n_le (by omega) (by omega)).mpr (by omega)
        rw [if_pos c2, ob_n, ob_n, shl1, n_add, shl1, n_add, n_suc, ← of_s (by omega), e16] at pre
        rw [if_neg q2]
        have z := ih (2 * c + btN K b) (2 * (f + cnN L n (15 - m))) (b + 1) (sF s 128 2 (Int32.ofNat (b + 1))) (by omega) CS YS pS wS (by omega) (by omega)
        refine ⟨fun v b' h => ?_, fun h => ?_⟩
        · rw [lp_go5 (bX2_decode_11 128 c0 y0) pre, z.1 v b' h, sF_sF]
        · obtain ⟨r, s', r1, r2, r3, r4⟩ := z.2 h
          refine ⟨r, s', ?_, r2, r3, kp_tr (kp_F kp_rf (by decide)) r4⟩
          rw [lp_go5 (bX2_decode_11 128 c0 y0) pre]
          exact r1
