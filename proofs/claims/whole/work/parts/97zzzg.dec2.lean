-- needs: 97zzzf
theorem decode7 {s : e_S} {g : ps_G} {L : Nat → Nat} {n nn b c0 y0 : Nat} {K : Nat → Int32} {ly : Nat} (hn : n ≤ 288) (hl : n ≤ ly) (hl2 : ly ≤ 288) (hT : Tb (s.2.1 c0) (s.2.1 y0) L n) (rC : ∀ S : e_S, S.2.1 c0 = s.2.1 c0 → ∀ k, k < 16 → q_aI (e_g S g) c0 (Int32.ofNat k) = some (s.2.1 c0 k)) (rY : ∀ S : e_S, S.2.1 y0 = s.2.1 y0 → q_len (e_g S g) y0 = some (Int32.ofNat ly) ∧ ∀ k, k < ly → q_aI (e_g S g) y0 (Int32.ofNat k) = some (s.2.1 y0 k)) (hP : PC s K nn b) (hw : s.1 128 3 = 0) : (∀ v b', dcN L n K nn 15 0 0 b = some (v, b') → fX2_decode (e_g s g) 128 c0 y0 = some (Int32.ofNat v, e_g (sF s 128 2 (Int32.ofNat b')) g)) ∧ (dcN L n K nn 15 0 0 b = none → ∃ v s', fX2_decode (e_g s g) 128 c0 y0 = some (v, e_g s' g) ∧ s'.1 128 3 = 1 ∧ (∃ b', PC s' K nn b') ∧ Kp [] 128 [2, 3] s s') := by
  have z := decl7 (g := g) hn hl hl2 hT rC rY 15 0 0 b s (by omega) rfl rfl hP hw (by omega) (by decide)
  refine ⟨fun v b' h => ?_, fun h => ?_⟩
  · have z1 := z.1 v b' h
    have z2 : q_lp (fun t => bX2_decode_11 128 c0 y0 t.1 t.2.1 t.2.2.1 t.2.2.2.1 t.2.2.2.2) ((0 : Int32), (0 : Int32), (0 : Int32), (1 : Int32), e_g s g) = _ := z1
    unfold fX2_decode
    rw [z2, ob_n]
    rfl
  · obtain ⟨r, s', r1, r2, ⟨b', r3⟩, r4⟩ := z.2 h
    have z2 : q_lp (fun t => bX2_decode_11 128 c0 y0 t.1 t.2.1 t.2.2.1 t.2.2.2.1 t.2.2.2.2) ((0 : Int32), (0 : Int32), (0 : Int32), (1 : Int32), e_g s g) = some r := r1
    rcases r2 with e | ⟨v, e, e2⟩
    · refine ⟨0, sF s' 128 3 1, ?_, by rw [F_sF, if_pos ⟨rfl, rfl⟩], ⟨b', r3.1, r3.2.1, by rw [F_sF, if_neg (by decide)]; exact r3.2.2.1, by rw [F_sF, if_neg (by decide)]; exact r3.2.2.2.1, fun i hi => by rw [A_sF]; exact r3.2.2.2.2 i hi⟩, kp_F r4 (by decide)⟩
      unfold fX2_decode
      rw [z2, ob_n, e]
      show jX2_decode_104 (e_g s' g) 128 = _
      unfold jX2_decode_104
      rw [w128_3 (Or.inr rfl), ob_n]
    · refine ⟨v, s', ?_, e2, ⟨b', r3⟩, r4⟩
      unfold fX2_decode
      rw [z2, ob_n, e]
      rfl
/-- the reference finds a symbol -/
theorem decl12 {g : ps_G} {L : Nat → Nat} {n nn st : Nat} {K : Nat → Int32} {C Y : Nat → Int32} (hn : n ≤ 320) (hst : st < 3) (hT : Tb (fun k => C (16 * st + k)) (fun k => Y (320 * st + k)) L n) : ∀ (m c f b : Nat) (s : e_S), m ≤ 15 → s.2.1 191 = C → s.2.1 192 = Y → PM s K nn b → s.1 139 87 = 0 → f ≤ 2 * c → 2 * c < 2 ^ (16 - m) → (∀ v b', dcN L n K nn m (2 * c) f b = some (v, b') → q_lp (fun t => bX12_decoded_10 139 (Int32.ofNat st) t.1 t.2.1 t.2.2.1 t.2.2.2.1 t.2.2.2.2) (Int32.ofNat (2 * c), Int32.ofNat f, Int32.ofNat (ofN L n (16 - m)), Int32.ofNat (16 - m), e_g s g) = some (.inr (Int32.ofNat v, e_g (sF s 139 88 (Int32.ofNat b')) g))) ∧ (dcN L n K nn m (2 * c) f b = none → ∃ r s', q_lp (fun t => bX12_decoded_10 139 (Int32.ofNat st) t.1 t.2.1 t.2.2.1 t.2.2.2.1 t.2.2.2.2) (Int32.ofNat (2 * c), Int32.ofNat f, Int32.ofNat (ofN L n (16 - m)), Int32.ofNat (16 - m), e_g s g) = some r ∧ (r = .inl (e_g s' g) ∨ ∃ v, r = .inr (v, e_g s' g) ∧ s'.1 139 87 = 1) ∧ Kp [] 139 [87, 88] s s') := by
  intro m
  induction m with
  | zero =>
    intro c f b s hm hC hY hP hw hf hc
    refine ⟨fun v b' h => (by cases h), fun _ => ⟨.inl (e_g s g), s, lp_end ?_, Or.inl rfl, kp_rf⟩⟩
    show bX12_decoded_10 _ _ _ _ _ _ _ = _
    unfold bX12_decoded_10
    rw [if_pos (show (16 : Int32) ≤ Int32.ofNat (16 - 0) by decide)]
  | succ m ih =>
    intro c f b s hm hC hY hP hw hf hc
    have u : dcN L n K nn (m + 1) (2 * c) f b = if 8 * nn ≤ b then none else if 2 * c + btN K b < f + cnN L n (15 - m) then some (ntN L n (15 - m) (2 * c + btN K b - f), b + 1) else dcN L n K nn m (2 * (2 * c + btN K b)) (2 * (f + cnN L n (15 - m))) (b + 1) := rfl
    have e15 : 16 - (m + 1) = 15 - m := by omega
    have e16 : 15 - m + 1 = 16 - m := by omega
    have p2 : (2 : Nat) ^ (16 - m) = 2 * 2 ^ (15 - m) := by rw [← e16, Nat.pow_succ]; omega
    have pl : (2 : Nat) ^ (15 - m) ≤ 2 ^ 15 := Nat.pow_le_pow_right (by omega) (by omega)
    have p15 : (2 : Nat) ^ 15 = 32768 := by decide
    have p14 : (2 : Nat) ^ (15 - m) = 2 * 2 ^ (14 - m) := by rw [show 15 - m = 14 - m + 1 by omega, Nat.pow_succ]; omega
    rw [e15] at hc ⊢
    have hbt := bt_e (K := K) (b := b)
    have cle := cn_le (L := L) (b := 15 - m) n
    have c1 : ¬ (16 : Int32) ≤ Int32.ofNat (15 - m) := show ¬ Int32.ofNat 16 ≤ _ from nle (by omega) (by omega)
    have bt := bit12 (g := g) hP hw
    have rC : ∀ S : e_S, S.2.1 191 = C → q_aI (e_g S g) 191 (16 * Int32.ofNat st + Int32.ofNat (15 - m)) = some (Int32.ofNat (cnN L n (15 - m))) := fun S hS => by
      have e : (16 : Int32) * Int32.ofNat st = Int32.ofNat (16 * st) := n_mul (n := 16)
      have t : C (16 * st + (15 - m)) = Int32.ofNat (cnN L n (15 - m)) := hT.1 (15 - m) (by omega)
      rw [e, n_add, a191, n_idx (by omega), if_neg (n_in2 (show 16 * st + (15 - m) < 48 by omega) (by decide)), hS, t]
    obtain ⟨hnn, hb, f1, f2, hK⟩ := id hP
    have of1 := of_le (L := L) (b := 15 - m) (by omega) n
    have oo := of_s (L := L) (i := n) (b := 15 - m) (by omega)
    have o16 := of_le (L := L) (b := 15 - m + 1) (by omega) n
    have rY : ∀ (S : e_S) (c' : Nat), S.2.1 192 = Y → f ≤ c' → c' < f + cnN L n (15 - m) → q_aI (e_g S g) 192 (320 * Int32.ofNat st + Int32.ofNat (ofN L n (15 - m)) + Int32.ofNat c' - Int32.ofNat f) = some (Int32.ofNat (ntN L n (15 - m) (c' - f))) := fun S c' hS h1 h2 => by
      have e : (320 : Int32) * Int32.ofNat st = Int32.ofNat (320 * st) := n_mul (n := 320)
      have t : Y (320 * st + (ofN L n (15 - m) + (c' - f))) = Int32.ofNat (ntN L n (15 - m) (c' - f)) := hT.2 (15 - m) (by omega) (by omega) (c' - f) (by omega)
      have e2 : 320 * st + ofN L n (15 - m) + c' - f = 320 * st + (ofN L n (15 - m) + (c' - f)) := by omega
      rw [e, n_add, n_add, sb_n (by omega) (by omega), e2, a192, n_idx (by omega), if_neg (n_in2 (show 320 * st + (ofN L n (15 - m) + (c' - f)) < 960 by omega) (by decide)), hS, t]
    by_cases q : 8 * nn ≤ b
    · rw [u, if_pos q]
      rw [if_neg (show ¬ b < 8 * nn by omega)] at bt
      refine ⟨fun v b' h => (by cases h), fun _ => ?_⟩
      have kS : Kp [] 139 [87, 88] s (sF s 139 87 1) := kp_F kp_rf (by decide)
      have wS : (sF s 139 87 1).1 139 87 = 1 := by rw [F_sF, if_pos ⟨rfl, rfl⟩]
      have CS : (sF s 139 87 1).2.1 191 = C := by rw [A_sF]; exact hC
      have YS : (sF s 139 87 1).2.1 192 = Y := by rw [A_sF]; exact hY
      generalize sF s 139 87 1 = S at bt kS wS CS YS
      have x0 : Int32.ofNat (2 * c) ||| (0 : Int32) = Int32.ofNat (2 * c) := or_1 (x := c) (y := 0) (by omega)
      by_cases q2 : 2 * c < f + cnN L n (15 - m)
      · have c2 : ¬ Int32.ofNat (cnN L n (15 - m)) ≤ Int32.ofNat (2 * c) - Int32.ofNat f := by
          rw [sb_n (by omega) (by omega)]
          exact nle (by omega) (by omega)
        have pre : bX12_decoded_10 139 (Int32.ofNat st) (Int32.ofNat (2 * c)) (Int32.ofNat f) (Int32.ofNat (ofN L n (15 - m))) (Int32.ofNat (15 - m)) (e_g s g) = some (.inr (.inr (Int32.ofNat (ntN L n (15 - m) (2 * c - f)), e_g S g))) := by
          unfold bX12_decoded_10
          rw [if_neg c1, f139_87, hw, ob_n, if_neg (fun z => z rfl), ob139, ob_n, bt, b2_n, x0, f139_90, ob_n, ob_n, rC S CS, ob_n, if_neg c2, f139_91, ob_n, ob_n, rY S _ YS hf q2, ob_n]
        exact ⟨_, S, lp_end pre, Or.inr ⟨_, rfl, wS⟩, kS⟩
      · have c2 : Int32.ofNat (cnN L n (15 - m)) ≤ Int32.ofNat (2 * c) - Int32.ofNat f := by
          rw [sb_n (by omega) (by omega)]
          exact (n_le (by omega) (by omega)).mpr (by omega)
        have pre : bX12_decoded_10 139 (Int32.ofNat st) (Int32.ofNat (2 * c)) (Int32.ofNat f) (Int32.ofNat (ofN L n (15 - m))) (Int32.ofNat (15 - m)) (e_g s g) = some (.inl (2 * Int32.ofNat (2 * c), 2 * (Int32.ofNat f + Int32.ofNat (cnN L n (15 - m))), Int32.ofNat (ofN L n (15 - m)) + Int32.ofNat (cnN L n (15 - m)), Int32.ofNat (15 - m) + 1, e_g S g)) := by
          unfold bX12_decoded_10
          rw [if_neg c1, f139_87, hw, ob_n, if_neg (fun z => z rfl), ob139, ob_n, bt, b2_n, x0, f139_90, ob_n, ob_n, rC S CS, ob_n, if_pos c2]
        refine ⟨.inl (e_g S g), S, ?_, Or.inl rfl, kS⟩
        rw [lp_go5 (bX12_decoded_10 139 (Int32.ofNat st)) pre]
        refine lp_end ?_
        show bX12_decoded_10 _ _ _ _ _ _ _ = _
        unfold bX12_decoded_10
        dsimp only
        by_cases q3 : (16 : Int32) ≤ Int32.ofNat (15 - m) + 1
        · rw [if_pos q3]
        · rw [if_neg q3, f139_87, wS, ob_n, if_pos (by decide)]
    · rw [u, if_neg q]
      rw [if_pos (show b < 8 * nn by omega), hbt.1] at bt
      have pS : PM (sF s 139 88 (Int32.ofNat (b + 1))) K nn (b + 1) := ⟨hnn, by omega, by rw [F_sF, if_neg (by decide)]; exact f1, by rw [F_sF, if_pos ⟨rfl, rfl⟩], fun i hi => by rw [A_sF]; exact hK i hi⟩
      have wS : (sF s 139 88 (Int32.ofNat (b + 1))).1 139 87 = 0 := by rw [F_sF, if_neg (by decide)]; exact hw
      have CS : (sF s 139 88 (Int32.ofNat (b + 1))).2.1 191 = C := by rw [A_sF]; exact hC
      have YS : (sF s 139 88 (Int32.ofNat (b + 1))).2.1 192 = Y := by rw [A_sF]; exact hY
      by_cases q2 : 2 * c + btN K b < f + cnN L n (15 - m)
      · have c2 : ¬ Int32.ofNat (cnN L n (15 - m)) ≤ Int32.ofNat (2 * c + btN K b) - Int32.ofNat f := by
          rw [sb_n (by omega) (by omega)]
          exact nle (by omega) (by omega)
        have pre : bX12_decoded_10 139 (Int32.ofNat st) (Int32.ofNat (2 * c)) (Int32.ofNat f) (Int32.ofNat (ofN L n (15 - m))) (Int32.ofNat (15 - m)) (e_g s g) = some (.inr (.inr (Int32.ofNat (ntN L n (15 - m) (2 * c + btN K b - f)), e_g (sF s 139 88 (Int32.ofNat (b + 1))) g))) := by
          unfold bX12_decoded_10
          rw [if_neg c1, f139_87, hw, ob_n, if_neg (fun z => z rfl), ob139, ob_n, bt, b2_n, or_1 hbt.2, f139_90, ob_n, ob_n, rC _ CS, ob_n, if_neg c2, f139_91, ob_n, ob_n, rY _ _ YS (by omega) q2, ob_n]
        rw [if_pos q2]
        refine ⟨fun v b' h => ?_, fun h => (by cases h)⟩
        have h' := Option.some.inj h
        have e1 : ntN L n (15 - m) (2 * c + btN K b - f) = v := congrArg Prod.fst h'
        have e2 : b + 1 = b' := congrArg Prod.snd h'
        rw [e1] at pre
        rw [← e2]
        exact lp_end pre
      · have c2 : Int32.ofNat (cnN L n (15 - m)) ≤ Int32.ofNat (2 * c + btN K b) - Int32.ofNat f := by
          rw [sb_n (by omega) (by omega)]
          exact (n_le (by omega) (by omega)).mpr (by omega)
        have pre : bX12_decoded_10 139 (Int32.ofNat st) (Int32.ofNat (2 * c)) (Int32.ofNat f) (Int32.ofNat (ofN L n (15 - m))) (Int32.ofNat (15 - m)) (e_g s g) = some (.inl (Int32.ofNat (2 * (2 * c + btN K b)), Int32.ofNat (2 * (f + cnN L n (15 - m))), Int32.ofNat (ofN L n (16 - m)), Int32.ofNat (16 - m), e_g (sF s 139 88 (Int32.ofNat (b + 1))) g)) := by
          unfold bX12_decoded_10
          rw [if_neg c1, f139_87, hw, ob_n, if_neg (fun z => z rfl), ob139, ob_n, bt, b2_n, or_1 hbt.2, f139_90, ob_n, ob_n, rC _ CS, ob_n, if_pos c2, n_2, n_add, n_2, n_add, n_suc, ← oo, e16]
        rw [if_neg q2]
        have z := ih (2 * c + btN K b) (2 * (f + cnN L n (15 - m))) (b + 1) (sF s 139 88 (Int32.ofNat (b + 1))) (by omega) CS YS pS wS (by omega) (by omega)
        refine ⟨fun v b' h => ?_, fun h => ?_⟩
        · rw [lp_go5 (bX12_decoded_10 139 (Int32.ofNat st)) pre, z.1 v b' h, sF_sF]
        · obtain ⟨r, s', r1, r2, r4⟩ := z.2 h
          refine ⟨r, s', ?_, r2, kp_tr (kp_F kp_rf (by decide)) r4⟩
          rw [lp_go5 (bX12_decoded_10 139 (Int32.ofNat st)) pre]
          exact r1
theorem decoded12 {s : e_S} {g : ps_G} {L : Nat → Nat} {n nn b st : Nat} {K : Nat → Int32} (hn : n ≤ 320) (hst : st < 3) (hT : Tb (fun k => s.2.1 191 (16 * st + k)) (fun k => s.2.1 192 (320 * st + k)) L n) (hP : PM s K nn b) (hw : s.1 139 87 = 0) : (∀ v b', dcN L n K nn 15 0 0 b = some (v, b') → fX12_decoded (e_g s g) 139 (Int32.ofNat st) = some (Int32.ofNat v, e_g (sF s 139 88 (Int32.ofNat b')) g)) ∧ (dcN L n K nn 15 0 0 b = none → ∃ v s', fX12_decoded (e_g s g) 139 (Int32.ofNat st) = some (v, e_g s' g) ∧ s'.1 139 87 = 1 ∧ Kp [] 139 [87, 88] s s') := by
  have z := decl12 (g := g) hn hst hT 15 0 0 b s (by omega) rfl rfl hP hw (by omega) (by decide)
  refine ⟨fun v b' h => ?_, fun h => ?_⟩
  · have z1 := z.1 v b' h
    have z2 : q_lp (fun t => bX12_decoded_10 139 (Int32.ofNat st) t.1 t.2.1 t.2.2.1 t.2.2.2.1 t.2.2.2.2) ((0 : Int32), (0 : Int32), (0 : Int32), (1 : Int32), e_g s g) = _ := z1
    unfold fX12_decoded
    rw [z2, ob_n]
    rfl
  · obtain ⟨r, s', r1, r2, r4⟩ := z.2 h
    have z2 : q_lp (fun t => bX12_decoded_10 139 (Int32.ofNat st) t.1 t.2.1 t.2.2.1 t.2.2.2.1 t.2.2.2.2) ((0 : Int32), (0 : Int32), (0 : Int32), (1 : Int32), e_g s g) = some r := r1
    rcases r2 with e | ⟨v, e, e2⟩
    · refine ⟨0, sF s' 139 87 1, ?_, by rw [F_sF, if_pos ⟨rfl, rfl⟩], kp_F r4 (by decide)⟩
      unfold fX12_decoded
      rw [z2, ob_n, e]
      show jX12_decoded_95 (e_g s' g) 139 = _
      unfold jX12_decoded_95
      rw [w139_87 (Or.inr rfl), ob_n]
    · refine ⟨v, s', ?_, e2, r4⟩
      unfold fX12_decoded
      rw [z2, ob_n, e]
      rfl
