-- needs: 97zzzo
/-! ===== png: the lengths told ===== -/
def rpO (K : Nat → Int32) (n a : Nat) (L : Nat → Nat) (p : Nat × Nat) : Option (Nat × Nat × Nat) := if p.1 < 16 then some (1, p.1, p.2) else if p.1 = 16 then (rbO K n p.2 2).bind fun x => if a = 0 then none else some (3 + x.1, L (a - 1), x.2) else if p.1 = 17 then (rbO K n p.2 3).bind fun x => some (3 + x.1, 0, x.2) else (rbO K n p.2 7).bind fun x => some (11 + x.1, 0, x.2)
def flN (L : Nat → Nat) (a m v : Nat) : Nat → Nat := fun j => if a ≤ j ∧ j < a + m then v else L j
def rdO (K : Nat → Int32) (n : Nat) (Lc : Nat → Nat) (tot : Nat) : Nat → (Nat × Nat × (Nat → Nat)) → Option (Nat × Nat × (Nat → Nat))
  | 0, _ => none
  | m + 1, t => if tot ≤ t.1 then some t else (dcN Lc 19 K n 15 0 0 t.2.1).bind fun p => (rpO K n t.1 t.2.2 p).bind fun q => if tot < t.1 + q.1 then none else rdO K n Lc tot m (t.1 + q.1, q.2.2, flN t.2.2 t.1 q.1 q.2.1)
theorem rd_u {K : Nat → Int32} {n tot m : Nat} {Lc : Nat → Nat} {t : Nat × Nat × (Nat → Nat)} : rdO K n Lc tot (m + 1) t = if tot ≤ t.1 then some t else (dcN Lc 19 K n 15 0 0 t.2.1).bind fun p => (rpO K n t.1 t.2.2 p).bind fun q => if tot < t.1 + q.1 then none else rdO K n Lc tot m (t.1 + q.1, q.2.2, flN t.2.2 t.1 q.1 q.2.1) := rfl
def KL (s s' : e_S) : Prop := Kp [131] 128 [2, 3, 5] s s'
theorem kl_d {s s' : e_S} (h : KL s s') : KD s s' := kp_w h (fun j hj => by
  rw [List.contains_iff_mem] at hj ⊢
  have : ∀ j, j ∈ [131] → j ∈ [130, 131, 132, 133, 134, 135, 136] := by decide
  exact this j hj) (fun _ h => h)
theorem kl_w {s s' : e_S} (h : Kp [] 128 [2, 3] s s') : KL s s' := kp_w h (fun j hj => by cases hj) (fun j hj => by
  rw [List.contains_iff_mem] at hj ⊢
  have : ∀ j, j ∈ [2, 3] → j ∈ [2, 3, 5] := by decide
  exact this j hj)
theorem klF {s : e_S} {f : Nat} {v : Int32} (hf : [2, 3, 5].contains f = true) : KL s (sF s 128 f v) := kp_F kp_rf hf
theorem klA {s : e_S} {r : Nat → Int32} : KL s (sA s 131 r) := kp_A kp_rf (by decide)
theorem ln_f {B : Nat → Int32} {L : Nat → Nat} {a m v : Nat} {B' : Nat → Int32} (h : Ln B L a) (hv : v < 16) (h1 : ∀ j, j < a → B' j = B j) (h2 : ∀ j, a ≤ j → j < a + m → B' j = Int32.ofNat v) : Ln B' (flN L a m v) (a + m) := fun j hj => by
  unfold flN
  by_cases q : a ≤ j
  · rw [if_pos ⟨q, hj⟩]
    exact ⟨h2 j q hj, hv⟩
  · rw [if_neg (fun z => q z.1), h1 j (by omega)]
    exact h j (by omega)
/-- the class writes a length many times -/
theorem wrl7 {g : ps_G} {x1 x3 v : Int32} {a tm : Nat} {S : e_S} (ha : a + tm ≤ 320) (hw : S.1 128 3 = 0) : ∃ B', q_lp (fun t => bX2_readLengths_173 128 x1 x3 (Int32.ofNat tm) v t.1 t.2.1 t.2.2) (Int32.ofNat a, (0 : Int32), e_g S g) = some (Int32.ofNat (a + tm), e_g (sA S 131 B') g) ∧ (∀ j, j < a → B' j = S.2.1 131 j) ∧ ∀ j, a ≤ j → j < a + tm → B' j = v := by
  obtain ⟨r, lp, B', e, h1, h2⟩ := lp_n (b := fun t => bX2_readLengths_173 128 x1 x3 (Int32.ofNat tm) v t.1 t.2.1 t.2.2) (fun i t => ∃ B', t = (Int32.ofNat (a + i), Int32.ofNat i, e_g (sA S 131 B') g) ∧ (∀ j, j < a → B' j = S.2.1 131 j) ∧ ∀ j, a ≤ j → j < a + i → B' j = v) (fun r => ∃ B', r = (Int32.ofNat (a + tm), e_g (sA S 131 B') g) ∧ (∀ j, j < a → B' j = S.2.1 131 j) ∧ ∀ j, a ≤ j → j < a + tm → B' j = v) tm (fun i t hi ⟨B', ht, h1, h2⟩ => by
    refine ⟨(Int32.ofNat (a + (i + 1)), Int32.ofNat (i + 1), e_g (sA S 131 (upd B' (a + i) v)) g), ?_, _, rfl, fun j hj => ?_, fun j hj hj2 => ?_⟩
    · rw [ht]
      show bX2_readLengths_173 _ _ _ _ _ _ _ _ = _
      unfold bX2_readLengths_173
      dsimp only
      rw [if_neg (nle hi (by omega)), f128_3, F_sA, hw, ob_n, if_neg (fun z => z rfl), f128_7, ob_n, ob_n, tb_wr t131 (by decide) (by omega) (by omega), ob_n, A_sA, if_pos rfl, sA_sA, n_suc, n_suc]
      rfl
    · rw [upd_r, if_neg (by omega)]; exact h1 j hj
    · rw [upd_r]
      by_cases q : j = a + i
      · rw [if_pos q]
      · rw [if_neg q]; exact h2 j hj (by omega)) (fun t ⟨B', ht, h1, h2⟩ => by
    refine ⟨_, ?_, B', rfl, h1, h2⟩
    rw [ht]
    show bX2_readLengths_173 _ _ _ _ _ _ _ _ = _
    unfold bX2_readLengths_173
    dsimp only
    rw [if_pos (nlr (by omega))]) (s := (Int32.ofNat a, (0 : Int32), e_g S g)) ⟨S.2.1 131, by rw [sA_id]; rfl, fun j _ => rfl, fun j h1 h2 => by omega⟩
  exact ⟨B', by rw [lp, e], h1, h2⟩
theorem bad89 {g : ps_G} {tot a gd : Nat} {x4 k0 : Int32} {S : e_S} (hw : S.1 128 3 = 1) (ha : a ≤ 320) (ht : tot ≤ 320) : jX2_readLengths_89_4 (e_g S g) 128 (Int32.ofNat tot) (Int32.ofNat a) (Int32.ofNat gd) x4 k0 = some (.inl (Int32.ofNat a, Int32.ofNat (gd + 1), e_g S g)) := by
  have id1 : sF S 128 3 1 = S := by rw [← hw, sF_id]
  have j168 : ∀ v : Int32, jX2_readLengths_168_4 (e_g S g) 128 (Int32.ofNat tot) (Int32.ofNat a) (Int32.ofNat gd) k0 v = some (.inl (Int32.ofNat a, Int32.ofNat (gd + 1), e_g S g)) := fun v => by
    have lp : q_lp (fun t => bX2_readLengths_173 128 (Int32.ofNat tot) (Int32.ofNat gd) k0 v t.1 t.2.1 t.2.2) (Int32.ofNat a, (0 : Int32), e_g S g) = some (Int32.ofNat a, e_g S g) := by
      refine lp_end ?_
      show bX2_readLengths_173 _ _ _ _ _ _ _ _ = _
      unfold bX2_readLengths_173
      dsimp only
      by_cases q : k0 ≤ 0
      · rw [if_pos q]
      · rw [if_neg q, f128_3, hw, ob_n, if_pos (by decide)]
    unfold jX2_readLengths_168_4 jX2_readLengths_204_4
    rw [lp, ob_n, n_suc]
  have j129 : ∀ k2 : Int32, k2 = 0 ∨ k2 = 1 → jX2_readLengths_129_4 (e_g S g) 128 (Int32.ofNat tot) (Int32.ofNat a) (Int32.ofNat gd) x4 k0 128 1 k2 = some (.inl (Int32.ofNat a, Int32.ofNat (gd + 1), e_g S g)) := fun k2 hk => by
    have o1 : (1 : Int32) ||| k2 = 1 := by rcases hk with hk | hk <;> rw [hk] <;> decide
    unfold jX2_readLengths_129_4
    rw [o1, w128_3 (Or.inr rfl), ob_n, id1]
    by_cases q1 : (16 : Int32) ≤ x4
    · rw [if_pos q1]
      by_cases q2 : (¬ x4 = 16) ∨ Int32.ofNat a ≤ 0
      · rw [if_pos q2, j168]
      · have a1 : 1 ≤ a := by
          by_cases z : 1 ≤ a
          · exact z
          · exact absurd (Or.inr (show Int32.ofNat a ≤ Int32.ofNat 0 from (n_le (by omega) (by omega)).mpr (by omega))) q2
        have sb : Int32.ofNat a - 1 = Int32.ofNat (a - 1) := sb_n (y := 1) (by omega) (by omega)
        rw [if_neg q2, f128_7, ob_n, ob_n, sb, tb_rd t131 (by omega) (by omega), ob_n, j168]
    · rw [if_neg q1, j168]
  unfold jX2_readLengths_89_4 jX2_readLengths_124_4
  rw [f128_3, hw, ob_n]
  by_cases q1 : ¬ (¬ x4 = (16 : Int32)) ∧ Int32.ofNat a = 0
  · rw [if_pos q1, j129 1 (Or.inr rfl)]
  · rw [if_neg q1]
    by_cases q2 : Int32.ofNat tot < Int32.ofNat a + k0
    · rw [if_pos q2, j129 1 (Or.inr rfl)]
    · have l1 : q_len (e_g S g) 131 = some (Int32.ofNat 320) := l131
      rw [if_neg q2, f128_7, ob_n, ob_n, l1, ob_n, if_pos ((n_le (by omega) (by omega)).mpr ht), j129 0 (Or.inl rfl)]
theorem good89 {g : ps_G} {tot a gd p tm : Nat} {S : e_S} {L : Nat → Nat} (hw : S.1 128 3 = 0) (ha : a ≤ tot) (ht : tot ≤ 320) (hp : p < 19) (hm : tm ≤ 200) (hL : Ln (S.2.1 131) L a) : ((p = 16 ∧ a = 0) ∨ tot < a + tm → jX2_readLengths_89_4 (e_g S g) 128 (Int32.ofNat tot) (Int32.ofNat a) (Int32.ofNat gd) (Int32.ofNat p) (Int32.ofNat tm) = some (.inl (Int32.ofNat a, Int32.ofNat (gd + 1), e_g (sF S 128 3 1) g))) ∧ (¬ ((p = 16 ∧ a = 0) ∨ tot < a + tm) → ∃ B', jX2_readLengths_89_4 (e_g S g) 128 (Int32.ofNat tot) (Int32.ofNat a) (Int32.ofNat gd) (Int32.ofNat p) (Int32.ofNat tm) = some (.inl (Int32.ofNat (a + tm), Int32.ofNat (gd + 1), e_g (sA S 131 B') g)) ∧ Ln B' (flN L a tm (if p < 16 then p else if p = 16 then L (a - 1) else 0)) (a + tm)) := by
  have e16 : Int32.ofNat p = (16 : Int32) ↔ p = 16 := n_eq (b := 16) (by omega) (by omega)
  have g16 : (16 : Int32) ≤ Int32.ofNat p ↔ 16 ≤ p := n_le (n := 16) (by omega) (by omega)
  have e0 : Int32.ofNat a = 0 ↔ a = 0 := n_eq (b := 0) (by omega) (by omega)
  have l0 : Int32.ofNat a ≤ 0 ↔ a ≤ 0 := n_le (m := 0) (by omega) (by omega)
  have lt : Int32.ofNat tot < Int32.ofNat a + Int32.ofNat tm ↔ tot < a + tm := by rw [n_add]; exact n_lt (by omega) (by omega)
  have l1 : ∀ S : e_S, q_len (e_g S g) 131 = some (Int32.ofNat 320) := fun S => l131
  refine ⟨fun q => ?_, fun q => ?_⟩
  · have hS : (sF S 128 3 1).1 128 3 = 1 := by rw [F_sF, if_pos ⟨rfl, rfl⟩]
    have id1 : sF (sF S 128 3 1) 128 3 1 = sF S 128 3 1 := by rw [sF_sF]
    have b := bad89 (g := g) (tot := tot) (a := a) (gd := gd) (x4 := Int32.ofNat p) (k0 := Int32.ofNat tm) hS (by omega) ht
    -- both reach the same place
    have j1 : jX2_readLengths_124_4 (e_g (sF S 128 3 1) g) 128 (Int32.ofNat tot) (Int32.ofNat a) (Int32.ofNat gd) (Int32.ofNat p) (Int32.ofNat tm) 128 1 = some (.inl (Int32.ofNat a, Int32.ofNat (gd + 1), e_g (sF S 128 3 1) g)) := by
      unfold jX2_readLengths_89_4 at b
      rw [f128_3, hS, ob_n] at b
      rcases q with q | q
      · rw [if_pos ⟨fun z => z (e16.mpr q.1), e0.mpr q.2⟩] at b
        exact b
      · by_cases q0 : p = 16 ∧ a = 0
        · rw [if_pos ⟨fun z => z (e16.mpr q0.1), e0.mpr q0.2⟩] at b
          exact b
        · rw [if_neg (fun z => q0 ⟨e16.mp (Classical.not_not.mp z.1), e0.mp z.2⟩), if_pos (lt.mpr q)] at b
          exact b
    have j2 : jX2_readLengths_124_4 (e_g S g) 128 (Int32.ofNat tot) (Int32.ofNat a) (Int32.ofNat gd) (Int32.ofNat p) (Int32.ofNat tm) 128 0 = jX2_readLengths_124_4 (e_g (sF S 128 3 1) g) 128 (Int32.ofNat tot) (Int32.ofNat a) (Int32.ofNat gd) (Int32.ofNat p) (Int32.ofNat tm) 128 1 := by
      unfold jX2_readLengths_124_4 jX2_readLengths_129_4
      rw [show (0 : Int32) ||| 1 = 1 by decide, show (1 : Int32) ||| 1 = 1 by decide, w128_3 (Or.inr rfl), w128_3 (Or.inr rfl), id1]
    unfold jX2_readLengths_89_4
    rw [f128_3, hw, ob_n]
    rcases q with q | q
    · rw [if_pos ⟨fun z => z (e16.mpr q.1), e0.mpr q.2⟩, j2, j1]
    · by_cases q0 : p = 16 ∧ a = 0
      · rw [if_pos ⟨fun z => z (e16.mpr q0.1), e0.mpr q0.2⟩, j2, j1]
      · rw [if_neg (fun z => q0 ⟨e16.mp (Classical.not_not.mp z.1), e0.mp z.2⟩), if_pos (lt.mpr q), j2, j1]
  · have q0 : ¬ (p = 16 ∧ a = 0) := fun z => q (Or.inl z)
    have q1 : ¬ tot < a + tm := fun z => q (Or.inr z)
    have id0 : sF S 128 3 0 = S := by rw [← hw, sF_id]
    have j168 : ∀ v : Nat, v < 16 → ∃ B', jX2_readLengths_168_4 (e_g S g) 128 (Int32.ofNat tot) (Int32.ofNat a) (Int32.ofNat gd) (Int32.ofNat tm) (Int32.ofNat v) = some (.inl (Int32.ofNat (a + tm), Int32.ofNat (gd + 1), e_g (sA S 131 B') g)) ∧ Ln B' (flN L a tm v) (a + tm) := fun v hv => by
      obtain ⟨B', w1, w2, w3⟩ := wrl7 (g := g) (x1 := Int32.ofNat tot) (x3 := Int32.ofNat gd) (v := Int32.ofNat v) (a := a) (tm := tm) (by omega) hw
      refine ⟨B', ?_, ln_f hL hv w2 w3⟩
      unfold jX2_readLengths_168_4 jX2_readLengths_204_4
      rw [w1, ob_n, n_suc]
    have pre : jX2_readLengths_89_4 (e_g S g) 128 (Int32.ofNat tot) (Int32.ofNat a) (Int32.ofNat gd) (Int32.ofNat p) (Int32.ofNat tm) = if (16 : Int32) ≤ Int32.ofNat p then (if (¬ Int32.ofNat p = (16 : Int32)) ∨ (Int32.ofNat a ≤ 0) then (jX2_readLengths_168_4 (e_g S g) 128 (Int32.ofNat tot) (Int32.ofNat a) (Int32.ofNat gd) (Int32.ofNat tm) (0 : Int32)) else (Option.bind (q_aI (e_g S g) 131 (Int32.ofNat a - (1 : Int32))) fun v52 => jX2_readLengths_168_4 (e_g S g) 128 (Int32.ofNat tot) (Int32.ofNat a) (Int32.ofNat gd) (Int32.ofNat tm) v52)) else (jX2_readLengths_168_4 (e_g S g) 128 (Int32.ofNat tot) (Int32.ofNat a) (Int32.ofNat gd) (Int32.ofNat tm) (Int32.ofNat p)) := by
      unfold jX2_readLengths_89_4 jX2_readLengths_129_4
      rw [f128_3, hw, ob_n, if_neg (fun z => q0 ⟨e16.mp (Classical.not_not.mp z.1), e0.mp z.2⟩), if_neg (fun z => q1 (lt.mp z)), f128_7, ob_n, ob_n, l1, ob_n, if_pos ((n_le (by omega) (by omega)).mpr ht), show (0 : Int32) ||| 0 = 0 by decide, w128_3 (Or.inl rfl), ob_n, id0, f128_7, ob_n, ob_n]
    rw [pre]
    by_cases c1 : p < 16
    · rw [if_neg (fun z => absurd (g16.mp z) (by omega)), if_pos c1]
      exact j168 p c1
    · rw [if_pos (g16.mpr (by omega)), if_neg c1]
      by_cases c2 : p = 16
      · have a1 : 1 ≤ a := by
          by_cases z : a = 0
          · exact absurd ⟨c2, z⟩ q0
          · omega
        have sb : Int32.ofNat a - 1 = Int32.ofNat (a - 1) := sb_n (y := 1) (by omega) (by omega)
        have nq : ¬ ((¬ Int32.ofNat p = (16 : Int32)) ∨ Int32.ofNat a ≤ 0) := by
          rintro (z | z)
          · exact z (e16.mpr c2)
          · have := l0.mp z
            omega
        rw [if_neg nq, sb, tb_rd t131 (by omega) (by omega), ob_n, if_pos c2, (hL (a - 1) (by omega)).1]
        exact j168 _ (hL (a - 1) (by omega)).2
      · rw [if_pos (Or.inl (fun z => c2 (e16.mp z))), if_neg c2]
        exact j168 0 (by omega)
theorem dec19 {s : e_S} {g : ps_G} {K : Nat → Int32} {n d b sz : Nat} {O : Nat → Int32} {L : Nat → Nat} (h : GC s K n d b sz O) (t : Tb (s.2.1 132) (s.2.1 133) L 19) : (∀ v b', dcN L 19 K n 15 0 0 b = some (v, b') → fX2_decode (e_g s g) 128 132 133 = some (Int32.ofNat v, e_g (sF s 128 2 (Int32.ofNat b')) g) ∧ GC (sF s 128 2 (Int32.ofNat b')) K n d b' sz O ∧ v < 19 ∧ b < b') ∧ (dcN L 19 K n 15 0 0 b = none → ∃ v s', fX2_decode (e_g s g) 128 132 133 = some (v, e_g s' g) ∧ BC s' K n ∧ Kp [] 128 [2, 3] s s') := by
  have z := decode7 (g := g) (n := 19) (ly := 288) (by omega) (by omega) (by omega) t (fun S hS k hk => by rw [tb_rd t132 hk (by omega), hS]) (fun S hS => ⟨l133, fun k hk => by rw [tb_rd t133 hk (by omega), hS]⟩) h.1 h.2.1
  refine ⟨fun v b' hq => ?_, fun hq => ?_⟩
  · have i := dc_i (L := L) 15 0 0 b (by omega) (by omega) v b' hq
    exact ⟨z.1 v b' hq, gc_b h i.2.2, i.1, i.2.1⟩
  · obtain ⟨v, s', r1, r2, r3, r4⟩ := z.2 hq
    exact ⟨v, s', r1, ⟨r2, r3⟩, r4⟩
theorem readl7 {g : ps_G} {K : Nat → Int32} {n d sz tot : Nat} {O : Nat → Int32} {Lc : Nat → Nat} (ht : tot ≤ 320) : ∀ (m gd : Nat) (t : Nat × Nat × (Nat → Nat)) (s : e_S), tot < t.1 + m → gd ≤ t.1 → t.1 ≤ tot → GC s K n d t.2.1 sz O → Tb (s.2.1 132) (s.2.1 133) Lc 19 → Ln (s.2.1 131) t.2.2 t.1 → ∃ s', q_lp (fun x => bX2_readLengths_4 128 (Int32.ofNat tot) x.1 x.2.1 x.2.2) (Int32.ofNat t.1, Int32.ofNat gd, e_g s g) = some (e_g s' g) ∧ KL s s' ∧ (∀ t', rdO K n Lc tot m t = some t' → GC s' K n d t'.2.1 sz O ∧ t.2.1 ≤ t'.2.1 ∧ Ln (s'.2.1 131) t'.2.2 tot) ∧ (rdO K n Lc tot m t = none → BC s' K n) := by
  intro m
  induction m with
  | zero =>
    intro gd t s h1 h2 h3
    omega
  | succ m ih =>
    intro gd t s h1 h2 h3 h hT hL
    rw [rd_u]
    by_cases q : tot ≤ t.1
    · rw [if_pos q]
      have e : t.1 = tot := by omega
      refine ⟨s, lp_end ?_, kp_rf, fun t' z => ?_, fun z => (by cases z)⟩
      · show bX2_readLengths_4 _ _ _ _ _ = _
        unfold bX2_readLengths_4
        rw [if_pos (Or.inr ((n_le (by omega) (by omega)).mpr q))]
      · have z' := Option.some.inj z
        rw [← z', ← e]
        exact ⟨h, Nat.le_refl _, hL⟩
    · rw [if_neg q]
      have c0 : ¬ (Int32.ofNat tot ≤ Int32.ofNat gd ∨ Int32.ofNat tot ≤ Int32.ofNat t.1) := by
        rintro (z | z)
        · exact nle (by omega) (by omega) z
        · exact nle (by omega) (by omega) z
      have D := dec19 (g := g) h hT
      -- a wrong state ends it
      have fin : ∀ S : e_S, S.1 128 3 = 1 → q_lp (fun x => bX2_readLengths_4 128 (Int32.ofNat tot) x.1 x.2.1 x.2.2) (Int32.ofNat t.1, Int32.ofNat (gd + 1), e_g S g) = some (e_g S g) := fun S hS => by
        refine lp_end ?_
        show bX2_readLengths_4 _ _ _ _ _ = _
        unfold bX2_readLengths_4
        by_cases qq : Int32.ofNat tot ≤ Int32.ofNat (gd + 1) ∨ Int32.ofNat tot ≤ Int32.ofNat t.1
        · rw [if_pos qq]
        · rw [if_neg qq, f128_3, hS, ob_n, if_pos (by decide)]
      have pre : bX2_readLengths_4 128 (Int32.ofNat tot) (Int32.ofNat t.1) (Int32.ofNat gd) (e_g s g) = q_b2 (fX2_decode (e_g s g) 128 132 133) fun v12 g13 => if (16 : Int32) ≤ v12 then (if ¬ v12 = (16 : Int32) then (if ¬ v12 = (17 : Int32) then (Option.bind (q_ob 2 g13 128) fun u23 => q_b2 (fX2_readBits g13 128 (7 : Int32)) fun v24 g25 => jX2_readLengths_89_4 g25 128 (Int32.ofNat tot) (Int32.ofNat t.1) (Int32.ofNat gd) v12 ((11 : Int32) + v24)) else (Option.bind (q_ob 2 g13 128) fun u68 => q_b2 (fX2_readBits g13 128 (3 : Int32)) fun v69 g70 => jX2_readLengths_89_4 g70 128 (Int32.ofNat tot) (Int32.ofNat t.1) (Int32.ofNat gd) v12 ((3 : Int32) + v69))) else (Option.bind (q_ob 2 g13 128) fun u73 => q_b2 (fX2_readBits g13 128 (2 : Int32)) fun v74 g75 => jX2_readLengths_89_4 g75 128 (Int32.ofNat tot) (Int32.ofNat t.1) (Int32.ofNat gd) v12 ((3 : Int32) + v74))) else (jX2_readLengths_89_4 g13 128 (Int32.ofNat tot) (Int32.ofNat t.1) (Int32.ofNat gd) v12 (1 : Int32)) := by
        unfold bX2_readLengths_4
        rw [if_neg c0, f128_3, h.2.1, ob_n, if_neg (fun z => z rfl), f128_8, ob_n, ob_n, f128_9, ob_n, ob_n, ob128, ob_n]
      cases ed : dcN Lc 19 K n 15 0 0 t.2.1 with
      | none =>
        obtain ⟨v, s1, d1, d2, d3⟩ := D.2 ed
        rw [ob_no]
        have rb : ∀ mm : Nat, mm ≤ 16 → ∃ v s', fX2_readBits (e_g s1 g) 128 (Int32.ofNat mm) = some (v, e_g s' g) ∧ BC s' K n ∧ KL s1 s' := fun mm hmm => by
          obtain ⟨hw, b, hP⟩ := d2
          have z := readBits7 (g := g) hP hmm
          by_cases q' : b + mm ≤ 8 * n
          · rw [if_pos q'] at z
            exact ⟨_, _, z, ⟨by rw [F_sF, if_neg (by decide)]; exact hw, _, pc_b hP q'⟩, klF (by decide)⟩
          · rw [if_neg q'] at z
            exact ⟨_, _, z, bc_w (pc_b hP (Nat.le_refl _)), kp_tr (klF (by decide)) (klF (by decide))⟩
        have ex : ∃ s2, bX2_readLengths_4 128 (Int32.ofNat tot) (Int32.ofNat t.1) (Int32.ofNat gd) (e_g s g) = some (.inl (Int32.ofNat t.1, Int32.ofNat (gd + 1), e_g s2 g)) ∧ BC s2 K n ∧ KL s1 s2 := by
          rw [pre, d1, b2_n]
          by_cases a1 : (16 : Int32) ≤ v
          · rw [if_pos a1]
            by_cases a2 : ¬ v = (16 : Int32)
            · rw [if_pos a2]
              by_cases a3 : ¬ v = (17 : Int32)
              · obtain ⟨v', s', y1, y2, y3⟩ := rb 7 (by omega)
                have y1' : fX2_readBits (e_g s1 g) 128 7 = some (v', e_g s' g) := y1
                rw [if_pos a3, ob128, ob_n, y1', b2_n, bad89 y2.1 (by omega) ht]
                exact ⟨s', rfl, y2, y3⟩
              · obtain ⟨v', s', y1, y2, y3⟩ := rb 3 (by omega)
                have y1' : fX2_readBits (e_g s1 g) 128 3 = some (v', e_g s' g) := y1
                rw [if_neg a3, ob128, ob_n, y1', b2_n, bad89 y2.1 (by omega) ht]
                exact ⟨s', rfl, y2, y3⟩
            · obtain ⟨v', s', y1, y2, y3⟩ := rb 2 (by omega)
              have y1' : fX2_readBits (e_g s1 g) 128 2 = some (v', e_g s' g) := y1
              rw [if_neg a2, ob128, ob_n, y1', b2_n, bad89 y2.1 (by omega) ht]
              exact ⟨s', rfl, y2, y3⟩
          · rw [if_neg a1, bad89 d2.1 (by omega) ht]
            exact ⟨s1, rfl, d2, kp_rf⟩
        obtain ⟨s2, y1, y2, y3⟩ := ex
        refine ⟨s2, ?_, kp_tr (kl_w d3) y3, fun t' z => (by cases z), fun _ => y2⟩
        rw [lp_go3 (bX2_readLengths_4 128 (Int32.ofNat tot)) y1, fin s2 y2.1]
      | some p =>
        obtain ⟨p1, p2⟩ := p
        obtain ⟨d1, d2, d3, d4⟩ := D.1 p1 p2 ed
        rw [ob_n]
        have e16 : Int32.ofNat p1 = (16 : Int32) ↔ p1 = 16 := n_eq (b := 16) (by omega) (by omega)
        have e17 : Int32.ofNat p1 = (17 : Int32) ↔ p1 = 17 := n_eq (b := 17) (by omega) (by omega)
        have g16 : (16 : Int32) ≤ Int32.ofNat p1 ↔ 16 ≤ p1 := n_le (n := 16) (by omega) (by omega)
        have k1 : KL s (sF s 128 2 (Int32.ofNat p2)) := klF (by decide)
        -- from where the number of times is known
        have core : ∀ (b2 tm : Nat), p2 ≤ b2 → tm ≤ 200 → 1 ≤ tm → GC (sF s 128 2 (Int32.ofNat b2)) K n d b2 sz O → bX2_readLengths_4 128 (Int32.ofNat tot) (Int32.ofNat t.1) (Int32.ofNat gd) (e_g s g) = jX2_readLengths_89_4 (e_g (sF s 128 2 (Int32.ofNat b2)) g) 128 (Int32.ofNat tot) (Int32.ofNat t.1) (Int32.ofNat gd) (Int32.ofNat p1) (Int32.ofNat tm) → rpO K n t.1 t.2.2 (p1, p2) = (if p1 = 16 ∧ t.1 = 0 then none else some (tm, (if p1 < 16 then p1 else if p1 = 16 then t.2.2 (t.1 - 1) else 0), b2)) → ∃ s', q_lp (fun x => bX2_readLengths_4 128 (Int32.ofNat tot) x.1 x.2.1 x.2.2) (Int32.ofNat t.1, Int32.ofNat gd, e_g s g) = some (e_g s' g) ∧ KL s s' ∧ (∀ t', ((rpO K n t.1 t.2.2 (p1, p2)).bind fun q => if tot < t.1 + q.1 then none else rdO K n Lc tot m (t.1 + q.1, q.2.2, flN t.2.2 t.1 q.1 q.2.1)) = some t' → GC s' K n d t'.2.1 sz O ∧ t.2.1 ≤ t'.2.1 ∧ Ln (s'.2.1 131) t'.2.2 tot) ∧ (((rpO K n t.1 t.2.2 (p1, p2)).bind fun q => if tot < t.1 + q.1 then none else rdO K n Lc tot m (t.1 + q.1, q.2.2, flN t.2.2 t.1 q.1 q.2.1)) = none → BC s' K n) := by
          intro b2 tm hb htm htm1 hG hB hr
          have k2 : KL s (sF s 128 2 (Int32.ofNat b2)) := klF (by decide)
          have gg := good89 (g := g) (tot := tot) (a := t.1) (gd := gd) (p := p1) (tm := tm) (S := sF s 128 2 (Int32.ofNat b2)) (L := t.2.2) hG.2.1 h3 ht d3 htm (by rw [A_sF]; exact hL)
          rw [hr]
          by_cases w : (p1 = 16 ∧ t.1 = 0) ∨ tot < t.1 + tm
          · have nn : ((if p1 = 16 ∧ t.1 = 0 then none else some (tm, (if p1 < 16 then p1 else if p1 = 16 then t.2.2 (t.1 - 1) else 0), b2)).bind fun q => if tot < t.1 + q.1 then none else rdO K n Lc tot m (t.1 + q.1, q.2.2, flN t.2.2 t.1 q.1 q.2.1)) = none := by
              by_cases w1 : p1 = 16 ∧ t.1 = 0
              · rw [if_pos w1, ob_no]
              · rw [if_neg w1, ob_n]
                dsimp only
                rw [if_pos (w.elim (fun z => absurd z w1) id)]
            rw [nn]
            have g1 := gg.1 w
            rw [← hB] at g1
            have bS : BC (sF (sF s 128 2 (Int32.ofNat b2)) 128 3 1) K n := bc_w hG.1
            refine ⟨_, ?_, kp_tr k2 (klF (f := 3) (v := 1) (by decide)), fun t' z => (by cases z), fun _ => bS⟩
            rw [lp_go3 (bX2_readLengths_4 128 (Int32.ofNat tot)) g1, fin _ bS.1]
          · have w1 : ¬ (p1 = 16 ∧ t.1 = 0) := fun z => w (Or.inl z)
            have w2 : ¬ tot < t.1 + tm := fun z => w (Or.inr z)
            rw [if_neg w1, ob_n]
            dsimp only
            rw [if_neg w2]
            obtain ⟨B', g1, g2⟩ := gg.2 w
            rw [← hB] at g1
            have kk : Kp [131, 132, 133, 134, 135, 136] 128 [] (sF s 128 2 (Int32.ofNat b2)) (sA (sF s 128 2 (Int32.ofNat b2)) 131 B') := kp_A kp_rf (by decide)
            obtain ⟨s', l1, l2, l3, l4⟩ := ih (gd + 1) (t.1 + tm, b2, flN t.2.2 t.1 tm (if p1 < 16 then p1 else if p1 = 16 then t.2.2 (t.1 - 1) else 0)) (sA (sF s 128 2 (Int32.ofNat b2)) 131 B') (by dsimp only; omega) (by dsimp only; omega) (by dsimp only; omega) (gc_k hG kk) (by
              rw [A_sA, if_neg (by decide), A_sA, if_neg (by decide), A_sF]
              exact hT) (by
              rw [A_sA, if_pos rfl]
              exact g2)
            refine ⟨s', ?_, kp_tr (kp_tr k2 klA) l2, fun t' z => ?_, l4⟩
            · rw [lp_go3 (bX2_readLengths_4 128 (Int32.ofNat tot)) g1]
              exact l1
            · obtain ⟨y1, y2, y3⟩ := l3 t' z
              have y2' : b2 ≤ t'.2.1 := y2
              exact ⟨y1, by omega, y3⟩
        -- bits behind the symbol
        have more : ∀ (mm base : Nat), mm ≤ 7 → (∀ {v : Int32} {S : e_S}, fX2_readBits (e_g (sF s 128 2 (Int32.ofNat p2)) g) 128 (Int32.ofNat mm) = some (v, e_g S g) → bX2_readLengths_4 128 (Int32.ofNat tot) (Int32.ofNat t.1) (Int32.ofNat gd) (e_g s g) = jX2_readLengths_89_4 (e_g S g) 128 (Int32.ofNat tot) (Int32.ofNat t.1) (Int32.ofNat gd) (Int32.ofNat p1) (Int32.ofNat base + v)) → 1 ≤ base → base ≤ 11 → (∀ x, rbO K n p2 mm = x → rpO K n t.1 t.2.2 (p1, p2) = x.bind fun x => if p1 = 16 ∧ t.1 = 0 then none else some (base + x.1, (if p1 < 16 then p1 else if p1 = 16 then t.2.2 (t.1 - 1) else 0), x.2)) → ∃ s', q_lp (fun x => bX2_readLengths_4 128 (Int32.ofNat tot) x.1 x.2.1 x.2.2) (Int32.ofNat t.1, Int32.ofNat gd, e_g s g) = some (e_g s' g) ∧ KL s s' ∧ (∀ t', ((rpO K n t.1 t.2.2 (p1, p2)).bind fun q => if tot < t.1 + q.1 then none else rdO K n Lc tot m (t.1 + q.1, q.2.2, flN t.2.2 t.1 q.1 q.2.1)) = some t' → GC s' K n d t'.2.1 sz O ∧ t.2.1 ≤ t'.2.1 ∧ Ln (s'.2.1 131) t'.2.2 tot) ∧ (((rpO K n t.1 t.2.2 (p1, p2)).bind fun q => if tot < t.1 + q.1 then none else rdO K n Lc tot m (t.1 + q.1, q.2.2, flN t.2.2 t.1 q.1 q.2.1)) = none → BC s' K n) := by
          intro mm base hmm hB hb1 hb11 hr
          have R := rb7 (g := g) (m := mm) d2 (by omega)
          cases er : rbO K n p2 mm with
          | none =>
            have sx := readBits7 (g := g) (m := mm) d2.1 (by omega)
            rw [if_neg (rbO_n er), sF_sF] at sx
            have bS : BC (sF (sF s 128 2 (Int32.ofNat (8 * n))) 128 3 1) K n := bc_w (pc_b h.1 (Nat.le_refl _))
            have g1 := hB sx
            rw [bad89 bS.1 (by omega) ht] at g1
            rw [hr none er, ob_no, ob_no]
            refine ⟨_, ?_, kp_tr (klF (f := 2) (by decide)) (klF (f := 3) (v := 1) (by decide)), fun t' z => (by cases z), fun _ => bS⟩
            rw [lp_go3 (bX2_readLengths_4 128 (Int32.ofNat tot)) g1, fin _ bS.1]
          | some x =>
            obtain ⟨x1, x2⟩ := x
            obtain ⟨r1, r2, r3⟩ := R.1 x1 x2 er
            have rs := rbO_s er
            rw [sF_sF] at r1 r2
            have p7 : (2 : Nat) ^ mm ≤ 2 ^ 7 := Nat.pow_le_pow_right (by omega) hmm
            have p7' : (2 : Nat) ^ 7 = 128 := by decide
            have g1 := hB r1
            rw [n_add] at g1
            exact core x2 (base + x1) (by omega) (by omega) (by omega) r2 g1 (hr _ er)
        by_cases c1 : p1 < 16
        · refine core p2 1 (Nat.le_refl _) (by omega) (by omega) d2 ?_ ?_
          · rw [pre, d1, b2_n, if_neg (fun z => absurd (g16.mp z) (by omega))]
            rfl
          · unfold rpO
            dsimp only
            rw [if_pos c1, if_pos c1, if_neg (fun z => by omega)]
        · by_cases c2 : p1 = 16
          · refine more 2 3 (by omega) (fun {v S} z => ?_) (by omega) (by omega) (fun x hx => ?_)
            · have z' : fX2_readBits (e_g (sF s 128 2 (Int32.ofNat p2)) g) 128 2 = some (v, e_g S g) := z
              rw [pre, d1, b2_n, if_pos (g16.mpr (by omega)), if_neg (fun z => z (e16.mpr c2)), ob128, ob_n, z', b2_n]
              rfl
            · unfold rpO
              dsimp only
              rw [if_neg c1, if_pos c2, hx]
              congr 1
              funext y
              rw [if_neg c1, if_pos c2]
              by_cases a0 : t.1 = 0
              · rw [if_pos a0, if_pos ⟨c2, a0⟩]
              · rw [if_neg a0, if_neg (fun z => a0 z.2)]
          · by_cases c3 : p1 = 17
            · refine more 3 3 (by omega) (fun {v S} z => ?_) (by omega) (by omega) (fun x hx => ?_)
              · have z' : fX2_readBits (e_g (sF s 128 2 (Int32.ofNat p2)) g) 128 3 = some (v, e_g S g) := z
                rw [pre, d1, b2_n, if_pos (g16.mpr (by omega)), if_pos (fun z => c2 (e16.mp z)), if_neg (fun z => z (e17.mpr c3)), ob128, ob_n, z', b2_n]
                rfl
              · unfold rpO
                dsimp only
                rw [if_neg c1, if_neg c2, if_pos c3, hx]
                congr 1
                funext y
                rw [if_neg c1, if_neg c2, if_neg (fun z => c2 z.1)]
            · refine more 7 11 (by omega) (fun {v S} z => ?_) (by omega) (by omega) (fun x hx => ?_)
              · have z' : fX2_readBits (e_g (sF s 128 2 (Int32.ofNat p2)) g) 128 7 = some (v, e_g S g) := z
                rw [pre, d1, b2_n, if_pos (g16.mpr (by omega)), if_pos (fun z => c2 (e16.mp z)), if_pos (fun z => c3 (e17.mp z)), ob128, ob_n, z', b2_n]
                rfl
              · unfold rpO
                dsimp only
                rw [if_neg c1, if_neg c2, if_neg c3, hx]
                congr 1
                funext y
                rw [if_neg c1, if_neg c2, if_neg (fun z => c2 z.1)]
