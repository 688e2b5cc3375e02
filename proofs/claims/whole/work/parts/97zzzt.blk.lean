-- needs: 97zzzs
/-! ===== png: blocks ===== -/
theorem stored7b {s : e_S} {g : ps_G} {K : Nat → Int32} {n : Nat} (h : BC s K n) : ∃ s', fX2_stored (e_g s g) 128 = some (e_g s' g) ∧ KC s s' ∧ BC s' K n := by
  obtain ⟨hw, b, hP⟩ := id h
  have a8 := al8_i hP.2.1
  have h1 : BC (sF s 128 2 (Int32.ofNat (al8 b))) K n := ⟨by rw [F_sF, if_neg (by decide)]; exact hw, _, pc_b hP a8.2⟩
  obtain ⟨v, s1, r1, r2, r3⟩ := rb7b (g := g) (m := 16) h1 (by omega)
  obtain ⟨v2, s2, q1, q2, q3⟩ := rb7b (g := g) (m := 16) r2 (by omega)
  have r1' : fX2_readBits (e_g (sF s 128 2 (Int32.ofNat (al8 b))) g) 128 16 = some (v, e_g s1 g) := r1
  have q1' : fX2_readBits (e_g s1 g) 128 16 = some (v2, e_g s2 g) := q1
  have id1 : sF s2 128 3 1 = s2 := by rw [← q2.1, sF_id]
  have lp : q_lp (fun y => bX2_stored_40 128 v y.1 y.2) ((0 : Int32), e_g s2 g) = some (e_g s2 g) := by
    refine lp_end ?_
    show bX2_stored_40 _ _ _ _ = _
    unfold bX2_stored_40
    by_cases qq : v ≤ 0
    · rw [if_pos qq]
    · rw [if_neg qq, f128_3, q2.1, ob_n, if_pos (by decide)]
  refine ⟨s2, ?_, kp_tr (kp_tr (kcF (by decide)) r3) q3, q2⟩
  unfold fX2_stored jX2_stored_77
  rw [ob128, ob_n, toByte7 hP, ob_n, ob128, ob_n, r1', b2_n, f128_3, r2.1, ob_n, ob128, ob_n, q1', b2_n, o_1 if_01, w128_3 (Or.inr rfl), ob_n, id1, lp, ob_n]
theorem symbols7e {s : e_S} {g : ps_G} {K : Nat → Int32} {n d n0 n1 : Nat} {L0 L1 : Nat → Nat} {t : Nat × Nat × (Nat → Int32)} (hT : TbC g) (hb : 1 ≤ t.1) (h : GC s K n d t.1 t.2.1 t.2.2) (tc : TC s L0 L1 n0 n1) : ∃ s', fX2_symbols (e_g s g) 128 = some (e_g s' g) ∧ KC s s' ∧ (∀ t', smS K n d L0 L1 n0 n1 (8 * n + 1) t = some t' → GC s' K n d t'.1 t'.2.1 t'.2.2 ∧ t.1 < t'.1) ∧ (smS K n d L0 L1 n0 n1 (8 * n + 1) t = none → BC s' K n) := by
  obtain ⟨r, s', r1, r2, r3, r4, r5⟩ := symbols7 (g := g) hT (8 * n + 1) 0 s t (by omega) (by omega) h tc
  have r1' : q_lp (fun x => bX2_symbols_2 128 x.1 x.2) ((0 : Int32), e_g s g) = some r := r1
  refine ⟨s', ?_, r3, r4, r5⟩
  unfold fX2_symbols jX2_symbols_73
  rw [r1', ob_n]
  cases r with
  | inl G => exact congrArg some r2
  | inr G => exact congrArg some r2
theorem letters12e {s : e_S} {g : ps_G} {K : Nat → Int32} {n d n0 n1 : Nat} {L0 L1 : Nat → Nat} {t : Nat × Nat × (Nat → Int32)} (hT : TbM s) (h : GM s K n d t.1 t.2.1 t.2.2) (tc : TM s L0 L1 n0 n1) : ∃ s', fX12_letters (e_g s g) 139 = some (e_g s' g) ∧ KM s s' ∧ (∀ t', smS K n d L0 L1 n0 n1 (8 * n + 1) t = some t' → GM s' K n d t'.1 t'.2.1 t'.2.2) ∧ (smS K n d L0 L1 n0 n1 (8 * n + 1) t = none → s'.1 139 87 = 1) := by
  obtain ⟨r, s', r1, r2, r3, r4, r5⟩ := letters12 (g := g) (8 * n + 1) s t (by omega) hT h tc (fun t' ht => by
    unfold stQ at ht
    cases ed : dcN L0 n0 K n 15 0 0 t.1 with
    | none => rw [ed, ob_no] at ht; cases ht
    | some p =>
      obtain ⟨p1, p2⟩ := p
      rw [ed, ob_n] at ht
      have i := dc_i (L := L0) 15 0 0 t.1 (by omega) (by omega) p1 p2 ed
      dsimp only at ht
      by_cases q1 : p1 = 256
      · rw [if_pos q1] at ht; cases ht
      · rw [if_neg q1] at ht
        by_cases q2 : p1 < 256
        · rw [if_pos q2] at ht
          by_cases q3 : t.2.1 < d
          · rw [if_pos q3] at ht
            have e := Sum.inl.inj (Option.some.inj ht)
            rw [← e]
            exact i.2.1
          · rw [if_neg q3] at ht; cases ht
        · rw [if_neg q2] at ht
          by_cases q3 : 285 < p1
          · rw [if_pos q3] at ht; cases ht
          · rw [if_neg q3] at ht
            cases ef : fcO K n d L1 n1 (p1 - 257) (p2, t.2.1, t.2.2) with
            | none => rw [ef, ob_no] at ht; cases ht
            | some t2 =>
              rw [ef, ob_n] at ht
              have e := Sum.inl.inj (Option.some.inj ht)
              have j := fcO_b ef
              rw [← e]
              have j' : p2 ≤ t2.1 := j
              omega)
  have r1' : q_lp (fun x => bX12_letters_0 139 x) (e_g s g) = some r := r1
  refine ⟨s', ?_, r3, r4, r5⟩
  unfold fX12_letters
  rw [r1', ob_n]
  cases r with
  | inl G => exact congrArg some r2
  | inr G => exact congrArg some r2
/-- what a block gives -/
noncomputable def bkO (K : Nat → Int32) (n d k : Nat) (t : Nat × Nat × (Nat → Int32)) : Option (Nat × Nat × (Nat → Int32)) := if k = 0 then sdO K n d t else if k = 1 then smS K n d fxL fdL 288 32 (8 * n + 1) t else if k = 2 then (tdO K n t.1).bind fun c => smS K n d c.2.1 (fun i => c.2.1 (c.2.2.1 + i)) c.2.2.1 c.2.2.2 (8 * n + 1) (c.1, t.2.1, t.2.2) else none
noncomputable def blO (K : Nat → Int32) (n d : Nat) (t : Nat × Nat × (Nat → Int32)) : Option (Nat × Nat × Nat × (Nat → Int32)) := (rbO K n t.1 1).bind fun l => (rbO K n l.2 2).bind fun k => (bkO K n d k.1 (k.2, t.2.1, t.2.2)).bind fun t' => some (l.1, t')
theorem bk_0 {K : Nat → Int32} {n d : Nat} {t : Nat × Nat × (Nat → Int32)} : bkO K n d 0 t = sdO K n d t := if_pos rfl
theorem bk_1 {K : Nat → Int32} {n d : Nat} {t : Nat × Nat × (Nat → Int32)} : bkO K n d 1 t = smS K n d fxL fdL 288 32 (8 * n + 1) t := by
  unfold bkO
  rw [if_neg (by decide), if_pos rfl]
theorem bk_2 {K : Nat → Int32} {n d : Nat} {t : Nat × Nat × (Nat → Int32)} : bkO K n d 2 t = (tdO K n t.1).bind fun c => smS K n d c.2.1 (fun i => c.2.1 (c.2.2.1 + i)) c.2.2.1 c.2.2.2 (8 * n + 1) (c.1, t.2.1, t.2.2) := by
  unfold bkO
  rw [if_neg (by decide), if_neg (by decide), if_pos rfl]
theorem bk_3 {K : Nat → Int32} {n d : Nat} {t : Nat × Nat × (Nat → Int32)} : bkO K n d 3 t = none := by
  unfold bkO
  rw [if_neg (by decide), if_neg (by decide), if_neg (by decide)]
/-- the class's block -/
theorem block7 {s : e_S} {g : ps_G} {K : Nat → Int32} {n d gd : Nat} {t : Nat × Nat × (Nat → Int32)} (hT : TbC g) (hg : gd < 64000) (h : GC s K n d t.1 t.2.1 t.2.2) : ∃ (s' : e_S) (x : Int32), bX2_inflate_86 128 0 (Int32.ofNat gd) (e_g s g) = some (.inl (x, Int32.ofNat (gd + 1), e_g s' g)) ∧ KD s s' ∧ (∀ l t', blO K n d t = some (l, t') → GC s' K n d t'.1 t'.2.1 t'.2.2 ∧ t.1 < t'.1 ∧ x = (if l = 1 then 1 else 0)) ∧ (blO K n d t = none → BC s' K n) := by
  have u : blO K n d t = (rbO K n t.1 1).bind fun l => (rbO K n l.2 2).bind fun k => (bkO K n d k.1 (k.2, t.2.1, t.2.2)).bind fun t' => some (l.1, t') := rfl
  have c0 : ¬ ((64000 : Int32) ≤ Int32.ofNat gd ∨ ¬ (0 : Int32) = 0) := by
    rintro (z | z)
    · exact nle hg (by omega) z
    · exact z rfl
  have nd : ∀ (v : Int32) (S : e_S) (v27 : Int32) (S2 : e_S), fX2_readBits (e_g s g) 128 1 = some (v, e_g S g) → fX2_readBits (e_g S g) 128 2 = some (v27, e_g S2 g) → bX2_inflate_86 128 0 (Int32.ofNat gd) (e_g s g) = if v27 = 0 then (Option.bind (q_ob 2 (e_g S2 g) 128) fun u30 => Option.bind (fX2_stored (e_g S2 g) 128) fun v31 => jX2_inflate_190_86 v31 128 (if ¬ v = (1 : Int32) then (0 : Int32) else (1 : Int32)) (Int32.ofNat gd)) else (if v27 = 1 then (Option.bind (q_ob 2 (e_g S2 g) 128) fun u33 => Option.bind (fX2_fixedCodes (e_g S2 g) 128) fun v34 => Option.bind (q_ob 2 v34 128) fun u35 => Option.bind (fX2_symbols v34 128) fun v36 => jX2_inflate_190_86 v36 128 (if ¬ v = (1 : Int32) then (0 : Int32) else (1 : Int32)) (Int32.ofNat gd)) else (if v27 = 2 then (Option.bind (q_ob 2 (e_g S2 g) 128) fun u38 => Option.bind (fX2_toldCodes (e_g S2 g) 128) fun v39 => Option.bind (q_ob 2 v39 128) fun u40 => Option.bind (fX2_symbols v39 128) fun v41 => jX2_inflate_190_86 v41 128 (if ¬ v = (1 : Int32) then (0 : Int32) else (1 : Int32)) (Int32.ofNat gd)) else (Option.bind (q_sB 2 3 (e_g S2 g) 128 (1 : Int32)) fun g42 => jX2_inflate_190_86 g42 128 (if ¬ v = (1 : Int32) then (0 : Int32) else (1 : Int32)) (Int32.ofNat gd)))) := fun v S v27 S2 z1 z2 => by
    unfold bX2_inflate_86
    rw [if_neg c0, f128_3, h.2.1, ob_n, if_neg (fun z => z rfl), ob128, ob_n, z1, b2_n, ob128, ob_n, z2, b2_n]
  have j190 : ∀ (S : e_S) (x : Int32), jX2_inflate_190_86 (e_g S g) 128 x (Int32.ofNat gd) = some (.inl (x, Int32.ofNat (gd + 1), e_g S g)) := fun S x => by
    unfold jX2_inflate_190_86
    rw [n_suc]
  -- a wrong start: a block of bytes, from a wrong state
  have wr : ∀ (v : Int32) (S S2 : e_S), fX2_readBits (e_g s g) 128 1 = some (v, e_g S g) → fX2_readBits (e_g S g) 128 2 = some (0, e_g S2 g) → BC S2 K n → KD s S2 → ∃ (s' : e_S) (x : Int32), bX2_inflate_86 128 0 (Int32.ofNat gd) (e_g s g) = some (.inl (x, Int32.ofNat (gd + 1), e_g s' g)) ∧ KD s s' ∧ BC s' K n := fun v S S2 z1 z2 hB hK => by
    obtain ⟨s', r1, r2, r3⟩ := stored7b (g := g) hB
    refine ⟨s', (if ¬ v = (1 : Int32) then (0 : Int32) else (1 : Int32)), ?_, kp_tr hK (kd_c r2), r3⟩
    rw [nd v S 0 S2 z1 z2, if_pos rfl, ob128, ob_n, r1, ob_n, j190]
  have P1 := readBits7 (g := g) (m := 1) h.1 (by omega)
  have P1' : fX2_readBits (e_g s g) 128 1 = _ := P1
  by_cases a1 : t.1 + 1 ≤ 8 * n
  · rw [if_pos a1, rb_1] at P1'
    have e1 : rbO K n t.1 1 = some (btN K t.1, t.1 + 1) := by
      unfold rbO
      rw [if_pos a1, rb_1]
    have bt := (bt_e (K := K) (b := t.1)).2
    have g1 := gc_b h a1
    have P2 := readBits7 (g := g) (m := 2) g1.1 (by omega)
    rw [sF_sF, sF_sF] at P2
    have P2' : fX2_readBits (e_g (sF s 128 2 (Int32.ofNat (t.1 + 1))) g) 128 2 = _ := P2
    rw [u, e1, ob_n]
    dsimp only
    by_cases a2 : t.1 + 1 + 2 ≤ 8 * n
    · rw [if_pos a2] at P2'
      have e2 : rbO K n (t.1 + 1) 2 = some (rbN K (t.1 + 1) 2, t.1 + 1 + 2) := by
        unfold rbO
        rw [if_pos a2]
      rw [e2, ob_n]
      dsimp only
      have g2 := gc_b h a2
      have k2 : KD s (sF s 128 2 (Int32.ofNat (t.1 + 1 + 2))) := kd_c (kcF (by decide))
      have kl := rb_lt (K := K) (b := t.1 + 1) 2
      have p4 : (2 : Nat) ^ 2 = 4 := by decide
      have N := nd _ _ _ _ P1' P2'
      have xv : (if ¬ Int32.ofNat (btN K t.1) = (1 : Int32) then (0 : Int32) else (1 : Int32)) = if btN K t.1 = 1 then 1 else 0 := by
        have q1 : Int32.ofNat (btN K t.1) = 1 ↔ btN K t.1 = 1 := n_eq (b := 1) (by omega) (by omega)
        by_cases z : btN K t.1 = 1
        · rw [if_neg (fun y => y (q1.mpr z)), if_pos z]
        · rw [if_pos (fun y => z (q1.mp y)), if_neg z]
      rw [xv] at N
      -- close from a result
      have cl : ∀ (r : Option (Nat × Nat × (Nat → Int32))) (s' : e_S), bX2_inflate_86 128 0 (Int32.ofNat gd) (e_g s g) = some (.inl ((if btN K t.1 = 1 then 1 else 0), Int32.ofNat (gd + 1), e_g s' g)) → KD s s' → (∀ t', r = some t' → GC s' K n d t'.1 t'.2.1 t'.2.2 ∧ t.1 + 1 + 2 ≤ t'.1) → (r = none → BC s' K n) → ∃ (s' : e_S) (x : Int32), bX2_inflate_86 128 0 (Int32.ofNat gd) (e_g s g) = some (.inl (x, Int32.ofNat (gd + 1), e_g s' g)) ∧ KD s s' ∧ (∀ l t', (r.bind fun t' => some (btN K t.1, t')) = some (l, t') → GC s' K n d t'.1 t'.2.1 t'.2.2 ∧ t.1 < t'.1 ∧ x = (if l = 1 then 1 else 0)) ∧ ((r.bind fun t' => some (btN K t.1, t')) = none → BC s' K n) := fun r s' y1 y2 y3 y4 => by
        refine ⟨s', (if btN K t.1 = 1 then 1 else 0), y1, y2, fun l t' z => ?_, fun z => ?_⟩
        · cases r with
          | none => rw [ob_no] at z; cases z
          | some t2 =>
            rw [ob_n] at z
            have z' := Option.some.inj z
            have t1 : btN K t.1 = l := congrArg Prod.fst z'
            have t2e : t2 = t' := congrArg Prod.snd z'
            obtain ⟨w1, w2⟩ := y3 t2 rfl
            rw [← t2e, ← t1]
            exact ⟨w1, by omega, rfl⟩
        · cases r with
          | none => exact y4 rfl
          | some t2 => rw [ob_n] at z; cases z
      have cs : rbN K (t.1 + 1) 2 = 0 ∨ rbN K (t.1 + 1) 2 = 1 ∨ rbN K (t.1 + 1) 2 = 2 ∨ rbN K (t.1 + 1) 2 = 3 := by omega
      rcases cs with k0 | k1 | k22 | k3
      · obtain ⟨s', r1, r2, r3, r4⟩ := stored7 (g := g) (t := (t.1 + 1 + 2, t.2.1, t.2.2)) g2
        rw [k0] at N ⊢
        rw [bk_0]
        refine cl _ s' ?_ (kp_tr k2 (kd_c r2)) (fun t' z => r3 t' z) r4
        rw [N, if_pos (by decide), ob128, ob_n, r1, ob_n, j190]
      · obtain ⟨s1, r1, r2, r3⟩ := fixed7 (s := sF s 128 2 (Int32.ofNat (t.1 + 1 + 2))) (g := g)
        obtain ⟨s', q1, q2, q3, q4⟩ := symbols7e (g := g) (t := (t.1 + 1 + 2, t.2.1, t.2.2)) hT (by dsimp only; omega) (gc_k g2 r2) r3
        rw [k1] at N ⊢
        rw [bk_1, ← sm_30]
        refine cl _ s' ?_ (kp_tr (kp_tr k2 (kd_x r2)) (kd_c q2)) (fun t' z => ⟨(q3 t' z).1, Nat.le_of_lt (q3 t' z).2⟩) q4
        rw [N, if_neg (by decide), if_pos (by decide), ob128, ob_n, r1, ob_n, ob128, ob_n, q1, ob_n, j190]
      · obtain ⟨s1, r1, r2, r3, r4⟩ := told7 (g := g) hT g2
        rw [k22] at N ⊢
        rw [bk_2]
        dsimp only
        have N' : ∀ G, fX2_symbols (e_g s1 g) 128 = some (e_g G g) → bX2_inflate_86 128 0 (Int32.ofNat gd) (e_g s g) = some (.inl ((if btN K t.1 = 1 then 1 else 0), Int32.ofNat (gd + 1), e_g G g)) := fun G z => by
          rw [N, if_neg (by decide), if_neg (by decide), if_pos (by decide), ob128, ob_n, r1, ob_n, ob128, ob_n, z, ob_n, j190]
        cases ec : tdO K n (t.1 + 1 + 2) with
        | none =>
          have bS := r4 ec
          rw [ob_no]
          have sy : fX2_symbols (e_g s1 g) 128 = some (e_g s1 g) := by
            have lp : q_lp (fun x => bX2_symbols_2 128 x.1 x.2) ((0 : Int32), e_g s1 g) = some (.inl (e_g s1 g)) := by
              refine lp_end ?_
              show bX2_symbols_2 _ _ _ = _
              unfold bX2_symbols_2
              dsimp only
              rw [if_neg (by decide), f128_3, bS.1, ob_n, if_pos (by decide)]
            unfold fX2_symbols jX2_symbols_73
            rw [lp, ob_n, Sum.elim_inl]
          exact cl none s1 (N' s1 sy) (kp_tr k2 r2) (fun t' z => (by cases z)) (fun _ => bS)
        | some c =>
          obtain ⟨cb, cL, c0', c1'⟩ := c
          obtain ⟨w1, w2, w3⟩ := r3 cb cL c0' c1' ec
          rw [ob_n]
          dsimp only
          obtain ⟨s', q1, q2, q3, q4⟩ := symbols7e (g := g) (t := (cb, t.2.1, t.2.2)) hT (by dsimp only; omega) w1 w3
          refine cl _ s' (N' s' q1) (kp_tr (kp_tr k2 r2) (kd_c q2)) (fun t' z => ?_) q4
          obtain ⟨y1, y2⟩ := q3 t' z
          have y2' : cb < t'.1 := y2
          exact ⟨y1, by omega⟩
      · rw [k3] at N ⊢
        rw [bk_3]
        refine cl none (sF (sF s 128 2 (Int32.ofNat (t.1 + 1 + 2))) 128 3 1) ?_ (kp_tr k2 (k3_d k3_F)) (fun t' z => (by cases z)) (fun _ => bc_w g2.1)
        rw [N, if_neg (by decide), if_neg (by decide), if_neg (by decide), w128_3 (Or.inr rfl), ob_n, j190]
    · rw [if_neg a2] at P2'
      have e2 : rbO K n (t.1 + 1) 2 = none := by
        unfold rbO
        rw [if_neg a2]
      rw [e2, ob_no]
      obtain ⟨s', x, y1, y2, y3⟩ := wr _ _ _ P1' P2' (bc_w (pc_b h.1 (Nat.le_refl _))) (kp_tr (kd_c (kcF (by decide))) (k3_d k3_F))
      exact ⟨s', x, y1, y2, fun l t' z => (by cases z), fun _ => y3⟩
  · rw [if_neg a1] at P1'
    have e1 : rbO K n t.1 1 = none := by
      unfold rbO
      rw [if_neg a1]
    rw [u, e1, ob_no]
    have pS : PC (sF (sF s 128 2 (Int32.ofNat (8 * n))) 128 3 1) K n (8 * n) := pc_F (pc_b h.1 (Nat.le_refl _)) (by decide) (by decide)
    have P2 := readBits7 (g := g) (m := 2) pS (by omega)
    rw [if_neg (show ¬ 8 * n + 2 ≤ 8 * n by omega)] at P2
    have kS : KD s (sF (sF s 128 2 (Int32.ofNat (8 * n))) 128 3 1) := kp_tr (kd_c (kcF (by decide))) (k3_d k3_F)
    have kS2 : KD (sF (sF s 128 2 (Int32.ofNat (8 * n))) 128 3 1) (sF (sF (sF (sF s 128 2 (Int32.ofNat (8 * n))) 128 3 1) 128 2 (Int32.ofNat (8 * n))) 128 3 1) := kp_tr (kd_c (kcF (by decide))) (k3_d k3_F)
    obtain ⟨s', x, y1, y2, y3⟩ := wr _ _ _ P1' P2 (bc_w (pc_b pS (Nat.le_refl _))) (kp_tr kS kS2)
    exact ⟨s', x, y1, y2, fun l t' z => (by cases z), fun _ => y3⟩
/-- the reference's block -/
theorem block12 {s : e_S} {g : ps_G} {K : Nat → Int32} {n d : Nat} {t : Nat × Nat × (Nat → Int32)} (hT : TbM s) (h6 : ∀ j, j < 19 → s.2.1 186 j = tbV 6 j) (h : GM s K n d t.1 t.2.1 t.2.2) : ∃ (s' : e_S) (x : Int32), KN s s' ∧ (∀ l t', blO K n d t = some (l, t') → bX12_inflate_76 139 0 (e_g s g) = some (.inl (x, e_g s' g)) ∧ GM s' K n d t'.1 t'.2.1 t'.2.2 ∧ x = (if l = 1 then 1 else 0)) ∧ (blO K n d t = none → s'.1 139 87 = 1 ∧ (bX12_inflate_76 139 0 (e_g s g) = some (.inl (x, e_g s' g)) ∨ bX12_inflate_76 139 0 (e_g s g) = some (.inr (.inr (e_g s' g))))) := by
  have u : blO K n d t = (rbO K n t.1 1).bind fun l => (rbO K n l.2 2).bind fun k => (bkO K n d k.1 (k.2, t.2.1, t.2.2)).bind fun t' => some (l.1, t') := rfl
  have c0 : ¬ ((¬ (0 : Int32) = 0) ∨ ¬ (0 : Int32) = 0) := by
    rintro (z | z) <;> exact z rfl
  have j159 : ∀ (S : e_S) (x : Int32), jX12_inflate_159_76 (e_g S g) 139 x = some (.inl (x, e_g S g)) := fun S x => rfl
  have P1 := bit12 (g := g) h.1 h.2.1
  by_cases a1 : t.1 < 8 * n
  · rw [if_pos a1, bt_e.1] at P1
    have bt := (bt_e (K := K) (b := t.1)).2
    have e1 : rbO K n t.1 1 = some (btN K t.1, t.1 + 1) := by
      unfold rbO
      rw [if_pos (by omega), rb_1]
    have g1 := gm_b h (show t.1 + 1 ≤ 8 * n by omega)
    have R := rb12 (g := g) (m := 2) g1 (by omega)
    rw [u, e1, ob_n]
    dsimp only
    have xv : (if ¬ Int32.ofNat (btN K t.1) = (1 : Int32) then (0 : Int32) else (1 : Int32)) = if btN K t.1 = 1 then 1 else 0 := by
      have q1 : Int32.ofNat (btN K t.1) = 1 ↔ btN K t.1 = 1 := n_eq (b := 1) (by omega) (by omega)
      by_cases z : btN K t.1 = 1
      · rw [if_neg (fun y => y (q1.mpr z)), if_pos z]
      · rw [if_pos (fun y => z (q1.mp y)), if_neg z]
    have nd : ∀ (v : Int32) (S : e_S), fX12_low (e_g (sF s 139 88 (Int32.ofNat (t.1 + 1))) g) 139 (Int32.ofNat 2) = some (v, e_g S g) → bX12_inflate_76 139 0 (e_g s g) = Option.bind (q_fI 12 87 (e_g S g) 139) fun v18 => if v18 = 0 then (if ¬ v = 0 then (if ¬ v = (3 : Int32) then (if ¬ v = (1 : Int32) then (Option.bind (q_ob 12 (e_g S g) 139) fun u29 => Option.bind (fX12_ownCodes (e_g S g) 139) fun v30 => jX12_inflate_155_76 v30 139 (if btN K t.1 = 1 then 1 else 0)) else (Option.bind (q_ob 12 (e_g S g) 139) fun u33 => Option.bind (fX12_fixedCodes (e_g S g) 139) fun v34 => jX12_inflate_155_76 v34 139 (if btN K t.1 = 1 then 1 else 0))) else (Option.bind (q_sB 12 87 (e_g S g) 139 (1 : Int32)) fun g37 => jX12_inflate_159_76 g37 139 (if btN K t.1 = 1 then 1 else 0))) else (Option.bind (q_ob 12 (e_g S g) 139) fun u40 => Option.bind (fX12_stored (e_g S g) 139) fun v41 => jX12_inflate_159_76 v41 139 (if btN K t.1 = 1 then 1 else 0))) else (some (.inr (.inr (e_g S g)))) := fun v S z => by
      have z' : fX12_low (e_g (sF s 139 88 (Int32.ofNat (t.1 + 1))) g) 139 2 = some (v, e_g S g) := z
      unfold bX12_inflate_76
      rw [f139_87, h.2.1, ob_n, if_neg c0, ob139, ob_n, P1, b2_n, ob139, ob_n, z', b2_n, xv]
    cases e2 : rbO K n (t.1 + 1) 2 with
    | none =>
      obtain ⟨v, s1, r1, r2, r3⟩ := R.2 e2
      rw [ob_no]
      refine ⟨s1, 0, kp_tr (kn_m (kmF (by decide))) (kn_m r3), fun l t' z => (by cases z), fun _ => ⟨r2, Or.inr ?_⟩⟩
      rw [nd v s1 r1, f139_87, r2, ob_n, if_neg (by decide)]
    | some k =>
      obtain ⟨k1, k2⟩ := k
      obtain ⟨r1, r2, r3⟩ := R.1 k1 k2 e2
      have rs := rbO_s e2
      rw [sF_sF] at r1 r2
      have p4 : (2 : Nat) ^ 2 = 4 := by decide
      have kS : KN s (sF s 139 88 (Int32.ofNat k2)) := kn_m (kmF (by decide))
      have N := nd _ _ r1
      have w3 : (sF s 139 88 (Int32.ofNat k2)).1 139 87 = 0 := r2.2.1
      rw [f139_87, w3, ob_n, if_pos rfl] at N
      rw [ob_n]
      dsimp only
      have hTS : ∀ S : e_S, KN s S → TbM S := fun S k => by
        unfold TbM
        rw [k.1 182 (by decide), k.1 183 (by decide), k.1 184 (by decide), k.1 185 (by decide)]
        exact hT
      have cl : ∀ (r : Option (Nat × Nat × (Nat → Int32))) (s' : e_S), bX12_inflate_76 139 0 (e_g s g) = some (.inl ((if btN K t.1 = 1 then 1 else 0), e_g s' g)) → KN s s' → (∀ t', r = some t' → GM s' K n d t'.1 t'.2.1 t'.2.2) → (r = none → s'.1 139 87 = 1) → ∃ (s' : e_S) (x : Int32), KN s s' ∧ (∀ l t', (r.bind fun t' => some (btN K t.1, t')) = some (l, t') → bX12_inflate_76 139 0 (e_g s g) = some (.inl (x, e_g s' g)) ∧ GM s' K n d t'.1 t'.2.1 t'.2.2 ∧ x = (if l = 1 then 1 else 0)) ∧ ((r.bind fun t' => some (btN K t.1, t')) = none → s'.1 139 87 = 1 ∧ (bX12_inflate_76 139 0 (e_g s g) = some (.inl (x, e_g s' g)) ∨ bX12_inflate_76 139 0 (e_g s g) = some (.inr (.inr (e_g s' g))))) := fun r s' y1 y2 y3 y4 => by
        refine ⟨s', (if btN K t.1 = 1 then 1 else 0), y2, fun l t' z => ?_, fun z => ?_⟩
        · cases r with
          | none => rw [ob_no] at z; cases z
          | some t2 =>
            rw [ob_n] at z
            have z' := Option.some.inj z
            have t1 : btN K t.1 = l := congrArg Prod.fst z'
            have t2e : t2 = t' := congrArg Prod.snd z'
            rw [← t2e, ← t1]
            exact ⟨y1, y3 t2 rfl, rfl⟩
        · cases r with
          | none => exact ⟨y4 rfl, Or.inl y1⟩
          | some t2 => rw [ob_n] at z; cases z
      have cs : k1 = 0 ∨ k1 = 1 ∨ k1 = 2 ∨ k1 = 3 := by omega
      rcases cs with q | q | q | q
      · subst q
        obtain ⟨s', m1, m2, m3, m4⟩ := stored12 (g := g) (t := (k2, t.2.1, t.2.2)) r2
        rw [bk_0]
        refine cl _ s' ?_ (kp_tr kS (kn_m m2)) m3 m4
        rw [N, if_neg (fun z => z rfl), ob139, ob_n, m1, ob_n, j159]
      · subst q
        obtain ⟨s1, m1, m2, m3⟩ := fixed12 (s := sF s 139 88 (Int32.ofNat k2)) (g := g)
        obtain ⟨s', q1, q2, q3, q4⟩ := letters12e (g := g) (t := (k2, t.2.1, t.2.2)) (hTS s1 (kp_tr kS (kn_y m2))) (gm_k r2 m2) m3
        rw [bk_1]
        refine cl _ s' ?_ (kp_tr (kp_tr kS (kn_y m2)) (kn_m q2)) q3 q4
        rw [N, if_pos (by decide), if_pos (by decide), if_neg (fun z => z rfl), ob139, ob_n, m1, ob_n]
        unfold jX12_inflate_155_76
        rw [ob139, ob_n, q1, ob_n, j159]
      · subst q
        obtain ⟨s1, m1, m2, m3, m4⟩ := ownC12 (g := g) (by intro j hj; rw [A_sF]; exact h6 j hj) r2
        rw [bk_2]
        dsimp only
        have N' : ∀ G : e_S, fX12_letters (e_g s1 g) 139 = some (e_g G g) → bX12_inflate_76 139 0 (e_g s g) = some (.inl ((if btN K t.1 = 1 then 1 else 0), e_g G g)) := fun G z => by
          rw [N, if_pos (by decide), if_pos (by decide), if_pos (by decide), ob139, ob_n, m1, ob_n]
          unfold jX12_inflate_155_76
          rw [ob139, ob_n, z, ob_n, j159]
        cases ec : tdO K n k2 with
        | none =>
          have bS := m4 ec
          rw [ob_no]
          have sy : fX12_letters (e_g s1 g) 139 = some (e_g s1 g) := by
            have lp : q_lp (fun x => bX12_letters_0 139 x) (e_g s1 g) = some (.inl (e_g s1 g)) := by
              refine lp_end ?_
              show bX12_letters_0 _ _ = _
              unfold bX12_letters_0
              rw [f139_87, bS, ob_n, if_pos (by decide)]
            unfold fX12_letters
            rw [lp, ob_n, Sum.elim_inl]
          exact cl none s1 (N' s1 sy) (kp_tr kS m2) (fun t' z => (by cases z)) (fun _ => bS)
        | some c =>
          obtain ⟨cb, cL, c0', c1'⟩ := c
          obtain ⟨w1, w2⟩ := m3 cb cL c0' c1' ec
          rw [ob_n]
          dsimp only
          obtain ⟨s', q1, q2, q3, q4⟩ := letters12e (g := g) (t := (cb, t.2.1, t.2.2)) (hTS s1 (kp_tr kS m2)) w1 w2
          exact cl _ s' (N' s' q1) (kp_tr (kp_tr kS m2) (kn_m q2)) q3 q4
      · subst q
        rw [bk_3]
        refine cl none (sF (sF s 139 88 (Int32.ofNat k2)) 139 87 1) ?_ (kp_tr kS (kn_m (kmF (by decide)))) (fun t' z => (by cases z)) (fun _ => by rw [F_sF, if_pos ⟨rfl, rfl⟩])
        rw [N, if_pos (by decide), if_neg (fun z => z rfl), w139_87 (Or.inr rfl), ob_n, j159]
  · rw [if_neg a1] at P1
    have e1 : rbO K n t.1 1 = none := by
      unfold rbO
      rw [if_neg (by omega)]
    rw [u, e1, ob_no]
    have bS : (sF s 139 87 1).1 139 87 = 1 := by rw [F_sF, if_pos ⟨rfl, rfl⟩]
    obtain ⟨v, lv⟩ := low12b (g := g) (m := 2) bS (by omega)
    have lv' : fX12_low (e_g (sF s 139 87 1) g) 139 2 = some (v, e_g (sF s 139 87 1) g) := lv
    refine ⟨sF s 139 87 1, 0, kn_m (kmF (by decide)), fun l t' z => (by cases z), fun _ => ⟨bS, Or.inr ?_⟩⟩
    unfold bX12_inflate_76
    rw [f139_87, h.2.1, ob_n, if_neg c0, ob139, ob_n, P1, b2_n, ob139, ob_n, lv', b2_n, f139_87, bS, ob_n, if_neg (by decide)]
