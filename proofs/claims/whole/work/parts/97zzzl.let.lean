-- needs: 97zzzk
/-- one symbol and what it asks for: goes on, is the last, or is wrong -/
def stQ (K : Nat → Int32) (n d : Nat) (L0 L1 : Nat → Nat) (n0 n1 : Nat) (t : Nat × Nat × (Nat → Int32)) : Option ((Nat × Nat × (Nat → Int32)) ⊕ (Nat × Nat × (Nat → Int32))) :=
  (dcN L0 n0 K n 15 0 0 t.1).bind fun p => if p.1 = 256 then some (.inr (p.2, t.2.1, t.2.2)) else if p.1 < 256 then (if t.2.1 < d then some (.inl (p.2, t.2.1 + 1, upd t.2.2 t.2.1 (Int32.ofNat p.1))) else none) else if 285 < p.1 then none else (fcO K n d L1 n1 (p.1 - 257) (p.2, t.2.1, t.2.2)).bind fun t' => some (.inl t')
theorem fcO_b {K : Nat → Int32} {n d k n1 : Nat} {L1 : Nat → Nat} {t t' : Nat × Nat × (Nat → Int32)} (h : fcO K n d L1 n1 k t = some t') : t.1 ≤ t'.1 := by
  unfold fcO at h
  cases e1 : rbO K n t.1 (xbV 3 k) with
  | none => rw [e1, ob_no] at h; cases h
  | some q =>
    obtain ⟨q1, q2⟩ := q
    rw [e1, ob_n] at h
    have r1 := rbO_s e1
    cases e2 : dcN L1 n1 K n 15 0 0 q2 with
    | none =>
      dsimp only at h
      rw [e2, ob_no] at h; cases h
    | some f =>
      obtain ⟨f1, f2⟩ := f
      dsimp only at h
      rw [e2, ob_n] at h
      have r2 := dc_i (L := L1) 15 0 0 q2 (by omega) (by omega) f1 f2 e2
      by_cases q29 : 29 < f1
      · rw [if_pos q29] at h; cases h
      · rw [if_neg q29] at h
        dsimp only at h
        cases e3 : rbO K n f2 (xbV 5 f1) with
        | none => rw [e3, ob_no] at h; cases h
        | some e =>
          obtain ⟨a1, a2⟩ := e
          rw [e3, ob_n] at h
          have r3 := rbO_s e3
          dsimp only at h
          by_cases q4 : t.2.1 < xbV 4 f1 + a1
          · rw [if_pos q4] at h; cases h
          · rw [if_neg q4] at h
            by_cases q5 : d < t.2.1 + (xbV 2 k + q1)
            · rw [if_pos q5] at h; cases h
            · rw [if_neg q5] at h
              have h' := Option.some.inj h
              rw [← h']
              show t.1 ≤ a2
              omega
theorem step7 {s : e_S} {g : ps_G} {K : Nat → Int32} {n d n0 n1 gd : Nat} {L0 L1 : Nat → Nat} {t : Nat × Nat × (Nat → Int32)} (hT : TbC g) (hg : gd < 64000) (h : GC s K n d t.1 t.2.1 t.2.2) (tc : TC s L0 L1 n0 n1) : ∃ s', KC s s' ∧ (∀ t', stQ K n d L0 L1 n0 n1 t = some (.inl t') → bX2_symbols_2 128 (Int32.ofNat gd) (e_g s g) = some (.inl (Int32.ofNat (gd + 1), e_g s' g)) ∧ GC s' K n d t'.1 t'.2.1 t'.2.2 ∧ t.1 < t'.1) ∧ (∀ t', stQ K n d L0 L1 n0 n1 t = some (.inr t') → bX2_symbols_2 128 (Int32.ofNat gd) (e_g s g) = some (.inr (.inr (e_g s' g))) ∧ GC s' K n d t'.1 t'.2.1 t'.2.2 ∧ t.1 < t'.1) ∧ (stQ K n d L0 L1 n0 n1 t = none → BC s' K n ∧ (bX2_symbols_2 128 (Int32.ofNat gd) (e_g s g) = some (.inl (Int32.ofNat (gd + 1), e_g s' g)) ∨ bX2_symbols_2 128 (Int32.ofNat gd) (e_g s g) = some (.inr (.inr (e_g s' g))))) := by
  have c0 : ¬ (64000 : Int32) ≤ Int32.ofNat gd := show ¬ Int32.ofNat 64000 ≤ _ from nle hg (by omega)
  have D := dec0 (g := g) h tc
  have pre : bX2_symbols_2 128 (Int32.ofNat gd) (e_g s g) = q_b2 (fX2_decode (e_g s g) 128 132 133) fun v9 g10 => Option.bind (q_fI 2 3 g10 128) fun v11 => if ¬ (¬ v11 = 0) ∧ (¬ v9 = (256 : Int32)) then (if (256 : Int32) ≤ v9 then (Option.bind (q_ob 2 g10 128) fun u16 => Option.bind (fX2_copy g10 128 (v9 - (257 : Int32))) fun v17 => jX2_symbols_67_2 v17 128 (Int32.ofNat gd)) else (Option.bind (q_ob 2 g10 128) fun u18 => Option.bind (fX2_emit g10 128 v9) fun v19 => jX2_symbols_67_2 v19 128 (Int32.ofNat gd))) else (some (.inr (.inr g10))) := by
    unfold bX2_symbols_2
    rw [if_neg c0, f128_3, h.2.1, ob_n, if_neg (fun z => z rfl), f128_8, ob_n, ob_n, f128_9, ob_n, ob_n, ob128, ob_n]
  cases ed : dcN L0 n0 K n 15 0 0 t.1 with
  | none =>
    obtain ⟨v, s1, d1, d2, d3⟩ := D.2 ed
    have u : stQ K n d L0 L1 n0 n1 t = none := by
      unfold stQ
      rw [ed, ob_no]
    rw [u]
    refine ⟨s1, d3, fun t' z => (by cases z), fun t' z => (by cases z), fun _ => ⟨d2, Or.inr ?_⟩⟩
    rw [pre, d1, b2_n, f128_3, d2.1, ob_n, if_neg (fun z => z.1 (by decide))]
  | some p =>
    obtain ⟨p1, p2⟩ := p
    obtain ⟨d1, d2, d3, d4⟩ := D.1 p1 p2 ed
    have n0' := tc.1
    have u : stQ K n d L0 L1 n0 n1 t = if p1 = 256 then some (.inr (p2, t.2.1, t.2.2)) else if p1 < 256 then (if t.2.1 < d then some (.inl (p2, t.2.1 + 1, upd t.2.2 t.2.1 (Int32.ofNat p1))) else none) else if 285 < p1 then none else (fcO K n d L1 n1 (p1 - 257) (p2, t.2.1, t.2.2)).bind fun t' => some (.inl t') := by
      unfold stQ
      rw [ed, ob_n]
    have k1 : KC s (sF s 128 2 (Int32.ofNat p2)) := kcF (by decide)
    have w3 : (sF s 128 2 (Int32.ofNat p2)).1 128 3 = 0 := d2.2.1
    by_cases q1 : p1 = 256
    · rw [u, if_pos q1]
      refine ⟨_, k1, fun t' z => (by cases z), fun t' z => ?_, fun z => (by cases z)⟩
      have e : (p2, t.2.1, t.2.2) = t' := Sum.inr.inj (Option.some.inj z)
      rw [← e]
      refine ⟨?_, d2, d4⟩
      rw [pre, d1, b2_n, f128_3, w3, ob_n, if_neg (fun z => z.2 (by rw [q1]; rfl))]
    · have c1 : ¬ Int32.ofNat p1 = (256 : Int32) := fun z => q1 ((n_eq (b := 256) (by omega) (by omega)).mp z)
      have c2 : ¬ (¬ (0 : Int32) = 0) ∧ ¬ Int32.ofNat p1 = (256 : Int32) := ⟨fun z => z rfl, c1⟩
      by_cases q2 : p1 < 256
      · have c3 : ¬ (256 : Int32) ≤ Int32.ofNat p1 := show ¬ Int32.ofNat 256 ≤ _ from nle q2 (by omega)
        obtain ⟨s1, e1, e2, e3, e4⟩ := emit7 (g := g) (v := Int32.ofNat p1) d2
        have bd : bX2_symbols_2 128 (Int32.ofNat gd) (e_g s g) = some (.inl (Int32.ofNat (gd + 1), e_g s1 g)) := by
          rw [pre, d1, b2_n, f128_3, w3, ob_n, if_pos c2, if_neg c3, ob128, ob_n, e1, ob_n]
          unfold jX2_symbols_67_2
          rw [n_suc]
        rw [u, if_neg q1, if_pos q2]
        refine ⟨s1, kp_tr k1 e2, fun t' z => ?_, fun t' z => ?_, fun z => ?_⟩
        · by_cases q3 : t.2.1 < d
          · rw [if_pos q3] at z
            have e : (p2, t.2.1 + 1, upd t.2.2 t.2.1 (Int32.ofNat p1)) = t' := Sum.inl.inj (Option.some.inj z)
            rw [← e]
            exact ⟨bd, e3 q3, d4⟩
          · rw [if_neg q3] at z; cases z
        · by_cases q3 : t.2.1 < d
          · rw [if_pos q3] at z; cases z
          · rw [if_neg q3] at z; cases z
        · by_cases q3 : t.2.1 < d
          · rw [if_pos q3] at z; cases z
          · exact ⟨e4 q3, Or.inl bd⟩
      · have c3 : (256 : Int32) ≤ Int32.ofNat p1 := show Int32.ofNat 256 ≤ _ from (n_le (by omega) (by omega)).mpr (by omega)
        have sb : Int32.ofNat p1 - (257 : Int32) = Int32.ofNat (p1 - 257) := sb_n (y := 257) (by omega) (by omega)
        by_cases q3 : 285 < p1
        · have cp : fX2_copy (e_g (sF s 128 2 (Int32.ofNat p2)) g) 128 (Int32.ofNat (p1 - 257)) = some (e_g (sF (sF s 128 2 (Int32.ofNat p2)) 128 3 1) g) := by
            unfold fX2_copy jX2_copy_12
            have c5 : ¬ Int32.ofNat (p1 - 257) < (29 : Int32) := fun z => by
              have z' : Int32.ofNat (p1 - 257) < Int32.ofNat 29 := z
              have := (n_lt (by omega) (by omega)).mp z'
              omega
            rw [if_neg (n_neg (by omega)), tb_l2 hT, ob_n, if_neg c5, w128_3 (Or.inr rfl), ob_n]
          rw [u, if_neg q1, if_neg q2, if_pos q3]
          refine ⟨_, kp_tr k1 (kcF (f := 3) (v := 1) (by decide)), fun t' z => (by cases z), fun t' z => (by cases z), fun _ => ⟨bc_w d2.1, Or.inl ?_⟩⟩
          rw [pre, d1, b2_n, f128_3, w3, ob_n, if_pos c2, if_pos c3, ob128, ob_n, sb, cp, ob_n]
          unfold jX2_symbols_67_2
          rw [n_suc]
        · obtain ⟨s1, e1, e2, e3, e4⟩ := copy7 (g := g) (K := K) (n := n) (d := d) (k := p1 - 257) (t := (p2, t.2.1, t.2.2)) hT (by omega) d2 (tc_k tc k1)
          have bd : bX2_symbols_2 128 (Int32.ofNat gd) (e_g s g) = some (.inl (Int32.ofNat (gd + 1), e_g s1 g)) := by
            rw [pre, d1, b2_n, f128_3, w3, ob_n, if_pos c2, if_pos c3, ob128, ob_n, sb, e1, ob_n]
            unfold jX2_symbols_67_2
            rw [n_suc]
          rw [u, if_neg q1, if_neg q2, if_neg q3]
          cases ef : fcO K n d L1 n1 (p1 - 257) (p2, t.2.1, t.2.2) with
          | none =>
            rw [ob_no]
            exact ⟨s1, kp_tr k1 e2, fun t' z => (by cases z), fun t' z => (by cases z), fun _ => ⟨e4 ef, Or.inl bd⟩⟩
          | some t2 =>
            rw [ob_n]
            refine ⟨s1, kp_tr k1 e2, fun t' z => ?_, fun t' z => (by cases z), fun z => (by cases z)⟩
            have e : t2 = t' := Sum.inl.inj (Option.some.inj z)
            rw [← e]
            have e5 := e3 t2 ef
            exact ⟨bd, e5.1, by have := e5.2; have e6 : p2 ≤ t2.1 := this; omega⟩
theorem step12q {s : e_S} {g : ps_G} {K : Nat → Int32} {n d n0 n1 : Nat} {L0 L1 : Nat → Nat} {t : Nat × Nat × (Nat → Int32)} (hT : TbM s) (h : GM s K n d t.1 t.2.1 t.2.2) (tc : TM s L0 L1 n0 n1) : ∃ s', KM s s' ∧ (∀ t', stQ K n d L0 L1 n0 n1 t = some (.inl t') → bX12_letters_0 139 (e_g s g) = some (.inl (e_g s' g)) ∧ GM s' K n d t'.1 t'.2.1 t'.2.2) ∧ (∀ t', stQ K n d L0 L1 n0 n1 t = some (.inr t') → bX12_letters_0 139 (e_g s g) = some (.inr (.inr (e_g s' g))) ∧ GM s' K n d t'.1 t'.2.1 t'.2.2) ∧ (stQ K n d L0 L1 n0 n1 t = none → s'.1 139 87 = 1 ∧ (bX12_letters_0 139 (e_g s g) = some (.inl (e_g s' g)) ∨ bX12_letters_0 139 (e_g s g) = some (.inr (.inr (e_g s' g))))) := by
  have rT : ∀ S : e_S, KM s S → TbM S := fun S k => by
    unfold TbM
    rw [k.1 182 (by decide), k.1 183 (by decide), k.1 184 (by decide), k.1 185 (by decide)]
    exact hT
  have r2 : ∀ (S : e_S) (i : Nat), KM s S → i < 29 → q_aI (e_g S g) 182 (Int32.ofNat i) = some (tbV 2 i) ∧ q_aI (e_g S g) 183 (Int32.ofNat i) = some (tbV 3 i) := fun S i k hi => by
    rw [tb_rd t182 hi (by omega), tb_rd t183 hi (by omega), ((rT S k).1 i hi).1, ((rT S k).1 i hi).2]
    exact ⟨rfl, rfl⟩
  have r4 : ∀ (S : e_S) (i : Nat), KM s S → i < 30 → q_aI (e_g S g) 184 (Int32.ofNat i) = some (tbV 4 i) ∧ q_aI (e_g S g) 185 (Int32.ofNat i) = some (tbV 5 i) := fun S i k hi => by
    rw [tb_rd t184 hi (by omega), tb_rd t185 hi (by omega), ((rT S k).2 i hi).1, ((rT S k).2 i hi).2]
    exact ⟨rfl, rfl⟩
  have D := dec12 (g := g) h (st := 0) (by omega) tc.1 tc.2.2.1
  have D' : ∀ {v : Int32} {G : ps_G}, fX12_decoded (e_g s g) 139 (Int32.ofNat 0) = some (v, G) → fX12_decoded (e_g s g) 139 0 = some (v, G) := fun z => z
  cases ed : dcN L0 n0 K n 15 0 0 t.1 with
  | none =>
    obtain ⟨v, s1, d1, d2, d3⟩ := D.2 ed
    have u : stQ K n d L0 L1 n0 n1 t = none := by
      unfold stQ
      rw [ed, ob_no]
    rw [u]
    refine ⟨s1, d3, fun t' z => (by cases z), fun t' z => (by cases z), fun _ => ⟨d2, Or.inr ?_⟩⟩
    unfold bX12_letters_0
    rw [f139_87, h.2.1, ob_n, if_neg (fun z => z rfl), ob139, ob_n, D' d1, b2_n, f139_87, d2, ob_n, if_neg (fun z => z.1 (by decide))]
  | some p =>
    obtain ⟨p1, p2⟩ := p
    obtain ⟨d1, d2, d3, d4⟩ := D.1 p1 p2 ed
    have n0' := tc.1
    have u : stQ K n d L0 L1 n0 n1 t = if p1 = 256 then some (.inr (p2, t.2.1, t.2.2)) else if p1 < 256 then (if t.2.1 < d then some (.inl (p2, t.2.1 + 1, upd t.2.2 t.2.1 (Int32.ofNat p1))) else none) else if 285 < p1 then none else (fcO K n d L1 n1 (p1 - 257) (p2, t.2.1, t.2.2)).bind fun t' => some (.inl t') := by
      unfold stQ
      rw [ed, ob_n]
    have k1 : KM s (sF s 139 88 (Int32.ofNat p2)) := kmF (by decide)
    have w3 : (sF s 139 88 (Int32.ofNat p2)).1 139 87 = 0 := d2.2.1
    by_cases q1 : p1 = 256
    · rw [u, if_pos q1]
      refine ⟨_, k1, fun t' z => (by cases z), fun t' z => ?_, fun z => (by cases z)⟩
      have e : (p2, t.2.1, t.2.2) = t' := Sum.inr.inj (Option.some.inj z)
      rw [← e]
      refine ⟨?_, d2⟩
      unfold bX12_letters_0
      rw [f139_87, h.2.1, ob_n, if_neg (fun z => z rfl), ob139, ob_n, D' d1, b2_n, f139_87, w3, ob_n, if_neg (fun z => z.2 (by rw [q1]; rfl))]
    · have c1 : ¬ Int32.ofNat p1 = (256 : Int32) := fun z => q1 ((n_eq (b := 256) (by omega) (by omega)).mp z)
      have c2 : ¬ (¬ (0 : Int32) = 0) ∧ ¬ Int32.ofNat p1 = (256 : Int32) := ⟨fun z => z rfl, c1⟩
      by_cases q2 : p1 < 256
      · have c3 : ¬ (256 : Int32) ≤ Int32.ofNat p1 := show ¬ Int32.ofNat 256 ≤ _ from nle q2 (by omega)
        obtain ⟨s1, e1, e2, e3, e4⟩ := putRow12 (g := g) (v := Int32.ofNat p1) d2
        have bd : bX12_letters_0 139 (e_g s g) = some (.inl (e_g s1 g)) := by
          unfold bX12_letters_0
          rw [f139_87, h.2.1, ob_n, if_neg (fun z => z rfl), ob139, ob_n, D' d1, b2_n, f139_87, w3, ob_n, if_pos c2, if_neg c3, ob139, ob_n, e1, ob_n]
        rw [u, if_neg q1, if_pos q2]
        refine ⟨s1, kp_tr k1 e2, fun t' z => ?_, fun t' z => ?_, fun z => ?_⟩
        · by_cases q3 : t.2.1 < d
          · rw [if_pos q3] at z
            have e : (p2, t.2.1 + 1, upd t.2.2 t.2.1 (Int32.ofNat p1)) = t' := Sum.inl.inj (Option.some.inj z)
            rw [← e]
            exact ⟨bd, e3 q3⟩
          · rw [if_neg q3] at z; cases z
        · by_cases q3 : t.2.1 < d
          · rw [if_pos q3] at z; cases z
          · rw [if_neg q3] at z; cases z
        · by_cases q3 : t.2.1 < d
          · rw [if_pos q3] at z; cases z
          · exact ⟨e4 q3, Or.inl bd⟩
      · have c3 : (256 : Int32) ≤ Int32.ofNat p1 := show Int32.ofNat 256 ≤ _ from (n_le (by omega) (by omega)).mpr (by omega)
        have sb : Int32.ofNat p1 - (257 : Int32) = Int32.ofNat (p1 - 257) := sb_n (y := 257) (by omega) (by omega)
        by_cases q3 : 285 < p1
        · have c4 : ¬ Int32.ofNat p1 ≤ (285 : Int32) := show ¬ _ ≤ Int32.ofNat 285 from nle q3 (by omega)
          rw [u, if_neg q1, if_neg q2, if_pos q3]
          refine ⟨_, kp_tr k1 (kmF (f := 87) (v := 1) (by decide)), fun t' z => (by cases z), fun t' z => (by cases z), fun _ => ⟨by rw [F_sF, if_pos ⟨rfl, rfl⟩], Or.inr ?_⟩⟩
          unfold bX12_letters_0
          rw [f139_87, h.2.1, ob_n, if_neg (fun z => z rfl), ob139, ob_n, D' d1, b2_n, f139_87, w3, ob_n, if_pos c2, if_pos c3, if_neg c4, w139_87 (Or.inr rfl), ob_n]
        · have c4 : Int32.ofNat p1 ≤ (285 : Int32) := show _ ≤ Int32.ofNat 285 from (n_le (by omega) (by omega)).mpr (by omega)
          have hk : p1 - 257 < 29 := by omega
          have x3 := xb_3 hk
          have x2 := xb_2 hk
          rw [u, if_neg q1, if_neg q2, if_neg q3]
          have pre : bX12_letters_0 139 (e_g s g) = q_b2 (fX12_low (e_g (sF s 139 88 (Int32.ofNat p2)) g) 139 (Int32.ofNat (xbV 3 (p1 - 257)))) fun v18 g19 => Option.bind (q_ob 12 g19 139) fun u20 => q_b2 (fX12_decoded g19 139 (1 : Int32)) fun v21 g22 => Option.bind (q_fI 12 87 g22 139) fun v23 => if ¬ (¬ v23 = 0) ∧ (v21 ≤ (29 : Int32)) then (Option.bind (q_fR 12 70 g22 139) fun v26 => Option.bind (v26) fun a27 => Option.bind (q_aI g22 a27 v21) fun v28 => Option.bind (q_fR 12 71 g22 139) fun v29 => Option.bind (v29) fun a30 => Option.bind (q_aI g22 a30 v21) fun v31 => Option.bind (q_ob 12 g22 139) fun u32 => q_b2 (fX12_low g22 139 v31) fun v33 g34 => Option.bind (q_fI 12 87 g34 139) fun v35 => if ¬ v35 = 0 then (jX12_letters_142_0 g34 139) else (Option.bind (q_fI 12 75 g34 139) fun v38 => if (v28 + v33) ≤ v38 then (Option.bind (q_lp (fun s => bX12_letters_151 139 (Int32.ofNat (xbV 2 (p1 - 257)) + v18) (v28 + v33) s.1 s.2) ((0 : Int32), g34)) fun s55 => jX12_letters_186_0 s55 139) else (jX12_letters_142_0 g34 139))) else (Option.bind (q_sB 12 87 g22 139 (1 : Int32)) fun g60 => some (.inr (.inr g60))) := by
            unfold bX12_letters_0
            rw [f139_87, h.2.1, ob_n, if_neg (fun z => z rfl), ob139, ob_n, D' d1, b2_n, f139_87, w3, ob_n, if_pos c2, if_pos c3, if_pos c4, f139_68, ob_n, ob_n, sb, (r2 _ _ k1 hk).1, ob_n, f139_69, ob_n, ob_n, (r2 _ _ k1 hk).2, ob_n, ob139, ob_n, x3.1, x2.1]
          have R := rb12 (g := g) (m := xbV 3 (p1 - 257)) d2 (by omega)
          cases eq : rbO K n p2 (xbV 3 (p1 - 257)) with
          | none =>
            obtain ⟨v, s1, y1, y2, y3⟩ := R.2 eq
            have uf : fcO K n d L1 n1 (p1 - 257) (p2, t.2.1, t.2.2) = none := by
              unfold fcO
              dsimp only
              rw [eq, ob_no]
            rw [uf, ob_no]
            have id1 : sF s1 139 87 1 = s1 := by rw [← y2, sF_id]
            refine ⟨s1, kp_tr k1 y3, fun t' z => (by cases z), fun t' z => (by cases z), fun _ => ⟨y2, Or.inr ?_⟩⟩
            rw [pre, y1, b2_n, ob139, ob_n, decoded12b y2, b2_n, f139_87, y2, ob_n, if_neg (fun z => z.1 (by decide)), w139_87 (Or.inr rfl), ob_n, id1]
          | some q =>
            obtain ⟨a1, a2⟩ := q
            obtain ⟨y1, y2, y3⟩ := R.1 a1 a2 eq
            rw [sF_sF] at y1 y2
            have rs := rbO_s eq
            have p5 : (2 : Nat) ^ xbV 3 (p1 - 257) ≤ 2 ^ 5 := Nat.pow_le_pow_right (by omega) (by omega)
            have p5' : (2 : Nat) ^ 5 = 32 := by decide
            have k2 : KM s (sF s 139 88 (Int32.ofNat a2)) := kmF (by decide)
            have tm := tm_k tc k2
            have D1 := dec12 (g := g) y2 (st := 1) (by omega) tm.2.1 tm.2.2.2
            have D1' : ∀ {v : Int32} {G : ps_G}, fX12_decoded (e_g (sF s 139 88 (Int32.ofNat a2)) g) 139 (Int32.ofNat 1) = some (v, G) → fX12_decoded (e_g (sF s 139 88 (Int32.ofNat a2)) g) 139 1 = some (v, G) := fun z => z
            cases ef : dcN L1 n1 K n 15 0 0 a2 with
            | none =>
              obtain ⟨v, s1, m1, m2, m3⟩ := D1.2 ef
              have uf : fcO K n d L1 n1 (p1 - 257) (p2, t.2.1, t.2.2) = none := by
                unfold fcO
                dsimp only
                rw [eq, ob_n]
                dsimp only
                rw [ef, ob_no]
              rw [uf, ob_no]
              have id1 : sF s1 139 87 1 = s1 := by rw [← m2, sF_id]
              refine ⟨s1, kp_tr k2 m3, fun t' z => (by cases z), fun t' z => (by cases z), fun _ => ⟨m2, Or.inr ?_⟩⟩
              rw [pre, y1, b2_n, ob139, ob_n, D1' m1, b2_n, f139_87, m2, ob_n, if_neg (fun z => z.1 (by decide)), w139_87 (Or.inr rfl), ob_n, id1]
            | some f =>
              obtain ⟨f1, f2⟩ := f
              obtain ⟨m1, m2, m3, m4⟩ := D1.1 f1 f2 ef
              rw [sF_sF] at m1 m2
              have n1' := tc.2.1
              have k3 : KM s (sF s 139 88 (Int32.ofNat f2)) := kmF (by decide)
              have w4 : (sF s 139 88 (Int32.ofNat f2)).1 139 87 = 0 := m2.2.1
              by_cases q29 : 29 < f1
              · have uf : fcO K n d L1 n1 (p1 - 257) (p2, t.2.1, t.2.2) = none := by
                  unfold fcO
                  dsimp only
                  rw [eq, ob_n]
                  dsimp only
                  rw [ef, ob_n, if_pos q29]
                have c5 : ¬ Int32.ofNat f1 ≤ (29 : Int32) := show ¬ _ ≤ Int32.ofNat 29 from nle q29 (by omega)
                rw [uf, ob_no]
                refine ⟨_, kp_tr k3 (kmF (f := 87) (v := 1) (by decide)), fun t' z => (by cases z), fun t' z => (by cases z), fun _ => ⟨by rw [F_sF, if_pos ⟨rfl, rfl⟩], Or.inr ?_⟩⟩
                rw [pre, y1, b2_n, ob139, ob_n, D1' m1, b2_n, f139_87, w4, ob_n, if_neg (fun z => c5 z.2), w139_87 (Or.inr rfl), ob_n]
              · have f30 : f1 < 30 := by omega
                have x4 := xb_4 f30
                have x5 := xb_5 f30
                have c5 : ¬ (¬ (0 : Int32) = 0) ∧ Int32.ofNat f1 ≤ (29 : Int32) := ⟨fun z => z rfl, show _ ≤ Int32.ofNat 29 from (n_le (by omega) (by omega)).mpr (by omega)⟩
                have pre2 : bX12_letters_0 139 (e_g s g) = q_b2 (fX12_low (e_g (sF s 139 88 (Int32.ofNat f2)) g) 139 (Int32.ofNat (xbV 5 f1))) fun v33 g34 => Option.bind (q_fI 12 87 g34 139) fun v35 => if ¬ v35 = 0 then (jX12_letters_142_0 g34 139) else (Option.bind (q_fI 12 75 g34 139) fun v38 => if (Int32.ofNat (xbV 4 f1) + v33) ≤ v38 then (Option.bind (q_lp (fun s => bX12_letters_151 139 (Int32.ofNat (xbV 2 (p1 - 257) + a1)) (Int32.ofNat (xbV 4 f1) + v33) s.1 s.2) ((0 : Int32), g34)) fun s55 => jX12_letters_186_0 s55 139) else (jX12_letters_142_0 g34 139)) := by
                  rw [pre, y1, b2_n, ob139, ob_n, D1' m1, b2_n, f139_87, w4, ob_n, if_pos c5, f139_70, ob_n, ob_n, (r4 _ _ k3 f30).1, ob_n, f139_71, ob_n, ob_n, (r4 _ _ k3 f30).2, ob_n, ob139, ob_n, x5.1, x4.1, n_add]
                have E := rb12 (g := g) (m := xbV 5 f1) m2 (by omega)
                cases ee : rbO K n f2 (xbV 5 f1) with
                | none =>
                  obtain ⟨v, s1, e1, e2, e3⟩ := E.2 ee
                  have uf : fcO K n d L1 n1 (p1 - 257) (p2, t.2.1, t.2.2) = none := by
                    unfold fcO
                    dsimp only
                    rw [eq, ob_n]
                    dsimp only
                    rw [ef, ob_n, if_neg q29]
                    dsimp only
                    rw [ee, ob_no]
                  have id1 : sF s1 139 87 1 = s1 := by rw [← e2, sF_id]
                  rw [uf, ob_no]
                  refine ⟨s1, kp_tr k3 e3, fun t' z => (by cases z), fun t' z => (by cases z), fun _ => ⟨e2, Or.inr ?_⟩⟩
                  rw [pre2, e1, b2_n, f139_87, e2, ob_n, if_pos (by decide)]
                  unfold jX12_letters_142_0
                  rw [w139_87 (Or.inr rfl), ob_n, id1]
                | some e =>
                  obtain ⟨b1, b2⟩ := e
                  obtain ⟨g1, g2, g3⟩ := E.1 b1 b2 ee
                  rw [sF_sF] at g1 g2
                  have es := rbO_s ee
                  have k4 : KM s (sF s 139 88 (Int32.ofNat b2)) := kmF (by decide)
                  have pp : (2 : Nat) ^ xbV 5 f1 ≤ 2 ^ 13 := Nat.pow_le_pow_right (by omega) (by omega)
                  have pp' : (2 : Nat) ^ 13 = 8192 := by decide
                  obtain ⟨hP, hw, f6, hd, f5, hz, hO⟩ := id g2
                  have uf : fcO K n d L1 n1 (p1 - 257) (p2, t.2.1, t.2.2) = if t.2.1 < xbV 4 f1 + b1 then none else if d < t.2.1 + (xbV 2 (p1 - 257) + a1) then none else some (b2, t.2.1 + (xbV 2 (p1 - 257) + a1), cyV t.2.2 t.2.1 (xbV 4 f1 + b1) (xbV 2 (p1 - 257) + a1)) := by
                    unfold fcO
                    dsimp only
                    rw [eq, ob_n]
                    dsimp only
                    rw [ef, ob_n, if_neg q29]
                    dsimp only
                    rw [ee, ob_n]
                  by_cases qd : t.2.1 < xbV 4 f1 + b1
                  · have cd : ¬ Int32.ofNat (xbV 4 f1 + b1) ≤ Int32.ofNat t.2.1 := nle qd (by omega)
                    rw [uf, if_pos qd, ob_no]
                    refine ⟨_, kp_tr k4 (kmF (f := 87) (v := 1) (by decide)), fun t' z => (by cases z), fun t' z => (by cases z), fun _ => ⟨by rw [F_sF, if_pos ⟨rfl, rfl⟩], Or.inr ?_⟩⟩
                    rw [pre2, g1, b2_n, f139_87, hw, ob_n, if_neg (fun z => z rfl), f139_75, f5, ob_n, n_add, if_neg cd]
                    unfold jX12_letters_142_0
                    rw [w139_87 (Or.inr rfl), ob_n]
                  · have cd : Int32.ofNat (xbV 4 f1 + b1) ≤ Int32.ofNat t.2.1 := (n_le (by omega) (by omega)).mpr (by omega)
                    obtain ⟨s', l1, l2, l3, l4⟩ := copyl12 (g := g) (K := K) (n := n) (d := d) (b := b2) (sz := t.2.1) (dist := xbV 4 f1 + b1) (many := xbV 2 (p1 - 257) + a1) (O := t.2.2) (by omega) (by omega) (by omega) (by omega) (xbV 2 (p1 - 257) + a1) 0 (sF s 139 88 (Int32.ofNat b2)) (by omega) g2
                    have l1' : q_lp (fun t => bX12_letters_151 139 (Int32.ofNat (xbV 2 (p1 - 257) + a1)) (Int32.ofNat (xbV 4 f1 + b1)) t.1 t.2) ((0 : Int32), e_g (sF s 139 88 (Int32.ofNat b2)) g) = some (e_g s' g) := l1
                    have bd : bX12_letters_0 139 (e_g s g) = some (.inl (e_g s' g)) := by
                      rw [pre2, g1, b2_n, f139_87, hw, ob_n, if_neg (fun z => z rfl), f139_75, f5, ob_n, n_add, if_pos cd, l1', ob_n]
                      rfl
                    rw [uf, if_neg qd]
                    by_cases q7 : d < t.2.1 + (xbV 2 (p1 - 257) + a1)
                    · rw [if_pos q7, ob_no]
                      exact ⟨s', kp_tr k4 l2, fun t' z => (by cases z), fun t' z => (by cases z), fun _ => ⟨l4 (by omega), Or.inl bd⟩⟩
                    · rw [if_neg q7, ob_n]
                      refine ⟨s', kp_tr k4 l2, fun t' z => ?_, fun t' z => (by cases z), fun z => (by cases z)⟩
                      have e : (b2, t.2.1 + (xbV 2 (p1 - 257) + a1), cyV t.2.2 t.2.1 (xbV 4 f1 + b1) (xbV 2 (p1 - 257) + a1)) = t' := Sum.inl.inj (Option.some.inj z)
                      rw [← e]
                      exact ⟨bd, l3 (by omega)⟩
/-- symbols till the end -/
def smS (K : Nat → Int32) (n d : Nat) (L0 L1 : Nat → Nat) (n0 n1 : Nat) : Nat → (Nat × Nat × (Nat → Int32)) → Option (Nat × Nat × (Nat → Int32))
  | 0, _ => none
  | m + 1, t => (stQ K n d L0 L1 n0 n1 t).bind fun r => Sum.elim (fun t' => smS K n d L0 L1 n0 n1 m t') (fun t' => some t') r
theorem symbols7 {g : ps_G} {K : Nat → Int32} {n d n0 n1 : Nat} {L0 L1 : Nat → Nat} (hT : TbC g) : ∀ (m gd : Nat) (s : e_S) (t : Nat × Nat × (Nat → Int32)), 8 * n < t.1 + m → gd < t.1 → GC s K n d t.1 t.2.1 t.2.2 → TC s L0 L1 n0 n1 → ∃ r s', q_lp (fun x => bX2_symbols_2 128 x.1 x.2) (Int32.ofNat gd, e_g s g) = some r ∧ Sum.elim (fun a => a) (fun a => a) r = e_g s' g ∧ KC s s' ∧ (∀ t', smS K n d L0 L1 n0 n1 m t = some t' → GC s' K n d t'.1 t'.2.1 t'.2.2 ∧ t.1 < t'.1) ∧ (smS K n d L0 L1 n0 n1 m t = none → BC s' K n) := by
  intro m
  induction m with
  | zero =>
    intro gd s t h1 h2 h tc
    have := h.1.2.1
    omega
  | succ m ih =>
    intro gd s t h1 h2 h tc
    have b8 := h.1.2.1
    have n8 := h.1.1
    obtain ⟨s1, k1, a1, a2, a3⟩ := step7 (g := g) (gd := gd) hT (by omega) h tc
    have u : smS K n d L0 L1 n0 n1 (m + 1) t = (stQ K n d L0 L1 n0 n1 t).bind fun r => Sum.elim (fun t' => smS K n d L0 L1 n0 n1 m t') (fun t' => some t') r := rfl
    cases es : stQ K n d L0 L1 n0 n1 t with
    | none =>
      rw [u, es, ob_no]
      obtain ⟨b1, b2⟩ := a3 es
      rcases b2 with b2 | b2
      · refine ⟨.inl (e_g s1 g), s1, ?_, rfl, k1, fun t' z => (by cases z), fun _ => b1⟩
        rw [lp_go2 (bX2_symbols_2 128) b2]
        refine lp_end ?_
        show bX2_symbols_2 _ _ _ = _
        unfold bX2_symbols_2
        by_cases qq : (64000 : Int32) ≤ Int32.ofNat (gd + 1)
        · rw [if_pos qq]
        · rw [if_neg qq, f128_3, b1.1, ob_n, if_pos (by decide)]
      · exact ⟨.inr (e_g s1 g), s1, lp_end b2, rfl, k1, fun t' z => (by cases z), fun _ => b1⟩
    | some r =>
      cases r with
      | inl t1 =>
        obtain ⟨b1, b2, b3⟩ := a1 t1 es
        obtain ⟨r, s', r1, r2, r3, r4, r5⟩ := ih (gd + 1) s1 t1 (by omega) (by omega) b2 (tc_k tc k1)
        rw [u, es, ob_n]
        refine ⟨r, s', ?_, r2, kp_tr k1 r3, fun t' z => ?_, fun z => r5 z⟩
        · rw [lp_go2 (bX2_symbols_2 128) b1]
          exact r1
        · obtain ⟨y1, y2⟩ := r4 t' z
          exact ⟨y1, by omega⟩
      | inr t1 =>
        obtain ⟨b1, b2, b3⟩ := a2 t1 es
        rw [u, es, ob_n]
        refine ⟨.inr (e_g s1 g), s1, lp_end b1, rfl, k1, fun t' z => ?_, fun z => (by cases z)⟩
        have e : t1 = t' := Option.some.inj z
        rw [← e]
        exact ⟨b2, b3⟩
theorem letters12 {g : ps_G} {K : Nat → Int32} {n d n0 n1 : Nat} {L0 L1 : Nat → Nat} : ∀ (m : Nat) (s : e_S) (t : Nat × Nat × (Nat → Int32)), 8 * n < t.1 + m → TbM s → GM s K n d t.1 t.2.1 t.2.2 → TM s L0 L1 n0 n1 → (∀ t', stQ K n d L0 L1 n0 n1 t = some (.inl t') → t.1 < t'.1) → ∃ r s', q_lp (fun x => bX12_letters_0 139 x) (e_g s g) = some r ∧ Sum.elim (fun a => a) (fun a => a) r = e_g s' g ∧ KM s s' ∧ (∀ t', smS K n d L0 L1 n0 n1 m t = some t' → GM s' K n d t'.1 t'.2.1 t'.2.2) ∧ (smS K n d L0 L1 n0 n1 m t = none → s'.1 139 87 = 1) := by
  have inc : ∀ t t' : Nat × Nat × (Nat → Int32), stQ K n d L0 L1 n0 n1 t = some (.inl t') → t.1 < t'.1 := by
    intro t t' h
    unfold stQ at h
    cases ed : dcN L0 n0 K n 15 0 0 t.1 with
    | none => rw [ed, ob_no] at h; cases h
    | some p =>
      obtain ⟨p1, p2⟩ := p
      rw [ed, ob_n] at h
      have i := dc_i (L := L0) 15 0 0 t.1 (by omega) (by omega) p1 p2 ed
      dsimp only at h
      by_cases q1 : p1 = 256
      · rw [if_pos q1] at h; cases h
      · rw [if_neg q1] at h
        by_cases q2 : p1 < 256
        · rw [if_pos q2] at h
          by_cases q3 : t.2.1 < d
          · rw [if_pos q3] at h
            have e := Sum.inl.inj (Option.some.inj h)
            rw [← e]
            exact i.2.1
          · rw [if_neg q3] at h; cases h
        · rw [if_neg q2] at h
          by_cases q3 : 285 < p1
          · rw [if_pos q3] at h; cases h
          · rw [if_neg q3] at h
            cases ef : fcO K n d L1 n1 (p1 - 257) (p2, t.2.1, t.2.2) with
            | none => rw [ef, ob_no] at h; cases h
            | some t2 =>
              rw [ef, ob_n] at h
              have e := Sum.inl.inj (Option.some.inj h)
              have j := fcO_b ef
              rw [← e]
              have j' : p2 ≤ t2.1 := j
              omega
  intro m
  induction m with
  | zero =>
    intro s t h1 hT h tc hh
    have := h.1.2.1
    omega
  | succ m ih =>
    intro s t h1 hT h tc hh
    obtain ⟨s1, k1, a1, a2, a3⟩ := step12q (g := g) hT h tc
    have u : smS K n d L0 L1 n0 n1 (m + 1) t = (stQ K n d L0 L1 n0 n1 t).bind fun r => Sum.elim (fun t' => smS K n d L0 L1 n0 n1 m t') (fun t' => some t') r := rfl
    cases es : stQ K n d L0 L1 n0 n1 t with
    | none =>
      rw [u, es, ob_no]
      obtain ⟨b1, b2⟩ := a3 es
      rcases b2 with b2 | b2
      · refine ⟨.inl (e_g s1 g), s1, ?_, rfl, k1, fun t' z => (by cases z), fun _ => b1⟩
        rw [lp_go (b := fun x => bX12_letters_0 139 x) b2]
        refine lp_end ?_
        show bX12_letters_0 _ _ = _
        unfold bX12_letters_0
        rw [f139_87, b1, ob_n, if_pos (by decide)]
      · exact ⟨.inr (e_g s1 g), s1, lp_end b2, rfl, k1, fun t' z => (by cases z), fun _ => b1⟩
    | some r =>
      cases r with
      | inl t1 =>
        obtain ⟨b1, b2⟩ := a1 t1 es
        have b3 := inc t t1 es
        have hT1 : TbM s1 := by
          unfold TbM
          rw [k1.1 182 (by decide), k1.1 183 (by decide), k1.1 184 (by decide), k1.1 185 (by decide)]
          exact hT
        obtain ⟨r, s', r1, r2, r3, r4, r5⟩ := ih s1 t1 (by omega) hT1 b2 (tm_k tc k1) (inc t1)
        rw [u, es, ob_n]
        refine ⟨r, s', ?_, r2, kp_tr k1 r3, fun t' z => r4 t' z, fun z => r5 z⟩
        rw [lp_go (b := fun x => bX12_letters_0 139 x) b1]
        exact r1
      | inr t1 =>
        obtain ⟨b1, b2⟩ := a2 t1 es
        rw [u, es, ob_n]
        refine ⟨.inr (e_g s1 g), s1, lp_end b1, rfl, k1, fun t' z => ?_, fun z => (by cases z)⟩
        have e : t1 = t' := Option.some.inj z
        rw [← e]
        exact b2
