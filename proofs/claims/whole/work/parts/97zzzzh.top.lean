-- needs: 97zzzzg
/-! ===== png: the whole file ===== -/
theorem shl24 {b : Nat} : q_shl (Int32.ofNat b) 24 = Int32.ofNat (2 ^ 24 * b) := by
  apply Int32.toBitVec_inj.mp
  apply BitVec.eq_of_toNat_eq
  have e : (q_shl (Int32.ofNat b) 24).toBitVec = (BitVec.ofNat 32 b) <<< 24 := rfl
  have e2 : (Int32.ofNat (2 ^ 24 * b)).toBitVec = BitVec.ofNat 32 (2 ^ 24 * b) := rfl
  rw [e, e2, BitVec.toNat_shiftLeft, BitVec.toNat_ofNat, BitVec.toNat_ofNat, Nat.shiftLeft_eq]
  omega
theorem of_32 {x y : Nat} (hx : x < 4294967296) (hy : y < 4294967296) (h : Int32.ofNat x = Int32.ofNat y) : x = y := by
  have e : BitVec.ofNat 32 x = BitVec.ofNat 32 y := congrArg Int32.toBitVec h
  have e2 := congrArg BitVec.toNat e
  rw [BitVec.toNat_ofNat, BitVec.toNat_ofNat] at e2
  omega
theorem sm4_n {I : Nat → Int32} {p a b c d : Nat} (ha : a < 256) (hb : b < 256) (hc : c < 256) (hd : d < 256) (e0 : I p = Int32.ofNat a) (e1 : I (p + 1) = Int32.ofNat b) (e2 : I (p + 2) = Int32.ofNat c) (e3 : I (p + 3) = Int32.ofNat d) : sm4 I p = Int32.ofNat (a * 16777216 + b * 65536 + c * 256 + d) := by
  unfold sm4
  rw [e0, e1, e2, e3, shl24, shl16, shl8 hc, n_or, n_or, n_or]
  have h1 : 2 ^ 24 * a ||| 2 ^ 16 * b = 2 ^ 24 * a + 2 ^ 16 * b := (Nat.two_pow_add_eq_or_of_lt (show 2 ^ 16 * b < 2 ^ 24 by omega) a).symm
  have h2 : (2 ^ 24 * a + 2 ^ 16 * b) ||| 2 ^ 8 * c = 2 ^ 24 * a + 2 ^ 16 * b + 2 ^ 8 * c := by
    have e : 2 ^ 24 * a + 2 ^ 16 * b = 2 ^ 16 * (256 * a + b) := by omega
    rw [e]
    exact (Nat.two_pow_add_eq_or_of_lt (show 2 ^ 8 * c < 2 ^ 16 by omega) (256 * a + b)).symm
  have h3 : (2 ^ 24 * a + 2 ^ 16 * b + 2 ^ 8 * c) ||| d = 2 ^ 24 * a + 2 ^ 16 * b + 2 ^ 8 * c + d := by
    have e : 2 ^ 24 * a + 2 ^ 16 * b + 2 ^ 8 * c = 2 ^ 8 * (65536 * a + 256 * b + c) := by omega
    rw [e]
    exact (Nat.two_pow_add_eq_or_of_lt (show d < 2 ^ 8 by omega) (65536 * a + 256 * b + c)).symm
  rw [h1, h2, h3]
  congr 1
  omega
def sgK (I : Nat → Int32) (n : Nat) : Prop := 8 ≤ n ∧ sm4 I 0 = -1991225785 ∧ sm4 I 4 = 218765834
theorem sg_e {I : Nat → Int32} {n : Nat} (hI : ∀ i, i < n → rg (I i) 0 255 = true) : sgK I n ↔ (8 ≤ n ∧ ∀ i, i < 8 → I i = tbV 1 i) := by
  unfold sgK
  constructor
  · rintro ⟨h8, h1, h2⟩
    refine ⟨h8, ?_⟩
    have ex : ∀ i, i < 8 → ∃ x : Nat, I i = Int32.ofNat x ∧ x < 256 := fun i hi => by
      obtain ⟨x, hx, lx⟩ := rg_n (N := 255) (hI i (by omega)) (by decide)
      exact ⟨x, hx, by omega⟩
    obtain ⟨a0, b0, c0⟩ := ex 0 (by omega)
    obtain ⟨a1, b1, c1⟩ := ex 1 (by omega)
    obtain ⟨a2, b2, c2⟩ := ex 2 (by omega)
    obtain ⟨a3, b3, c3⟩ := ex 3 (by omega)
    obtain ⟨a4, b4, c4⟩ := ex 4 (by omega)
    obtain ⟨a5, b5, c5⟩ := ex 5 (by omega)
    obtain ⟨a6, b6, c6⟩ := ex 6 (by omega)
    obtain ⟨a7, b7, c7⟩ := ex 7 (by omega)
    rw [sm4_n (p := 0) c0 c1 c2 c3 b0 b1 b2 b3] at h1
    rw [sm4_n (p := 4) c4 c5 c6 c7 b4 b5 b6 b7] at h2
    have k1 : Int32.ofNat (a0 * 16777216 + a1 * 65536 + a2 * 256 + a3) = Int32.ofNat 2303741511 := h1.trans (by decide)
    have k2 : Int32.ofNat (a4 * 16777216 + a5 * 65536 + a6 * 256 + a7) = Int32.ofNat 218765834 := h2
    have m1 := of_32 (by omega) (by omega) k1
    have m2 := of_32 (by omega) (by omega) k2
    have f0 : a0 = 137 := by omega
    have f1 : a1 = 80 := by omega
    have f2 : a2 = 78 := by omega
    have f3 : a3 = 71 := by omega
    have f4 : a4 = 13 := by omega
    have f5 : a5 = 10 := by omega
    have f6 : a6 = 26 := by omega
    have f7 : a7 = 10 := by omega
    intro i hi
    have cs : i = 0 ∨ i = 1 ∨ i = 2 ∨ i = 3 ∨ i = 4 ∨ i = 5 ∨ i = 6 ∨ i = 7 := by omega
    rcases cs with e | e | e | e | e | e | e | e <;> subst e
    · rw [b0, f0]; rfl
    · rw [b1, f1]; rfl
    · rw [b2, f2]; rfl
    · rw [b3, f3]; rfl
    · rw [b4, f4]; rfl
    · rw [b5, f5]; rfl
    · rw [b6, f6]; rfl
    · rw [b7, f7]; rfl
  · rintro ⟨h8, h⟩
    refine ⟨h8, ?_, ?_⟩
    · unfold sm4
      rw [h 0 (by omega), h 1 (by omega), h 2 (by omega), h 3 (by omega)]
      decide
    · unfold sm4
      rw [h 4 (by omega), h 5 (by omega), h 6 (by omega), h 7 (by omega)]
      decide
theorem isSigned8 {s : e_S} {g : ps_G} {I : Nat → Int32} {n : Nat} (hT : TbC g) (h : DC s I n) : (sgK I n → fX8_isSigned (e_g s g) 125 = some 1) ∧ (¬ sgK I n → fX8_isSigned (e_g s g) 125 = some 0) := by
  have hn := h.1
  have l1 : q_len (e_g s g) 1 = some (Int32.ofNat 8) := d_len (Or.inr (Or.inl (by decide))) (hT 1 (by decide))
  have go : ∀ m i, i + m = 8 → ((8 ≤ n ∧ ∀ j, i ≤ j → j < 8 → I j = tbV 1 j) → q_lp (fun t => bX8_isSigned_2 (e_g s g) 125 t) (Int32.ofNat i) = some (.inl ())) ∧ ((i ≤ n ∧ ¬ (8 ≤ n ∧ ∀ j, i ≤ j → j < 8 → I j = tbV 1 j)) → q_lp (fun t => bX8_isSigned_2 (e_g s g) 125 t) (Int32.ofNat i) = some (.inr 0)) := by
    intro m
    induction m with
    | zero =>
      intro i hi
      have e : i = 8 := hi
      subst e
      refine ⟨fun _ => lp_end ?_, fun nk => absurd ⟨nk.1, fun j a b => by omega⟩ nk.2⟩
      show bX8_isSigned_2 _ _ _ = _
      unfold bX8_isSigned_2
      rw [l1, ob_n, if_pos (nlr (by omega))]
    | succ m ih =>
      intro i hi
      have z := ih (i + 1) (by omega)
      have r1 : q_aI (e_g s g) 1 (Int32.ofNat i) = some (tbV 1 i) := tb_r hT (by decide) (show i < 8 by omega) (by omega)
      by_cases q : i < n
      · have r2 : q_aI (e_g s g) 137 (Int32.ofNat i) = some (I i) := by rw [tb_rd t137 (by omega) (by omega), h.2.2.2.1 i q]
        have pre : bX8_isSigned_2 (e_g s g) 125 (Int32.ofNat i) = if I i = tbV 1 i then (some (.inl (Int32.ofNat (i + 1)))) else (jX8_isSigned_32_2 (e_g s g)) := by
          unfold bX8_isSigned_2
          rw [l1, ob_n, if_neg (nle (by omega) (by omega)), f125_3, h.2.2.1, ob_n, if_neg (nle q (by omega)), f125_2, h.2.1, ob_n, ob_n, r2, ob_n, r1, ob_n, n_suc]
        by_cases e : I i = tbV 1 i
        · rw [if_pos e] at pre
          rw [lp_go (b := fun t => bX8_isSigned_2 (e_g s g) 125 t) pre]
          refine ⟨fun al => z.1 ⟨al.1, fun j a b => al.2 j (by omega) b⟩, fun nk => z.2 ⟨by omega, fun al => nk.2 ⟨al.1, fun j a b => ?_⟩⟩⟩
          by_cases ej : j = i
          · rw [ej]; exact e
          · exact al.2 j (by omega) b
        · rw [if_neg e] at pre
          exact ⟨fun al => absurd (al.2 i (Nat.le_refl _) (by omega)) e, fun _ => lp_end pre⟩
      · refine ⟨fun al => by have := al.1; omega, fun _ => lp_end ?_⟩
        show bX8_isSigned_2 _ _ _ = _
        unfold bX8_isSigned_2 jX8_isSigned_32_2
        rw [l1, ob_n, if_neg (nle (by omega) (by omega)), f125_3, h.2.2.1, ob_n, if_pos ((n_le (by omega) (by omega)).mpr (by omega))]
  obtain ⟨o1, o2⟩ := go 8 0 (by omega)
  have pr : ∀ r, q_lp (fun t => bX8_isSigned_2 (e_g s g) 125 t) (Int32.ofNat 0) = some r → fX8_isSigned (e_g s g) 125 = Sum.elim (fun r17 => some (1 : Int32)) (fun v18 => some v18) r := fun r hr => by
    have hr' : q_lp (fun t => bX8_isSigned_2 (e_g s g) 125 t) (0 : Int32) = some r := hr
    unfold fX8_isSigned
    rw [hr', ob_n]
  have iff := sg_e h.2.2.2.2
  refine ⟨fun ok => ?_, fun nk => ?_⟩
  · have w := iff.mp ok
    rw [pr _ (o1 ⟨w.1, fun j _ b => w.2 j b⟩), Sum.elim_inl]
  · rw [pr _ (o2 ⟨by omega, fun w => nk (iff.mpr ⟨w.1, fun j b => w.2 j (by omega) b⟩)⟩), Sum.elim_inr]
/-- nothing told yet -/
def Q00 : CQ := (none, (0, fun _ => 0), (0, fun _ => 0), none, (fun _ => 0, 0))
noncomputable def rsQ (Q : CQ) : (Nat × Nat) ⊕ (Nat → Int32) := rsO (Q.1.getD (0, 0, 0)).1 (Q.1.getD (0, 0, 0)).2.1 (Q.1.getD (0, 0, 0)).2.2 Q.2.1.1 (Q.2.2.2.1.getD 0) Q.2.2.2.2.1 Q.2.2.2.2.2
noncomputable def pgO (I : Nat → Int32) (n : Nat) : (Nat × Nat) ⊕ (CQ × (Nat → Int32)) := @ite _ (sgK I n) (Classical.propDecidable _) (Sum.elim .inl (fun Q => Sum.elim .inl (fun P => .inr (Q, P)) (rsQ Q)) (rcO I n (n + 1) 8 Q00)) (.inl (1, 0))
/-- what stays of the class -/
def KP (s s' : e_S) : Prop := (∀ j, ¬ (126 ≤ j ∧ j ≤ 136) → s'.2.1 j = s.2.1 j) ∧ (∀ i k, ¬ i = 125 → ¬ i = 128 → s'.1 i k = s.1 i k) ∧ (∀ i, ¬ i = 125 → s'.2.2.1 i = s.2.2.1 i) ∧ s'.2.2.2 = s.2.2.2
theorem kp_8 {s s' : e_S} (h : K8 s s') : KP s s' := ⟨fun j hj => h.1 j (by
  cases e : [126, 127, 129].contains j with
  | false => rfl
  | true =>
    have m := List.contains_iff_mem.mp e
    have : ∀ j, j ∈ [126, 127, 129] → 126 ≤ j ∧ j ≤ 136 := by decide
    exact absurd (this j m) hj), fun i k a b => h.2.1 i k (fun y => a y.1) (fun y => b y.1), fun i _ => by rw [h.2.2.1], h.2.2.2⟩
theorem kp_x {s s' : e_S} (h : KX s s') : KP s s' := ⟨fun j hj => h.1 j (by
  cases e : [130, 131, 132, 133, 134, 135, 136].contains j with
  | false => rfl
  | true =>
    have m := List.contains_iff_mem.mp e
    have : ∀ j, j ∈ [130, 131, 132, 133, 134, 135, 136] → 126 ≤ j ∧ j ≤ 136 := by decide
    exact absurd (this j m) hj), fun i k a b => h.2.1 i k (fun y => a y.1) (fun y => b y.1), fun i _ => by rw [h.2.2.1], h.2.2.2⟩
theorem kP_tr {s s' s'' : e_S} (h : KP s s') (h' : KP s' s'') : KP s s'' := ⟨fun j hj => (h'.1 j hj).trans (h.1 j hj), fun i k a b => (h'.2.1 i k a b).trans (h.2.1 i k a b), fun i a => (h'.2.2.1 i a).trans (h.2.2.1 i a), h'.2.2.2.trans h.2.2.2⟩
theorem qc_x {s s' : e_S} {Q : CQ} (h : QC s Q) (k : KX s s') : QC s' Q := by
  unfold QC at h ⊢
  rw [k.2.1 125 6 (by decide) (by decide), k.2.1 125 4 (by decide) (by decide), k.2.1 125 5 (by decide) (by decide), k.2.1 125 8 (by decide) (by decide), k.2.1 125 10 (by decide) (by decide), k.2.1 125 11 (by decide) (by decide), k.2.1 128 1 (by decide) (by decide), k.1 126 (by decide), k.1 127 (by decide), k.1 129 (by decide)]
  exact h
/-- how many bytes the rows have -/
def dQ (Q : CQ) : Nat := (Q.1.getD (0, 0, 0)).2.2 * (1 + (Q.1.getD (0, 0, 0)).2.1 * chN (Q.1.getD (0, 0, 0)).1)
theorem read8 {s : e_S} {g : ps_G} {I : Nat → Int32} {n : Nat} (hT : TbC g) (hn : n ≤ 8000) (hI : ∀ i, i < n → s.2.1 137 i = I i) (hB : ∀ i, i < n → rg (I i) 0 255 = true) : ∃ s' v, fX8_read (e_g s g) 125 137 (Int32.ofNat n) = some (v, e_g s' g) ∧ KP s s' ∧ (∀ Q P, pgO I n = .inr (Q, P) → v = 1 ∧ QC s' Q ∧ RO s' (dQ Q) P) ∧ ∀ e p, pgO I n = .inl (e, p) → v = 0 ∧ s'.1 125 0 = Int32.ofNat e ∧ s'.1 125 1 = Int32.ofNat p := by
  have b0 : q_bl 0 = some 0 := rfl
  have mn : fJ9_min_7cf53 (Int32.ofNat n) 8000 = Int32.ofNat n := by
    have c : ¬ (8000 : Int32) < Int32.ofNat n := fun z => by
      have z' : Int32.ofNat 8000 < Int32.ofNat n := z
      have := (n_lt (by omega) (by omega)).mp z'
      omega
    unfold fJ9_min_7cf53
    rw [if_neg c]
  have l1 : ∀ S : e_S, q_len (e_g S g) 137 = some 8000 := fun S => l137
  have l8 : ∀ S : e_S, q_len (e_g S g) 1 = some (Int32.ofNat 8) := fun S => d_len (Or.inr (Or.inl (by decide))) (hT 1 (by decide))
  obtain ⟨S, eS⟩ : ∃ S, S = sF (sF (sF (sF (sF (sF (sR s 125 2 (some 137)) 125 3 (Int32.ofNat n)) 125 6 (-1)) 125 8 0) 125 10 0) 125 11 (-1)) 128 1 0 := ⟨_, rfl⟩
  have kS : KP s S := by
    rw [eS]
    refine ⟨fun j _ => by rw [A_sF, A_sF, A_sF, A_sF, A_sF, A_sF, A_sR], fun i k a b => ?_, fun i a => ?_, by rw [L_sF, L_sF, L_sF, L_sF, L_sF, L_sF, L_sR]⟩
    · rw [F_sF, if_neg (fun y => b y.1), F_sF, if_neg (fun y => a y.1), F_sF, if_neg (fun y => a y.1), F_sF, if_neg (fun y => a y.1), F_sF, if_neg (fun y => a y.1), F_sF, if_neg (fun y => a y.1), F_sR]
    · rw [R_sF, R_sF, R_sF, R_sF, R_sF, R_sF]
      funext k
      rw [R_sR, if_neg (fun y => a y.1)]
  have dS : DC S I n := by
    rw [eS]
    refine ⟨hn, ?_, ?_, fun i hi => ?_, hB⟩
    · rw [R_sF, R_sF, R_sF, R_sF, R_sF, R_sF, R_sR, if_pos ⟨rfl, rfl⟩]
    · rw [F_sF, if_neg (by decide), F_sF, if_neg (by decide), F_sF, if_neg (by decide), F_sF, if_neg (by decide), F_sF, if_neg (by decide), F_sF, if_pos ⟨rfl, rfl⟩]
    · rw [A_sF, A_sF, A_sF, A_sF, A_sF, A_sF, A_sR]; exact hI i hi
  have qS : QC S Q00 := by
    rw [eS]
    refine ⟨Or.inl ⟨rfl, ?_⟩, ⟨by show 0 ≤ 256; omega, ?_, fun i hi => absurd hi (Nat.not_lt_zero i)⟩, ⟨by show 0 ≤ 256; omega, ?_, fun i hi => absurd hi (Nat.not_lt_zero i)⟩, Or.inl ⟨rfl, ?_⟩, ?_, fun i hi => absurd hi (Nat.not_lt_zero i)⟩
    · rw [F_sF, if_neg (by decide), F_sF, if_neg (by decide), F_sF, if_neg (by decide), F_sF, if_neg (by decide), F_sF, if_pos ⟨rfl, rfl⟩]
    · rw [F_sF, if_neg (by decide), F_sF, if_neg (by decide), F_sF, if_neg (by decide), F_sF, if_pos ⟨rfl, rfl⟩]; rfl
    · rw [F_sF, if_neg (by decide), F_sF, if_neg (by decide), F_sF, if_pos ⟨rfl, rfl⟩]; rfl
    · rw [F_sF, if_neg (by decide), F_sF, if_pos ⟨rfl, rfl⟩]
    · rw [F_sF, if_pos ⟨rfl, rfl⟩]; rfl
  have pre : fX8_read (e_g s g) 125 137 (Int32.ofNat n) = Option.bind (fX8_isSigned (e_g S g) 125) fun v12 => if ¬ v12 = 0 then rdX (q_lp (fun t => bX8_read_68 125 t.1 t.2.1 t.2.2.1 t.2.2.2) (Int32.ofNat 8, (-1 : Int32), Int32.ofNat 0, e_g S g)) else (Option.bind (q_ob 8 (e_g S g) 125) fun u105 => q_b2 (fX8_fails (e_g S g) 125 (1 : Int32) (0 : Int32)) fun v106 g107 => Option.bind (q_bl v106) fun v108 => some (v108, g107)) := by
    unfold fX8_read rdX
    rw [w125_2, ob_n, l1, ob_n, mn, w125_3, ob_n, w125_6, ob_n, w125_8, ob_n, w125_10, ob_n, w125_11, ob_n, f125_12, ob_n, ob_n, w128_1, ob_n, ← eS, ob125, ob_n, l8, ob_n]
    rfl
  clear eS
  obtain ⟨i1, i2⟩ := isSigned8 (g := g) hT dS
  have one : ¬ (1 : Int32) = 0 := by decide
  have z00 : ¬ ¬ (0 : Int32) = 0 := fun y => y rfl
  rw [pre]
  by_cases sg : sgK I n
  · have u : pgO I n = Sum.elim .inl (fun Q => Sum.elim .inl (fun P => .inr (Q, P)) (rsQ Q)) (rcO I n (n + 1) 8 Q00) := by
      unfold pgO
      rw [if_pos sg]
    obtain ⟨s1, x1, x2, x3⟩ := rc8 (g := g) (I := I) (n := n) (n + 1) 8 0 Q00 S (by omega) sg.1 (by omega) dS qS (by show 0 ≤ 8; omega)
    rw [i1 sg, ob_n, if_pos one, u]
    cases er : rcO I n (n + 1) 8 Q00 with
    | inl f =>
      obtain ⟨e, a⟩ := f
      obtain ⟨y1, y2, y3⟩ := x3 e a er
      rw [Sum.elim_inl, y1]
      refine ⟨s1, 0, rfl, kP_tr kS (kp_8 x1), fun Q P z => (by cases z), fun e' a' z => ?_⟩
      have z' := Sum.inl.inj z
      have e1 : e = e' := congrArg Prod.fst z'
      have e2 : a = a' := congrArg Prod.snd z'
      rw [← e1, ← e2]
      exact ⟨rfl, y2, y3⟩
    | inr Q =>
      obtain ⟨y1, y2⟩ := x2 Q er
      obtain ⟨b1, b2, b3, b4⟩ := rc_by hB (n + 1) 8 Q00 Q (by show 0 ≤ 8; omega) (fun i hi => absurd hi (Nat.not_lt_zero i)) er
      obtain ⟨⟨c, w, h⟩, hq1⟩ : ∃ t, Q.1 = some t := Option.ne_none_iff_exists'.mp b3
      obtain ⟨a, hq4⟩ : ∃ t, Q.2.2.2.1 = some t := Option.ne_none_iff_exists'.mp b4
      obtain ⟨s2, v, t1, t2, t3, t4⟩ := read180 (g := g) hT y2 hq1 hq4 b1 (by omega)
      have er2 : rsQ Q = rsO c w h Q.2.1.1 a Q.2.2.2.2.1 Q.2.2.2.2.2 := by
        unfold rsQ
        rw [hq1, hq4]
        rfl
      have ed : dQ Q = h * (1 + w * chN c) := by
        unfold dQ
        rw [hq1]
        rfl
      rw [Sum.elim_inr, y1, er2]
      refine ⟨s2, v, t1, kP_tr (kP_tr kS (kp_8 x1)) (kp_x t2), fun Q' P z => ?_, fun e' a' z => ?_⟩
      · cases ers : rsO c w h Q.2.1.1 a Q.2.2.2.2.1 Q.2.2.2.2.2 with
        | inl f => rw [ers, Sum.elim_inl] at z; cases z
        | inr P1 =>
          rw [ers, Sum.elim_inr] at z
          have z' := Sum.inr.inj z
          have e1 : Q = Q' := congrArg Prod.fst z'
          have e2 : P1 = P := congrArg Prod.snd z'
          obtain ⟨m1, m2⟩ := t3 P1 ers
          rw [← e1, ← e2, ed]
          exact ⟨m1, qc_x y2 t2, m2⟩
      · cases ers : rsO c w h Q.2.1.1 a Q.2.2.2.2.1 Q.2.2.2.2.2 with
        | inl f =>
          obtain ⟨e, p⟩ := f
          rw [ers, Sum.elim_inl] at z
          have z' := Sum.inl.inj z
          have e1 : e = e' := congrArg Prod.fst z'
          have e2 : p = a' := congrArg Prod.snd z'
          rw [← e1, ← e2]
          exact t4 e p ers
        | inr P1 => rw [ers, Sum.elim_inr] at z; cases z
  · have u : pgO I n = .inl (1, 0) := by
      unfold pgO
      rw [if_neg sg]
    have fa := fails8 (s := S) (g := g) (e := 1) (a := 0)
    rw [i2 sg, ob_n, if_neg z00, ob125, ob_n, fa, b2_n, b0, ob_n, u]
    refine ⟨_, 0, rfl, kP_tr kS (kp_8 (k8_tr (k8_F (by decide)) (k8_F (by decide)))), fun Q P z => (by cases z), fun e' a' z => ?_⟩
    have z' := Sum.inl.inj z
    have e1 : 1 = e' := congrArg Prod.fst z'
    have e2 : 0 = a' := congrArg Prod.snd z'
    rw [← e1, ← e2]
    exact ⟨rfl, by rw [F_sF, if_neg (by decide), F_sF, if_pos ⟨rfl, rfl⟩]; rfl, by rw [F_sF, if_pos ⟨rfl, rfl⟩]; rfl⟩
