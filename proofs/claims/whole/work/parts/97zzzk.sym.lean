-- needs: 97zzzj
/-! ===== png: symbols till the end of a block ===== -/
def rbO (K : Nat → Int32) (n b m : Nat) : Option (Nat × Nat) := if b + m ≤ 8 * n then some (rbN K b m, b + m) else none
theorem rbO_s {K : Nat → Int32} {n b m v b' : Nat} (h : rbO K n b m = some (v, b')) : b + m ≤ 8 * n ∧ v = rbN K b m ∧ b' = b + m := by
  unfold rbO at h
  by_cases q : b + m ≤ 8 * n
  · rw [if_pos q] at h
    have h' := Option.some.inj h
    exact ⟨q, (congrArg Prod.fst h').symm, (congrArg Prod.snd h').symm⟩
  · rw [if_neg q] at h
    cases h
theorem rbO_n {K : Nat → Int32} {n b m : Nat} (h : rbO K n b m = none) : ¬ b + m ≤ 8 * n := by
  intro q
  unfold rbO at h
  rw [if_pos q] at h
  cases h
/-- bits read: right, or wrong -/
theorem rb7 {s : e_S} {g : ps_G} {K : Nat → Int32} {n d b sz m : Nat} {O : Nat → Int32} (h : GC s K n d b sz O) (hm : m ≤ 16) : (∀ v b', rbO K n b m = some (v, b') → fX2_readBits (e_g s g) 128 (Int32.ofNat m) = some (Int32.ofNat v, e_g (sF s 128 2 (Int32.ofNat b')) g) ∧ GC (sF s 128 2 (Int32.ofNat b')) K n d b' sz O ∧ v < 2 ^ m) ∧ (rbO K n b m = none → ∃ v s', fX2_readBits (e_g s g) 128 (Int32.ofNat m) = some (v, e_g s' g) ∧ BC s' K n ∧ KC s s') := by
  have z := readBits7 (g := g) h.1 hm
  refine ⟨fun v b' hq => ?_, fun hq => ?_⟩
  · obtain ⟨q, e1, e2⟩ := rbO_s hq
    rw [if_pos q] at z
    rw [e1, e2]
    exact ⟨z, gc_b h q, rb_lt m⟩
  · rw [if_neg (rbO_n hq)] at z
    exact ⟨0, _, z, bc_w (pc_b h.1 (Nat.le_refl _)), kp_tr (kcF (by decide)) (kcF (by decide))⟩
theorem rb12 {s : e_S} {g : ps_G} {K : Nat → Int32} {n d b sz m : Nat} {O : Nat → Int32} (h : GM s K n d b sz O) (hm : m ≤ 16) : (∀ v b', rbO K n b m = some (v, b') → fX12_low (e_g s g) 139 (Int32.ofNat m) = some (Int32.ofNat v, e_g (sF s 139 88 (Int32.ofNat b')) g) ∧ GM (sF s 139 88 (Int32.ofNat b')) K n d b' sz O ∧ v < 2 ^ m) ∧ (rbO K n b m = none → ∃ v s', fX12_low (e_g s g) 139 (Int32.ofNat m) = some (v, e_g s' g) ∧ s'.1 139 87 = 1 ∧ KM s s') := by
  obtain ⟨v, z⟩ := low12 (g := g) h.1 h.2.1 hm
  refine ⟨fun v b' hq => ?_, fun hq => ?_⟩
  · obtain ⟨q, e1, e2⟩ := rbO_s hq
    rw [if_pos q] at z
    rw [e1, e2]
    exact ⟨z, gm_b h q, rb_lt m⟩
  · rw [if_neg (rbO_n hq)] at z
    exact ⟨v, _, z, by rw [F_sF, if_pos ⟨rfl, rfl⟩], kp_tr (kmF (by decide)) (kmF (by decide))⟩
/-- bits read in a wrong state -/
theorem rb7b {s : e_S} {g : ps_G} {K : Nat → Int32} {n m : Nat} (h : BC s K n) (hm : m ≤ 16) : ∃ v s', fX2_readBits (e_g s g) 128 (Int32.ofNat m) = some (v, e_g s' g) ∧ BC s' K n ∧ KC s s' := by
  obtain ⟨hw, b, hP⟩ := h
  have z := readBits7 (g := g) hP hm
  by_cases q : b + m ≤ 8 * n
  · rw [if_pos q] at z
    exact ⟨_, _, z, ⟨by rw [F_sF, if_neg (by decide)]; exact hw, _, pc_b hP q⟩, kcF (by decide)⟩
  · rw [if_neg q] at z
    exact ⟨_, _, z, bc_w (pc_b hP (Nat.le_refl _)), kp_tr (kcF (by decide)) (kcF (by decide))⟩
theorem low12b {s : e_S} {g : ps_G} {m : Nat} (hi : s.1 139 87 = 1) (hm : m ≤ 16) : ∃ v, fX12_low (e_g s g) 139 (Int32.ofNat m) = some (v, e_g s g) := by
  obtain ⟨v, hv⟩ := low12i (g := g) hi hm m 0 0 (by omega)
  refine ⟨v, ?_⟩
  unfold fX12_low
  have hv' : q_lp (fun t => bX12_low_4 139 (Int32.ofNat m) t.1 t.2.1 t.2.2) ((0 : Int32), (0 : Int32), e_g s g) = some (v, e_g s g) := hv
  rw [hv', ob_n]
theorem decode7b {s : e_S} {g : ps_G} {c0 y0 : Nat} (hw : s.1 128 3 = 1) : fX2_decode (e_g s g) 128 c0 y0 = some (0, e_g s g) := by
  have id1 : sF s 128 3 1 = s := by rw [← hw, sF_id]
  have lp : q_lp (fun t => bX2_decode_11 128 c0 y0 t.1 t.2.1 t.2.2.1 t.2.2.2.1 t.2.2.2.2) ((0 : Int32), (0 : Int32), (0 : Int32), (1 : Int32), e_g s g) = some (.inl (e_g s g)) := by
    refine lp_end ?_
    show bX2_decode_11 _ _ _ _ _ _ _ _ = _
    unfold bX2_decode_11
    dsimp only
    rw [if_neg (by decide), f128_3, hw, ob_n, if_pos (by decide)]
  unfold fX2_decode
  rw [lp, ob_n]
  show jX2_decode_104 (e_g s g) 128 = _
  unfold jX2_decode_104
  rw [w128_3 (Or.inr rfl), ob_n, id1]
theorem decoded12b {s : e_S} {g : ps_G} {x : Int32} (hw : s.1 139 87 = 1) : fX12_decoded (e_g s g) 139 x = some (0, e_g s g) := by
  have id1 : sF s 139 87 1 = s := by rw [← hw, sF_id]
  have lp : q_lp (fun t => bX12_decoded_10 139 x t.1 t.2.1 t.2.2.1 t.2.2.2.1 t.2.2.2.2) ((0 : Int32), (0 : Int32), (0 : Int32), (1 : Int32), e_g s g) = some (.inl (e_g s g)) := by
    refine lp_end ?_
    show bX12_decoded_10 _ _ _ _ _ _ _ = _
    unfold bX12_decoded_10
    dsimp only
    rw [if_neg (by decide), f139_87, hw, ob_n, if_pos (by decide)]
  unfold fX12_decoded
  rw [lp, ob_n]
  show jX12_decoded_95 (e_g s g) 139 = _
  unfold jX12_decoded_95
  rw [w139_87 (Or.inr rfl), ob_n, id1]
/-- the two tables of the class, of the reference -/
def TC (s : e_S) (L0 L1 : Nat → Nat) (n0 n1 : Nat) : Prop := n0 ≤ 288 ∧ n1 ≤ 32 ∧ Tb (s.2.1 132) (s.2.1 133) L0 n0 ∧ Tb (s.2.1 134) (s.2.1 135) L1 n1
def TM (s : e_S) (L0 L1 : Nat → Nat) (n0 n1 : Nat) : Prop := n0 ≤ 320 ∧ n1 ≤ 320 ∧ Tb (fun k => s.2.1 191 (16 * 0 + k)) (fun k => s.2.1 192 (320 * 0 + k)) L0 n0 ∧ Tb (fun k => s.2.1 191 (16 * 1 + k)) (fun k => s.2.1 192 (320 * 1 + k)) L1 n1
theorem tc_k {s s' : e_S} {L0 L1 : Nat → Nat} {n0 n1 : Nat} (h : TC s L0 L1 n0 n1) (k : KC s s') : TC s' L0 L1 n0 n1 := by
  unfold TC at h ⊢
  rw [k.1 132 (by decide), k.1 133 (by decide), k.1 134 (by decide), k.1 135 (by decide)]
  exact h
theorem tm_k {s s' : e_S} {L0 L1 : Nat → Nat} {n0 n1 : Nat} (h : TM s L0 L1 n0 n1) (k : KM s s') : TM s' L0 L1 n0 n1 := by
  unfold TM at h ⊢
  rw [k.1 191 (by decide), k.1 192 (by decide)]
  exact h
theorem dec0 {s : e_S} {g : ps_G} {K : Nat → Int32} {n d b sz n0 n1 : Nat} {O : Nat → Int32} {L0 L1 : Nat → Nat} (h : GC s K n d b sz O) (t : TC s L0 L1 n0 n1) : (∀ v b', dcN L0 n0 K n 15 0 0 b = some (v, b') → fX2_decode (e_g s g) 128 132 133 = some (Int32.ofNat v, e_g (sF s 128 2 (Int32.ofNat b')) g) ∧ GC (sF s 128 2 (Int32.ofNat b')) K n d b' sz O ∧ v < n0 ∧ b < b') ∧ (dcN L0 n0 K n 15 0 0 b = none → ∃ v s', fX2_decode (e_g s g) 128 132 133 = some (v, e_g s' g) ∧ BC s' K n ∧ KC s s') := by
  have z := decode7 (g := g) (ly := 288) t.1 t.1 (by omega) t.2.2.1 (fun S hS k hk => by rw [tb_rd t132 hk (by omega), hS]) (fun S hS => ⟨l133, fun k hk => by rw [tb_rd t133 hk (by omega), hS]⟩) h.1 h.2.1
  refine ⟨fun v b' hq => ?_, fun hq => ?_⟩
  · have i := dc_i (L := L0) 15 0 0 b (by omega) (by omega) v b' hq
    exact ⟨z.1 v b' hq, gc_b h i.2.2, i.1, i.2.1⟩
  · obtain ⟨v, s', r1, r2, r3, r4⟩ := z.2 hq
    exact ⟨v, s', r1, ⟨r2, r3⟩, kc_w r4⟩
theorem dec1 {s : e_S} {g : ps_G} {K : Nat → Int32} {n d b sz n0 n1 : Nat} {O : Nat → Int32} {L0 L1 : Nat → Nat} (h : GC s K n d b sz O) (t : TC s L0 L1 n0 n1) : (∀ v b', dcN L1 n1 K n 15 0 0 b = some (v, b') → fX2_decode (e_g s g) 128 134 135 = some (Int32.ofNat v, e_g (sF s 128 2 (Int32.ofNat b')) g) ∧ GC (sF s 128 2 (Int32.ofNat b')) K n d b' sz O ∧ v < n1 ∧ b < b') ∧ (dcN L1 n1 K n 15 0 0 b = none → ∃ v s', fX2_decode (e_g s g) 128 134 135 = some (v, e_g s' g) ∧ BC s' K n ∧ KC s s') := by
  have n1' := t.2.1
  have z := decode7 (g := g) (ly := 32) (by omega) t.2.1 (by omega) t.2.2.2 (fun S hS k hk => by rw [tb_rd t134 hk (by omega), hS]) (fun S hS => ⟨l135, fun k hk => by rw [tb_rd t135 hk (by omega), hS]⟩) h.1 h.2.1
  refine ⟨fun v b' hq => ?_, fun hq => ?_⟩
  · have i := dc_i (L := L1) 15 0 0 b (by omega) (by omega) v b' hq
    exact ⟨z.1 v b' hq, gc_b h i.2.2, i.1, i.2.1⟩
  · obtain ⟨v, s', r1, r2, r3, r4⟩ := z.2 hq
    exact ⟨v, s', r1, ⟨r2, r3⟩, kc_w r4⟩
theorem dec12 {s : e_S} {g : ps_G} {K : Nat → Int32} {n d b sz n0 st : Nat} {O : Nat → Int32} {L0 : Nat → Nat} (h : GM s K n d b sz O) (hst : st < 3) (hn : n0 ≤ 320) (t : Tb (fun k => s.2.1 191 (16 * st + k)) (fun k => s.2.1 192 (320 * st + k)) L0 n0) : (∀ v b', dcN L0 n0 K n 15 0 0 b = some (v, b') → fX12_decoded (e_g s g) 139 (Int32.ofNat st) = some (Int32.ofNat v, e_g (sF s 139 88 (Int32.ofNat b')) g) ∧ GM (sF s 139 88 (Int32.ofNat b')) K n d b' sz O ∧ v < n0 ∧ b < b') ∧ (dcN L0 n0 K n 15 0 0 b = none → ∃ v s', fX12_decoded (e_g s g) 139 (Int32.ofNat st) = some (v, e_g s' g) ∧ s'.1 139 87 = 1 ∧ KM s s') := by
  have z := decoded12 (g := g) hn hst t h.1 h.2.1
  refine ⟨fun v b' hq => ?_, fun hq => ?_⟩
  · have i := dc_i (L := L0) 15 0 0 b (by omega) (by omega) v b' hq
    exact ⟨z.1 v b' hq, gm_b h i.2.2, i.1, i.2.1⟩
  · obtain ⟨v, s', r1, r2, r4⟩ := z.2 hq
    exact ⟨v, s', r1, r2, km_w r4⟩
theorem xb_2 {i : Nat} (hi : i < 29) : tbV 2 i = Int32.ofNat (xbV 2 i) ∧ xbV 2 i ≤ 258 := by
  have : ∀ i : Fin 29, tbV 2 i.1 = Int32.ofNat (xbV 2 i.1) ∧ xbV 2 i.1 ≤ 258 := by decide +kernel
  exact this ⟨i, hi⟩
theorem xb_4 {i : Nat} (hi : i < 30) : tbV 4 i = Int32.ofNat (xbV 4 i) ∧ 1 ≤ xbV 4 i ∧ xbV 4 i ≤ 24577 ∧ xbV 5 i ≤ 13 := by
  have : ∀ i : Fin 30, tbV 4 i.1 = Int32.ofNat (xbV 4 i.1) ∧ 1 ≤ xbV 4 i.1 ∧ xbV 4 i.1 ≤ 24577 ∧ xbV 5 i.1 ≤ 13 := by decide +kernel
  exact this ⟨i, hi⟩
/-- a length and a distance: what is copied -/
def fcO (K : Nat → Int32) (n d : Nat) (L1 : Nat → Nat) (n1 k : Nat) (t : Nat × Nat × (Nat → Int32)) : Option (Nat × Nat × (Nat → Int32)) :=
  (rbO K n t.1 (xbV 3 k)).bind fun q => (dcN L1 n1 K n 15 0 0 q.2).bind fun f => if 29 < f.1 then none else (rbO K n f.2 (xbV 5 f.1)).bind fun e => if t.2.1 < xbV 4 f.1 + e.1 then none else if d < t.2.1 + (xbV 2 k + q.1) then none else some (e.2, t.2.1 + (xbV 2 k + q.1), cyV t.2.2 t.2.1 (xbV 4 f.1 + e.1) (xbV 2 k + q.1))
theorem ob_no {α β : Type} {f : α → Option β} : Option.bind none f = none := rfl
theorem copy7 {s : e_S} {g : ps_G} {K : Nat → Int32} {n d k n0 n1 : Nat} {L0 L1 : Nat → Nat} {t : Nat × Nat × (Nat → Int32)} (hT : TbC g) (hk : k < 29) (h : GC s K n d t.1 t.2.1 t.2.2) (tc : TC s L0 L1 n0 n1) : ∃ s', fX2_copy (e_g s g) 128 (Int32.ofNat k) = some (e_g s' g) ∧ KC s s' ∧ (∀ t', fcO K n d L1 n1 k t = some t' → GC s' K n d t'.1 t'.2.1 t'.2.2 ∧ t.1 ≤ t'.1) ∧ (fcO K n d L1 n1 k t = none → BC s' K n) := by
  have x3 := xb_3 (i := k) hk
  have x2 := xb_2 (i := k) hk
  have c0 : ¬ Int32.ofNat k < 0 := n_neg (by omega)
  have c1 : Int32.ofNat k < (29 : Int32) := show _ < Int32.ofNat 29 from (n_lt (by omega) (by omega)).mpr hk
  have R := rb7 (g := g) (m := xbV 3 k) h (by omega)
  cases eq : rbO K n t.1 (xbV 3 k) with
  | none =>
    obtain ⟨v, s1, r1, r2, r3⟩ := R.2 eq
    have dd := decode7b (g := g) (c0 := 134) (y0 := 135) r2.1
    have id1 : sF s1 128 3 1 = s1 := by rw [← r2.1, sF_id]
    refine ⟨s1, ?_, r3, fun t' z => ?_, fun _ => r2⟩
    · unfold fX2_copy jX2_copy_66
      rw [if_neg c0, tb_l2 hT, ob_n, if_pos c1, tb_2 hT hk, ob_n, tb_3 hT hk, ob_n, ob128, ob_n, x3.1, r1, b2_n, f128_10, ob_n, ob_n, f128_11, ob_n, ob_n, ob128, ob_n, dd, b2_n, f128_3, r2.1, ob_n, if_pos (Or.inl (by decide)), w128_3 (Or.inr rfl), ob_n, id1]
    · unfold fcO at z
      rw [eq, ob_no] at z
      cases z
  | some q =>
    obtain ⟨q1, q2⟩ := q
    obtain ⟨r1, r2, r3⟩ := R.1 q1 q2 eq
    have rs := rbO_s eq
    have p5 : (2 : Nat) ^ xbV 3 k ≤ 2 ^ 5 := Nat.pow_le_pow_right (by omega) (by omega)
    have p5' : (2 : Nat) ^ 5 = 32 := by decide
    have k1 : KC s (sF s 128 2 (Int32.ofNat q2)) := kcF (by decide)
    have D := dec1 (g := g) r2 (tc_k tc k1)
    have pre : fX2_copy (e_g s g) 128 (Int32.ofNat k) = q_b2 (fX2_decode (e_g (sF s 128 2 (Int32.ofNat q2)) g) 128 134 135) fun v15 g16 => Option.bind (q_fI 2 3 g16 128) fun v17 => if (¬ v17 = 0) ∨ (v15 < 0) then (jX2_copy_66 g16 128) else (Option.bind (q_len g16 4) fun v21 => if v15 < v21 then (Option.bind (q_aI g16 4 v15) fun v23 => Option.bind (q_aI g16 5 v15) fun v24 => Option.bind (q_ob 2 g16 128) fun u25 => q_b2 (fX2_readBits g16 128 v24) fun v26 g27 => Option.bind (q_fI 2 3 g27 128) fun v28 => Option.bind (q_fI 2 5 g27 128) fun v29 => Option.bind (q_sB 2 3 g27 128 (v28 ||| (if (v23 + v26) ≤ v29 then (0 : Int32) else (1 : Int32)))) fun g33 => Option.bind (q_lp (fun s => bX2_copy_115 128 (Int32.ofNat (xbV 2 k + q1)) (v23 + v26) s.1 s.2) ((0 : Int32), g33)) fun s48 => jX2_copy_149 s48) else (jX2_copy_66 g16 128)) := by
      unfold fX2_copy
      rw [if_neg c0, tb_l2 hT, ob_n, if_pos c1, tb_2 hT hk, ob_n, tb_3 hT hk, ob_n, ob128, ob_n, x3.1, r1, b2_n, f128_10, ob_n, ob_n, f128_11, ob_n, ob_n, ob128, ob_n, x2.1, n_add]
    cases ef : dcN L1 n1 K n 15 0 0 q2 with
    | none =>
      obtain ⟨v, s1, d1, d2, d3⟩ := D.2 ef
      have id1 : sF s1 128 3 1 = s1 := by rw [← d2.1, sF_id]
      refine ⟨s1, ?_, kp_tr k1 d3, fun t' z => ?_, fun _ => d2⟩
      · rw [pre, d1, b2_n, f128_3, d2.1, ob_n, if_pos (Or.inl (by decide))]
        unfold jX2_copy_66
        rw [w128_3 (Or.inr rfl), ob_n, id1]
      · unfold fcO at z
        rw [eq, ob_n, ef, ob_no] at z
        cases z
    | some f =>
      obtain ⟨f1, f2⟩ := f
      obtain ⟨d1, d2, d3, d4⟩ := D.1 f1 f2 ef
      rw [sF_sF] at d1 d2
      have n1' := tc.2.1
      have k2 : KC s (sF s 128 2 (Int32.ofNat f2)) := kcF (by decide)
      have w3 : (sF s 128 2 (Int32.ofNat f2)).1 128 3 = 0 := d2.2.1
      by_cases q29 : 29 < f1
      · refine ⟨sF (sF s 128 2 (Int32.ofNat f2)) 128 3 1, ?_, kp_tr k2 (kcF (by decide)), fun t' z => ?_, fun _ => bc_w d2.1⟩
        · have c2 : ¬ ((¬ (0 : Int32) = 0) ∨ Int32.ofNat f1 < 0) := by
            rintro (z | z)
            · exact z rfl
            · exact n_neg (by omega) z
          have c3 : ¬ Int32.ofNat f1 < (30 : Int32) := fun z => by
            have z' : Int32.ofNat f1 < Int32.ofNat 30 := z
            have := (n_lt (by omega) (by omega)).mp z'
            omega
          rw [pre, d1, b2_n, f128_3, w3, ob_n, if_neg c2, tb_l4 hT, ob_n, if_neg c3]
          unfold jX2_copy_66
          rw [w128_3 (Or.inr rfl), ob_n]
        · unfold fcO at z
          rw [eq, ob_n, ef, ob_n, if_pos q29] at z
          cases z
      · have f30 : f1 < 30 := by omega
        have x4 := xb_4 f30
        have x5 := xb_5 f30
        have c2 : ¬ ((¬ (0 : Int32) = 0) ∨ Int32.ofNat f1 < 0) := by
          rintro (z | z)
          · exact z rfl
          · exact n_neg (by omega) z
        have c3 : Int32.ofNat f1 < (30 : Int32) := show _ < Int32.ofNat 30 from (n_lt (by omega) (by omega)).mpr f30
        have E := rb7 (g := g) (m := xbV 5 f1) d2 (by omega)
        cases ee : rbO K n f2 (xbV 5 f1) with
        | none =>
          obtain ⟨v, s1, e1, e2, e3⟩ := E.2 ee
          have id1 : sF s1 128 3 1 = s1 := by rw [← e2.1, sF_id]
          have o1 : ∀ x : Int32, x = 0 ∨ x = 1 → (1 : Int32) ||| x = 1 := by
            intro x hx
            rcases hx with hx | hx <;> rw [hx] <;> decide
          refine ⟨s1, ?_, kp_tr k2 e3, fun t' z => ?_, fun _ => e2⟩
          · rw [pre, d1, b2_n, f128_3, w3, ob_n, if_neg c2, tb_l4 hT, ob_n, if_pos c3, tb_4 hT f30, ob_n, tb_5 hT f30, ob_n, ob128, ob_n, x5.1, e1, b2_n, f128_3, e2.1, ob_n, f128_5, ob_n, o1 _ (by split; exact Or.inl rfl; exact Or.inr rfl), w128_3 (Or.inr rfl), ob_n, id1]
            have lp : ∀ x : Int32, q_lp (fun t => bX2_copy_115 128 (Int32.ofNat (xbV 2 k + q1)) x t.1 t.2) ((0 : Int32), e_g s1 g) = some (e_g s1 g) := fun x => by
              refine lp_end ?_
              show bX2_copy_115 _ _ _ _ _ = _
              unfold bX2_copy_115
              by_cases qq : Int32.ofNat (xbV 2 k + q1) ≤ 0
              · rw [if_pos qq]
              · rw [if_neg qq, f128_3, e2.1, ob_n, if_pos (by decide)]
            rw [lp, ob_n]
            rfl
          · unfold fcO at z
            rw [eq, ob_n, ef, ob_n, if_neg q29, ee, ob_no] at z
            cases z
        | some e =>
          obtain ⟨e1, e2⟩ := e
          obtain ⟨g1, g2, g3⟩ := E.1 e1 e2 ee
          rw [sF_sF] at g1 g2
          have es := rbO_s ee
          have k3 : KC s (sF s 128 2 (Int32.ofNat e2)) := kcF (by decide)
          have pp : (2 : Nat) ^ xbV 5 f1 ≤ 2 ^ 13 := Nat.pow_le_pow_right (by omega) (by omega)
          have pp' : (2 : Nat) ^ 13 = 8192 := by decide
          obtain ⟨hP, hw, f6, hd, f5, hz, hO⟩ := id g2
          have u : fcO K n d L1 n1 k t = if t.2.1 < xbV 4 f1 + e1 then none else if d < t.2.1 + (xbV 2 k + q1) then none else some (e2, t.2.1 + (xbV 2 k + q1), cyV t.2.2 t.2.1 (xbV 4 f1 + e1) (xbV 2 k + q1)) := by
            unfold fcO
            rw [eq, ob_n, ef, ob_n, if_neg q29, ee, ob_n]
          have pre2 : fX2_copy (e_g s g) 128 (Int32.ofNat k) = Option.bind (q_sB 2 3 (e_g (sF s 128 2 (Int32.ofNat e2)) g) 128 (0 ||| (if Int32.ofNat (xbV 4 f1 + e1) ≤ Int32.ofNat t.2.1 then (0 : Int32) else (1 : Int32)))) fun g33 => Option.bind (q_lp (fun s => bX2_copy_115 128 (Int32.ofNat (xbV 2 k + q1)) (Int32.ofNat (xbV 4 f1 + e1)) s.1 s.2) ((0 : Int32), g33)) fun s48 => jX2_copy_149 s48 := by
            rw [pre, d1, b2_n, f128_3, w3, ob_n, if_neg c2, tb_l4 hT, ob_n, if_pos c3, tb_4 hT f30, ob_n, tb_5 hT f30, ob_n, ob128, ob_n, x5.1, g1, b2_n, f128_3, hw, ob_n, f128_5, f5, ob_n, x4.1, n_add]
          by_cases qd : t.2.1 < xbV 4 f1 + e1
          · rw [u, if_pos qd]
            have cd : ¬ Int32.ofNat (xbV 4 f1 + e1) ≤ Int32.ofNat t.2.1 := nle qd (by omega)
            refine ⟨sF (sF s 128 2 (Int32.ofNat e2)) 128 3 1, ?_, kp_tr k3 (kcF (by decide)), fun t' z => (by cases z), fun _ => bc_w hP⟩
            have lp : q_lp (fun t => bX2_copy_115 128 (Int32.ofNat (xbV 2 k + q1)) (Int32.ofNat (xbV 4 f1 + e1)) t.1 t.2) ((0 : Int32), e_g (sF (sF s 128 2 (Int32.ofNat e2)) 128 3 1) g) = some (e_g (sF (sF s 128 2 (Int32.ofNat e2)) 128 3 1) g) := by
              refine lp_end ?_
              show bX2_copy_115 _ _ _ _ _ = _
              unfold bX2_copy_115
              by_cases qq : Int32.ofNat (xbV 2 k + q1) ≤ 0
              · rw [if_pos qq]
              · rw [if_neg qq, f128_3, F_sF, if_pos ⟨rfl, rfl⟩, ob_n, if_pos (by decide)]
            rw [pre2, if_neg cd, show (0 : Int32) ||| 1 = 1 by decide, w128_3 (Or.inr rfl), ob_n, lp, ob_n]
            rfl
          · have cd : Int32.ofNat (xbV 4 f1 + e1) ≤ Int32.ofNat t.2.1 := (n_le (by omega) (by omega)).mpr (by omega)
            have id0 : sF (sF s 128 2 (Int32.ofNat e2)) 128 3 0 = sF s 128 2 (Int32.ofNat e2) := by
              have hw' : (sF s 128 2 (Int32.ofNat e2)).1 128 3 = 0 := hw
              rw [← hw', sF_id]
            obtain ⟨s', l1, l2, l3, l4⟩ := copyl7 (g := g) (K := K) (n := n) (d := d) (b := e2) (sz := t.2.1) (dist := xbV 4 f1 + e1) (many := xbV 2 k + q1) (O := t.2.2) (by omega) (by omega) (by omega) (by omega) (xbV 2 k + q1) 0 (sF s 128 2 (Int32.ofNat e2)) (by omega) g2
            have l1' : q_lp (fun t => bX2_copy_115 128 (Int32.ofNat (xbV 2 k + q1)) (Int32.ofNat (xbV 4 f1 + e1)) t.1 t.2) ((0 : Int32), e_g (sF s 128 2 (Int32.ofNat e2)) g) = some (e_g s' g) := l1
            refine ⟨s', ?_, kp_tr k3 l2, fun t' z => ?_, fun z => ?_⟩
            · rw [pre2, if_pos cd, show (0 : Int32) ||| 0 = 0 by decide, w128_3 (Or.inl rfl), ob_n, id0, l1', ob_n]
              rfl
            · rw [u, if_neg qd] at z
              by_cases q7 : d < t.2.1 + (xbV 2 k + q1)
              · rw [if_pos q7] at z
                cases z
              · rw [if_neg q7] at z
                have z' := Option.some.inj z
                rw [← z']
                exact ⟨l3 (by omega), by show t.1 ≤ e2; omega⟩
            · rw [u, if_neg qd] at z
              by_cases q7 : d < t.2.1 + (xbV 2 k + q1)
              · exact l4 (by omega)
              · rw [if_neg q7] at z
                cases z
