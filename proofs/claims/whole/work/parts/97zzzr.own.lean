-- needs: 97zzzq
/-! ===== png: codes told ===== -/
noncomputable def td3 (L : Nat → Nat) (lit dist b : Nat) : Option (Nat × (Nat → Nat) × Nat × Nat) := if L 256 = 0 then none else @ite _ (okC L lit 0 ∧ okC (fun i => L (lit + i)) dist 1) (Classical.propDecidable _) (some (b, L, lit, dist)) none
noncomputable def td2 (K : Nat → Int32) (n lit dist : Nat) (c : Nat × (Nat → Nat)) : Option (Nat × (Nat → Nat) × Nat × Nat) := @ite _ (okC c.2 19 2) (Classical.propDecidable _) ((rdO K n c.2 (lit + dist) (lit + dist + 1) (0, c.1, fun _ => 0)).bind fun r => td3 r.2.2 lit dist r.2.1) none
noncomputable def tdO (K : Nat → Int32) (n b : Nat) : Option (Nat × (Nat → Nat) × Nat × Nat) := (rbO K n b 5).bind fun a1 => (rbO K n a1.2 5).bind fun a2 => (rbO K n a2.2 4).bind fun a3 => if 286 < a1.1 + 257 ∨ 30 < a2.1 + 1 then none else (clO K n (a3.1 + 4) 0 a3.2 (fun _ => 0)).bind fun c => td2 K n (a1.1 + 257) (a2.1 + 1) c
theorem cn_2 {L : Nat → Nat} {b : Nat} (hb : ¬ b = 0) : ∀ i, cnN L i 0 + cnN L i b ≤ i := by
  intro i
  induction i with
  | zero =>
    have a := cn_le (L := L) (b := 0) 0
    have c := cn_le (L := L) (b := b) 0
    omega
  | succ i ih =>
    rw [cn_s, cn_s]
    by_cases q : L i = 0
    · rw [if_pos q, if_neg (fun z => hb (z.symm.trans q))]; omega
    · rw [if_neg q]; split <;> omega
theorem lf_z {L : Nat → Nat} {n : Nat} (h : n = cnN L n 0) : ∀ k, 0 < lfV L n k := by
  intro k
  induction k with
  | zero => show (0 : Int) < 1; decide
  | succ k ih =>
    have u : lfV L n (k + 1) = if lfV L n k < 0 then lfV L n k else 2 * lfV L n k - cnN L n (k + 1) := rfl
    have c := cn_2 (L := L) (b := k + 1) (by omega) n
    rw [u, if_neg (by omega)]
    omega
/-- complete, or just one code of length 1 -/
def rtC (L : Nat → Nat) (n : Nat) : Prop := lfV L n 15 = 0 ∨ (0 < lfV L n 15 ∧ n = cnN L n 0 + 1 ∧ cnN L n 1 = 1)
theorem ok_rt {L : Nat → Nat} {n st : Nat} (h : ¬ st = 1) : okC L n st ↔ rtC L n := by
  unfold okC rtC
  constructor
  · rintro (z | ⟨z, y | y⟩)
    · exact Or.inl z
    · exact Or.inr ⟨z, y⟩
    · exact absurd y.2 h
  · rintro (z | z)
    · exact Or.inl z
    · exact Or.inr ⟨z.1, Or.inl z.2⟩
theorem ok_r1 {L : Nat → Nat} {n : Nat} : okC L n 1 ↔ (rtC L n ∨ n = cnN L n 0) := by
  unfold okC rtC
  constructor
  · rintro (z | ⟨z, y | y⟩)
    · exact Or.inl (Or.inl z)
    · exact Or.inl (Or.inr ⟨z, y⟩)
    · exact Or.inr y.1
  · rintro ((z | z) | z)
    · exact Or.inl z
    · exact Or.inr ⟨z.1, Or.inl z.2⟩
    · exact Or.inr ⟨lf_z z 15, Or.inr ⟨z, rfl⟩⟩
theorem areRight7 {S : e_S} {g : ps_G} {c0 n : Nat} {L : Nat → Nat} {x : Int32} (tc : e_tb[c0]? = some (2, 16, [])) (hx : x.toInt = lfV L n 15) (hC : ∀ k, k < 16 → S.2.1 c0 k = Int32.ofNat (cnN L n k)) (h1 : 1 ≤ n) (h2 : n ≤ 320) : ∃ v, fX2_areRight (e_g S g) x c0 (Int32.ofNat n) = some v ∧ ((v = 1 ∧ rtC L n) ∨ (v = 0 ∧ ¬ rtC L n)) := by
  have z0 : (0 : Int32).toInt = 0 := by decide
  have b0 : q_bl 0 = some 0 := rfl
  have b1 : q_bl 1 = some 1 := rfl
  have e0 : x = 0 ↔ lfV L n 15 = 0 := by rw [i_eq, hx, z0]
  have l0 : x ≤ 0 ↔ lfV L n 15 ≤ 0 := by rw [i_le, hx, z0]
  have c0n := cn_le (L := L) (b := 0) n
  have c1n := cn_le (L := L) (b := 1) n
  have r0 : q_aI (e_g S g) c0 0 = some (Int32.ofNat (cnN L n 0)) := by
    have := tb_rd (s := S) (g := g) (i := 0) tc (by omega) (by omega)
    rw [hC 0 (by omega)] at this
    exact this
  have r1 : q_aI (e_g S g) c0 1 = some (Int32.ofNat (cnN L n 1)) := by
    have := tb_rd (s := S) (g := g) (i := 1) tc (by omega) (by omega)
    rw [hC 1 (by omega)] at this
    exact this
  have q1 : Int32.ofNat (cnN L n 1) = 1 ↔ cnN L n 1 = 1 := n_eq (b := 1) (by omega) (by omega)
  have sb : Int32.ofNat n - 1 = Int32.ofNat (n - 1) := sb_n (y := 1) (by omega) (by omega)
  have q2 : Int32.ofNat (cnN L n 0) = Int32.ofNat n - 1 ↔ n = cnN L n 0 + 1 := by
    rw [sb, n_eq (by omega) (by omega)]
    omega
  unfold fX2_areRight jX2_areRight_24 jX2_areRight_28 jX2_areRight_29 rtC
  by_cases a1 : lfV L n 15 = 0
  · rw [if_pos (e0.mpr a1), b1, ob_n]
    exact ⟨1, rfl, Or.inl ⟨rfl, Or.inl a1⟩⟩
  · rw [if_neg (fun z => a1 (e0.mp z))]
    by_cases a2 : lfV L n 15 ≤ 0
    · rw [if_pos (l0.mpr a2), b0, ob_n]
      exact ⟨0, rfl, Or.inr ⟨rfl, by rintro (z | z); exact a1 z; omega⟩⟩
    · rw [if_neg (fun z => a2 (l0.mp z)), r1, ob_n]
      by_cases a3 : cnN L n 1 = 1
      · rw [if_neg (fun z => z (q1.mpr a3)), r0, ob_n]
        by_cases a4 : n = cnN L n 0 + 1
        · rw [if_neg (fun z => z (q2.mpr a4)), b1, ob_n]
          exact ⟨1, rfl, Or.inl ⟨rfl, Or.inr ⟨by omega, a4, a3⟩⟩⟩
        · rw [if_pos (fun z => a4 (q2.mp z)), b0, ob_n]
          exact ⟨0, rfl, Or.inr ⟨rfl, by rintro (z | z); exact a1 z; exact a4 z.2.1⟩⟩
      · rw [if_pos (fun z => a3 (q1.mp z)), b0, ob_n]
        exact ⟨0, rfl, Or.inr ⟨rfl, by rintro (z | z); exact a1 z; exact a3 z.2.2⟩⟩
theorem areT {S : e_S} {g : ps_G} {c0 : Nat} {x y : Int32} (tc : e_tb[c0]? = some (2, 16, [])) : ∃ v, fX2_areRight (e_g S g) x c0 y = some v ∧ (v = 0 ∨ v = 1) := by
  have b0 : q_bl 0 = some 0 := rfl
  have b1 : q_bl 1 = some 1 := rfl
  have r0 : q_aI (e_g S g) c0 0 = some (S.2.1 c0 0) := tb_rd (i := 0) tc (by omega) (by omega)
  have r1 : q_aI (e_g S g) c0 1 = some (S.2.1 c0 1) := tb_rd (i := 1) tc (by omega) (by omega)
  unfold fX2_areRight jX2_areRight_24 jX2_areRight_28 jX2_areRight_29
  rw [r1, r0, b0, b1, ob_n, ob_n, ob_n, ob_n]
  by_cases a1 : x = 0
  · rw [if_pos a1]; exact ⟨1, rfl, Or.inr rfl⟩
  · rw [if_neg a1]
    by_cases a2 : x ≤ 0
    · rw [if_pos a2]; exact ⟨0, rfl, Or.inl rfl⟩
    · rw [if_neg a2]
      by_cases a3 : ¬ S.2.1 c0 1 = 1
      · rw [if_pos a3]; exact ⟨0, rfl, Or.inl rfl⟩
      · rw [if_neg a3]
        by_cases a4 : ¬ S.2.1 c0 0 = y - 1
        · rw [if_pos a4]; exact ⟨0, rfl, Or.inl rfl⟩
        · rw [if_neg a4]; exact ⟨1, rfl, Or.inr rfl⟩
/-- any lengths at all -/
theorem lnL {B : Nat → Int32} {f : Nat} : ∃ L : Nat → Nat, ∀ i, B (f + i) &&& 15 = Int32.ofNat (L i) ∧ L i < 16 := by
  refine ⟨fun i => (B (f + i) &&& 15).toInt.toNat, fun i => ?_⟩
  have a := and_r (x := B (f + i)) (m := 15) (k := 15) (by decide) (by decide)
  exact ⟨n_of (by dsimp only; omega), by dsimp only; omega⟩
theorem k3_gc {s s' : e_S} {K : Nat → Int32} {n d b sz : Nat} {O : Nat → Int32} (h : GC s K n d b sz O) (k : Kp [131, 132, 133, 134, 135, 136] 128 [3] s s') (h3 : s'.1 128 3 = 0) : GC s' K n d b sz O := by
  have f : ∀ j, ¬ j = 3 → s'.1 128 j = s.1 128 j := fun j hj => k.2.1 128 j (fun z => hj (by
    have := List.contains_iff_mem.mp z.2
    exact List.mem_singleton.mp this))
  unfold GC PC at h ⊢
  rw [f 1 (by decide), f 2 (by decide), f 6 (by decide), f 5 (by decide), k.1 129 (by decide), k.1 130 (by decide)]
  exact ⟨h.1, h3, h.2.2⟩
theorem k3_bc {s s' : e_S} {K : Nat → Int32} {n b : Nat} (h : PC s K n b) (k : Kp [131, 132, 133, 134, 135, 136] 128 [3] s s') (h3 : s'.1 128 3 = 1) : BC s' K n := by
  have f : ∀ j, ¬ j = 3 → s'.1 128 j = s.1 128 j := fun j hj => k.2.1 128 j (fun z => hj (by
    have := List.contains_iff_mem.mp z.2
    exact List.mem_singleton.mp this))
  refine ⟨h3, b, ?_⟩
  unfold PC at h ⊢
  rw [f 1 (by decide), f 2 (by decide), k.1 129 (by decide)]
  exact h
theorem k3_x {s s' : e_S} (h : Kp [131, 132, 133, 134, 135, 136] 128 [] s s') : Kp [131, 132, 133, 134, 135, 136] 128 [3] s s' := kp_w h (fun _ h => h) (fun j hj => by cases hj)
theorem k3_d {s s' : e_S} (h : Kp [131, 132, 133, 134, 135, 136] 128 [3] s s') : KD s s' := kp_w h (fun j hj => by
  rw [List.contains_iff_mem] at hj ⊢
  have : ∀ j, j ∈ [131, 132, 133, 134, 135, 136] → j ∈ [130, 131, 132, 133, 134, 135, 136] := by decide
  exact this j hj) (fun j hj => by
  rw [List.contains_iff_mem] at hj ⊢
  have : ∀ j, j ∈ [3] → j ∈ [2, 3, 5] := by decide
  exact this j hj)
theorem k3_F {s : e_S} {v : Int32} : Kp [131, 132, 133, 134, 135, 136] 128 [3] s (sF s 128 3 v) := kp_F kp_rf (by decide)
theorem readl7b {S : e_S} {g : ps_G} {x : Int32} (hw : S.1 128 3 = 1) : fX2_readLengths (e_g S g) 128 x = some (e_g S g) := by
  have lp : q_lp (fun t => bX2_readLengths_4 128 x t.1 t.2.1 t.2.2) ((0 : Int32), (0 : Int32), e_g S g) = some (e_g S g) := by
    refine lp_end ?_
    show bX2_readLengths_4 _ _ _ _ _ = _
    unfold bX2_readLengths_4
    dsimp only
    by_cases q : x ≤ 0 ∨ x ≤ 0
    · rw [if_pos q]
    · rw [if_neg q, f128_3, hw, ob_n, if_pos (by decide)]
  unfold fX2_readLengths jX2_readLengths_210
  rw [lp, ob_n]
theorem o_1 {x : Int32} (h : x = 0 ∨ x = 1) : (1 : Int32) ||| x = 1 := by
  rcases h with h | h <;> rw [h] <;> decide
theorem o_0 {x : Int32} (h : x = 0 ∨ x = 1) : (0 : Int32) ||| x = x := by
  rcases h with h | h <;> rw [h] <;> decide
theorem if_01 {p : Prop} [Decidable p] : (if p then (0 : Int32) else 1) = 0 ∨ (if p then (0 : Int32) else 1) = 1 := by
  split
  · exact Or.inl rfl
  · exact Or.inr rfl
theorem bad108 {s : e_S} {g : ps_G} {K : Nat → Int32} {n : Nat} {x1 x2 : Int32} (hT : TbC g) (h : BC s K n) : ∃ s', jX2_toldCodes_108 (e_g s g) 128 x1 x2 = some (e_g s' g) ∧ KD s s' ∧ BC s' K n := by
  have l6 : ∀ S : e_S, q_len (e_g S g) 6 = some 19 := fun S => d_len (Or.inr (Or.inl (by decide))) (hT 6 (by decide))
  obtain ⟨L, hL⟩ := lnL (B := s.2.1 131) (f := 0)
  obtain ⟨left, C, Y, O, o1, -, -⟩ := order7 (s := s) (g := g) (first := 0) (many := 19) (L := L) t132 t133 (by decide) (by decide) (by decide) (by decide) (by decide) (by decide) (by decide) (by omega) (by omega) (by omega) (fun i hi => hL i)
  have o1' : fX2_order (e_g s g) 128 132 133 0 19 = some (left, e_g (xT s 132 133 C Y O) g) := o1
  have kx' := kx (s := s) (c0 := 132) (y0 := 133) (C := C) (Y := Y) (O := O) (by decide) (by decide)
  have bX := bc_k h kx'
  generalize xT s 132 133 C Y O = X at o1' kx' bX
  obtain ⟨v, a1, a2⟩ := areT (S := X) (g := g) (x := left) (y := 19) t132
  have id1 : sF X 128 3 1 = X := by rw [← bX.1, sF_id]
  refine ⟨X, ?_, kd_x kx', bX⟩
  unfold jX2_toldCodes_108
  rw [f128_8, ob_n, ob_n, f128_9, ob_n, ob_n, l6, ob_n, ob128, ob_n, o1', b2_n, f128_3, bX.1, ob_n, f128_8, ob_n, ob_n, l6, ob_n, a1, ob_n, o_1 if_01, w128_3 (Or.inr rfl), ob_n, id1, ob128, ob_n, readl7b bX.1, ob_n, f128_3, bX.1, ob_n, if_neg (by decide)]
theorem good108 {s : e_S} {g : ps_G} {K : Nat → Int32} {n d b sz lit dist : Nat} {O : Nat → Int32} {L : Nat → Nat} (hT : TbC g) (hl : 257 ≤ lit) (hl2 : lit ≤ 286) (hd1 : 1 ≤ dist) (hd2 : dist ≤ 30) (h : GC s K n d b sz O) (hL : Ln (s.2.1 131) L 19) : ∃ s', jX2_toldCodes_108 (e_g s g) 128 (Int32.ofNat lit) (Int32.ofNat dist) = some (e_g s' g) ∧ KD s s' ∧ (∀ b' L' l' d', td2 K n lit dist (b, L) = some (b', L', l', d') → GC s' K n d b' sz O ∧ b ≤ b' ∧ TC s' L' (fun i => L' (l' + i)) l' d') ∧ (td2 K n lit dist (b, L) = none → BC s' K n) := by
  have l6 : ∀ S : e_S, q_len (e_g S g) 6 = some 19 := fun S => d_len (Or.inr (Or.inl (by decide))) (hT 6 (by decide))
  obtain ⟨left, C, Y, O', o1, o2, o3⟩ := order7 (s := s) (g := g) (first := 0) (many := 19) (L := L) t132 t133 (by decide) (by decide) (by decide) (by decide) (by decide) (by decide) (by decide) (by omega) (by omega) (by omega) (fun i hi => by
    rw [Nat.zero_add, (hL i hi).1, and15n (hL i hi).2]
    exact ⟨rfl, (hL i hi).2⟩)
  have o1' : fX2_order (e_g s g) 128 132 133 0 19 = some (left, e_g (xT s 132 133 C Y O') g) := o1
  have kx' := kx (s := s) (c0 := 132) (y0 := 133) (C := C) (Y := Y) (O := O') (by decide) (by decide)
  have gX := gc_k h kx'
  have rcX : (xT s 132 133 C Y O').2.1 132 = C := x_rc (by decide) (by decide)
  have ryX : (xT s 132 133 C Y O').2.1 133 = Y := x_ry (by decide)
  generalize xT s 132 133 C Y O' = X at o1' kx' gX rcX ryX
  obtain ⟨v, a1, a2⟩ := areRight7 (S := X) (g := g) (c0 := 132) (n := 19) (L := L) (x := left) t132 o2 (fun k hk => by rw [rcX]; exact o3.1 k hk) (by omega) (by omega)
  have a1' : fX2_areRight (e_g X g) left 132 19 = some v := a1
  have u : td2 K n lit dist (b, L) = @ite _ (okC L 19 2) (Classical.propDecidable _) ((rdO K n L (lit + dist) (lit + dist + 1) (0, b, fun _ => 0)).bind fun r => td3 r.2.2 lit dist r.2.1) none := rfl
  have ok2 := ok_rt (L := L) (n := 19) (st := 2) (by decide)
  rcases a2 with ⟨v1, rt⟩ | ⟨v0, rt⟩
  · -- the lengths of the lengths are right
    have id0 : sF X 128 3 0 = X := by rw [← gX.2.1, sF_id]
    rw [u, if_pos (ok2.mpr rt)]
    obtain ⟨s2, l1, l2, l3, l4⟩ := readl7 (g := g) (K := K) (n := n) (d := d) (sz := sz) (tot := lit + dist) (O := O) (Lc := L) (by omega) (lit + dist + 1) 0 (0, b, fun _ => 0) X (by dsimp only; omega) (by dsimp only; omega) (by dsimp only; omega) gX (by rw [rcX, ryX]; exact o3) (fun j hj => absurd hj (Nat.not_lt_zero j))
    have eT : Int32.ofNat lit + Int32.ofNat dist = Int32.ofNat (lit + dist) := n_add
    have rl : fX2_readLengths (e_g X g) 128 (Int32.ofNat lit + Int32.ofNat dist) = some (e_g s2 g) := by
      have l1' : q_lp (fun x => bX2_readLengths_4 128 (Int32.ofNat (lit + dist)) x.1 x.2.1 x.2.2) ((0 : Int32), (0 : Int32), e_g X g) = some (e_g s2 g) := l1
      unfold fX2_readLengths jX2_readLengths_210
      rw [eT, l1', ob_n]
    have pre : jX2_toldCodes_108 (e_g s g) 128 (Int32.ofNat lit) (Int32.ofNat dist) = Option.bind (q_fI 2 3 (e_g s2 g) 128) fun v60 => if v60 = 0 then (Option.bind (q_fR 2 7 (e_g s2 g) 128) fun v62 => Option.bind (v62) fun a63 => Option.bind (q_aI (e_g s2 g) a63 (256 : Int32)) fun v64 => Option.bind (q_sB 2 3 (e_g s2 g) 128 (if ¬ v64 = 0 then (0 : Int32) else (1 : Int32))) fun g68 => Option.bind (q_fR 2 8 g68 128) fun v69 => Option.bind (v69) fun a70 => Option.bind (q_fR 2 9 g68 128) fun v71 => Option.bind (v71) fun a72 => Option.bind (q_ob 2 g68 128) fun u73 => q_b2 (fX2_order g68 128 a70 a72 (0 : Int32) (Int32.ofNat lit)) fun v74 g75 => Option.bind (q_fI 2 3 g75 128) fun v76 => Option.bind (q_fR 2 8 g75 128) fun v77 => Option.bind (v77) fun a78 => Option.bind (fX2_areRight g75 v74 a78 (Int32.ofNat lit)) fun v79 => Option.bind (q_sB 2 3 g75 128 (v76 ||| (if ¬ v79 = 0 then (0 : Int32) else (1 : Int32)))) fun g83 => Option.bind (q_fR 2 10 g83 128) fun v84 => Option.bind (v84) fun a85 => Option.bind (q_fR 2 11 g83 128) fun v86 => Option.bind (v86) fun a87 => Option.bind (q_ob 2 g83 128) fun u88 => q_b2 (fX2_order g83 128 a85 a87 (Int32.ofNat lit) (Int32.ofNat dist)) fun v89 g90 => Option.bind (q_fI 2 3 g90 128) fun v91 => Option.bind (q_fR 2 10 g90 128) fun v92 => Option.bind (v92) fun a93 => Option.bind (fX2_areRight g90 v89 a93 (Int32.ofNat dist)) fun v94 => if ¬ v94 = 0 then (jX2_toldCodes_283 g90 128 v91) else (Option.bind (q_fR 2 10 g90 128) fun v97 => Option.bind (v97) fun a98 => Option.bind (q_aI g90 a98 (0 : Int32)) fun v99 => if v99 = (Int32.ofNat dist) then (jX2_toldCodes_283 g90 128 v91) else (jX2_toldCodes_284 g90 128 v91 (1 : Int32)))) else (some (e_g s2 g)) := by
      unfold jX2_toldCodes_108
      rw [f128_8, ob_n, ob_n, f128_9, ob_n, ob_n, l6, ob_n, ob128, ob_n, o1', b2_n, f128_3, gX.2.1, ob_n, f128_8, ob_n, ob_n, l6, ob_n, a1', ob_n, v1, if_pos (show ¬ (1 : Int32) = 0 by decide), show (0 : Int32) ||| 0 = 0 by decide, w128_3 (Or.inl rfl), ob_n, id0, ob128, ob_n, rl, ob_n]
    cases er : rdO K n L (lit + dist) (lit + dist + 1) (0, b, fun _ => 0) with
    | none =>
      have bS := l4 er
      rw [ob_no]
      refine ⟨s2, ?_, kp_tr (kd_x kx') (kl_d l2), fun b' L' l' d' z => (by cases z), fun _ => bS⟩
      rw [pre, f128_3, bS.1, ob_n, if_neg (by decide)]
    | some r =>
      obtain ⟨r0, rb, RL⟩ := r
      obtain ⟨y1, y2, y3⟩ := l3 (r0, rb, RL) er
      have y1' : GC s2 K n d rb sz O := y1
      have y2' : b ≤ rb := y2
      have y3' : Ln (s2.2.1 131) RL (lit + dist) := y3
      rw [ob_n]
      dsimp only
      -- the two orders
      have r256 : q_aI (e_g s2 g) 131 256 = some (Int32.ofNat (RL 256)) := by
        have := tb_rd (s := s2) (g := g) (i := 256) t131 (by omega) (by omega)
        rw [(y3' 256 (by omega)).1] at this
        exact this
      have c256 : Int32.ofNat (RL 256) = 0 ↔ RL 256 = 0 := by
        have := (y3' 256 (by omega)).2
        exact n_eq (b := 0) (by omega) (by omega)
      obtain ⟨e, he, he1⟩ : ∃ e : Int32, e = (if ¬ Int32.ofNat (RL 256) = 0 then (0 : Int32) else (1 : Int32)) ∧ (e = 0 ∨ e = 1) := ⟨_, rfl, if_01⟩
      have A1 : (sF s2 128 3 e).2.1 131 = s2.2.1 131 := by rw [A_sF]
      obtain ⟨left2, C2, Y2, O2, p1, p2, p3⟩ := order7 (s := sF s2 128 3 e) (g := g) (first := 0) (many := lit) (L := RL) t132 t133 (by decide) (by decide) (by decide) (by decide) (by decide) (by decide) (by decide) (by omega) (by omega) (by omega) (fun i hi => by
        rw [A1, Nat.zero_add, (y3' i (by omega)).1, and15n (y3' i (by omega)).2]
        exact ⟨rfl, (y3' i (by omega)).2⟩)
      have p1' : fX2_order (e_g (sF s2 128 3 e) g) 128 132 133 0 (Int32.ofNat lit) = some (left2, e_g (xT (sF s2 128 3 e) 132 133 C2 Y2 O2) g) := p1
      have kx2 := kx (s := sF s2 128 3 e) (c0 := 132) (y0 := 133) (C := C2) (Y := Y2) (O := O2) (by decide) (by decide)
      have rc2 : (xT (sF s2 128 3 e) 132 133 C2 Y2 O2).2.1 132 = C2 := x_rc (by decide) (by decide)
      have ry2 : (xT (sF s2 128 3 e) 132 133 C2 Y2 O2).2.1 133 = Y2 := x_ry (by decide)
      have rl2 : (xT (sF s2 128 3 e) 132 133 C2 Y2 O2).2.1 131 = s2.2.1 131 := by rw [x_rl (by decide) (by decide) (by decide), A_sF]
      have e2 : (xT (sF s2 128 3 e) 132 133 C2 Y2 O2).1 128 3 = e := by
        unfold xT
        rw [F_sA, F_sA, F_sA, F_sF, if_pos ⟨rfl, rfl⟩]
      have k2 : Kp [131, 132, 133, 134, 135, 136] 128 [3] s2 (xT (sF s2 128 3 e) 132 133 C2 Y2 O2) := kp_tr k3_F (k3_x kx2)
      generalize xT (sF s2 128 3 e) 132 133 C2 Y2 O2 = X2 at p1' kx2 rc2 ry2 rl2 e2 k2
      obtain ⟨w, b1, b2⟩ := areRight7 (S := X2) (g := g) (c0 := 132) (n := lit) (L := RL) (x := left2) t132 p2 (fun k hk => by rw [rc2]; exact p3.1 k hk) (by omega) (by omega)
      obtain ⟨f, hf, hf1⟩ : ∃ f : Int32, f = e ||| (if ¬ w = 0 then (0 : Int32) else (1 : Int32)) ∧ (f = 0 ∨ f = 1) := ⟨_, rfl, by
        rcases he1 with z | z
        · rw [z, o_0 if_01]; exact if_01
        · rw [z, o_1 if_01]; exact Or.inr rfl⟩
      have A2 : (sF X2 128 3 f).2.1 131 = s2.2.1 131 := by rw [A_sF, rl2]
      obtain ⟨left3, C3, Y3, O3, q1, q2, q3⟩ := order7 (s := sF X2 128 3 f) (g := g) (first := lit) (many := dist) (L := fun i => RL (lit + i)) t134 t135 (by decide) (by decide) (by decide) (by decide) (by decide) (by decide) (by decide) (by omega) (by omega) (by omega) (fun i hi => by
        rw [A2, (y3' (lit + i) (by omega)).1, and15n (y3' (lit + i) (by omega)).2]
        exact ⟨rfl, (y3' (lit + i) (by omega)).2⟩)
      have kx3 := kx (s := sF X2 128 3 f) (c0 := 134) (y0 := 135) (C := C3) (Y := Y3) (O := O3) (by decide) (by decide)
      have rc3 : (xT (sF X2 128 3 f) 134 135 C3 Y3 O3).2.1 134 = C3 := x_rc (by decide) (by decide)
      have ry3 : (xT (sF X2 128 3 f) 134 135 C3 Y3 O3).2.1 135 = Y3 := x_ry (by decide)
      have rk3 : (xT (sF X2 128 3 f) 134 135 C3 Y3 O3).2.1 132 = C2 ∧ (xT (sF X2 128 3 f) 134 135 C3 Y3 O3).2.1 133 = Y2 := by
        rw [x_rl (j := 132) (by decide) (by decide) (by decide), x_rl (j := 133) (by decide) (by decide) (by decide), A_sF, rc2, ry2]
        exact ⟨rfl, rfl⟩
      have e3 : (xT (sF X2 128 3 f) 134 135 C3 Y3 O3).1 128 3 = f := by
        unfold xT
        rw [F_sA, F_sA, F_sA, F_sF, if_pos ⟨rfl, rfl⟩]
      have k3 : Kp [131, 132, 133, 134, 135, 136] 128 [3] s2 (xT (sF X2 128 3 f) 134 135 C3 Y3 O3) := kp_tr k2 (kp_tr k3_F (k3_x kx3))
      generalize xT (sF X2 128 3 f) 134 135 C3 Y3 O3 = X3 at q1 kx3 rc3 ry3 rk3 e3 k3
      obtain ⟨y, z1, z2⟩ := areRight7 (S := X3) (g := g) (c0 := 134) (n := dist) (L := fun i => RL (lit + i)) (x := left3) t134 q2 (fun k hk => by rw [rc3]; exact q3.1 k hk) (by omega) (by omega)
      have r0' : q_aI (e_g X3 g) 134 0 = some (Int32.ofNat (cnN (fun i => RL (lit + i)) dist 0)) := by
        have := tb_rd (s := X3) (g := g) (i := 0) t134 (by omega) (by omega)
        rw [rc3, q3.1 0 (by omega)] at this
        exact this
      have cz := cn_le (L := fun i => RL (lit + i)) (b := 0) dist
      have cz2 : Int32.ofNat (cnN (fun i => RL (lit + i)) dist 0) = Int32.ofNat dist ↔ dist = cnN (fun i => RL (lit + i)) dist 0 := by
        rw [n_eq (by omega) (by omega)]
        omega
      have z3 : (rtC (fun i => RL (lit + i)) dist ∨ dist = cnN (fun i => RL (lit + i)) dist 0) ↔ okC (fun i => RL (lit + i)) dist 1 := ok_r1.symm
      have pre2 : jX2_toldCodes_108 (e_g s g) 128 (Int32.ofNat lit) (Int32.ofNat dist) = if ¬ y = 0 then (jX2_toldCodes_283 (e_g X3 g) 128 f) else (if Int32.ofNat (cnN (fun i => RL (lit + i)) dist 0) = (Int32.ofNat dist) then (jX2_toldCodes_283 (e_g X3 g) 128 f) else (jX2_toldCodes_284 (e_g X3 g) 128 f (1 : Int32))) := by
        rw [pre, f128_3, y1'.2.1, ob_n, if_pos rfl, f128_7, ob_n, ob_n, r256, ob_n, ← he, w128_3 he1, ob_n, f128_8, ob_n, ob_n, f128_9, ob_n, ob_n, ob128, ob_n, p1', b2_n, f128_3, e2, ob_n, f128_8, ob_n, ob_n, b1, ob_n, ← hf, w128_3 hf1, ob_n, f128_10, ob_n, ob_n, f128_11, ob_n, ob_n, ob128, ob_n, q1, b2_n, f128_3, e3, ob_n, f128_10, ob_n, ob_n, z1, ob_n, ob_n, ob_n, r0', ob_n]
      have kTot : KD s X3 := kp_tr (kp_tr (kd_x kx') (kl_d l2)) (k3_d k3)
      have u3 : td3 RL lit dist rb = if RL 256 = 0 then none else @ite _ (okC RL lit 0 ∧ okC (fun i => RL (lit + i)) dist 1) (Classical.propDecidable _) (some (rb, RL, lit, dist)) none := rfl
      have ok0 := ok_rt (L := RL) (n := lit) (st := 0) (by decide)
      by_cases od : okC (fun i => RL (lit + i)) dist 1
      · have fin : jX2_toldCodes_108 (e_g s g) 128 (Int32.ofNat lit) (Int32.ofNat dist) = some (e_g X3 g) := by
          have idf : sF X3 128 3 f = X3 := by rw [← e3, sF_id]
          have of : f ||| 0 = f := by rcases hf1 with z | z <;> rw [z] <;> decide
          have j283 : jX2_toldCodes_283 (e_g X3 g) 128 f = some (e_g X3 g) := by
            unfold jX2_toldCodes_283 jX2_toldCodes_284
            rw [of, w128_3 hf1, ob_n, idf]
          rw [pre2, j283]
          by_cases y0 : ¬ y = 0
          · rw [if_pos y0]
          · rw [if_neg y0]
            rcases z2 with z2 | z2
            · exact absurd (by rw [z2.1]; decide) y0
            · rw [if_pos (cz2.mpr ((z3.mpr od).elim (fun q => absurd q z2.2) id))]
        by_cases z256 : RL 256 = 0
        · have e1 : e = 1 := by rw [he, if_neg (fun z => z (c256.mpr z256))]
          have f1 : f = 1 := by rw [hf, e1, o_1 if_01]
          rw [u3, if_pos z256]
          exact ⟨X3, fin, kTot, fun b' L' l' d' z => (by cases z), fun _ => k3_bc y1'.1 k3 (e3.trans f1)⟩
        · have e0 : e = 0 := by rw [he, if_pos (fun z => z256 (c256.mp z))]
          rw [u3, if_neg z256]
          rcases b2 with ⟨w1, rt2⟩ | ⟨w0, rt2⟩
          · have f0 : f = 0 := by rw [hf, e0, w1]; decide
            rw [if_pos ⟨ok0.mpr rt2, od⟩]
            refine ⟨X3, fin, kTot, fun b' L' l' d' z => ?_, fun z => (by cases z)⟩
            have z' := Option.some.inj z
            have t1 : rb = b' := congrArg Prod.fst z'
            have t2 : RL = L' := congrArg (fun x => x.2.1) z'
            have t3 : lit = l' := congrArg (fun x => x.2.2.1) z'
            have t4 : dist = d' := congrArg (fun x => x.2.2.2) z'
            rw [← t1, ← t2, ← t3, ← t4]
            refine ⟨k3_gc y1' k3 (e3.trans f0), y2', by omega, by omega, ?_, ?_⟩
            · rw [rk3.1, rk3.2]
              exact p3
            · rw [rc3, ry3]
              exact q3
          · have f1 : f = 1 := by rw [hf, e0, w0]; decide
            rw [if_neg (fun z => rt2 (ok0.mp z.1))]
            exact ⟨X3, fin, kTot, fun b' L' l' d' z => (by cases z), fun _ => k3_bc y1'.1 k3 (e3.trans f1)⟩
      · have nrt : ¬ rtC (fun i => RL (lit + i)) dist := fun z => od (z3.mp (Or.inl z))
        have ncn : ¬ dist = cnN (fun i => RL (lit + i)) dist 0 := fun z => od (z3.mp (Or.inr z))
        have fin : jX2_toldCodes_108 (e_g s g) 128 (Int32.ofNat lit) (Int32.ofNat dist) = some (e_g (sF X3 128 3 1) g) := by
          have of : f ||| 1 = 1 := by rcases hf1 with z | z <;> rw [z] <;> decide
          have y0 : y = 0 := z2.elim (fun z => absurd z.2 nrt) (fun z => z.1)
          rw [pre2, if_neg (fun z => z y0), if_neg (fun z => ncn (cz2.mp z))]
          unfold jX2_toldCodes_284
          rw [of, w128_3 (Or.inr rfl), ob_n]
        have nn : td3 RL lit dist rb = none := by
          rw [u3]
          by_cases z256 : RL 256 = 0
          · rw [if_pos z256]
          · rw [if_neg z256, if_neg (fun z => od z.2)]
        rw [nn]
        exact ⟨sF X3 128 3 1, fin, kp_tr kTot (k3_d k3_F), fun b' L' l' d' z => (by cases z), fun _ => k3_bc y1'.1 (kp_tr k3 k3_F) (by rw [F_sF, if_pos ⟨rfl, rfl⟩])⟩
  · have bX : BC (sF X 128 3 1) K n := bc_w gX.1
    rw [u, if_neg (fun z => rt (ok2.mp z))]
    refine ⟨sF X 128 3 1, ?_, kp_tr (kd_x kx') (k3_d k3_F), fun b' L' l' d' z => (by cases z), fun _ => bX⟩
    unfold jX2_toldCodes_108
    rw [f128_8, ob_n, ob_n, f128_9, ob_n, ob_n, l6, ob_n, ob128, ob_n, o1', b2_n, f128_3, gX.2.1, ob_n, f128_8, ob_n, ob_n, l6, ob_n, a1', ob_n, v0, if_neg (fun z => z rfl), show (0 : Int32) ||| 1 = 1 by decide, w128_3 (Or.inr rfl), ob_n, ob128, ob_n, readl7b bX.1, ob_n, f128_3, bX.1, ob_n, if_neg (by decide)]
