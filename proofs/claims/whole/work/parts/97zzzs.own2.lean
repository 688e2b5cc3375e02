-- needs: 97zzzr
/-- told codes of the class, behind the three numbers -/
noncomputable def tlQ (G : ps_G) (v2 v5 v8 : Int32) : Option ps_G := Option.bind (q_fI 2 3 G 128) fun v10 => Option.bind (q_sB 2 3 G 128 (v10 ||| (if ¬ ((286 : Int32) < (v2 + (257 : Int32))) ∧ ((v5 + (1 : Int32)) ≤ (30 : Int32)) then (0 : Int32) else (1 : Int32)))) fun g15 => Option.bind (q_fR 2 7 g15 128) fun v16 => Option.bind (v16) fun a17 => Option.bind (fJ7_fill_53178 g15 a17 (0 : Int32)) fun v18 => Option.bind (q_lp (fun s => bX2_toldCodes_64 128 (v2 + (257 : Int32)) (v5 + (1 : Int32)) (v8 + (4 : Int32)) s.1 s.2) ((0 : Int32), v18)) fun s40 => jX2_toldCodes_108 s40 128 (v2 + (257 : Int32)) (v5 + (1 : Int32))
theorem tl_u {G : ps_G} : fX2_toldCodes G 128 = Option.bind (q_ob 2 G 128) fun u1 => q_b2 (fX2_readBits G 128 (5 : Int32)) fun v2 g3 => Option.bind (q_ob 2 g3 128) fun u4 => q_b2 (fX2_readBits g3 128 (5 : Int32)) fun v5 g6 => Option.bind (q_ob 2 g6 128) fun u7 => q_b2 (fX2_readBits g6 128 (4 : Int32)) fun v8 g9 => tlQ g9 v2 v5 v8 := by
  unfold fX2_toldCodes tlQ
  rfl
theorem tlb {S : e_S} {g : ps_G} {K : Nat → Int32} {n : Nat} {v2 v5 v8 : Int32} (hT : TbC g) {e : Int32} (he : e = 0 ∨ e = 1) (h0 : S.1 128 3 = e) (h : BC (sF S 128 3 1) K n) (hc : e = 1 ∨ ¬ (¬ ((286 : Int32) < (v2 + (257 : Int32))) ∧ ((v5 + (1 : Int32)) ≤ (30 : Int32)))) : ∃ s', tlQ (e_g S g) v2 v5 v8 = some (e_g s' g) ∧ KD S s' ∧ BC s' K n := by
  have l6 : ∀ S : e_S, q_len (e_g S g) 6 = some 19 := fun S => d_len (Or.inr (Or.inl (by decide))) (hT 6 (by decide))
  have o1 : e ||| (if ¬ ((286 : Int32) < (v2 + (257 : Int32))) ∧ ((v5 + (1 : Int32)) ≤ (30 : Int32)) then (0 : Int32) else (1 : Int32)) = 1 := by
    rcases hc with z | z
    · rw [z, o_1 if_01]
    · rw [if_neg z]
      rcases he with y | y <;> rw [y] <;> decide
  have kk : Kp [131, 132, 133, 134, 135, 136] 128 [] (sF S 128 3 1) (sA (sF S 128 3 1) 131 (fl ((sF S 128 3 1).2.1 131) 320 0)) := kp_A kp_rf (by decide)
  have bS := bc_k h kk
  have fi : fJ7_fill_53178 (e_g (sF S 128 3 1) g) 131 0 = some (e_g (sA (sF S 128 3 1) 131 (fl ((sF S 128 3 1).2.1 131) 320 0)) g) := fillI t131 (by decide) (by decide)
  generalize sA (sF S 128 3 1) 131 (fl ((sF S 128 3 1).2.1 131) 320 0) = Z at kk bS fi
  obtain ⟨s', r1, r2, r3⟩ := bad108 (g := g) (x1 := v2 + 257) (x2 := v5 + 1) hT bS
  have lp : q_lp (fun s => bX2_toldCodes_64 128 (v2 + (257 : Int32)) (v5 + (1 : Int32)) (v8 + (4 : Int32)) s.1 s.2) ((0 : Int32), e_g Z g) = some (e_g Z g) := by
    refine lp_end ?_
    show bX2_toldCodes_64 _ _ _ _ _ _ = _
    unfold bX2_toldCodes_64
    dsimp only
    by_cases q1 : v8 + 4 ≤ 0
    · rw [if_pos q1]
    · rw [if_neg q1, l6, ob_n, if_neg (by decide), f128_3, bS.1, ob_n, if_pos (by decide)]
  refine ⟨s', ?_, kp_tr (kp_tr (k3_d k3_F) (kd_x kk)) r2, r3⟩
  unfold tlQ
  rw [f128_3, h0, ob_n, o1, w128_3 (Or.inr rfl), ob_n, f128_7, ob_n, ob_n, fi, ob_n, lp, ob_n, r1]
theorem told7 {s : e_S} {g : ps_G} {K : Nat → Int32} {n d b sz : Nat} {O : Nat → Int32} (hT : TbC g) (h : GC s K n d b sz O) : ∃ s', fX2_toldCodes (e_g s g) 128 = some (e_g s' g) ∧ KD s s' ∧ (∀ b' L' l' d', tdO K n b = some (b', L', l', d') → GC s' K n d b' sz O ∧ b ≤ b' ∧ TC s' L' (fun i => L' (l' + i)) l' d') ∧ (tdO K n b = none → BC s' K n) := by
  have p5 : (2 : Nat) ^ 5 = 32 := by decide
  have p4 : (2 : Nat) ^ 4 = 16 := by decide
  have b1 : ∀ S : e_S, BC S K n → BC (sF S 128 3 1) K n := fun S hS => by
    have id1 : sF S 128 3 1 = S := by rw [← hS.1, sF_id]
    rw [id1]; exact hS
  have u : tdO K n b = (rbO K n b 5).bind fun a1 => (rbO K n a1.2 5).bind fun a2 => (rbO K n a2.2 4).bind fun a3 => if 286 < a1.1 + 257 ∨ 30 < a2.1 + 1 then none else (clO K n (a3.1 + 4) 0 a3.2 (fun _ => 0)).bind fun c => td2 K n (a1.1 + 257) (a2.1 + 1) c := rfl
  have R1 := rb7 (g := g) (m := 5) h (by omega)
  -- all goes wrong from a wrong state on
  have w2 : ∀ (S : e_S) (v2 : Int32), BC S K n → ∃ s', (q_b2 (fX2_readBits (e_g S g) 128 (5 : Int32)) fun v5 g6 => Option.bind (q_ob 2 g6 128) fun u7 => q_b2 (fX2_readBits g6 128 (4 : Int32)) fun v8 g9 => tlQ g9 v2 v5 v8) = some (e_g s' g) ∧ KD S s' ∧ BC s' K n := fun S v2 hS => by
    obtain ⟨v5, s1, r1, r2, r3⟩ := rb7b (g := g) (m := 5) hS (by omega)
    obtain ⟨v8, s2, q1, q2, q3⟩ := rb7b (g := g) (m := 4) r2 (by omega)
    obtain ⟨s', t1, t2, t3⟩ := tlb (g := g) (v2 := v2) (v5 := v5) (v8 := v8) hT (Or.inr rfl) q2.1 (b1 s2 q2) (Or.inl rfl)
    have r1' : fX2_readBits (e_g S g) 128 5 = some (v5, e_g s1 g) := r1
    have q1' : fX2_readBits (e_g s1 g) 128 4 = some (v8, e_g s2 g) := q1
    exact ⟨s', by rw [r1', b2_n, ob128, ob_n, q1', b2_n, t1], kp_tr (kp_tr (kd_c r3) (kd_c q3)) t2, t3⟩
  rw [tl_u, ob128, ob_n]
  cases e1 : rbO K n b 5 with
  | none =>
    obtain ⟨v, s1, r1, r2, r3⟩ := R1.2 e1
    have r1' : fX2_readBits (e_g s g) 128 5 = some (v, e_g s1 g) := r1
    obtain ⟨s', t1, t2, t3⟩ := w2 s1 v r2
    rw [u, e1, ob_no]
    refine ⟨s', ?_, kp_tr (kd_c r3) t2, fun b' L' l' d' z => (by cases z), fun _ => t3⟩
    rw [r1', b2_n, ob128, ob_n, t1]
  | some a1 =>
    obtain ⟨x1, y1⟩ := a1
    obtain ⟨r1, r2, r3⟩ := R1.1 x1 y1 e1
    have rs1 := rbO_s e1
    have r1' : fX2_readBits (e_g s g) 128 5 = some (Int32.ofNat x1, e_g (sF s 128 2 (Int32.ofNat y1)) g) := r1
    have R2 := rb7 (g := g) (m := 5) r2 (by omega)
    rw [r1', b2_n, ob128, ob_n]
    rw [u, e1, ob_n]
    dsimp only
    cases e2 : rbO K n y1 5 with
    | none =>
      obtain ⟨v, s1, q1, q2, q3⟩ := R2.2 e2
      have q1' : fX2_readBits (e_g (sF s 128 2 (Int32.ofNat y1)) g) 128 5 = some (v, e_g s1 g) := q1
      obtain ⟨v8, s2, j1, j2, j3⟩ := rb7b (g := g) (m := 4) q2 (by omega)
      have j1' : fX2_readBits (e_g s1 g) 128 4 = some (v8, e_g s2 g) := j1
      obtain ⟨s', t1, t2, t3⟩ := tlb (g := g) (v2 := Int32.ofNat x1) (v5 := v) (v8 := v8) hT (Or.inr rfl) j2.1 (b1 s2 j2) (Or.inl rfl)
      rw [ob_no]
      refine ⟨s', ?_, kp_tr (kp_tr (kp_tr (kd_c (kcF (by decide))) (kd_c q3)) (kd_c j3)) t2, fun b' L' l' d' z => (by cases z), fun _ => t3⟩
      rw [q1', b2_n, ob128, ob_n, j1', b2_n, t1]
    | some a2 =>
      obtain ⟨x2, y2⟩ := a2
      obtain ⟨q1, q2, q3⟩ := R2.1 x2 y2 e2
      have rs2 := rbO_s e2
      rw [sF_sF] at q1 q2
      have q1' : fX2_readBits (e_g (sF s 128 2 (Int32.ofNat y1)) g) 128 5 = some (Int32.ofNat x2, e_g (sF s 128 2 (Int32.ofNat y2)) g) := q1
      have R3 := rb7 (g := g) (m := 4) q2 (by omega)
      rw [q1', b2_n, ob128, ob_n, ob_n]
      dsimp only
      cases e3 : rbO K n y2 4 with
      | none =>
        obtain ⟨v, s1, j1, j2, j3⟩ := R3.2 e3
        have j1' : fX2_readBits (e_g (sF s 128 2 (Int32.ofNat y2)) g) 128 4 = some (v, e_g s1 g) := j1
        obtain ⟨s', t1, t2, t3⟩ := tlb (g := g) (v2 := Int32.ofNat x1) (v5 := Int32.ofNat x2) (v8 := v) hT (Or.inr rfl) j2.1 (b1 s1 j2) (Or.inl rfl)
        rw [ob_no]
        refine ⟨s', ?_, kp_tr (kp_tr (kd_c (kcF (by decide))) (kd_c j3)) t2, fun b' L' l' d' z => (by cases z), fun _ => t3⟩
        rw [j1', b2_n, t1]
      | some a3 =>
        obtain ⟨x3, y3⟩ := a3
        obtain ⟨j1, j2, j3⟩ := R3.1 x3 y3 e3
        have rs3 := rbO_s e3
        rw [sF_sF] at j1 j2
        have j1' : fX2_readBits (e_g (sF s 128 2 (Int32.ofNat y2)) g) 128 4 = some (Int32.ofNat x3, e_g (sF s 128 2 (Int32.ofNat y3)) g) := j1
        have eL : Int32.ofNat x1 + (257 : Int32) = Int32.ofNat (x1 + 257) := n_add (m := 257)
        have eD : Int32.ofNat x2 + (1 : Int32) = Int32.ofNat (x2 + 1) := n_suc
        have eT : Int32.ofNat x3 + (4 : Int32) = Int32.ofNat (x3 + 4) := n_add (m := 4)
        have c1 : (286 : Int32) < Int32.ofNat (x1 + 257) ↔ 286 < x1 + 257 := n_lt (n := 286) (by omega) (by omega)
        have c2 : Int32.ofNat (x2 + 1) ≤ (30 : Int32) ↔ x2 + 1 ≤ 30 := n_le (m := 30) (by omega) (by omega)
        rw [j1', b2_n, ob_n]
        dsimp only
        by_cases q : 286 < x1 + 257 ∨ 30 < x2 + 1
        · rw [if_pos q]
          obtain ⟨s', t1, t2, t3⟩ := tlb (S := sF s 128 2 (Int32.ofNat y3)) (g := g) (v2 := Int32.ofNat x1) (v5 := Int32.ofNat x2) (v8 := Int32.ofNat x3) hT (Or.inl rfl) j2.2.1 (bc_w j2.1) (Or.inr (by
            rw [eL, eD, c1, c2]
            omega))
          exact ⟨s', t1, kp_tr (kd_c (kcF (by decide))) t2, fun b' L' l' d' z => (by cases z), fun _ => t3⟩
        · rw [if_neg q]
          have id0 : sF (sF s 128 2 (Int32.ofNat y3)) 128 3 0 = sF s 128 2 (Int32.ofNat y3) := by
            have hw : (sF s 128 2 (Int32.ofNat y3)).1 128 3 = 0 := j2.2.1
            rw [← hw, sF_id]
          have k0 : KC s (sF s 128 2 (Int32.ofNat y3)) := kcF (by decide)
          generalize sF s 128 2 (Int32.ofNat y3) = S at j2 id0 k0
          have kk : Kp [131, 132, 133, 134, 135, 136] 128 [] S (sA S 131 (fl (S.2.1 131) 320 0)) := kp_A kp_rf (by decide)
          have fi : fJ7_fill_53178 (e_g S g) 131 0 = some (e_g (sA S 131 (fl (S.2.1 131) 320 0)) g) := fillI t131 (by decide) (by decide)
          have gZ := gc_k j2 kk
          have lZ : Ln ((sA S 131 (fl (S.2.1 131) 320 0)).2.1 131) (fun _ => 0) 19 := fun j hj => by
            rw [A_sA, if_pos rfl, fl_lt (by omega)]
            exact ⟨rfl, show 0 < 16 by decide⟩
          generalize sA S 131 (fl (S.2.1 131) 320 0) = Z at kk fi gZ lZ
          obtain ⟨s3, l1, l2, l3, l4⟩ := clo7 (g := g) (K := K) (n := n) (d := d) (sz := sz) (told := x3 + 4) (O := O) (x1 := Int32.ofNat (x1 + 257)) (x2 := Int32.ofNat (x2 + 1)) hT (by omega) (x3 + 4) 0 y3 (fun _ => 0) Z (by omega) gZ lZ
          have l1' : q_lp (fun s => bX2_toldCodes_64 128 (Int32.ofNat (x1 + 257)) (Int32.ofNat (x2 + 1)) (Int32.ofNat (x3 + 4)) s.1 s.2) ((0 : Int32), e_g Z g) = some (e_g s3 g) := l1
          have pre : tlQ (e_g S g) (Int32.ofNat x1) (Int32.ofNat x2) (Int32.ofNat x3) = jX2_toldCodes_108 (e_g s3 g) 128 (Int32.ofNat (x1 + 257)) (Int32.ofNat (x2 + 1)) := by
            unfold tlQ
            rw [f128_3, j2.2.1, ob_n, eL, eD, eT, if_pos ⟨fun z => q (Or.inl (c1.mp z)), c2.mpr (by omega)⟩, show (0 : Int32) ||| 0 = 0 by decide, w128_3 (Or.inl rfl), ob_n, id0, f128_7, ob_n, ob_n, fi, ob_n, l1', ob_n]
          rw [pre]
          cases ec : clO K n (x3 + 4) 0 y3 (fun _ => 0) with
          | none =>
            obtain ⟨s', t1, t2, t3⟩ := bad108 (g := g) (x1 := Int32.ofNat (x1 + 257)) (x2 := Int32.ofNat (x2 + 1)) hT (l4 ec)
            rw [ob_no]
            exact ⟨s', t1, kp_tr (kp_tr (kp_tr (kd_c k0) (kd_x kk)) l2) t2, fun b' L' l' d' z => (by cases z), fun _ => t3⟩
          | some c =>
            obtain ⟨cb, cL⟩ := c
            obtain ⟨m1, m2, m3⟩ := l3 cb cL ec
            obtain ⟨s', t1, t2, t3, t4⟩ := good108 (g := g) (lit := x1 + 257) (dist := x2 + 1) hT (by omega) (by omega) (by omega) (by omega) m1 m3
            rw [ob_n]
            refine ⟨s', t1, kp_tr (kp_tr (kp_tr (kd_c k0) (kd_x kk)) l2) t2, fun b' L' l' d' z => ?_, t4⟩
            obtain ⟨z1, z2, z3⟩ := t3 b' L' l' d' z
            exact ⟨z1, by omega, z3⟩
/-- the reference -/
theorem bad44 {S : e_S} {g : ps_G} {x1 x2 x3 : Int32} (h : S.1 139 87 = 1) : jX12_ownCodes_44 (e_g S g) 139 x1 x2 x3 = some (e_g S g) := by
  unfold jX12_ownCodes_44
  rw [f139_87, h, ob_n, if_neg (by decide)]
theorem bad315 {S : e_S} {g : ps_G} {x1 x2 : Int32} (h : S.1 139 87 = 1) : jX12_ownCodes_299 (e_g S g) 139 x1 x2 = some (e_g S g) := by
  have id1 : sF S 139 87 1 = S := by rw [← h, sF_id]
  have r : q_aI (e_g S g) 193 256 = some (S.2.1 193 256) := tb_rd (i := 256) t193 (by omega) (by omega)
  have b315 : jX12_ownCodes_315 (e_g S g) 139 x1 x2 = some (e_g S g) := by
    unfold jX12_ownCodes_315
    rw [f139_87, h, ob_n, if_neg (by decide)]
  unfold jX12_ownCodes_299
  rw [f139_92, ob_n, ob_n, r, ob_n]
  by_cases q : ¬ S.2.1 193 256 = 0
  · rw [if_pos q, b315]
  · rw [if_neg q, w139_87 (Or.inr rfl), ob_n, id1, b315]
theorem good44 {s : e_S} {g : ps_G} {K : Nat → Int32} {n d b sz lit dist told : Nat} {O : Nat → Int32} (hl : 257 ≤ lit) (hl2 : lit ≤ 286) (hd1 : 1 ≤ dist) (hd2 : dist ≤ 30) (ht : told ≤ 19) (h6 : ∀ j, j < 19 → s.2.1 186 j = tbV 6 j) (h : GM s K n d b sz O) : ∃ s', jX12_ownCodes_44 (e_g s g) 139 (Int32.ofNat lit) (Int32.ofNat dist) (Int32.ofNat told) = some (e_g s' g) ∧ KN s s' ∧ (∀ b' L' l' d', ((clO K n told 0 b (fun _ => 0)).bind fun c => td2 K n lit dist c) = some (b', L', l', d') → GM s' K n d b' sz O ∧ TM s' L' (fun i => L' (l' + i)) l' d') ∧ (((clO K n told 0 b (fun _ => 0)).bind fun c => td2 K n lit dist c) = none → s'.1 139 87 = 1) := by
  obtain ⟨r0, lp0, B, e0, hB⟩ := lp_n (b := fun t => bX12_ownCodes_55 139 (Int32.ofNat lit) (Int32.ofNat dist) (Int32.ofNat told) t.1 t.2) (fun i t => ∃ B, t = (Int32.ofNat i, e_g (sA s 193 B) g) ∧ ∀ k, k < i → B k = 0) (fun r => ∃ B, r = e_g (sA s 193 B) g ∧ ∀ k, k < 19 → B k = 0) 19 (fun i t hi ⟨B, ht, hB⟩ => by
    refine ⟨(Int32.ofNat (i + 1), e_g (sA s 193 (upd B i 0)) g), ?_, _, rfl, fun k hk => ?_⟩
    · rw [ht]
      show bX12_ownCodes_55 _ _ _ _ _ _ = _
      unfold bX12_ownCodes_55
      have c : ¬ (19 : Int32) ≤ Int32.ofNat i := show ¬ Int32.ofNat 19 ≤ _ from nle hi (by omega)
      dsimp only
      rw [if_neg c, f139_92, ob_n, ob_n, tb_wr t193 (by decide) (by omega) (by omega), ob_n, A_sA, if_pos rfl, sA_sA, n_suc]
    · rw [upd_r]
      by_cases q : k = i
      · rw [if_pos q]
      · rw [if_neg q]; exact hB k (by omega)) (fun t ⟨B, ht, hB⟩ => by
    refine ⟨_, ?_, B, rfl, hB⟩
    rw [ht]
    show bX12_ownCodes_55 _ _ _ _ _ _ = _
    unfold bX12_ownCodes_55
    dsimp only
    rw [if_pos (show (19 : Int32) ≤ Int32.ofNat 19 by decide)]) (s := ((0 : Int32), e_g s g)) ⟨s.2.1 193, by rw [sA_id]; rfl, fun k hk => absurd hk (Nat.not_lt_zero k)⟩
  have kB : Kp [191, 192, 193] 139 [] s (sA s 193 B) := kp_A kp_rf (by decide)
  have gB := gm_k h kB
  have h6B : ∀ j, j < 19 → (sA s 193 B).2.1 186 j = tbV 6 j := fun j hj => by rw [A_sA, if_neg (by decide)]; exact h6 j hj
  have lB : Ln ((sA s 193 B).2.1 193) (fun _ => 0) 19 := fun j hj => by
    rw [A_sA, if_pos rfl, hB j hj]
    exact ⟨rfl, show 0 < 16 by decide⟩
  generalize sA s 193 B = Z at e0 kB gB h6B lB
  obtain ⟨s3, l1, l2, l3, l4⟩ := clo12 (g := g) (K := K) (n := n) (d := d) (sz := sz) (told := told) (O := O) (x1 := Int32.ofNat lit) (x2 := Int32.ofNat dist) ht told 0 b (fun _ => 0) Z (by omega) h6B gB lB
  have l1' : q_lp (fun s => bX12_ownCodes_79 139 (Int32.ofNat lit) (Int32.ofNat dist) (Int32.ofNat told) s.1 s.2) ((0 : Int32), e_g Z g) = some (e_g s3 g) := l1
  have k3 : KN s s3 := kp_tr (kn_y kB) l2
  have pre : jX12_ownCodes_44 (e_g s g) 139 (Int32.ofNat lit) (Int32.ofNat dist) (Int32.ofNat told) = Option.bind (q_fI 12 87 (e_g s3 g) 139) fun v37 => if v37 = 0 then (Option.bind (q_ob 12 (e_g s3 g) 139) fun u39 => Option.bind (fX12_makeCodes (e_g s3 g) 139 (2 : Int32) (0 : Int32) (19 : Int32)) fun v40 => Option.bind (q_lp (fun s => bX12_ownCodes_130 139 (Int32.ofNat lit) (Int32.ofNat dist) s.1 s.2.1 s.2.2) ((0 : Int32), (-1 : Int32), v40)) fun s96 => Sum.elim (fun r97 => jX12_ownCodes_299 r97 139 (Int32.ofNat lit) (Int32.ofNat dist)) (fun v114 => some v114) s96) else (some (e_g s3 g)) := by
    unfold jX12_ownCodes_44
    rw [f139_87, h.2.1, ob_n, if_pos rfl, lp0, ob_n, e0, l1', ob_n]
  cases ec : clO K n told 0 b (fun _ => 0) with
  | none =>
    rw [ob_no]
    have bS := l4 ec
    refine ⟨s3, ?_, k3, fun b' L' l' d' z => (by cases z), fun _ => bS⟩
    rw [pre, f139_87, bS, ob_n, if_neg (by decide)]
  | some c =>
    obtain ⟨cb, cL⟩ := c
    obtain ⟨m1, m2⟩ := l3 cb cL ec
    rw [ob_n]
    have u : td2 K n lit dist (cb, cL) = @ite _ (okC cL 19 2) (Classical.propDecidable _) ((rdO K n cL (lit + dist) (lit + dist + 1) (0, cb, fun _ => 0)).bind fun r => td3 r.2.2 lit dist r.2.1) none := rfl
    obtain ⟨C, Y, o1, o2, -, -⟩ := makeCodes12 (s := s3) (g := g) (st := 2) (fr := 0) (n := 19) (L := cL) (by omega) (by omega) (by omega) (fun i hi => by rw [Nat.zero_add]; exact m2 i hi)
    have ky' := ky (s := s3) (C := C) (Y := Y)
    by_cases ok : okC cL 19 2
    · obtain ⟨o3, o4⟩ := o1 ok
      have o3' : fX12_makeCodes (e_g s3 g) 139 2 0 19 = some (e_g (yT s3 C Y) g) := o3
      have gY := gm_k m1 ky'
      obtain ⟨r, s4, q1, q2, q3, q4⟩ := readl12 (g := g) (K := K) (n := n) (d := d) (sz := sz) (lit := lit) (dist := dist) (O := O) (Lc := cL) (by omega) (lit + dist + 1) (0, cb, fun _ => 0) (-1) (yT s3 C Y) (by dsimp only; omega) (by dsimp only; omega) gY (by rw [y_rc, y_ry]; exact o4) (fun j hj => absurd hj (Nat.not_lt_zero j)) (Or.inl ⟨rfl, rfl⟩)
      have q1' : q_lp (fun s => bX12_ownCodes_130 139 (Int32.ofNat lit) (Int32.ofNat dist) s.1 s.2.1 s.2.2) ((0 : Int32), (-1 : Int32), e_g (yT s3 C Y) g) = some r := q1
      have k4 : KN s s4 := kp_tr (kp_tr k3 (kn_y ky')) (kp_w q2 (fun j hj => by
        rw [List.contains_iff_mem] at hj ⊢
        have : ∀ j, j ∈ [193] → j ∈ [187, 191, 192, 193] := by decide
        exact this j hj) (fun _ h => h))
      have pre2 : jX12_ownCodes_44 (e_g s g) 139 (Int32.ofNat lit) (Int32.ofNat dist) (Int32.ofNat told) = Sum.elim (fun r97 => jX12_ownCodes_299 r97 139 (Int32.ofNat lit) (Int32.ofNat dist)) (fun v114 => some v114) r := by
        rw [pre, f139_87, m1.2.1, ob_n, if_pos rfl, ob139, ob_n, o3', ob_n, q1', ob_n]
      rw [u, if_pos ok]
      cases er : rdO K n cL (lit + dist) (lit + dist + 1) (0, cb, fun _ => 0) with
      | none =>
        obtain ⟨q5, q6⟩ := q4 er
        rw [ob_no]
        refine ⟨s4, ?_, k4, fun b' L' l' d' z => (by cases z), fun _ => q6⟩
        rw [pre2, q5, Sum.elim_inr]
      | some rr =>
        obtain ⟨ra, rb, RL⟩ := rr
        obtain ⟨q5, q6, q7⟩ := q3 (ra, rb, RL) er
        have q6' : GM s4 K n d rb sz O := q6
        have q7' : Ln (s4.2.1 193) RL (lit + dist) := q7
        rw [ob_n]
        dsimp only
        have u3 : td3 RL lit dist rb = if RL 256 = 0 then none else @ite _ (okC RL lit 0 ∧ okC (fun i => RL (lit + i)) dist 1) (Classical.propDecidable _) (some (rb, RL, lit, dist)) none := rfl
        have r256 : q_aI (e_g s4 g) 193 256 = some (Int32.ofNat (RL 256)) := by
          have := tb_rd (s := s4) (g := g) (i := 256) t193 (by omega) (by omega)
          rw [(q7' 256 (by omega)).1] at this
          exact this
        have c256 : Int32.ofNat (RL 256) = 0 ↔ RL 256 = 0 := by
          have := (q7' 256 (by omega)).2
          exact n_eq (b := 0) (by omega) (by omega)
        by_cases z256 : RL 256 = 0
        · rw [u3, if_pos z256]
          have bS : (sF s4 139 87 1).1 139 87 = 1 := by rw [F_sF, if_pos ⟨rfl, rfl⟩]
          refine ⟨sF s4 139 87 1, ?_, kp_tr k4 (kn_m (kmF (by decide))), fun b' L' l' d' z => (by cases z), fun _ => bS⟩
          rw [pre2, q5, Sum.elim_inl]
          unfold jX12_ownCodes_299 jX12_ownCodes_315
          rw [f139_92, ob_n, ob_n, r256, ob_n, if_neg (fun z => z (c256.mpr z256)), w139_87 (Or.inr rfl), ob_n, f139_87, bS, ob_n, if_neg (by decide)]
        · rw [u3, if_neg z256]
          obtain ⟨C1, Y1, p1, p2, p3, p4⟩ := makeCodes12 (s := s4) (g := g) (st := 0) (fr := 0) (n := lit) (L := RL) (by omega) (by omega) (by omega) (fun i hi => by rw [Nat.zero_add]; exact q7' i (by omega))
          have pre3 : jX12_ownCodes_44 (e_g s g) 139 (Int32.ofNat lit) (Int32.ofNat dist) (Int32.ofNat told) = Option.bind (fX12_makeCodes (e_g s4 g) 139 (Int32.ofNat 0) (Int32.ofNat 0) (Int32.ofNat lit)) fun v106 => Option.bind (q_ob 12 v106 139) fun u107 => Option.bind (fX12_makeCodes v106 139 (Int32.ofNat 1) (Int32.ofNat lit) (Int32.ofNat dist)) fun v108 => some v108 := by
            rw [pre2, q5, Sum.elim_inl]
            unfold jX12_ownCodes_299 jX12_ownCodes_315
            rw [f139_92, ob_n, ob_n, r256, ob_n, if_pos (fun z => z256 (c256.mp z)), f139_87, q6'.2.1, ob_n, if_pos rfl, ob139, ob_n]
            rfl
          -- the second codes, over any state with these lengths
          have sec : ∀ S : e_S, S.2.1 193 = s4.2.1 193 → ∃ C Y, (okC (fun i => RL (lit + i)) dist 1 → fX12_makeCodes (e_g S g) 139 (Int32.ofNat 1) (Int32.ofNat lit) (Int32.ofNat dist) = some (e_g (yT S C Y) g) ∧ Tb (fun k => C (16 * 1 + k)) (fun k => Y (320 * 1 + k)) (fun i => RL (lit + i)) dist) ∧ (¬ okC (fun i => RL (lit + i)) dist 1 → fX12_makeCodes (e_g S g) 139 (Int32.ofNat 1) (Int32.ofNat lit) (Int32.ofNat dist) = some (e_g (sF (yT S C Y) 139 87 1) g)) ∧ (∀ k, k < 16 * 1 ∨ 16 * 1 + 16 ≤ k → C k = S.2.1 191 k) ∧ (∀ k, k < 320 * 1 ∨ 320 * 1 + 320 ≤ k → Y k = S.2.1 192 k) := fun S hS => makeCodes12 (s := S) (g := g) (st := 1) (fr := lit) (n := dist) (L := fun i => RL (lit + i)) (by omega) (by omega) (by omega) (fun i hi => by rw [hS]; exact q7' (lit + i) (by omega))
          have ky1 := ky (s := s4) (C := C1) (Y := Y1)
          by_cases oA : okC RL lit 0
          · obtain ⟨p5, p6⟩ := p1 oA
            obtain ⟨C2, Y2, w1, w2, w3, w4⟩ := sec (yT s4 C1 Y1) (y_rl (by decide) (by decide))
            have ky2 := ky (s := yT s4 C1 Y1) (C := C2) (Y := Y2)
            by_cases oB : okC (fun i => RL (lit + i)) dist 1
            · obtain ⟨w5, w6⟩ := w1 oB
              rw [if_pos ⟨oA, oB⟩]
              refine ⟨yT (yT s4 C1 Y1) C2 Y2, ?_, kp_tr (kp_tr k4 (kn_y ky1)) (kn_y ky2), fun b' L' l' d' z => ?_, fun z => (by cases z)⟩
              · rw [pre3, p5, ob_n, ob139, ob_n, w5, ob_n]
              · have z' := Option.some.inj z
                have t1 : rb = b' := congrArg Prod.fst z'
                have t2 : RL = L' := congrArg (fun x => x.2.1) z'
                have t3 : lit = l' := congrArg (fun x => x.2.2.1) z'
                have t4 : dist = d' := congrArg (fun x => x.2.2.2) z'
                rw [← t1, ← t2, ← t3, ← t4]
                rw [y_rc] at w3
                rw [y_ry] at w4
                refine ⟨gm_k (gm_k q6' ky1) ky2, by omega, by omega, ?_, ?_⟩
                · rw [y_rc, y_ry]
                  exact tbC_c p6 (fun k hk => w3 _ (by omega)) (fun k hk => w4 _ (by omega))
                · rw [y_rc, y_ry]
                  exact w6
            · rw [if_neg (fun z => oB z.2)]
              refine ⟨sF (yT (yT s4 C1 Y1) C2 Y2) 139 87 1, ?_, kp_tr (kp_tr (kp_tr k4 (kn_y ky1)) (kn_y ky2)) (kn_m (kmF (by decide))), fun b' L' l' d' z => (by cases z), fun _ => by rw [F_sF, if_pos ⟨rfl, rfl⟩]⟩
              rw [pre3, p5, ob_n, ob139, ob_n, w2 oB, ob_n]
          · rw [if_neg (fun z => oA z.1)]
            obtain ⟨C2, Y2, w1, w2, w3, w4⟩ := sec (sF (yT s4 C1 Y1) 139 87 1) (by rw [A_sF, y_rl (by decide) (by decide)])
            have ky2 := ky (s := sF (yT s4 C1 Y1) 139 87 1) (C := C2) (Y := Y2)
            have kf : KN (yT s4 C1 Y1) (sF (yT s4 C1 Y1) 139 87 1) := kn_m (kmF (by decide))
            have yi : ∀ S : e_S, S.1 139 87 = 1 → (yT S C2 Y2).1 139 87 = 1 := fun S hS => by
              unfold yT
              rw [F_sA, F_sA]; exact hS
            by_cases oB : okC (fun i => RL (lit + i)) dist 1
            · refine ⟨yT (sF (yT s4 C1 Y1) 139 87 1) C2 Y2, ?_, kp_tr (kp_tr (kp_tr k4 (kn_y ky1)) kf) (kn_y ky2), fun b' L' l' d' z => (by cases z), fun _ => yi _ (by rw [F_sF, if_pos ⟨rfl, rfl⟩])⟩
              rw [pre3, p2 oA, ob_n, ob139, ob_n, (w1 oB).1, ob_n]
            · refine ⟨sF (yT (sF (yT s4 C1 Y1) 139 87 1) C2 Y2) 139 87 1, ?_, kp_tr (kp_tr (kp_tr (kp_tr k4 (kn_y ky1)) kf) (kn_y ky2)) (kn_m (kmF (by decide))), fun b' L' l' d' z => (by cases z), fun _ => by rw [F_sF, if_pos ⟨rfl, rfl⟩]⟩
              rw [pre3, p2 oA, ob_n, ob139, ob_n, w2 oB, ob_n]
    · have o3' : fX12_makeCodes (e_g s3 g) 139 2 0 19 = some (e_g (sF (yT s3 C Y) 139 87 1) g) := o2 ok
      have bS : (sF (yT s3 C Y) 139 87 1).1 139 87 = 1 := by rw [F_sF, if_pos ⟨rfl, rfl⟩]
      have kf : KN s (sF (yT s3 C Y) 139 87 1) := kp_tr (kp_tr k3 (kn_y ky')) (kn_m (kmF (by decide)))
      generalize sF (yT s3 C Y) 139 87 1 = X at o3' bS kf
      have lp : q_lp (fun s => bX12_ownCodes_130 139 (Int32.ofNat lit) (Int32.ofNat dist) s.1 s.2.1 s.2.2) ((0 : Int32), (-1 : Int32), e_g X g) = some (.inl (e_g X g)) := by
        refine lp_end ?_
        show bX12_ownCodes_130 _ _ _ _ _ _ = _
        unfold bX12_ownCodes_130
        dsimp only
        by_cases q : Int32.ofNat lit + Int32.ofNat dist ≤ 0
        · rw [if_pos q]
        · rw [if_neg q, f139_87, bS, ob_n, if_pos (by decide)]
      rw [u, if_neg ok]
      refine ⟨X, ?_, kf, fun b' L' l' d' z => (by cases z), fun _ => bS⟩
      rw [pre, f139_87, m1.2.1, ob_n, if_pos rfl, ob139, ob_n, o3', ob_n, lp, ob_n, Sum.elim_inl, bad315 bS]
theorem ownC12 {s : e_S} {g : ps_G} {K : Nat → Int32} {n d b sz : Nat} {O : Nat → Int32} (h6 : ∀ j, j < 19 → s.2.1 186 j = tbV 6 j) (h : GM s K n d b sz O) : ∃ s', fX12_ownCodes (e_g s g) 139 = some (e_g s' g) ∧ KN s s' ∧ (∀ b' L' l' d', tdO K n b = some (b', L', l', d') → GM s' K n d b' sz O ∧ TM s' L' (fun i => L' (l' + i)) l' d') ∧ (tdO K n b = none → s'.1 139 87 = 1) := by
  have p5 : (2 : Nat) ^ 5 = 32 := by decide
  have p4 : (2 : Nat) ^ 4 = 16 := by decide
  have u : tdO K n b = (rbO K n b 5).bind fun a1 => (rbO K n a1.2 5).bind fun a2 => (rbO K n a2.2 4).bind fun a3 => if 286 < a1.1 + 257 ∨ 30 < a2.1 + 1 then none else (clO K n (a3.1 + 4) 0 a3.2 (fun _ => 0)).bind fun c => td2 K n (a1.1 + 257) (a2.1 + 1) c := rfl
  have tl : ∀ (S : e_S) (v2 v5 v8 : Int32), S.1 139 87 = 1 → (if ¬ ((286 : Int32) < (v2 + (257 : Int32))) ∧ ((v5 + (1 : Int32)) ≤ (30 : Int32)) then (jX12_ownCodes_44 (e_g S g) 139 (v2 + (257 : Int32)) (v5 + (1 : Int32)) (v8 + (4 : Int32))) else (Option.bind (q_sB 12 87 (e_g S g) 139 (1 : Int32)) fun g119 => jX12_ownCodes_44 g119 139 (v2 + (257 : Int32)) (v5 + (1 : Int32)) (v8 + (4 : Int32)))) = some (e_g S g) := fun S v2 v5 v8 hS => by
    have id1 : sF S 139 87 1 = S := by rw [← hS, sF_id]
    rw [w139_87 (Or.inr rfl), ob_n, id1, bad44 hS]
    split <;> rfl
  have R1 := rb12 (g := g) (m := 5) h (by omega)
  unfold fX12_ownCodes
  rw [ob139, ob_n]
  cases e1 : rbO K n b 5 with
  | none =>
    obtain ⟨v, s1, r1, r2, r3⟩ := R1.2 e1
    have r1' : fX12_low (e_g s g) 139 5 = some (v, e_g s1 g) := r1
    obtain ⟨v5, q1⟩ := low12b (g := g) (m := 5) r2 (by omega)
    have q1' : fX12_low (e_g s1 g) 139 5 = some (v5, e_g s1 g) := q1
    obtain ⟨v8, j1⟩ := low12b (g := g) (m := 4) r2 (by omega)
    have j1' : fX12_low (e_g s1 g) 139 4 = some (v8, e_g s1 g) := j1
    rw [u, e1, ob_no]
    refine ⟨s1, ?_, kn_m r3, fun b' L' l' d' z => (by cases z), fun _ => r2⟩
    rw [r1', b2_n, ob139, ob_n, q1', b2_n, ob139, ob_n, j1', b2_n, tl s1 _ _ _ r2]
  | some a1 =>
    obtain ⟨x1, y1⟩ := a1
    obtain ⟨r1, r2, r3⟩ := R1.1 x1 y1 e1
    have r1' : fX12_low (e_g s g) 139 5 = some (Int32.ofNat x1, e_g (sF s 139 88 (Int32.ofNat y1)) g) := r1
    have R2 := rb12 (g := g) (m := 5) r2 (by omega)
    rw [r1', b2_n, ob139, ob_n]
    rw [u, e1, ob_n]
    dsimp only
    cases e2 : rbO K n y1 5 with
    | none =>
      obtain ⟨v, s1, q1, q2, q3⟩ := R2.2 e2
      have q1' : fX12_low (e_g (sF s 139 88 (Int32.ofNat y1)) g) 139 5 = some (v, e_g s1 g) := q1
      obtain ⟨v8, j1⟩ := low12b (g := g) (m := 4) q2 (by omega)
      have j1' : fX12_low (e_g s1 g) 139 4 = some (v8, e_g s1 g) := j1
      rw [ob_no]
      refine ⟨s1, ?_, kp_tr (kn_m (kmF (by decide))) (kn_m q3), fun b' L' l' d' z => (by cases z), fun _ => q2⟩
      rw [q1', b2_n, ob139, ob_n, j1', b2_n, tl s1 _ _ _ q2]
    | some a2 =>
      obtain ⟨x2, y2⟩ := a2
      obtain ⟨q1, q2, q3⟩ := R2.1 x2 y2 e2
      rw [sF_sF] at q1 q2
      have q1' : fX12_low (e_g (sF s 139 88 (Int32.ofNat y1)) g) 139 5 = some (Int32.ofNat x2, e_g (sF s 139 88 (Int32.ofNat y2)) g) := q1
      have R3 := rb12 (g := g) (m := 4) q2 (by omega)
      rw [q1', b2_n, ob139, ob_n, ob_n]
      dsimp only
      cases e3 : rbO K n y2 4 with
      | none =>
        obtain ⟨v, s1, j1, j2, j3⟩ := R3.2 e3
        have j1' : fX12_low (e_g (sF s 139 88 (Int32.ofNat y2)) g) 139 4 = some (v, e_g s1 g) := j1
        rw [ob_no]
        refine ⟨s1, ?_, kp_tr (kn_m (kmF (by decide))) (kn_m j3), fun b' L' l' d' z => (by cases z), fun _ => j2⟩
        rw [j1', b2_n, tl s1 _ _ _ j2]
      | some a3 =>
        obtain ⟨x3, y3⟩ := a3
        obtain ⟨j1, j2, j3⟩ := R3.1 x3 y3 e3
        rw [sF_sF] at j1 j2
        have j1' : fX12_low (e_g (sF s 139 88 (Int32.ofNat y2)) g) 139 4 = some (Int32.ofNat x3, e_g (sF s 139 88 (Int32.ofNat y3)) g) := j1
        have eL : Int32.ofNat x1 + (257 : Int32) = Int32.ofNat (x1 + 257) := n_add (m := 257)
        have eD : Int32.ofNat x2 + (1 : Int32) = Int32.ofNat (x2 + 1) := n_suc
        have eT : Int32.ofNat x3 + (4 : Int32) = Int32.ofNat (x3 + 4) := n_add (m := 4)
        have c1 : (286 : Int32) < Int32.ofNat (x1 + 257) ↔ 286 < x1 + 257 := n_lt (n := 286) (by omega) (by omega)
        have c2 : Int32.ofNat (x2 + 1) ≤ (30 : Int32) ↔ x2 + 1 ≤ 30 := n_le (m := 30) (by omega) (by omega)
        rw [j1', b2_n, ob_n]
        dsimp only
        rw [eL, eD, eT]
        by_cases q : 286 < x1 + 257 ∨ 30 < x2 + 1
        · rw [if_pos q, if_neg (by rw [c1, c2]; omega), w139_87 (Or.inr rfl), ob_n, bad44 (by rw [F_sF, if_pos ⟨rfl, rfl⟩])]
          exact ⟨_, rfl, kp_tr (kn_m (kmF (by decide))) (kn_m (kmF (f := 87) (v := 1) (by decide))), fun b' L' l' d' z => (by cases z), fun _ => by rw [F_sF, if_pos ⟨rfl, rfl⟩]⟩
        · rw [if_neg q, if_pos (by rw [c1, c2]; omega)]
          obtain ⟨s', t1, t2, t3, t4⟩ := good44 (g := g) (lit := x1 + 257) (dist := x2 + 1) (told := x3 + 4) (by omega) (by omega) (by omega) (by omega) (by omega) (by intro j hj; rw [A_sF]; exact h6 j hj) j2
          exact ⟨s', t1, kp_tr (kn_m (kmF (by decide))) t2, t3, t4⟩
