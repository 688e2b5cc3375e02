-- needs: 97zzzu
/-! ===== png: the end of the packed bytes ===== -/
def bxN (x k : Nat) : Nat := if q_shr (Int32.ofNat x) (Int32.ofNat k) &&& 1 = 0 then 0 else 1
theorem bxS {x : Nat} (h : x < 256) : bxN x 0 + 2 * bxN x 1 + 4 * bxN x 2 + 8 * bxN x 3 + 16 * bxN x 4 + 32 * bxN x 5 + 64 * bxN x 6 + 128 * bxN x 7 = x := by
  have : ∀ x : Fin 256, bxN x.1 0 + 2 * bxN x.1 1 + 4 * bxN x.1 2 + 8 * bxN x.1 3 + 16 * bxN x.1 4 + 32 * bxN x.1 5 + 64 * bxN x.1 6 + 128 * bxN x.1 7 = x.1 := by decide +kernel
  exact this ⟨x, h⟩
theorem bt_x {K : Nat → Int32} {p x k : Nat} (hx : K p = Int32.ofNat x) (hk : k < 8) : btN K (8 * p + k) = bxN x k := by
  unfold btN btK bxN
  rw [show (8 * p + k) / 8 = p by omega, show (8 * p + k) % 8 = k by omega, hx]
theorem rb_y {K : Nat → Int32} {p : Nat} (h : rg (K p) 0 255 = true) : Int32.ofNat (rbN K (8 * p) 8) = K p := by
  obtain ⟨x, hx, lt⟩ := rg_n (N := 255) h (by decide)
  have e : rbN K (8 * p) 8 = x := by
    have s := bxS (x := x) (by omega)
    have b0 := bt_x hx (show 0 < 8 by omega)
    have b1 := bt_x hx (show 1 < 8 by omega)
    have b2 := bt_x hx (show 2 < 8 by omega)
    have b3 := bt_x hx (show 3 < 8 by omega)
    have b4 := bt_x hx (show 4 < 8 by omega)
    have b5 := bt_x hx (show 5 < 8 by omega)
    have b6 := bt_x hx (show 6 < 8 by omega)
    have b7 := bt_x hx (show 7 < 8 by omega)
    show ((((((((0 + 2 ^ 0 * btN K (8 * p + 0)) + 2 ^ 1 * btN K (8 * p + 1)) + 2 ^ 2 * btN K (8 * p + 2)) + 2 ^ 3 * btN K (8 * p + 3)) + 2 ^ 4 * btN K (8 * p + 4)) + 2 ^ 5 * btN K (8 * p + 5)) + 2 ^ 6 * btN K (8 * p + 6)) + 2 ^ 7 * btN K (8 * p + 7)) = x
    rw [b0, b1, b2, b3, b4, b5, b6, b7]
    omega
  rw [e, hx]
def sm4 (K : Nat → Int32) (p : Nat) : Int32 := ((q_shl (K p) 24 ||| q_shl (K (p + 1)) 16) ||| q_shl (K (p + 2)) 8) ||| K (p + 3)
def okE (K : Nat → Int32) (n d : Nat) (t : Nat × Nat × (Nat → Int32)) : Prop := al8 t.1 + 32 = 8 * n ∧ t.2.1 = d ∧ sm4 K (al8 t.1 / 8) = (adV t.2.2 t.2.1).2 * 65536 + (adV t.2.2 t.2.1).1
theorem adlerK {S : e_S} {g : ps_G} {R : (Nat → Int32) × Nat} (h : R.2 ≤ 2328) (hR : ∀ i, i < R.2 → S.2.1 130 i = R.1 i) : fX11_adler (e_g S g) 130 (Int32.ofNat R.2) = some ((adV R.1 R.2).2 * 65536 + (adV R.1 R.2).1) := by
  have l0 : q_len (e_g S g) 130 = some (Int32.ofNat 2328) := l130
  have lp := lp_0 (b := fun t => bX11_adler_7 (e_g S g) 130 (Int32.ofNat R.2) t.1 t.2.1 t.2.2) (s := ((1 : Int32), (0 : Int32), (0 : Int32))) (r := ((adV R.1 R.2).1, (adV R.1 R.2).2)) (fun k => ((adV R.1 k).1, (adV R.1 k).2, Int32.ofNat k)) R.2 rfl (fun k hk => ?_) ?_
  · unfold fX11_adler jX11_adler_45
    rw [lp, ob_n]
  · show bX11_adler_7 _ _ _ _ _ _ = _
    unfold bX11_adler_7
    dsimp only
    rw [if_neg (nle hk (by omega)), l0, ob_n, if_neg (nle (by omega) (by omega)), tb_rd t130 (by omega) (by omega), ob_n, hR k hk, n_suc]
    rfl
  · show bX11_adler_7 _ _ _ _ _ _ = _
    unfold bX11_adler_7
    dsimp only
    rw [if_pos (nlr (by omega))]
/-- the class's end, from a wrong state -/
theorem end7b {s : e_S} {g : ps_G} {K : Nat → Int32} {n : Nat} (h : BC s K n) : ∃ s', jX2_inflate_196 (e_g s g) 128 = some (0, e_g s' g) ∧ KC s s' := by
  have b0 : q_bl 0 = some 0 := rfl
  obtain ⟨hw, b, hP⟩ := id h
  have a8 := al8_i hP.2.1
  have h1 : BC (sF s 128 2 (Int32.ofNat (al8 b))) K n := ⟨by rw [F_sF, if_neg (by decide)]; exact hw, _, pc_b hP a8.2⟩
  obtain ⟨v1, s1, r1, r2, r3⟩ := rb7b (g := g) (m := 8) h1 (by omega)
  obtain ⟨v2, s2, q1, q2, q3⟩ := rb7b (g := g) (m := 8) r2 (by omega)
  obtain ⟨v3, s3, j1, j2, j3⟩ := rb7b (g := g) (m := 8) q2 (by omega)
  obtain ⟨v4, s4, m1, m2, m3⟩ := rb7b (g := g) (m := 8) j2 (by omega)
  have r1' : fX2_readBits (e_g (sF s 128 2 (Int32.ofNat (al8 b))) g) 128 8 = some (v1, e_g s1 g) := r1
  have q1' : fX2_readBits (e_g s1 g) 128 8 = some (v2, e_g s2 g) := q1
  have j1' : fX2_readBits (e_g s2 g) 128 8 = some (v3, e_g s3 g) := j1
  have m1' : fX2_readBits (e_g s3 g) 128 8 = some (v4, e_g s4 g) := m1
  refine ⟨s4, ?_, kp_tr (kp_tr (kp_tr (kp_tr (kcF (by decide)) r3) q3) j3) m3⟩
  unfold jX2_inflate_196 jX2_inflate_290 jX2_inflate_291
  rw [ob128, ob_n, toByte7 hP, ob_n, ob128, ob_n, r1', b2_n, ob128, ob_n, q1', b2_n, ob128, ob_n, j1', b2_n, ob128, ob_n, m1', b2_n, f128_3, m2.1, ob_n, if_pos (by decide), b0, ob_n]
theorem end7 {s : e_S} {g : ps_G} {K : Nat → Int32} {n d : Nat} {t : Nat × Nat × (Nat → Int32)} (hK : ∀ i, i < n → rg (K i) 0 255 = true) (h : GC s K n d t.1 t.2.1 t.2.2) : ∃ s' v, jX2_inflate_196 (e_g s g) 128 = some (v, e_g s' g) ∧ KC s s' ∧ (okE K n d t → v = 1 ∧ s'.1 128 5 = Int32.ofNat d ∧ ∀ i, i < d → s'.2.1 130 i = t.2.2 i) ∧ (¬ okE K n d t → v = 0) := by
  have b0 : q_bl 0 = some 0 := rfl
  have b1 : q_bl 1 = some 1 := rfl
  have n8 := h.1.1
  have a8 := al8_i h.1.2.1
  have am : al8 t.1 = 8 * (al8 t.1 / 8) := by unfold al8; omega
  generalize hp : al8 t.1 / 8 = p at am
  have g1 := gc_b h a8.2
  rw [am] at g1 a8
  have tb7 := toByte7 (g := g) h.1
  rw [am] at tb7
  -- how the four bytes are read
  have rd : ∀ q : Nat, q + 1 ≤ n → p ≤ q → fX2_readBits (e_g (sF s 128 2 (Int32.ofNat (8 * q))) g) 128 8 = some (K q, e_g (sF s 128 2 (Int32.ofNat (8 * (q + 1)))) g) := fun q hq hpq => by
    have P := readBits7 (g := g) (m := 8) (pc_b h.1 (show 8 * q ≤ 8 * n by omega)) (by omega)
    rw [if_pos (show 8 * q + 8 ≤ 8 * n by omega), rb_y (hK q (by omega)), sF_sF] at P
    exact P
  by_cases q4 : p + 4 ≤ n
  · have g5 := gc_b h (show 8 * (p + 4) ≤ 8 * n by omega)
    obtain ⟨hP, hw, f6, hd, f5, hz, hO⟩ := id g5
    have e8 : (8 : Int32) * Int32.ofNat n = Int32.ofNat (8 * n) := n_mul (n := 8)
    have pre : jX2_inflate_196 (e_g s g) 128 = if ¬ Int32.ofNat (8 * (p + 4)) = Int32.ofNat (8 * n) then (jX2_inflate_290 (e_g (sF s 128 2 (Int32.ofNat (8 * (p + 4)))) g)) else (if ¬ Int32.ofNat t.2.1 = Int32.ofNat d then (jX2_inflate_290 (e_g (sF s 128 2 (Int32.ofNat (8 * (p + 4)))) g)) else (if ¬ sm4 K p = (adV t.2.2 t.2.1).2 * 65536 + (adV t.2.2 t.2.1).1 then (jX2_inflate_290 (e_g (sF s 128 2 (Int32.ofNat (8 * (p + 4)))) g)) else (jX2_inflate_291 (e_g (sF s 128 2 (Int32.ofNat (8 * (p + 4)))) g) (1 : Int32)))) := by
      have ad := adlerK (S := sF s 128 2 (Int32.ofNat (8 * (p + 4)))) (g := g) (R := (t.2.2, t.2.1)) (by show t.2.1 ≤ 2328; omega) hO
      have ad' : fX11_adler (e_g (sF s 128 2 (Int32.ofNat (8 * (p + 4)))) g) 130 (Int32.ofNat t.2.1) = some ((adV t.2.2 t.2.1).2 * 65536 + (adV t.2.2 t.2.1).1) := ad
      unfold jX2_inflate_196
      rw [ob128, ob_n, tb7, ob_n, ob128, ob_n, rd p (by omega) (by omega), b2_n, ob128, ob_n, rd (p + 1) (by omega) (by omega), b2_n, ob128, ob_n, rd (p + 1 + 1) (by omega) (by omega), b2_n, ob128, ob_n, rd (p + 1 + 1 + 1) (by omega) (by omega), b2_n, f128_3, hw, ob_n, if_neg (fun z => z rfl), f128_2, hP.2.2.2.1, ob_n, f128_1, hP.2.2.1, ob_n, e8, f128_5, f5, ob_n, f128_6, f6, ob_n, f128_4, ob_n, ob_n, ob_n, ad', ob_n]
      rfl
    have c1 : Int32.ofNat (8 * (p + 4)) = Int32.ofNat (8 * n) ↔ al8 t.1 + 32 = 8 * n := by
      rw [n_eq (by omega) (by omega), am]
      omega
    have c2 : Int32.ofNat t.2.1 = Int32.ofNat d ↔ t.2.1 = d := n_eq (by omega) (by omega)
    have no : ∀ G : ps_G, jX2_inflate_290 G = some (0, G) := fun G => by
      unfold jX2_inflate_290 jX2_inflate_291
      rw [b0, ob_n]
    have ys : ∀ G : ps_G, jX2_inflate_291 G 1 = some (1, G) := fun G => by
      unfold jX2_inflate_291
      rw [b1, ob_n]
    have kk : KC s (sF s 128 2 (Int32.ofNat (8 * (p + 4)))) := kcF (by decide)
    rw [pre]
    unfold okE
    rw [hp]
    by_cases a1 : al8 t.1 + 32 = 8 * n
    · rw [if_neg (fun z => z (c1.mpr a1))]
      by_cases a2 : t.2.1 = d
      · rw [if_neg (fun z => z (c2.mpr a2))]
        by_cases a3 : sm4 K p = (adV t.2.2 t.2.1).2 * 65536 + (adV t.2.2 t.2.1).1
        · rw [if_neg (fun z => z a3), ys]
          refine ⟨_, 1, rfl, kk, fun _ => ⟨rfl, by rw [← a2]; exact f5, fun i hi => hO i (by omega)⟩, fun z => absurd ⟨a1, a2, a3⟩ z⟩
        · rw [if_pos a3, no]
          exact ⟨_, 0, rfl, kk, fun z => absurd z.2.2 a3, fun _ => rfl⟩
      · rw [if_pos (fun z => a2 (c2.mp z)), no]
        exact ⟨_, 0, rfl, kk, fun z => absurd z.2.1 a2, fun _ => rfl⟩
    · rw [if_pos (fun z => a1 (c1.mp z)), no]
      exact ⟨_, 0, rfl, kk, fun z => absurd z.1 a1, fun _ => rfl⟩
  · -- not enough bytes
    have nok : ¬ okE K n d t := fun z => by
      have := z.1
      rw [am] at this
      omega
    have bd : ∀ q : Nat, q = n → ∃ v s', fX2_readBits (e_g (sF s 128 2 (Int32.ofNat (8 * q))) g) 128 8 = some (v, e_g s' g) ∧ BC s' K n ∧ KC s s' := fun q hq => by
      have P := readBits7 (g := g) (m := 8) (pc_b h.1 (show 8 * q ≤ 8 * n by omega)) (by omega)
      rw [if_neg (show ¬ 8 * q + 8 ≤ 8 * n by omega)] at P
      exact ⟨_, _, P, bc_w (pc_b (pc_b h.1 (show 8 * q ≤ 8 * n by omega)) (Nat.le_refl _)), kp_tr (kp_tr (kcF (by decide)) (kcF (by decide))) (kcF (by decide))⟩
    have fn : ∀ (S : e_S) (v51 v54 v57 v60 : Int32), BC S K n → (Option.bind (q_fI 2 3 (e_g S g) 128) fun v62 => if ¬ v62 = 0 then (jX2_inflate_290 (e_g S g)) else (Option.bind (q_fI 2 2 (e_g S g) 128) fun v65 => Option.bind (q_fI 2 1 (e_g S g) 128) fun v66 => if ¬ v65 = ((8 : Int32) * v66) then (jX2_inflate_290 (e_g S g)) else (Option.bind (q_fI 2 5 (e_g S g) 128) fun v68 => Option.bind (q_fI 2 6 (e_g S g) 128) fun v69 => if ¬ v68 = v69 then (jX2_inflate_290 (e_g S g)) else (Option.bind (q_fR 2 4 (e_g S g) 128) fun v71 => Option.bind (v71) fun a72 => Option.bind (q_fI 2 5 (e_g S g) 128) fun v73 => Option.bind (fX11_adler (e_g S g) a72 v73) fun v74 => if ¬ ((((q_shl v51 (24 : Int32)) ||| (q_shl v54 (16 : Int32))) ||| (q_shl v57 (8 : Int32))) ||| v60) = v74 then (jX2_inflate_290 (e_g S g)) else (jX2_inflate_291 (e_g S g) (1 : Int32)))))) = some (0, e_g S g) := fun S v51 v54 v57 v60 hS => by
      rw [f128_3, hS.1, ob_n, if_pos (by decide)]
      unfold jX2_inflate_290 jX2_inflate_291
      rw [b0, ob_n]
    have R' : ∀ {S : e_S}, BC S K n → ∃ v s', fX2_readBits (e_g S g) 128 8 = some (v, e_g s' g) ∧ BC s' K n ∧ KC S s' := fun hS => rb7b (m := 8) hS (by omega)
    have cs : p = n ∨ p + 1 = n ∨ p + 2 = n ∨ p + 3 = n := by omega
    rcases cs with c | c | c | c
    · obtain ⟨v1, s1, r1, r2, r3⟩ := bd p c
      obtain ⟨v2, s2, q1, q2, q3⟩ := R' r2
      obtain ⟨v3, s3, j1, j2, j3⟩ := R' q2
      obtain ⟨v4, s4, m1, m2, m3⟩ := R' j2
      refine ⟨s4, 0, ?_, kp_tr (kp_tr (kp_tr r3 q3) j3) m3, fun z => absurd z nok, fun _ => rfl⟩
      unfold jX2_inflate_196
      rw [ob128, ob_n, tb7, ob_n, ob128, ob_n, r1, b2_n, ob128, ob_n, q1, b2_n, ob128, ob_n, j1, b2_n, ob128, ob_n, m1, b2_n, fn s4 _ _ _ _ m2]
    · obtain ⟨v2, s2, q1, q2, q3⟩ := bd (p + 1) c
      obtain ⟨v3, s3, j1, j2, j3⟩ := R' q2
      obtain ⟨v4, s4, m1, m2, m3⟩ := R' j2
      refine ⟨s4, 0, ?_, kp_tr (kp_tr q3 j3) m3, fun z => absurd z nok, fun _ => rfl⟩
      unfold jX2_inflate_196
      rw [ob128, ob_n, tb7, ob_n, ob128, ob_n, rd p (by omega) (by omega), b2_n, ob128, ob_n, q1, b2_n, ob128, ob_n, j1, b2_n, ob128, ob_n, m1, b2_n, fn s4 _ _ _ _ m2]
    · obtain ⟨v3, s3, j1, j2, j3⟩ := bd (p + 1 + 1) (by omega)
      obtain ⟨v4, s4, m1, m2, m3⟩ := R' j2
      refine ⟨s4, 0, ?_, kp_tr j3 m3, fun z => absurd z nok, fun _ => rfl⟩
      unfold jX2_inflate_196
      rw [ob128, ob_n, tb7, ob_n, ob128, ob_n, rd p (by omega) (by omega), b2_n, ob128, ob_n, rd (p + 1) (by omega) (by omega), b2_n, ob128, ob_n, j1, b2_n, ob128, ob_n, m1, b2_n, fn s4 _ _ _ _ m2]
    · obtain ⟨v4, s4, m1, m2, m3⟩ := bd (p + 1 + 1 + 1) (by omega)
      refine ⟨s4, 0, ?_, m3, fun z => absurd z nok, fun _ => rfl⟩
      unfold jX2_inflate_196
      rw [ob128, ob_n, tb7, ob_n, ob128, ob_n, rd p (by omega) (by omega), b2_n, ob128, ob_n, rd (p + 1) (by omega) (by omega), b2_n, ob128, ob_n, rd (p + 1 + 1) (by omega) (by omega), b2_n, ob128, ob_n, m1, b2_n, fn s4 _ _ _ _ m2]
theorem endI12 {s : e_S} {g : ps_G} {K : Nat → Int32} {n d : Nat} {t : Nat × Nat × (Nat → Int32)} (hB : ByO (t.2.2, t.2.1)) (h : GM s K n d t.1 t.2.1 t.2.2) : ∃ s', jX12_inflate_162 (e_g s g) 139 = some (e_g s' g) ∧ KM s s' ∧ (okE K n d t → s'.1 139 87 = 0 ∧ s'.1 139 75 = Int32.ofNat d ∧ ∀ i, i < d → s'.2.1 187 i = t.2.2 i) ∧ (¬ okE K n d t → s'.1 139 87 = 1) := by
  have n8 := h.1.1
  have a8 := al8_i h.1.2.1
  have am : al8 t.1 = 8 * (al8 t.1 / 8) := by unfold al8; omega
  have al := align12 (g := g) (fun G => bX12_inflate_170 139 G) (fun G => rfl) (s := s) (al8 t.1 - t.1) t.1 (by omega) (by omega) h.1.2.2.2.1
  generalize hp : al8 t.1 / 8 = p at am
  have g1 := gm_b h a8.2
  rw [am] at al g1 a8
  obtain ⟨hP, hw, f6, hd, f5, hz, hO⟩ := id g1
  have kk : KM s (sF s 139 88 (Int32.ofNat (8 * p))) := kmF (by decide)
  have dv : Int32.ofNat (8 * p) / 8 = Int32.ofNat p := by
    have z : Int32.ofNat (8 * p) / Int32.ofNat 8 = Int32.ofNat (8 * p / 8) := n_div (by omega) (by omega)
    have e : 8 * p / 8 = p := by omega
    rw [e] at z
    exact z
  have e4 : Int32.ofNat p + 4 = Int32.ofNat (p + 4) := n_add (m := 4)
  have e1 : Int32.ofNat p + 1 = Int32.ofNat (p + 1) := n_suc
  have e2 : Int32.ofNat p + 2 = Int32.ofNat (p + 2) := n_add (m := 2)
  have e3 : Int32.ofNat p + 3 = Int32.ofNat (p + 3) := n_add (m := 3)
  have c1 : Int32.ofNat n = Int32.ofNat (p + 4) ↔ al8 t.1 + 32 = 8 * n := by
    rw [n_eq (by omega) (by omega), am]
    omega
  have c2 : Int32.ofNat t.2.1 = Int32.ofNat d ↔ t.2.1 = d := n_eq (by omega) (by omega)
  have ill : ∀ S : e_S, jX12_inflate_222 (e_g S g) 139 = some (e_g (sF S 139 87 1) g) := fun S => by
    unfold jX12_inflate_222
    rw [w139_87 (Or.inr rfl), ob_n]
  have si : (sF (sF s 139 88 (Int32.ofNat (8 * p))) 139 87 1).1 139 87 = 1 := by rw [F_sF, if_pos ⟨rfl, rfl⟩]
  have kk2 : KM s (sF (sF s 139 88 (Int32.ofNat (8 * p))) 139 87 1) := kp_tr kk (kmF (by decide))
  have pre : jX12_inflate_162 (e_g s g) 139 = if ¬ Int32.ofNat t.2.1 = Int32.ofNat d then (jX12_inflate_222 (e_g (sF s 139 88 (Int32.ofNat (8 * p))) g) 139) else (if Int32.ofNat n = Int32.ofNat (p + 4) then (Option.bind (q_fR 12 78 (e_g (sF s 139 88 (Int32.ofNat (8 * p))) g) 139) fun v67 => Option.bind (v67) fun a68 => Option.bind (q_aI (e_g (sF s 139 88 (Int32.ofNat (8 * p))) g) a68 (Int32.ofNat p)) fun v69 => Option.bind (q_fR 12 78 (e_g (sF s 139 88 (Int32.ofNat (8 * p))) g) 139) fun v70 => Option.bind (v70) fun a71 => Option.bind (q_aI (e_g (sF s 139 88 (Int32.ofNat (8 * p))) g) a71 (Int32.ofNat (p + 1))) fun v72 => Option.bind (q_fR 12 78 (e_g (sF s 139 88 (Int32.ofNat (8 * p))) g) 139) fun v73 => Option.bind (v73) fun a74 => Option.bind (q_aI (e_g (sF s 139 88 (Int32.ofNat (8 * p))) g) a74 (Int32.ofNat (p + 2))) fun v75 => Option.bind (q_fR 12 78 (e_g (sF s 139 88 (Int32.ofNat (8 * p))) g) 139) fun v76 => Option.bind (v76) fun a77 => Option.bind (q_aI (e_g (sF s 139 88 (Int32.ofNat (8 * p))) g) a77 (Int32.ofNat (p + 3))) fun v78 => Option.bind (q_ob 12 (e_g (sF s 139 88 (Int32.ofNat (8 * p))) g) 139) fun u79 => Option.bind (fX12_sumOfRows (e_g (sF s 139 88 (Int32.ofNat (8 * p))) g) 139) fun v80 => if ((((q_shl v69 (24 : Int32)) ||| (q_shl v72 (16 : Int32))) ||| (q_shl v75 (8 : Int32))) ||| v78) = v80 then (jX12_inflate_284 (e_g (sF s 139 88 (Int32.ofNat (8 * p))) g)) else (Option.bind (q_sB 12 87 (e_g (sF s 139 88 (Int32.ofNat (8 * p))) g) 139 (1 : Int32)) fun g83 => jX12_inflate_284 g83)) else (jX12_inflate_222 (e_g (sF s 139 88 (Int32.ofNat (8 * p))) g) 139)) := by
    unfold jX12_inflate_162
    rw [f139_87, h.2.1, ob_n, if_pos rfl, al, ob_n, f139_88, hP.2.2.2.1, ob_n, f139_75, f5, ob_n, f139_89, f6, ob_n, f139_79, hP.2.2.1, ob_n, dv, e4, e1, e2, e3]
  rw [pre]
  unfold okE
  rw [hp]
  by_cases a2 : t.2.1 = d
  · rw [if_neg (fun z => z (c2.mpr a2))]
    by_cases a1 : al8 t.1 + 32 = 8 * n
    · have hn4 : p + 4 = n := by rw [am] at a1; omega
      have rk : ∀ i, i < n → q_aI (e_g (sF s 139 88 (Int32.ofNat (8 * p))) g) 188 (Int32.ofNat i) = some (K i) := fun i hi => by
        rw [tb_rd t188 (by omega) (by omega), hP.2.2.2.2 i hi]
      have ad := adlerM (S := sF s 139 88 (Int32.ofNat (8 * p))) (g := g) (R := (t.2.2, t.2.1)) ⟨by show t.2.1 ≤ 2328; omega, f5, hO⟩ hB
      have ad' : fX12_sumOfRows (e_g (sF s 139 88 (Int32.ofNat (8 * p))) g) 139 = some ((adV t.2.2 t.2.1).2 * 65536 + (adV t.2.2 t.2.1).1) := ad
      rw [if_pos (c1.mpr a1), f139_78, ob_n, ob_n, rk p (by omega), ob_n, ob_n, ob_n, rk (p + 1) (by omega), ob_n, ob_n, ob_n, rk (p + 2) (by omega), ob_n, ob_n, ob_n, rk (p + 3) (by omega), ob_n, ob139, ob_n, ad', ob_n]
      have s4 : ((((q_shl (K p) (24 : Int32)) ||| (q_shl (K (p + 1)) (16 : Int32))) ||| (q_shl (K (p + 2)) (8 : Int32))) ||| K (p + 3)) = sm4 K p := rfl
      rw [s4]
      by_cases a3 : sm4 K p = (adV t.2.2 t.2.1).2 * 65536 + (adV t.2.2 t.2.1).1
      · rw [if_pos a3]
        exact ⟨_, rfl, kk, fun _ => ⟨hw, by rw [← a2]; exact f5, fun i hi => hO i (by omega)⟩, fun z => absurd ⟨a1, a2, a3⟩ z⟩
      · rw [if_neg a3, w139_87 (Or.inr rfl), ob_n]
        exact ⟨_, rfl, kk2, fun z => absurd z.2.2 a3, fun _ => si⟩
    · rw [if_neg (fun z => a1 (c1.mp z)), ill]
      exact ⟨_, rfl, kk2, fun z => absurd z.1 a1, fun _ => si⟩
  · rw [if_pos (fun z => a2 (c2.mp z)), ill]
    exact ⟨_, rfl, kk2, fun z => absurd z.2.1 a2, fun _ => si⟩
