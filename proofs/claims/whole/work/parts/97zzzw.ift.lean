-- needs: 97zzzv
/-! ===== png: packed bytes to rows ===== -/
noncomputable def ifO (K : Nat → Int32) (n d : Nat) : Option (Nat → Int32) := @ite _ (n < 2 ∨ ¬ K 0 = 120 ∨ ¬ q_rem (K 0 * 256 + K 1) 31 = 0 ∨ ¬ K 1 &&& 32 = 0) (Classical.propDecidable _) none ((inO K n d (8 * n + 1) (16, 0, fun _ => 0)).bind fun t => @ite _ (okE K n d t) (Classical.propDecidable _) (some t.2.2) none)
def K7 (s s' : e_S) : Prop := Kp [130, 131, 132, 133, 134, 135, 136] 128 [2, 3, 5, 6] s s'
theorem k7_d {s s' : e_S} (h : KD s s') : K7 s s' := kp_w h (fun _ h => h) (fun j hj => by
  rw [List.contains_iff_mem] at hj ⊢
  have : ∀ j, j ∈ [2, 3, 5] → j ∈ [2, 3, 5, 6] := by decide
  exact this j hj)
theorem bad76 {S : e_S} {g : ps_G} {K : Nat → Int32} {n : Nat} {k2 : Int32} (hk : k2 = 0 ∨ k2 = 1) (h : BC S K n) : ∃ s', jX2_inflate_76 (e_g S g) 128 128 1 k2 = some (0, e_g s' g) ∧ KD S s' := by
  have id1 : sF S 128 3 1 = S := by rw [← h.1, sF_id]
  obtain ⟨s', e1, e2⟩ := end7b (g := g) h
  have lp : q_lp (fun x => bX2_inflate_86 128 x.1 x.2.1 x.2.2) ((0 : Int32), (0 : Int32), e_g S g) = some (e_g S g) := by
    refine lp_end ?_
    show bX2_inflate_86 _ _ _ _ = _
    unfold bX2_inflate_86
    dsimp only
    rw [if_neg (by decide), f128_3, h.1, ob_n, if_pos (by decide)]
  refine ⟨s', ?_, kd_c e2⟩
  unfold jX2_inflate_76
  rw [o_1 hk, w128_3 (Or.inr rfl), ob_n, id1, lp, ob_n, e1]
theorem inflate7 {s : e_S} {g : ps_G} {K : Nat → Int32} {n d : Nat} (hT : TbC g) (hn : n ≤ 8000) (hd : d ≤ 2328) (f1 : s.1 128 1 = Int32.ofNat n) (hP : ∀ i, i < n → s.2.1 129 i = K i) (hK : ∀ i, i < n → rg (K i) 0 255 = true) : ∃ s' v, fX2_inflate (e_g s g) 128 (Int32.ofNat d) = some (v, e_g s' g) ∧ K7 s s' ∧ (∀ O, ifO K n d = some O → v = 1 ∧ s'.1 128 5 = Int32.ofNat d ∧ ∀ i, i < d → s'.2.1 130 i = O i) ∧ (ifO K n d = none → v = 0) := by
  have mn : fJ9_min_7cf53 (Int32.ofNat d) 2328 = Int32.ofNat d := by
    have c : ¬ (2328 : Int32) < Int32.ofNat d := fun z => by
      have z' : Int32.ofNat 2328 < Int32.ofNat d := z
      have := (n_lt (by omega) (by omega)).mp z'
      omega
    unfold fJ9_min_7cf53
    rw [if_neg c]
  obtain ⟨S, eS⟩ : ∃ S, S = sF (sF (sF (sF s 128 2 0) 128 5 0) 128 3 0) 128 6 (Int32.ofNat d) := ⟨_, rfl⟩
  have kS : K7 s S := by
    rw [eS]
    exact kp_F (kp_F (kp_F (kp_F kp_rf (by decide)) (by decide)) (by decide)) (by decide)
  have gS : GC S K n d 0 0 (fun _ => 0) := by
    rw [eS]
    refine ⟨⟨hn, by omega, ?_, ?_, fun i hi => ?_⟩, ?_, ?_, hd, ?_, by omega, fun i hi => absurd hi (Nat.not_lt_zero i)⟩
    · rw [F_sF, if_neg (by decide), F_sF, if_neg (by decide), F_sF, if_neg (by decide), F_sF, if_neg (by decide)]; exact f1
    · rw [F_sF, if_neg (by decide), F_sF, if_neg (by decide), F_sF, if_neg (by decide), F_sF, if_pos ⟨rfl, rfl⟩]; rfl
    · rw [A_sF, A_sF, A_sF, A_sF]; exact hP i hi
    · rw [F_sF, if_neg (by decide), F_sF, if_pos ⟨rfl, rfl⟩]
    · rw [F_sF, if_pos ⟨rfl, rfl⟩]
    · rw [F_sF, if_neg (by decide), F_sF, if_neg (by decide), F_sF, if_pos ⟨rfl, rfl⟩]; rfl
  have pre : fX2_inflate (e_g s g) 128 (Int32.ofNat d) = Option.bind (q_ob 2 (e_g S g) 128) fun u5 => q_b2 (fX2_readBits (e_g S g) 128 (8 : Int32)) fun v6 g7 => Option.bind (q_ob 2 g7 128) fun u8 => q_b2 (fX2_readBits g7 128 (8 : Int32)) fun v9 g10 => Option.bind (q_fI 2 3 g10 128) fun v11 => if ¬ v6 = (120 : Int32) then (jX2_inflate_71 g10 128 128 v11) else (if ¬ (q_rem ((v6 * (256 : Int32)) + v9) (31 : Int32)) = 0 then (jX2_inflate_71 g10 128 128 v11) else (if (v9 &&& (32 : Int32)) = 0 then (jX2_inflate_76 g10 128 128 v11 (0 : Int32)) else (jX2_inflate_71 g10 128 128 v11))) := by
    unfold fX2_inflate
    rw [w128_2, ob_n, w128_5, ob_n, w128_3 (Or.inl rfl), ob_n, mn, w128_6, ob_n, ← eS]
  clear eS
  -- a wrong state behind the two bytes
  have bad : ∀ (S2 : e_S) (v6 v9 : Int32), BC S2 K n → ∃ s', (if ¬ v6 = (120 : Int32) then (jX2_inflate_71 (e_g S2 g) 128 128 1) else (if ¬ (q_rem ((v6 * (256 : Int32)) + v9) (31 : Int32)) = 0 then (jX2_inflate_71 (e_g S2 g) 128 128 1) else (if (v9 &&& (32 : Int32)) = 0 then (jX2_inflate_76 (e_g S2 g) 128 128 1 (0 : Int32)) else (jX2_inflate_71 (e_g S2 g) 128 128 1)))) = some (0, e_g s' g) ∧ KD S2 s' := fun S2 v6 v9 hS => by
    obtain ⟨a, a1, a2⟩ := bad76 (g := g) (k2 := 1) (Or.inr rfl) hS
    obtain ⟨b, b1, b2⟩ := bad76 (g := g) (k2 := 0) (Or.inl rfl) hS
    unfold jX2_inflate_71
    by_cases q1 : ¬ v6 = (120 : Int32)
    · rw [if_pos q1]; exact ⟨a, a1, a2⟩
    · rw [if_neg q1]
      by_cases q2 : ¬ (q_rem ((v6 * (256 : Int32)) + v9) (31 : Int32)) = 0
      · rw [if_pos q2]; exact ⟨a, a1, a2⟩
      · rw [if_neg q2]
        by_cases q3 : (v9 &&& (32 : Int32)) = 0
        · rw [if_pos q3]; exact ⟨b, b1, b2⟩
        · rw [if_neg q3]; exact ⟨a, a1, a2⟩
  rw [pre, ob128, ob_n]
  by_cases q : n < 2
  · have no : ifO K n d = none := by
      unfold ifO
      rw [if_pos (Or.inl q)]
    rw [no]
    have ex : ∃ v6 s1 v9 s2, fX2_readBits (e_g S g) 128 8 = some (v6, e_g s1 g) ∧ fX2_readBits (e_g s1 g) 128 8 = some (v9, e_g s2 g) ∧ BC s2 K n ∧ KD S s2 := by
      have R := rb7 (g := g) (m := 8) gS (by omega)
      cases e1 : rbO K n 0 8 with
      | none =>
        obtain ⟨v, s1, r1, r2, r3⟩ := R.2 e1
        obtain ⟨v2, s2, q1, q2, q3⟩ := rb7b (g := g) (m := 8) r2 (by omega)
        exact ⟨v, s1, v2, s2, r1, q1, q2, kp_tr (kd_c r3) (kd_c q3)⟩
      | some a =>
        obtain ⟨a1, a2⟩ := a
        obtain ⟨r1, r2, r3⟩ := R.1 a1 a2 e1
        have rs := rbO_s e1
        have e2 : rbO K n a2 8 = none := by
          unfold rbO
          rw [if_neg (by omega)]
        obtain ⟨v2, s2, q1, q2, q3⟩ := (rb7 (g := g) (m := 8) r2 (by omega)).2 e2
        exact ⟨_, _, v2, s2, r1, q1, q2, kp_tr (kd_c (kcF (by decide))) (kd_c q3)⟩
    obtain ⟨v6, s1, v9, s2, r1, r2, r3, r4⟩ := ex
    obtain ⟨s', t1, t2⟩ := bad s2 v6 v9 r3
    refine ⟨s', 0, ?_, kp_tr kS (kp_tr (k7_d r4) (k7_d t2)), fun O z => (by cases z), fun _ => rfl⟩
    rw [r1, b2_n, ob128, ob_n, r2, b2_n, f128_3, r3.1, ob_n, t1]
  · have P1 := readBits7 (g := g) (m := 8) gS.1 (by omega)
    rw [if_pos (by omega)] at P1
    have y0 : Int32.ofNat (rbN K 0 8) = K 0 := rb_y (p := 0) (hK 0 (by omega))
    have y1 : Int32.ofNat (rbN K 8 8) = K 1 := rb_y (p := 1) (hK 1 (by omega))
    rw [y0] at P1
    have P1' : fX2_readBits (e_g S g) 128 8 = some (K 0, e_g (sF S 128 2 (Int32.ofNat 8)) g) := P1
    have P2 := readBits7 (g := g) (m := 8) (pc_b gS.1 (show 8 ≤ 8 * n by omega)) (by omega)
    rw [if_pos (by omega), y1, sF_sF] at P2
    have P2' : fX2_readBits (e_g (sF S 128 2 (Int32.ofNat 8)) g) 128 8 = some (K 1, e_g (sF S 128 2 (Int32.ofNat 16)) g) := P2
    have g16 := gc_b gS (show 16 ≤ 8 * n by omega)
    have k16 : K7 s (sF S 128 2 (Int32.ofNat 16)) := kp_tr kS (k7_d (kd_c (kcF (by decide))))
    have w16 : (sF S 128 2 (Int32.ofNat 16)).1 128 3 = 0 := g16.2.1
    rw [P1', b2_n, ob128, ob_n, P2', b2_n, f128_3, w16, ob_n]
    generalize sF S 128 2 (Int32.ofNat 16) = Z at g16 k16 w16
    -- a wrong head
    have wh : ifO K n d = none → jX2_inflate_71 (e_g Z g) 128 128 0 = jX2_inflate_71 (e_g Z g) 128 128 0 → ∃ s' v, jX2_inflate_71 (e_g Z g) 128 128 0 = some (v, e_g s' g) ∧ K7 s s' ∧ (∀ O, ifO K n d = some O → v = 1 ∧ s'.1 128 5 = Int32.ofNat d ∧ ∀ i, i < d → s'.2.1 130 i = O i) ∧ (ifO K n d = none → v = 0) := fun no _ => by
      have bS : BC (sF Z 128 3 1) K n := bc_w g16.1
      obtain ⟨a, a1, a2⟩ := bad76 (g := g) (k2 := 1) (Or.inr rfl) bS
      have id1 : sF (sF Z 128 3 1) 128 3 1 = sF Z 128 3 1 := by rw [sF_sF]
      have e : jX2_inflate_71 (e_g Z g) 128 128 0 = jX2_inflate_76 (e_g (sF Z 128 3 1) g) 128 128 1 1 := by
        unfold jX2_inflate_71 jX2_inflate_76
        rw [show (0 : Int32) ||| 1 = 1 by decide, show (1 : Int32) ||| 1 = 1 by decide, w128_3 (Or.inr rfl), w128_3 (Or.inr rfl), id1]
      rw [no]
      exact ⟨a, 0, by rw [e, a1], kp_tr (kp_tr k16 (k7_d (k3_d k3_F))) (k7_d a2), fun O z => (by cases z), fun _ => rfl⟩
    by_cases c1 : K 0 = 120
    · by_cases c2 : q_rem (K 0 * 256 + K 1) 31 = 0
      · by_cases c3 : K 1 &&& 32 = 0
        · have u : ifO K n d = (inO K n d (8 * n + 1) (16, 0, fun _ => 0)).bind fun t => @ite _ (okE K n d t) (Classical.propDecidable _) (some t.2.2) none := by
            unfold ifO
            rw [if_neg]
            rintro (z | z | z | z)
            · exact q z
            · exact z c1
            · exact z c2
            · exact z c3
          have id0 : sF Z 128 3 0 = Z := by rw [← w16, sF_id]
          obtain ⟨s3, l1, l2, l3, l4⟩ := infl7 (g := g) (K := K) (n := n) (d := d) hT (8 * n + 1) 0 (16, 0, fun _ => 0) Z (by dsimp only; omega) (by dsimp only; omega) g16
          have l1' : q_lp (fun x => bX2_inflate_86 128 x.1 x.2.1 x.2.2) ((0 : Int32), (0 : Int32), e_g Z g) = some (e_g s3 g) := l1
          have e76 : jX2_inflate_76 (e_g Z g) 128 128 0 0 = jX2_inflate_196 (e_g s3 g) 128 := by
            unfold jX2_inflate_76
            rw [show (0 : Int32) ||| 0 = 0 by decide, w128_3 (Or.inl rfl), ob_n, id0, l1', ob_n]
          rw [if_neg (fun z => z c1), if_neg (fun z => z c2), if_pos c3, e76, u]
          cases ei : inO K n d (8 * n + 1) (16, 0, fun _ => 0) with
          | none =>
            obtain ⟨s', t1, t2⟩ := end7b (g := g) (l4 ei)
            rw [ob_no]
            exact ⟨s', 0, t1, kp_tr (kp_tr k16 (k7_d l2)) (k7_d (kd_c t2)), fun O z => (by cases z), fun _ => rfl⟩
          | some t =>
            obtain ⟨s', v, t1, t2, t3, t4⟩ := end7 (g := g) hK (l3 t ei)
            rw [ob_n]
            refine ⟨s', v, t1, kp_tr (kp_tr k16 (k7_d l2)) (k7_d (kd_c t2)), fun O z => ?_, fun z => ?_⟩
            · by_cases ok : okE K n d t
              · rw [if_pos ok] at z
                have e : t.2.2 = O := Option.some.inj z
                rw [← e]
                exact t3 ok
              · rw [if_neg ok] at z; cases z
            · by_cases ok : okE K n d t
              · rw [if_pos ok] at z; cases z
              · exact t4 ok
        · rw [if_neg (fun z => z c1), if_neg (fun z => z c2), if_neg c3]
          exact wh (by unfold ifO; rw [if_pos (Or.inr (Or.inr (Or.inr c3)))]) rfl
      · rw [if_neg (fun z => z c1), if_pos c2]
        exact wh (by unfold ifO; rw [if_pos (Or.inr (Or.inr (Or.inl c2)))]) rfl
    · rw [if_pos c1]
      exact wh (by unfold ifO; rw [if_pos (Or.inr (Or.inl c1))]) rfl
theorem inflate12 {s : e_S} {g : ps_G} {K : Nat → Int32} {n d : Nat} (hT : TbM s) (h6 : ∀ j, j < 19 → s.2.1 186 j = tbV 6 j) (hn : n ≤ 8000) (hd : d ≤ 2328) (f1 : s.1 139 79 = Int32.ofNat n) (f2 : s.1 139 89 = Int32.ofNat d) (hP : ∀ i, i < n → s.2.1 188 i = K i) : ∃ s', fX12_inflate (e_g s g) 139 = some (e_g s' g) ∧ KN s s' ∧ (∀ O, ifO K n d = some O → s'.1 139 87 = 0 ∧ s'.1 139 75 = Int32.ofNat d ∧ ∀ i, i < d → s'.2.1 187 i = O i) ∧ (ifO K n d = none → s'.1 139 87 = 1) := by
  have kst : ∀ e : Int32, KN s (sF (sF (sF s 139 87 e) 139 88 (Int32.ofNat 16)) 139 75 0) := fun e => kp_F (kp_F (kp_F kp_rf (by decide)) (by decide)) (by decide)
  -- ill from the start
  have bad : ifO K n d = none → ∃ s', jX12_inflate_55 (e_g s g) 139 139 = some (e_g s' g) ∧ KN s s' ∧ (∀ O, ifO K n d = some O → s'.1 139 87 = 0 ∧ s'.1 139 75 = Int32.ofNat d ∧ ∀ i, i < d → s'.2.1 187 i = O i) ∧ (ifO K n d = none → s'.1 139 87 = 1) := fun no => by
    have si : (sF (sF (sF s 139 87 1) 139 88 (Int32.ofNat 16)) 139 75 0).1 139 87 = 1 := by rw [F_sF, if_neg (by decide), F_sF, if_neg (by decide), F_sF, if_pos ⟨rfl, rfl⟩]
    have k1 := kst 1
    rw [no]
    refine ⟨_, ?_, k1, fun O z => (by cases z), fun _ => si⟩
    unfold jX12_inflate_55 jX12_inflate_60
    rw [w139_87 (Or.inr rfl), ob_n, w139_88, ob_n, w139_75, ob_n]
    have e16 : (16 : Int32) = Int32.ofNat 16 := rfl
    rw [e16]
    generalize sF (sF (sF s 139 87 1) 139 88 (Int32.ofNat 16)) 139 75 0 = Z at si
    have lp : q_lp (fun x => bX12_inflate_76 139 x.1 x.2) ((0 : Int32), e_g Z g) = some (.inl (e_g Z g)) := by
      refine lp_end ?_
      show bX12_inflate_76 _ _ _ = _
      unfold bX12_inflate_76
      dsimp only
      rw [f139_87, si, ob_n, if_pos (Or.inl (by decide))]
    rw [lp, ob_n, Sum.elim_inl]
    unfold jX12_inflate_162
    rw [f139_87, si, ob_n, if_neg (by decide)]
  unfold fX12_inflate
  rw [f139_79, f1, ob_n]
  by_cases q : n < 2
  · have c : Int32.ofNat n < (2 : Int32) := show _ < Int32.ofNat 2 from (n_lt (by omega) (by omega)).mpr q
    rw [if_pos c]
    exact bad (by unfold ifO; rw [if_pos (Or.inl q)])
  · have c : ¬ Int32.ofNat n < (2 : Int32) := fun z => by
      have z' : Int32.ofNat n < Int32.ofNat 2 := z
      exact q ((n_lt (by omega) (by omega)).mp z')
    have r0 : q_aI (e_g s g) 188 0 = some (K 0) := by
      have z := tb_rd (s := s) (g := g) (i := 0) t188 (by omega) (by omega)
      rw [hP 0 (by omega)] at z
      exact z
    have r1 : q_aI (e_g s g) 188 1 = some (K 1) := by
      have z := tb_rd (s := s) (g := g) (i := 1) t188 (by omega) (by omega)
      rw [hP 1 (by omega)] at z
      exact z
    rw [if_neg c, f139_78, ob_n, ob_n, r0, ob_n]
    by_cases c1 : K 0 = 120
    · rw [if_neg (fun z => z c1), ob_n, ob_n, r0, ob_n, ob_n, ob_n, r1, ob_n, Int32.mul_comm 256 (K 0)]
      by_cases c2 : q_rem (K 0 * 256 + K 1) 31 = 0
      · rw [if_neg (fun z => z c2), ob_n, ob_n, r1, ob_n]
        by_cases c3 : K 1 &&& 32 = 0
        · rw [if_pos c3]
          have u : ifO K n d = (inO K n d (8 * n + 1) (16, 0, fun _ => 0)).bind fun t => @ite _ (okE K n d t) (Classical.propDecidable _) (some t.2.2) none := by
            unfold ifO
            rw [if_neg]
            rintro (z | z | z | z)
            · exact q z
            · exact z c1
            · exact z c2
            · exact z c3
          have k0 := kst 0
          have gZ : GM (sF (sF (sF s 139 87 0) 139 88 (Int32.ofNat 16)) 139 75 0) K n d 16 0 (fun _ => 0) := by
            refine ⟨⟨hn, by omega, ?_, ?_, fun i hi => ?_⟩, ?_, ?_, hd, ?_, by omega, fun i hi => absurd hi (Nat.not_lt_zero i)⟩
            · rw [F_sF, if_neg (by decide), F_sF, if_neg (by decide), F_sF, if_neg (by decide)]; exact f1
            · rw [F_sF, if_neg (by decide), F_sF, if_pos ⟨rfl, rfl⟩]
            · rw [A_sF, A_sF, A_sF]; exact hP i hi
            · rw [F_sF, if_neg (by decide), F_sF, if_neg (by decide), F_sF, if_pos ⟨rfl, rfl⟩]
            · rw [F_sF, if_neg (by decide), F_sF, if_neg (by decide), F_sF, if_neg (by decide)]; exact f2
            · rw [F_sF, if_pos ⟨rfl, rfl⟩]; rfl
          have hTZ : TbM (sF (sF (sF s 139 87 0) 139 88 (Int32.ofNat 16)) 139 75 0) := by
            unfold TbM
            rw [A_sF, A_sF, A_sF]
            exact hT
          have h6Z : ∀ j, j < 19 → (sF (sF (sF s 139 87 0) 139 88 (Int32.ofNat 16)) 139 75 0).2.1 186 j = tbV 6 j := fun j hj => by rw [A_sF, A_sF, A_sF]; exact h6 j hj
          have e60 : jX12_inflate_60 (e_g s g) 139 139 0 = Option.bind (q_lp (fun x => bX12_inflate_76 139 x.1 x.2) ((0 : Int32), e_g (sF (sF (sF s 139 87 0) 139 88 (Int32.ofNat 16)) 139 75 0) g)) fun s48 => Sum.elim (fun r49 => jX12_inflate_162 r49 139) (fun v92 => some v92) s48 := by
            unfold jX12_inflate_60
            rw [w139_87 (Or.inl rfl), ob_n, w139_88, ob_n, w139_75, ob_n]
            rfl
          rw [e60]
          generalize sF (sF (sF s 139 87 0) 139 88 (Int32.ofNat 16)) 139 75 0 = Z at k0 gZ hTZ h6Z
          obtain ⟨r, s3, l1, l2, l3, l4⟩ := infl12 (g := g) (K := K) (n := n) (d := d) (8 * n + 1) (16, 0, fun _ => 0) Z hTZ h6Z gZ ⟨8 * n + 1, by dsimp only; omega, Nat.le_refl _⟩ (fun t t' l z => (bg_bl z).2)
          rw [l1, ob_n, u]
          cases ei : inO K n d (8 * n + 1) (16, 0, fun _ => 0) with
          | none =>
            obtain ⟨y1, y2⟩ := l4 ei
            rw [ob_no]
            refine ⟨s3, ?_, kp_tr k0 l2, fun O z => (by cases z), fun _ => y2⟩
            rcases y1 with y1 | y1
            · rw [y1, Sum.elim_inl]
              unfold jX12_inflate_162
              rw [f139_87, y2, ob_n, if_neg (by decide)]
            · rw [y1, Sum.elim_inr]
          | some t =>
            obtain ⟨y1, y2⟩ := l3 t ei
            have bB := (bg_in _ _ _ ei).2 (fun i hi => absurd hi (Nat.not_lt_zero i))
            obtain ⟨s', t1, t2, t3, t4⟩ := endI12 (g := g) bB y2
            rw [ob_n, y1, Sum.elim_inl]
            refine ⟨s', t1, kp_tr (kp_tr k0 l2) (kn_m t2), fun O z => ?_, fun z => ?_⟩
            · by_cases ok : okE K n d t
              · rw [if_pos ok] at z
                have e : t.2.2 = O := Option.some.inj z
                rw [← e]
                exact t3 ok
              · rw [if_neg ok] at z; cases z
            · by_cases ok : okE K n d t
              · rw [if_pos ok] at z; cases z
              · exact t4 ok
        · rw [if_neg c3]
          exact bad (by unfold ifO; rw [if_pos (Or.inr (Or.inr (Or.inr c3)))])
      · rw [if_pos c2]
        exact bad (by unfold ifO; rw [if_pos (Or.inr (Or.inr (Or.inl c2)))])
    · rw [if_pos c1]
      exact bad (by unfold ifO; rw [if_pos (Or.inr (Or.inl c1))])
/-- the rows are bytes -/
theorem if_by {K : Nat → Int32} {n d : Nat} {O : Nat → Int32} (h : ifO K n d = some O) : ∀ i, i < d → rg (O i) 0 255 = true := by
  unfold ifO at h
  by_cases c : n < 2 ∨ ¬ K 0 = 120 ∨ ¬ q_rem (K 0 * 256 + K 1) 31 = 0 ∨ ¬ K 1 &&& 32 = 0
  · rw [if_pos c] at h; cases h
  · rw [if_neg c] at h
    cases ei : inO K n d (8 * n + 1) (16, 0, fun _ => 0) with
    | none => rw [ei, ob_no] at h; cases h
    | some t =>
      rw [ei, ob_n] at h
      by_cases ok : okE K n d t
      · rw [if_pos ok] at h
        have e : t.2.2 = O := Option.some.inj h
        have bB := (bg_in _ _ _ ei).2 (fun i hi => absurd hi (Nat.not_lt_zero i))
        rw [← e]
        intro i hi
        exact bB i (by show i < t.2.1; rw [ok.2.1]; exact hi)
      · rw [if_neg ok] at h; cases h
