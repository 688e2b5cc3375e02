-- needs: 97zzzzf
/-! ===== png: rows by the reference ===== -/
def KR (s s' : e_S) : Prop := Kp [187, 191, 192, 193] 139 [4, 5, 75, 87, 88, 89, 93] s s'
theorem kr_w {A Fs : List Nat} {s s' : e_S} (h : Kp A 139 Fs s s') (hA : ∀ j, j ∈ A → j ∈ [187, 191, 192, 193]) (hF : ∀ j, j ∈ Fs → j ∈ [4, 5, 75, 87, 88, 89, 93]) : KR s s' := kp_w h (fun j hj => List.contains_iff_mem.mpr (hA j (List.contains_iff_mem.mp hj))) (fun j hj => List.contains_iff_mem.mpr (hF j (List.contains_iff_mem.mp hj)))
theorem ind12 {S : e_S} {g : ps_G} {w h d pm a : Nat} {P : Nat → Int32} (hw : w ≤ 24) (hh : h ≤ 24) (hd : d = h * (1 + w * 1)) (hd2 : d ≤ 2328) (hR : RM S 1 w h d P) (f5 : S.1 139 85 = 3) (f8 : S.1 139 82 = Int32.ofNat pm) (f6 : S.1 139 86 = Int32.ofNat a) (h4 : S.1 139 4 = 0) : ∃ T, q_lp (fun t => bX12_readRows_96 139 t.1 t.2) ((0 : Int32), e_g S g) = some (e_g T g) ∧ ((T = S ∧ allP P w h pm) ∨ (T = sF (sF S 139 4 (Int32.ofNat 6)) 139 5 (Int32.ofNat a) ∧ ¬ allP P w h pm)) := by
  obtain ⟨S6, eS6⟩ : ∃ S6, S6 = sF (sF S 139 4 (Int32.ofNat 6)) 139 5 (Int32.ofNat a) := ⟨_, rfl⟩
  rw [← eS6]
  have k6 : Kp [] 139 [4, 5] S S6 := by rw [eS6]; exact kp_F (kp_F kp_rf (by decide)) (by decide)
  have w6 : fX12_wrong (e_g S g) 139 6 (Int32.ofNat a) = some (e_g S6 g) := by rw [eS6]; exact wrong12 h4
  have s64 : S6.1 139 4 = Int32.ofNat 6 := by rw [eS6, F_sF, if_neg (by decide), F_sF, if_pos ⟨rfl, rfl⟩]
  have w66 : fX12_wrong (e_g S6 g) 139 6 (Int32.ofNat a) = some (e_g S6 g) := wrong12p (by rw [s64]; decide)
  have rS6 : RM S6 1 w h d P := by
    unfold RM at hR ⊢
    rw [k6.2.1 139 93 (by decide), k6.2.1 139 83 (by decide), k6.2.1 139 84 (by decide), k6.1 187 (by decide)]
    exact hR
  have lt : ∀ y x, y < h → x < w → y * (1 + w * 1) + 1 + x < d := fun y x hy hx => by
    have a : (y + 1) * (1 + w * 1) ≤ h * (1 + w * 1) := Nat.mul_le_mul_right _ hy
    have b : (y + 1) * (1 + w * 1) = y * (1 + w * 1) + (1 + w * 1) := Nat.succ_mul y _
    omega
  -- what holds of either state
  have both : ∀ T, (T = S ∨ T = S6) → RM T 1 w h d P ∧ T.1 139 85 = 3 ∧ T.1 139 82 = Int32.ofNat pm ∧ T.1 139 86 = Int32.ofNat a ∧ fX12_wrong (e_g T g) 139 6 (Int32.ofNat a) = some (e_g S6 g) := fun T hT => by
    rcases hT with hT | hT
    · rw [hT]; exact ⟨hR, f5, f8, f6, w6⟩
    · rw [hT]
      exact ⟨rS6, (k6.2.1 139 85 (by decide)).trans f5, (k6.2.1 139 82 (by decide)).trans f8, (k6.2.1 139 86 (by decide)).trans f6, w66⟩
  have inner : ∀ (y : Nat) (T : e_S) (ok0 : Prop), y < h → ((T = S ∧ ok0) ∨ (T = S6 ∧ ¬ ok0)) → ∃ T', q_lp (fun t => bX12_readRows_114 139 (Int32.ofNat y) t.1 t.2) ((0 : Int32), e_g T g) = some (e_g T' g) ∧ ((T' = S ∧ (ok0 ∧ ∀ x, x < w → P (y * (1 + w) + 1 + x) < Int32.ofNat pm)) ∨ (T' = S6 ∧ ¬ (ok0 ∧ ∀ x, x < w → P (y * (1 + w) + 1 + x) < Int32.ofNat pm))) := by
    intro y T ok0 hy h0
    obtain ⟨r, lp, T', e, hT'⟩ := lp_n (b := fun t => bX12_readRows_114 139 (Int32.ofNat y) t.1 t.2) (fun i t => ∃ T, t = (Int32.ofNat i, e_g T g) ∧ ((T = S ∧ (ok0 ∧ ∀ x, x < i → P (y * (1 + w) + 1 + x) < Int32.ofNat pm)) ∨ (T = S6 ∧ ¬ (ok0 ∧ ∀ x, x < i → P (y * (1 + w) + 1 + x) < Int32.ofNat pm)))) (fun r => ∃ T, r = e_g T g ∧ ((T = S ∧ (ok0 ∧ ∀ x, x < w → P (y * (1 + w) + 1 + x) < Int32.ofNat pm)) ∨ (T = S6 ∧ ¬ (ok0 ∧ ∀ x, x < w → P (y * (1 + w) + 1 + x) < Int32.ofNat pm)))) w (fun i t hi ⟨T, ht, hT⟩ => by
      obtain ⟨b1, b2, b3, b4, b5⟩ := both T (hT.elim (fun y => Or.inl y.1) (fun y => Or.inr y.1))
      have rb := rowB12 (g := g) (y := y) (i := i) (by omega) hw hd2 b1 (by omega) (by omega) (lt y i hy hi)
      rw [Nat.mul_one] at rb
      by_cases q : P (y * (1 + w) + 1 + i) < Int32.ofNat pm
      · refine ⟨(Int32.ofNat (i + 1), e_g T g), ?_, T, rfl, ?_⟩
        · rw [ht]
          show bX12_readRows_114 _ _ _ _ = _
          unfold bX12_readRows_114 jX12_readRows_145_114
          dsimp only
          rw [f139_83, b1.2.1, ob_n, if_neg (nle hi (by omega)), ob139, ob_n, rb, ob_n, f139_82, b3, ob_n, if_pos q, n_suc]
        · rcases hT with ⟨h1, h2, h3⟩ | ⟨h1, h2⟩
          · refine Or.inl ⟨h1, h2, fun x hx => ?_⟩
            by_cases e : x = i
            · rw [e]; exact q
            · exact h3 x (by omega)
          · exact Or.inr ⟨h1, fun y => h2 ⟨y.1, fun x hx => y.2 x (by omega)⟩⟩
      · refine ⟨(Int32.ofNat (i + 1), e_g S6 g), ?_, S6, rfl, Or.inr ⟨rfl, fun y => q (y.2 i (by omega))⟩⟩
        rw [ht]
        show bX12_readRows_114 _ _ _ _ = _
        unfold bX12_readRows_114 jX12_readRows_145_114
        dsimp only
        rw [f139_83, b1.2.1, ob_n, if_neg (nle hi (by omega)), ob139, ob_n, rb, ob_n, f139_82, b3, ob_n, if_neg q, f139_86, b4, ob_n, ob_n, b5, ob_n, n_suc]) (fun t ⟨T, ht, hT⟩ => by
      obtain ⟨b1, b2, b3, b4, b5⟩ := both T (hT.elim (fun y => Or.inl y.1) (fun y => Or.inr y.1))
      refine ⟨_, ?_, T, rfl, hT⟩
      rw [ht]
      show bX12_readRows_114 _ _ _ _ = _
      unfold bX12_readRows_114
      dsimp only
      rw [f139_83, b1.2.1, ob_n, if_pos (nlr (by omega))]) (s := ((0 : Int32), e_g T g)) ⟨T, rfl, h0.elim (fun y => Or.inl ⟨y.1, y.2, fun x hx => absurd hx (Nat.not_lt_zero x)⟩) (fun y => Or.inr ⟨y.1, fun z => y.2 z.1⟩)⟩
    exact ⟨T', by rw [lp, e], hT'⟩
  obtain ⟨r, lp, T', e, hT'⟩ := lp_n (b := fun t => bX12_readRows_96 139 t.1 t.2) (fun y t => ∃ T, t = (Int32.ofNat y, e_g T g) ∧ ((T = S ∧ (∀ y', y' < y → ∀ x, x < w → P (y' * (1 + w) + 1 + x) < Int32.ofNat pm)) ∨ (T = S6 ∧ ¬ (∀ y', y' < y → ∀ x, x < w → P (y' * (1 + w) + 1 + x) < Int32.ofNat pm)))) (fun r => ∃ T, r = e_g T g ∧ ((T = S ∧ allP P w h pm) ∨ (T = S6 ∧ ¬ allP P w h pm))) h (fun y t hy ⟨T, ht, hT⟩ => by
    obtain ⟨b1, b2, b3, b4, b5⟩ := both T (hT.elim (fun y => Or.inl y.1) (fun y => Or.inr y.1))
    obtain ⟨T', l1, l2⟩ := inner y T _ hy hT
    have n3 : ¬ ¬ (3 : Int32) = (3 : Int32) := fun y => y rfl
    refine ⟨(Int32.ofNat (y + 1), e_g T' g), ?_, T', rfl, ?_⟩
    · rw [ht]
      show bX12_readRows_96 _ _ _ = _
      unfold bX12_readRows_96
      dsimp only
      rw [f139_84, b1.2.2.1, ob_n, if_neg (nle hy (by omega)), f139_85, b2, ob_n, if_neg n3, l1, ob_n, n_suc]
    · have iff : ((∀ y', y' < y → ∀ x, x < w → P (y' * (1 + w) + 1 + x) < Int32.ofNat pm) ∧ ∀ x, x < w → P (y * (1 + w) + 1 + x) < Int32.ofNat pm) ↔ ∀ y', y' < y + 1 → ∀ x, x < w → P (y' * (1 + w) + 1 + x) < Int32.ofNat pm := by
        constructor
        · rintro ⟨z1, z2⟩ y' hy'
          by_cases e : y' = y
          · rw [e]; exact z2
          · exact z1 y' (by omega)
        · intro z
          exact ⟨fun y' hy' => z y' (by omega), z y (by omega)⟩
      rcases l2 with ⟨x1, x2⟩ | ⟨x1, x2⟩
      · exact Or.inl ⟨x1, iff.mp x2⟩
      · exact Or.inr ⟨x1, fun z => x2 (iff.mpr z)⟩) (fun t ⟨T, ht, hT⟩ => by
    obtain ⟨b1, b2, b3, b4, b5⟩ := both T (hT.elim (fun y => Or.inl y.1) (fun y => Or.inr y.1))
    refine ⟨_, ?_, T, rfl, hT⟩
    rw [ht]
    show bX12_readRows_96 _ _ _ = _
    unfold bX12_readRows_96
    dsimp only
    rw [f139_84, b1.2.2.1, ob_n, if_pos (nlr (by omega))]) (s := ((0 : Int32), e_g S g)) ⟨S, rfl, Or.inl ⟨rfl, fun y' hy' => absurd hy' (Nat.not_lt_zero y')⟩⟩
  exact ⟨T', by rw [lp, e], hT'⟩
theorem readRows12 {s : e_S} {g : ps_G} {Q : CQ} {c w h a : Nat} (hT : TbM s) (h6 : ∀ j, j < 19 → s.2.1 186 j = tbV 6 j) (hQ : QM s Q) (h4 : s.1 139 4 = 0) (q1 : Q.1 = some (c, w, h)) (q4 : Q.2.2.2.1 = some a) (hl : Q.2.2.2.2.2 ≤ 8000) : ∃ s', fX12_readRows (e_g s g) 139 = some (e_g s' g) ∧ KR s s' ∧ (∀ P, rsO c w h Q.2.1.1 a Q.2.2.2.2.1 Q.2.2.2.2.2 = .inr P → s'.1 139 4 = 0 ∧ s'.1 139 5 = s.1 139 5 ∧ RM s' (chN c) w h (h * (1 + w * chN c)) P) ∧ ∀ e p, rsO c w h Q.2.1.1 a Q.2.2.2.2.1 Q.2.2.2.2.2 = .inl (e, p) → s'.1 139 4 = Int32.ofNat e ∧ s'.1 139 5 = Int32.ofNat p := by
  obtain ⟨r1, r2, r3, r4, r5, r6⟩ := id hQ
  obtain ⟨c1, w1, h1, x1, x2, x3, x4, x5, x6, x7⟩ : ∃ c w h', Q.1 = some (c, w, h') ∧ c < 7 ∧ (1 ≤ w ∧ w ≤ 24) ∧ (1 ≤ h' ∧ h' ≤ 24) ∧ s.1 139 85 = Int32.ofNat c ∧ s.1 139 83 = Int32.ofNat w ∧ s.1 139 84 = Int32.ofNat h' := r1.elim (fun y => by rw [q1] at y; cases y) id
  rw [q1] at x1
  have x1' := Option.some.inj x1
  have ec : c = c1 := congrArg Prod.fst x1'
  have ew : w = w1 := congrArg (fun t => t.2.1) x1'
  have eh : h = h1 := congrArg (fun t => t.2.2) x1'
  subst ec ew eh
  obtain ⟨a', y1, y2, y3⟩ : ∃ a, Q.2.2.2.1 = some a ∧ a ≤ 8000 ∧ s.1 139 86 = Int32.ofNat a := r4.elim (fun y => by rw [q4] at y; cases y.1) id
  rw [q4] at y1
  have ea : a = a' := Option.some.inj y1
  subst ea
  have hu := ch_i (c := c)
  have wst : w * chN c ≤ 24 * 4 := Nat.mul_le_mul x3.2 hu.2
  have hd2 : h * (1 + w * chN c) ≤ 2328 := by
    have : h * (1 + w * chN c) ≤ 24 * 97 := Nat.mul_le_mul x4.2 (by omega)
    omega
  have eD : Int32.ofNat h * (1 + Int32.ofNat (chN c) * Int32.ofNat w) = Int32.ofNat (h * (1 + w * chN c)) := by
    have e1 : (1 : Int32) = Int32.ofNat 1 := rfl
    rw [n_mul, e1, n_add, n_mul, Nat.mul_comm (chN c) w]
  -- the number of bytes a pixel
  have disp : fX12_readRows (e_g s g) 139 = jX12_readRows_39 (e_g s g) 139 139 (Int32.ofNat (chN c)) := by
    have e : ∀ k : Nat, k < 100 → (Int32.ofNat c = Int32.ofNat k ↔ c = k) := fun k hk => n_eq (by omega) (by omega)
    have e2 : Int32.ofNat c = (2 : Int32) ↔ c = 2 := e 2 (by omega)
    have e4 : Int32.ofNat c = (4 : Int32) ↔ c = 4 := e 4 (by omega)
    have e6 : Int32.ofNat c = (6 : Int32) ↔ c = 6 := e 6 (by omega)
    unfold fX12_readRows chN
    rw [f139_85, x5, ob_n]
    by_cases q2 : c = 2
    · rw [if_neg (fun z => z (e2.mpr q2)), if_pos q2]; rfl
    · rw [if_pos (fun z => q2 (e2.mp z)), if_neg q2, ob_n]
      by_cases q4 : c = 4
      · rw [if_neg (fun z => z (e4.mpr q4)), if_pos q4]; rfl
      · rw [if_pos (fun z => q4 (e4.mp z)), if_neg q4, ob_n]
        by_cases q6 : c = 6
        · rw [if_neg (fun z => z (e6.mpr q6)), if_pos q6]; rfl
        · rw [if_pos (fun z => q6 (e6.mp z)), if_neg q6]; rfl
  obtain ⟨S0, eS0⟩ : ∃ S0, S0 = sF (sF s 139 93 (Int32.ofNat (chN c))) 139 89 (Int32.ofNat (h * (1 + w * chN c))) := ⟨_, rfl⟩
  have k0 : Kp [] 139 [89, 93] s S0 := by rw [eS0]; exact kp_F (kp_F kp_rf (by decide)) (by decide)
  have kr0 : KR s S0 := kr_w k0 (fun j hj => by cases hj) (by decide)
  have u93 : S0.1 139 93 = Int32.ofNat (chN c) := by rw [eS0, F_sF, if_neg (by decide), F_sF, if_pos ⟨rfl, rfl⟩]
  have u89 : S0.1 139 89 = Int32.ofNat (h * (1 + w * chN c)) := by rw [eS0, F_sF, if_pos ⟨rfl, rfl⟩]
  obtain ⟨S, t1, t2, t3, t4⟩ := inflate12 (s := S0) (g := g) (K := Q.2.2.2.2.1) (n := Q.2.2.2.2.2) (d := h * (1 + w * chN c)) (by
    unfold TbM
    rw [k0.1 182 (by decide), k0.1 183 (by decide), k0.1 184 (by decide), k0.1 185 (by decide)]
    exact hT) (fun j hj => by rw [k0.1 186 (by decide)]; exact h6 j hj) hl hd2 ((k0.2.1 139 79 (by decide)).trans r5) u89 (fun i hi => by rw [k0.1 188 (by decide)]; exact r6 i hi)
  have krS : KR s S := kp_tr kr0 (kr_w t2 (by decide) (by decide))
  have s93 : S.1 139 93 = Int32.ofNat (chN c) := (t2.2.1 139 93 (by decide)).trans u93
  have pre : fX12_readRows (e_g s g) 139 = Option.bind (q_fI 12 87 (e_g S g) 139) fun v18 => if ¬ v18 = 0 then (jX12_readRows_77 (e_g S g) 139) else (Option.bind (q_ob 12 (e_g S g) 139) fun u54 => Option.bind (fX12_refill (e_g S g) 139) fun v55 => jX12_readRows_77 v55 139) := by
    rw [disp]
    unfold jX12_readRows_39
    have a93 : (sF s 139 93 (Int32.ofNat (chN c))).1 139 93 = Int32.ofNat (chN c) := by rw [F_sF, if_pos ⟨rfl, rfl⟩]
    have a84 : (sF s 139 93 (Int32.ofNat (chN c))).1 139 84 = Int32.ofNat h := by rw [F_sF, if_neg (by decide)]; exact x7
    have a83 : (sF s 139 93 (Int32.ofNat (chN c))).1 139 83 = Int32.ofNat w := by rw [F_sF, if_neg (by decide)]; exact x6
    rw [w139_93, ob_n, f139_84, a84, ob_n, f139_93, a93, ob_n, f139_83, a83, ob_n, eD, w139_89, ob_n, ← eS0, ob139, ob_n, t1, ob_n]
  -- the rows can't be
  have flt : ∀ T : e_S, KR s T → T.1 139 4 = 0 → T.1 139 87 = 1 → rsO c w h Q.2.1.1 a Q.2.2.2.2.1 Q.2.2.2.2.2 = .inl (5, a) → ∃ s', jX12_readRows_77 (e_g T g) 139 = some (e_g s' g) ∧ KR s s' ∧ (∀ P, rsO c w h Q.2.1.1 a Q.2.2.2.2.1 Q.2.2.2.2.2 = .inr P → s'.1 139 4 = 0 ∧ s'.1 139 5 = s.1 139 5 ∧ RM s' (chN c) w h (h * (1 + w * chN c)) P) ∧ ∀ e p, rsO c w h Q.2.1.1 a Q.2.2.2.2.1 Q.2.2.2.2.2 = .inl (e, p) → s'.1 139 4 = Int32.ofNat e ∧ s'.1 139 5 = Int32.ofNat p := fun T k T4 Ti hr => by
    have f86 : T.1 139 86 = Int32.ofNat a := (k.2.1 139 86 (by decide)).trans y3
    have i1 : ¬ (1 : Int32) = 0 := by decide
    have w5 : fX12_wrong (e_g T g) 139 5 (Int32.ofNat a) = some (e_g (sF (sF T 139 4 (Int32.ofNat 5)) 139 5 (Int32.ofNat a)) g) := wrong12 T4
    refine ⟨sF (sF T 139 4 (Int32.ofNat 5)) 139 5 (Int32.ofNat a), ?_, kp_F (kp_F k (by decide)) (by decide), fun P z => (by rw [hr] at z; cases z), fun e p z => ?_⟩
    · unfold jX12_readRows_77
      rw [f139_87, Ti, ob_n, if_neg i1, f139_86, f86, ob_n, ob139, ob_n, w5, ob_n]
    · rw [hr] at z
      have z' := Sum.inl.inj z
      have e1 : 5 = e := congrArg Prod.fst z'
      have e2 : a = p := congrArg Prod.snd z'
      rw [← e1, ← e2]
      exact ⟨by rw [F_sF, if_neg (by decide), F_sF, if_pos ⟨rfl, rfl⟩], by rw [F_sF, if_pos ⟨rfl, rfl⟩]⟩
  have S4 : S.1 139 4 = 0 := ((t2.2.1 139 4 (by decide)).trans (k0.2.1 139 4 (by decide))).trans h4
  have S5 : S.1 139 5 = s.1 139 5 := (t2.2.1 139 5 (by decide)).trans (k0.2.1 139 5 (by decide))
  have z00 : ¬ ¬ (0 : Int32) = 0 := fun y => y rfl
  rw [pre]
  cases ei : ifO Q.2.2.2.2.1 Q.2.2.2.2.2 (h * (1 + w * chN c)) with
  | none =>
    have u : rsO c w h Q.2.1.1 a Q.2.2.2.2.1 Q.2.2.2.2.2 = .inl (5, a) := by
      unfold rsO
      rw [ei]
      rfl
    have i1 : ¬ (1 : Int32) = 0 := by decide
    rw [f139_87, t4 ei, ob_n, if_pos i1]
    exact flt S krS S4 (t4 ei) u
  | some O =>
    obtain ⟨v1, g5, gO⟩ := t3 O ei
    obtain ⟨S2, m1, m2, m3, m4⟩ := refill12 (s := S) (g := g) (u := chN c) (w := w) (h := h) (d := h * (1 + w * chN c)) (O := O) hu.1 hu.2 x3.2 x4.2 rfl hd2 (if_by ei) v1 ⟨s93, ((t2.2.1 139 83 (by decide)).trans (k0.2.1 139 83 (by decide))).trans x6, ((t2.2.1 139 84 (by decide)).trans (k0.2.1 139 84 (by decide))).trans x7, gO⟩
    have kr2 : KR s S2 := kp_tr krS (kr_w m2 (by decide) (by decide))
    have S24 : S2.1 139 4 = 0 := (m2.2.1 139 4 (by decide)).trans S4
    have S25 : S2.1 139 5 = s.1 139 5 := (m2.2.1 139 5 (by decide)).trans S5
    rw [f139_87, v1, ob_n, if_neg z00, ob139, ob_n, m1, ob_n]
    cases eu : ufO (chN c) w O h with
    | none =>
      have u : rsO c w h Q.2.1.1 a Q.2.2.2.2.1 Q.2.2.2.2.2 = .inl (5, a) := by
        unfold rsO
        rw [ei]
        show (ufO (chN c) w O h).elim _ _ = _
        rw [eu]
        rfl
      exact flt S2 kr2 S24 (m4 eu) u
    | some P =>
      obtain ⟨v21, ro⟩ := m3 P eu
      have u : rsO c w h Q.2.1.1 a Q.2.2.2.2.1 Q.2.2.2.2.2 = @ite _ (c = 3 ∧ ¬ allP P w h Q.2.1.1) (Classical.propDecidable _) (.inl (6, a)) (.inr P) := by
        unfold rsO
        rw [ei]
        show (ufO (chN c) w O h).elim _ _ = _
        rw [eu]
        rfl
      have f85 : S2.1 139 85 = Int32.ofNat c := (kr2.2.1 139 85 (by decide)).trans x5
      have pre2 : ∀ T : e_S, q_lp (fun t => bX12_readRows_96 139 t.1 t.2) ((0 : Int32), e_g S2 g) = some (e_g T g) → jX12_readRows_77 (e_g S2 g) 139 = some (e_g T g) := fun T hT => by
        unfold jX12_readRows_77 jX12_readRows_157
        rw [f139_87, v21, ob_n, if_pos rfl, hT, ob_n]
      by_cases qc : c = 3
      · have e13 : chN c = 1 := by rw [qc]; rfl
        rw [e13] at ro
        have f85' : S2.1 139 85 = 3 := by rw [f85, qc]; rfl
        have hd1 : h * (1 + w * 1) ≤ 2328 := by rw [e13] at hd2; exact hd2
        obtain ⟨T, l1, l2⟩ := ind12 (g := g) (pm := Q.2.1.1) (a := a) x3.2 x4.2 rfl hd1 ro f85' ((kr2.2.1 139 82 (by decide)).trans r2.2.1) ((kr2.2.1 139 86 (by decide)).trans y3) S24
        rcases l2 with ⟨z1, z2⟩ | ⟨z1, z2⟩
        · refine ⟨S2, pre2 S2 (by rw [l1, z1]), kr2, fun P2 z => ?_, fun e p z => (by rw [u, if_neg (fun y => y.2 z2)] at z; cases z)⟩
          rw [u, if_neg (fun y => y.2 z2)] at z
          have e : P = P2 := Sum.inr.inj z
          rw [← e, e13]
          exact ⟨S24, S25, ro⟩
        · refine ⟨T, pre2 T l1, ?_, fun P2 z => (by rw [u, if_pos ⟨qc, z2⟩] at z; cases z), fun e p z => ?_⟩
          · rw [z1]
            exact kp_F (kp_F kr2 (by decide)) (by decide)
          · rw [u, if_pos ⟨qc, z2⟩] at z
            have z' := Sum.inl.inj z
            have e1 : 6 = e := congrArg Prod.fst z'
            have e2 : a = p := congrArg Prod.snd z'
            rw [← e1, ← e2, z1]
            exact ⟨by rw [F_sF, if_neg (by decide), F_sF, if_pos ⟨rfl, rfl⟩], by rw [F_sF, if_pos ⟨rfl, rfl⟩]⟩
      · have c3 : Int32.ofNat c = (3 : Int32) ↔ c = 3 := n_eq (b := 3) (by omega) (by omega)
        have nc : ¬ Int32.ofNat c = (3 : Int32) := fun y => qc (c3.mp y)
        have lp : q_lp (fun t => bX12_readRows_96 139 t.1 t.2) ((0 : Int32), e_g S2 g) = some (e_g S2 g) := by
          refine lp_end ?_
          show bX12_readRows_96 _ _ _ = _
          unfold bX12_readRows_96
          dsimp only
          have c0 : ¬ Int32.ofNat h ≤ (0 : Int32) := show ¬ _ ≤ Int32.ofNat 0 from nle (by omega) (by omega)
          rw [f139_84, ro.2.2.1, ob_n, if_neg c0, f139_85, f85, ob_n, if_pos nc]
        refine ⟨S2, pre2 S2 lp, kr2, fun P2 z => ?_, fun e p z => (by rw [u, if_neg (fun y => qc y.1)] at z; cases z)⟩
        rw [u, if_neg (fun y => qc y.1)] at z
        have e : P = P2 := Sum.inr.inj z
        rw [← e]
        exact ⟨S24, S25, ro⟩
