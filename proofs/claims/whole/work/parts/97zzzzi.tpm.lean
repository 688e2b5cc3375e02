-- needs: 97zzzzh
/-! ===== png: the whole file by the reference ===== -/
theorem tk_e {I : Nat → Int32} {p z e a : Nat} {nm : Int32} {Q : CQ} (w : tkO I p z nm Q = .inl (e, a)) : 1 ≤ e ∧ e < 7 := by
  unfold tkO at w
  have fin : ∀ k : Nat, 1 ≤ k → k < 7 → (Sum.inl (k, p) : (Nat × Nat) ⊕ CQ) = .inl (e, a) → 1 ≤ e ∧ e < 7 := fun k h1 h2 h => by
    have h' : k = e := congrArg Prod.fst (Sum.inl.inj h)
    omega
  by_cases hd : nm = 1229472850 ∨ Q.1 = none
  · rw [if_pos hd] at w
    by_cases ok : nm = 1229472850 ∧ Q.1 = none ∧ hdK I p z
    · rw [if_pos ok] at w; cases w
    · rw [if_neg ok] at w
      exact fin 3 (by omega) (by omega) w
  · rw [if_neg hd] at w
    by_cases nP : nm = 1347179589
    · rw [if_pos nP] at w
      by_cases ok : plK z
      · rw [if_pos ok] at w; cases w
      · rw [if_neg ok] at w
        exact fin 4 (by omega) (by omega) w
    · rw [if_neg nP] at w
      by_cases nT : nm = 1951551059
      · rw [if_pos nT] at w
        by_cases c3 : c3Q Q
        · rw [if_pos c3] at w
          by_cases ok : z ≤ Q.2.1.1
          · rw [if_pos ok] at w; cases w
          · rw [if_neg ok] at w
            exact fin 4 (by omega) (by omega) w
        · rw [if_neg c3] at w; cases w
      · rw [if_neg nT] at w
        by_cases nD : nm = 1229209940
        · rw [if_pos nD] at w; cases w
        · rw [if_neg nD] at w; cases w
theorem rc_e {I : Nat → Int32} {n : Nat} : ∀ (m p : Nat) (Q : CQ) (e a : Nat), rcO I n m p Q = .inl (e, a) → 1 ≤ e ∧ e < 7 := by
  intro m
  have fin : ∀ (k b e a : Nat), 1 ≤ k → k < 7 → (Sum.inl (k, b) : (Nat × Nat) ⊕ CQ) = .inl (e, a) → 1 ≤ e ∧ e < 7 := fun k b e a h1 h2 h => by
    have h' : k = e := congrArg Prod.fst (Sum.inl.inj h)
    omega
  induction m with
  | zero =>
    intro p Q e a h
    exact fin 1 p e a (by omega) (by omega) h
  | succ m ih =>
    intro p Q e a h
    rw [rc_u] at h
    cases ez : szO I n p with
    | none =>
      rw [ez] at h
      exact fin 1 p e a (by omega) (by omega) h
    | some z =>
      rw [ez] at h
      have h' : @ite _ (crK I p z) (Classical.propDecidable _) (Sum.elim .inl (fun Q' => if sm4 I (p + 4) = 1229278788 then (if p + 12 + z = n then @ite _ (Q'.2.2.2.1 = none ∨ (c3Q Q' ∧ Q'.2.1.1 = 0)) (Classical.propDecidable _) (.inl (4, p)) (.inr Q') else .inl (1, p + 12 + z)) else rcO I n m (p + 12 + z) Q') (tkO I p z (sm4 I (p + 4)) Q)) (.inl (2, p)) = .inl (e, a) := h
      by_cases ck : crK I p z
      · rw [if_pos ck] at h'
        cases et : tkO I p z (sm4 I (p + 4)) Q with
        | inl f =>
          obtain ⟨e1, a1⟩ := f
          rw [et, Sum.elim_inl] at h'
          have b := tk_e et
          exact fin e1 a1 e a b.1 b.2 h'
        | inr Q1 =>
          rw [et, Sum.elim_inr] at h'
          by_cases nE : sm4 I (p + 4) = 1229278788
          · rw [if_pos nE] at h'
            by_cases qn : p + 12 + z = n
            · rw [if_pos qn] at h'
              by_cases bd : Q1.2.2.2.1 = none ∨ (c3Q Q1 ∧ Q1.2.1.1 = 0)
              · rw [if_pos bd] at h'
                exact fin 4 p e a (by omega) (by omega) h'
              · rw [if_neg bd] at h'; cases h'
            · rw [if_neg qn] at h'
              exact fin 1 _ e a (by omega) (by omega) h'
          · rw [if_neg nE] at h'
            exact ih _ _ _ _ h'
      · rw [if_neg ck] at h'
        exact fin 2 p e a (by omega) (by omega) h'
theorem rs_e {c w h pm a len e p : Nat} {K : Nat → Int32} (hr : rsO c w h pm a K len = .inl (e, p)) : 1 ≤ e ∧ e < 7 := by
  have fin : ∀ (k b : Nat), 1 ≤ k → k < 7 → (Sum.inl (k, b) : (Nat × Nat) ⊕ (Nat → Int32)) = .inl (e, p) → 1 ≤ e ∧ e < 7 := fun k b h1 h2 h => by
    have h' : k = e := congrArg Prod.fst (Sum.inl.inj h)
    omega
  unfold rsO at hr
  cases ei : ifO K len (h * (1 + w * chN c)) with
  | none =>
    rw [ei] at hr
    exact fin 5 a (by omega) (by omega) hr
  | some O =>
    rw [ei] at hr
    have hr' : (ufO (chN c) w O h).elim (Sum.inl (5, a) : (Nat × Nat) ⊕ (Nat → Int32)) (fun P => @ite ((Nat × Nat) ⊕ (Nat → Int32)) (c = 3 ∧ ¬ allP P w h pm) (Classical.propDecidable _) (Sum.inl (6, a)) (Sum.inr P)) = Sum.inl (e, p) := hr
    cases eu : ufO (chN c) w O h with
    | none =>
      rw [eu] at hr'
      exact fin 5 a (by omega) (by omega) hr'
    | some P =>
      rw [eu] at hr'
      have hr2 : @ite ((Nat × Nat) ⊕ (Nat → Int32)) (c = 3 ∧ ¬ allP P w h pm) (Classical.propDecidable _) (Sum.inl (6, a)) (Sum.inr P) = Sum.inl (e, p) := hr'
      by_cases q : c = 3 ∧ ¬ allP P w h pm
      · rw [if_pos q] at hr2
        exact fin 6 a (by omega) (by omega) hr2
      · rw [if_neg q] at hr2; cases hr2
theorem pg_e {I : Nat → Int32} {n e p : Nat} (h : pgO I n = .inl (e, p)) : 1 ≤ e ∧ e < 7 := by
  unfold pgO at h
  by_cases sg : sgK I n
  · rw [if_pos sg] at h
    cases er : rcO I n (n + 1) 8 Q00 with
    | inl f =>
      obtain ⟨e1, a1⟩ := f
      rw [er, Sum.elim_inl] at h
      have b := rc_e _ _ _ _ _ er
      have h' : e1 = e := congrArg Prod.fst (Sum.inl.inj h)
      omega
    | inr Q =>
      rw [er, Sum.elim_inr] at h
      cases es : rsQ Q with
      | inl f =>
        obtain ⟨e1, a1⟩ := f
        rw [es, Sum.elim_inl] at h
        have b := rs_e es
        have h' : e1 = e := congrArg Prod.fst (Sum.inl.inj h)
        omega
      | inr P => rw [es, Sum.elim_inr] at h; cases h
  · rw [if_neg sg] at h
    have h' : 1 = e := congrArg Prod.fst (Sum.inl.inj h)
    omega
def KZ (s s' : e_S) : Prop := Kp [187, 188, 189, 190, 191, 192, 193] 139 [2, 3, 4, 5, 75, 79, 82, 83, 84, 85, 86, 87, 88, 89, 93] s s'
theorem kz_w {A Fs : List Nat} {s s' : e_S} (h : Kp A 139 Fs s s') (hA : ∀ j, j ∈ A → j ∈ [187, 188, 189, 190, 191, 192, 193]) (hF : ∀ j, j ∈ Fs → j ∈ [2, 3, 4, 5, 75, 79, 82, 83, 84, 85, 86, 87, 88, 89, 93]) : KZ s s' := kp_w h (fun j hj => List.contains_iff_mem.mpr (hA j (List.contains_iff_mem.mp hj))) (fun j hj => List.contains_iff_mem.mpr (hF j (List.contains_iff_mem.mp hj)))
def KY (s s' : e_S) : Prop := Kp [187, 188, 189, 190, 191, 192, 193] 139 [4, 5, 75, 79, 82, 83, 84, 85, 86, 87, 88, 89, 93] s s'
theorem ky_w {A Fs : List Nat} {s s' : e_S} (h : Kp A 139 Fs s s') (hA : ∀ j, j ∈ A → j ∈ [187, 188, 189, 190, 191, 192, 193]) (hF : ∀ j, j ∈ Fs → j ∈ [4, 5, 75, 79, 82, 83, 84, 85, 86, 87, 88, 89, 93]) : KY s s' := kp_w h (fun j hj => List.contains_iff_mem.mpr (hA j (List.contains_iff_mem.mp hj))) (fun j hj => List.contains_iff_mem.mpr (hF j (List.contains_iff_mem.mp hj)))
theorem qm_r {s s' : e_S} {Q : CQ} (h : QM s Q) (k : KR s s') : QM s' Q := by
  unfold QM at h ⊢
  rw [k.2.1 139 85 (by decide), k.2.1 139 83 (by decide), k.2.1 139 84 (by decide), k.2.1 139 82 (by decide), k.2.1 139 86 (by decide), k.2.1 139 79 (by decide), k.1 189 (by decide), k.1 190 (by decide), k.1 188 (by decide)]
  exact h
theorem chunks12 {s : e_S} {g : ps_G} {I : Nat → Int32} {n : Nat} (h : DM s I n) (h4 : s.1 139 4 = 0) : ∃ s', fX12_readChunks (e_g s g) 139 = some (e_g s' g) ∧ KY s s' ∧ (∀ Q, (@ite _ (sgK I n) (Classical.propDecidable _) (rcO I n (n + 1) 8 Q00) (.inl (1, 0))) = .inr Q → s'.1 139 4 = 0 ∧ s'.1 139 5 = s.1 139 5 ∧ QM s' Q) ∧ ∀ e a, (@ite _ (sgK I n) (Classical.propDecidable _) (rcO I n (n + 1) 8 Q00) (.inl (1, 0))) = .inl (e, a) → s'.1 139 4 = Int32.ofNat e ∧ s'.1 139 5 = Int32.ofNat a := by
  have hn := h.1
  have z00 : ¬ ¬ (0 : Int32) = 0 := fun y => y rfl
  have one : ¬ (1 : Int32) = 0 := by decide
  have w1 : fX12_wrong (e_g s g) 139 1 0 = some (e_g (sF (sF s 139 4 (Int32.ofNat 1)) 139 5 (Int32.ofNat 0)) g) := wrong12 h4
  have bad : ¬ sgK I n → ∃ s', jX12_readChunks_35 (e_g s g) 139 = some (e_g s' g) ∧ KY s s' ∧ (∀ Q, (@ite _ (sgK I n) (Classical.propDecidable _) (rcO I n (n + 1) 8 Q00) (.inl (1, 0))) = .inr Q → s'.1 139 4 = 0 ∧ s'.1 139 5 = s.1 139 5 ∧ QM s' Q) ∧ ∀ e a, (@ite _ (sgK I n) (Classical.propDecidable _) (rcO I n (n + 1) 8 Q00) (.inl (1, 0))) = .inl (e, a) → s'.1 139 4 = Int32.ofNat e ∧ s'.1 139 5 = Int32.ofNat a := fun ns => by
    rw [if_neg ns]
    have kb : Kp [] 139 [4, 5] s (sF (sF s 139 4 (Int32.ofNat 1)) 139 5 (Int32.ofNat 0)) := kp_F (kp_F kp_rf (by decide)) (by decide)
    refine ⟨sF (sF s 139 4 (Int32.ofNat 1)) 139 5 (Int32.ofNat 0), ?_, ky_w kb (fun j hj => by cases hj) (by decide), fun Q z => (by cases z), fun e a z => ?_⟩
    · unfold jX12_readChunks_35 jX12_readChunks_36
      rw [if_neg z00, ob139, ob_n, w1, ob_n]
    · have z' := Sum.inl.inj z
      have e1 : 1 = e := congrArg Prod.fst z'
      have e2 : 0 = a := congrArg Prod.snd z'
      rw [← e1, ← e2]
      exact ⟨by rw [F_sF, if_neg (by decide), F_sF, if_pos ⟨rfl, rfl⟩], by rw [F_sF, if_pos ⟨rfl, rfl⟩]⟩
  unfold fX12_readChunks
  rw [f139_3, h.2.1, ob_n]
  by_cases c8 : 8 ≤ n
  · have n8 : ¬ Int32.ofNat n < (8 : Int32) := fun y => by
      have y' : Int32.ofNat n < Int32.ofNat 8 := y
      have := (n_lt (by omega) (by omega)).mp y'
      omega
    have wa : fX12_word (e_g s g) 139 0 = some (sm4 I 0) := word12 (p := 0) h (by omega)
    have wb : fX12_word (e_g s g) 139 4 = some (sm4 I 4) := word12 (p := 4) h (by omega)
    rw [if_neg n8, ob139, ob_n, wa, ob_n]
    by_cases k1 : sm4 I 0 = -1991225785
    · have k1' : ¬ ¬ sm4 I 0 = (-1991225785 : Int32) := fun y => y k1
      rw [if_neg k1', ob_n, wb, ob_n]
      by_cases k2 : sm4 I 4 = 218765834
      · have k2' : ¬ ¬ sm4 I 4 = (218765834 : Int32) := fun y => y k2
        have sg : sgK I n := ⟨c8, k1, k2⟩
        rw [if_neg k2', if_pos sg]
        obtain ⟨S0, eS0⟩ : ∃ S0, S0 = sF (sF (sF s 139 79 0) 139 82 0) 139 86 (-1) := ⟨_, rfl⟩
        have k0 : Kp [] 139 [79, 82, 86] s S0 := by rw [eS0]; exact kp_F (kp_F (kp_F kp_rf (by decide)) (by decide)) (by decide)
        have g79 : S0.1 139 79 = 0 := by rw [eS0, F_sF, if_neg (by decide), F_sF, if_neg (by decide), F_sF, if_pos ⟨rfl, rfl⟩]
        have g82 : S0.1 139 82 = 0 := by rw [eS0, F_sF, if_neg (by decide), F_sF, if_pos ⟨rfl, rfl⟩]
        have g86 : S0.1 139 86 = -1 := by rw [eS0, F_sF, if_pos ⟨rfl, rfl⟩]
        obtain ⟨r, lp, B, e, hB⟩ := lp_n (b := fun t => bX12_readChunks_65 139 t.1 t.2) (fun i t => ∃ B, t = (Int32.ofNat i, e_g (sA S0 190 B) g) ∧ ∀ k, k < i → B k = 255) (fun r => ∃ B, r = e_g (sA S0 190 B) g ∧ ∀ k, k < 256 → B k = 255) 256 (fun i t hi ⟨B, ht, hB⟩ => by
          refine ⟨(Int32.ofNat (i + 1), e_g (sA S0 190 (upd B i 255)) g), ?_, _, rfl, fun k hk => ?_⟩
          · rw [ht]
            show bX12_readChunks_65 _ _ _ = _
            unfold bX12_readChunks_65
            have c : ¬ (256 : Int32) ≤ Int32.ofNat i := show ¬ Int32.ofNat 256 ≤ _ from nle hi (by omega)
            dsimp only
            rw [if_neg c, f139_81, ob_n, ob_n, tb_wr t190 (by decide) (by omega) (by omega), ob_n, A_sA, if_pos rfl, sA_sA, n_suc]
          · rw [upd_r]
            by_cases q : k = i
            · rw [if_pos q]
            · rw [if_neg q]; exact hB k (by omega)) (fun t ⟨B, ht, hB⟩ => by
          refine ⟨_, ?_, B, rfl, hB⟩
          rw [ht]
          show bX12_readChunks_65 _ _ _ = _
          unfold bX12_readChunks_65
          dsimp only
          rw [if_pos (show (256 : Int32) ≤ Int32.ofNat 256 by decide)]) (s := ((0 : Int32), e_g S0 g)) ⟨S0.2.1 190, by rw [sA_id]; rfl, fun k hk => absurd hk (Nat.not_lt_zero k)⟩
        have k1b : KY s (sA S0 190 B) := kp_A (ky_w k0 (fun j hj => by cases hj) (by decide)) (by decide)
        have dB : DM (sA S0 190 B) I n := by
          unfold DM at h ⊢
          rw [F_sA, k0.2.1 139 3 (by decide), A_sA, if_neg (by decide), k0.1 140 (by decide)]
          exact h
        have qB : QM (sA S0 190 B) Q00 := by
          refine ⟨Or.inl rfl, ⟨by show 0 ≤ 256; omega, by rw [F_sA, g82]; rfl, fun i hi => absurd hi (Nat.not_lt_zero i)⟩, ⟨by show 0 ≤ 256; omega, fun i hi => ?_⟩, Or.inl ⟨rfl, by rw [F_sA, g86]⟩, by rw [F_sA, g79]; rfl, fun i hi => absurd hi (Nat.not_lt_zero i)⟩
          show (sA S0 190 B).2.1 190 i = if i < 0 then _ else 255
          rw [A_sA, if_pos rfl, hB i hi, if_neg (Nat.not_lt_zero i)]
        have b4 : (sA S0 190 B).1 139 4 = 0 := by rw [F_sA, k0.2.1 139 4 (by decide)]; exact h4
        have b5 : (sA S0 190 B).1 139 5 = s.1 139 5 := by rw [F_sA, k0.2.1 139 5 (by decide)]
        obtain ⟨r2, s', l1, l2, l3⟩ := rc12 (g := g) (I := I) (n := n) (n + 1) 8 1 Q00 (sA S0 190 B) (by omega) c8 dB qB b4 (Or.inl ⟨rfl, rfl⟩) (by show 0 ≤ 8; omega)
        have l1' : q_lp (fun t => bX12_readChunks_92 139 t.1 t.2.1 t.2.2) ((8 : Int32), (1 : Int32), e_g (sA S0 190 B) g) = some r2 := l1
        have kk : KY s s' := kp_tr k1b (ky_w l3.1 (by decide) (by decide))
        refine ⟨s', ?_, kk, fun Q z => ?_, fun e a z => l3.2.2 e a z⟩
        · unfold jX12_readChunks_36
          rw [if_pos one, w139_79, ob_n, w139_82, ob_n, w139_86, ob_n, ← eS0, lp, ob_n, e, l1', ob_n]
          cases r2 with
          | inl G => exact congrArg some l2
          | inr G => exact congrArg some l2
        · obtain ⟨v1, v2, v3⟩ := l3.2.1 Q z
          exact ⟨v1, v2.trans b5, v3⟩
      · rw [if_pos k2]
        exact bad (fun y => k2 y.2.2)
    · rw [if_pos k1]
      exact bad (fun y => k1 y.2.1)
  · have n8 : Int32.ofNat n < (8 : Int32) := show _ < Int32.ofNat 8 from (n_lt (by omega) (by omega)).mpr (by omega)
    rw [if_pos n8]
    exact bad (fun y => c8 y.1)
/-- the header that was told -/
def hQ (Q : CQ) : Nat × Nat × Nat := Q.1.getD (0, 0, 0)
theorem png12 {S : e_S} {g : ps_G} {I : Nat → Int32} {n : Nat} (hT : TbM S) (h6 : ∀ j, j < 19 → S.2.1 186 j = tbV 6 j) (hn : n ≤ 8000) (f2 : S.1 139 2 = Int32.ofNat n) (hI : ∀ i, i < n → S.2.1 140 i = I i) (hB : ∀ i, i < n → rg (I i) 0 255 = true) : ∃ S', fX12_png (e_g S g) 139 = jX12_png_19 (e_g S' g) 139 ∧ KZ S S' ∧ S'.1 139 2 = 0 ∧ (∀ Q P, pgO I n = .inr (Q, P) → S'.1 139 4 = 0 ∧ S'.1 139 5 = 0 ∧ QM S' Q ∧ RM S' (chN (hQ Q).1) (hQ Q).2.1 (hQ Q).2.2 (dQ Q) P) ∧ ∀ e p, pgO I n = .inl (e, p) → S'.1 139 4 = Int32.ofNat e ∧ S'.1 139 5 = Int32.ofNat p := by
  have kT : Kp [] 139 [2, 3, 4, 5] S (tkM S) := by
    unfold tkM
    exact kp_F (kp_F (kp_F (kp_F kp_rf (by decide)) (by decide)) (by decide)) (by decide)
  have t2 : (tkM S).1 139 2 = 0 := by unfold tkM; rw [F_sF, if_neg (by decide), F_sF, if_neg (by decide), F_sF, if_pos ⟨rfl, rfl⟩]
  have t3 : (tkM S).1 139 3 = Int32.ofNat n := by unfold tkM; rw [F_sF, if_neg (by decide), F_sF, if_neg (by decide), F_sF, if_neg (by decide), F_sF, if_pos ⟨rfl, rfl⟩]; exact f2
  have t4 : (tkM S).1 139 4 = 0 := by unfold tkM; rw [F_sF, if_neg (by decide), F_sF, if_pos ⟨rfl, rfl⟩]
  have t5 : (tkM S).1 139 5 = 0 := by unfold tkM; rw [F_sF, if_pos ⟨rfl, rfl⟩]
  have dT : DM (tkM S) I n := ⟨hn, t3, fun i hi => by rw [kT.1 140 (by decide)]; exact hI i hi, hB⟩
  obtain ⟨S1, c1, c2, c3, c4⟩ := chunks12 (g := g) dT t4
  have k1 : KZ S S1 := kp_tr (kz_w kT (fun j hj => by cases hj) (by decide)) (kz_w c2 (by decide) (by decide))
  have s12 : S1.1 139 2 = 0 := (c2.2.1 139 2 (by decide)).trans t2
  have pre : fX12_png (e_g S g) 139 = Option.bind (q_fI 12 4 (e_g S1 g) 139) fun v5 => if ¬ v5 = 0 then (jX12_png_19 (e_g S1 g) 139) else (Option.bind (q_ob 12 (e_g S1 g) 139) fun u55 => Option.bind (fX12_readRows (e_g S1 g) 139) fun v56 => jX12_png_19 v56 139) := by
    unfold fX12_png
    rw [ob139, ob_n, takeInput12, ob_n, ob139, ob_n, c1, ob_n]
  have flt : ∀ e p, (@ite _ (sgK I n) (Classical.propDecidable _) (rcO I n (n + 1) 8 Q00) (.inl (1, 0))) = .inl (e, p) → pgO I n = .inl (e, p) → 1 ≤ e ∧ e < 7 → ∃ S', fX12_png (e_g S g) 139 = jX12_png_19 (e_g S' g) 139 ∧ KZ S S' ∧ S'.1 139 2 = 0 ∧ (∀ Q P, pgO I n = .inr (Q, P) → S'.1 139 4 = 0 ∧ S'.1 139 5 = 0 ∧ QM S' Q ∧ RM S' (chN (hQ Q).1) (hQ Q).2.1 (hQ Q).2.2 (dQ Q) P) ∧ ∀ e p, pgO I n = .inl (e, p) → S'.1 139 4 = Int32.ofNat e ∧ S'.1 139 5 = Int32.ofNat p := fun e p er ep he => by
    obtain ⟨x1, x2⟩ := c4 e p er
    have ne : ¬ Int32.ofNat e = 0 := fun y => by
      have y' : Int32.ofNat e = Int32.ofNat 0 := y
      have := (n_eq (by omega) (by omega)).mp y'
      omega
    refine ⟨S1, ?_, k1, s12, fun Q P z => (by rw [ep] at z; cases z), fun e' p' z => ?_⟩
    · rw [pre, f139_4, x1, ob_n, if_pos ne]
    · rw [ep] at z
      have z' := Sum.inl.inj z
      have e1 : e = e' := congrArg Prod.fst z'
      have e2 : p = p' := congrArg Prod.snd z'
      rw [← e1, ← e2]
      exact ⟨x1, x2⟩
  by_cases sg : sgK I n
  · cases er : rcO I n (n + 1) 8 Q00 with
    | inl f =>
      obtain ⟨e, p⟩ := f
      exact flt e p (by rw [if_pos sg]; exact er) (by unfold pgO; rw [if_pos sg, er, Sum.elim_inl]) (rc_e _ _ _ _ _ er)
    | inr Q =>
      obtain ⟨x1, x2, x3⟩ := c3 Q (by rw [if_pos sg]; exact er)
      obtain ⟨z1, z2, z3, z4⟩ := rc_by hB (n + 1) 8 Q00 Q (by show 0 ≤ 8; omega) (fun i hi => absurd hi (Nat.not_lt_zero i)) er
      cases q1 : Q.1 with
      | none => exact absurd q1 z3
      | some hd =>
        obtain ⟨c, w, h⟩ := hd
        cases q4 : Q.2.2.2.1 with
        | none => exact absurd q4 z4
        | some a =>
          obtain ⟨S2, r1, r2, r3, r4⟩ := readRows12 (g := g) (by
            unfold TbM at hT ⊢
            rw [k1.1 182 (by decide), k1.1 183 (by decide), k1.1 184 (by decide), k1.1 185 (by decide)]
            exact hT) (fun j hj => by rw [k1.1 186 (by decide)]; exact h6 j hj) x3 x1 q1 q4 (by omega)
          have eq : rsQ Q = rsO c w h Q.2.1.1 a Q.2.2.2.2.1 Q.2.2.2.2.2 := by
            unfold rsQ
            rw [q1, q4]
            rfl
          have z00 : ¬ ¬ (0 : Int32) = 0 := fun y => y rfl
          refine ⟨S2, ?_, kp_tr k1 (kz_w r2 (by decide) (by decide)), (r2.2.1 139 2 (by decide)).trans s12, fun Q' P z => ?_, fun e p z => ?_⟩
          · rw [pre, f139_4, x1, ob_n, if_neg z00, ob139, ob_n, r1, ob_n]
          · unfold pgO at z
            rw [if_pos sg, er, Sum.elim_inr] at z
            cases es : rsQ Q with
            | inl f => rw [es, Sum.elim_inl] at z; cases z
            | inr P' =>
              rw [es, Sum.elim_inr] at z
              have z' := Sum.inr.inj z
              have eQ : Q = Q' := congrArg Prod.fst z'
              have eP : P' = P := congrArg Prod.snd z'
              obtain ⟨v1, v2, v3⟩ := r3 P' (by rw [← eq]; exact es)
              have hh : hQ Q = (c, w, h) := by unfold hQ; rw [q1]; rfl
              have hd : dQ Q = h * (1 + w * chN c) := by unfold dQ; rw [q1]; rfl
              rw [← eQ, ← eP, hh, hd]
              exact ⟨v1, v2.trans (x2.trans t5), qm_r x3 r2, v3⟩
          · unfold pgO at z
            rw [if_pos sg, er, Sum.elim_inr] at z
            cases es : rsQ Q with
            | inl f =>
              rw [es, Sum.elim_inl] at z
              have z' := Sum.inl.inj z
              refine r4 e p ?_
              rw [← eq, es, z']
            | inr P' => rw [es, Sum.elim_inr] at z; cases z
  · exact flt 1 0 (by rw [if_neg sg]) (by unfold pgO; rw [if_neg sg]) ⟨by omega, by omega⟩
