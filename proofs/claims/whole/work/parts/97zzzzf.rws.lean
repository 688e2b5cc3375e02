-- needs: 97zzzze
/-! ===== png: rows of the file ===== -/
theorem tk_by {I : Nat → Int32} {n p z : Nat} {nm : Int32} {Q Q' : CQ} (hI : ∀ i, i < n → rg (I i) 0 255 = true) (hp : p + 12 + z ≤ n) (hB : ByO (Q.2.2.2.2.1, Q.2.2.2.2.2)) (h : tkO I p z nm Q = .inr Q') : ByO (Q'.2.2.2.2.1, Q'.2.2.2.2.2) := by
  unfold tkO at h
  by_cases hd : nm = 1229472850 ∨ Q.1 = none
  · rw [if_pos hd] at h
    by_cases ok : nm = 1229472850 ∧ Q.1 = none ∧ hdK I p z
    · rw [if_pos ok] at h
      have e := Sum.inr.inj h
      rw [← e]; exact hB
    · rw [if_neg ok] at h; cases h
  · rw [if_neg hd] at h
    by_cases nP : nm = 1347179589
    · rw [if_pos nP] at h
      by_cases ok : plK z
      · rw [if_pos ok] at h
        have e := Sum.inr.inj h
        rw [← e]; exact hB
      · rw [if_neg ok] at h; cases h
    · rw [if_neg nP] at h
      by_cases nT : nm = 1951551059
      · rw [if_pos nT] at h
        by_cases c3 : c3Q Q
        · rw [if_pos c3] at h
          by_cases ok : z ≤ Q.2.1.1
          · rw [if_pos ok] at h
            have e := Sum.inr.inj h
            rw [← e]; exact hB
          · rw [if_neg ok] at h; cases h
        · rw [if_neg c3] at h
          have e := Sum.inr.inj h
          rw [← e]; exact hB
      · rw [if_neg nT] at h
        by_cases nD : nm = 1229209940
        · rw [if_pos nD] at h
          have e := Sum.inr.inj h
          rw [← e]
          intro i hi
          have hi' : i < Q.2.2.2.2.2 + z := hi
          show rg (pkV I (p + 8) Q.2.2.2.2.2 Q.2.2.2.2.1 i) 0 255 = true
          unfold pkV
          by_cases q : i < Q.2.2.2.2.2
          · rw [if_pos q]; exact hB i q
          · rw [if_neg q]; exact hI _ (by omega)
        · rw [if_neg nD] at h
          have e := Sum.inr.inj h
          rw [← e]; exact hB
theorem rc_by {I : Nat → Int32} {n : Nat} (hI : ∀ i, i < n → rg (I i) 0 255 = true) : ∀ (m p : Nat) (Q Q' : CQ), Q.2.2.2.2.2 ≤ p → ByO (Q.2.2.2.2.1, Q.2.2.2.2.2) → rcO I n m p Q = .inr Q' → ByO (Q'.2.2.2.2.1, Q'.2.2.2.2.2) ∧ Q'.2.2.2.2.2 ≤ n ∧ ¬ Q'.1 = none ∧ ¬ Q'.2.2.2.1 = none := by
  intro m
  induction m with
  | zero => intro p Q Q' _ _ h; cases h
  | succ m ih =>
    intro p Q Q' hl hB h
    rw [rc_u] at h
    cases ez : szO I n p with
    | none => rw [ez] at h; cases h
    | some z =>
      rw [ez] at h
      obtain ⟨s1, s2⟩ := sz_s ez
      have h' : @ite _ (crK I p z) (Classical.propDecidable _) (Sum.elim .inl (fun Q' => if sm4 I (p + 4) = 1229278788 then (if p + 12 + z = n then @ite _ (Q'.2.2.2.1 = none ∨ (c3Q Q' ∧ Q'.2.1.1 = 0)) (Classical.propDecidable _) (.inl (4, p)) (.inr Q') else .inl (1, p + 12 + z)) else rcO I n m (p + 12 + z) Q') (tkO I p z (sm4 I (p + 4)) Q)) (.inl (2, p)) = .inr Q' := h
      by_cases ck : crK I p z
      · rw [if_pos ck] at h'
        cases et : tkO I p z (sm4 I (p + 4)) Q with
        | inl f => rw [et, Sum.elim_inl] at h'; cases h'
        | inr Q1 =>
          rw [et, Sum.elim_inr] at h'
          have b1 := tk_by hI s1 hB et
          obtain ⟨tq1, tq2⟩ := tk_q hl et
          by_cases nE : sm4 I (p + 4) = 1229278788
          · rw [if_pos nE] at h'
            by_cases qn : p + 12 + z = n
            · rw [if_pos qn] at h'
              by_cases bd : Q1.2.2.2.1 = none ∨ (c3Q Q1 ∧ Q1.2.1.1 = 0)
              · rw [if_pos bd] at h'; cases h'
              · rw [if_neg bd] at h'
                have e := Sum.inr.inj h'
                rw [← e]
                exact ⟨b1, by omega, tq1, fun y => bd (Or.inl y)⟩
            · rw [if_neg qn] at h'; cases h'
          · rw [if_neg nE] at h'
            exact ih _ Q1 Q' tq2 b1 h'
      · rw [if_neg ck] at h'; cases h'
/-- every byte names a colour -/
def allP (P : Nat → Int32) (w h pm : Nat) : Prop := ∀ y, y < h → ∀ x, x < w → P (y * (1 + w) + 1 + x) < Int32.ofNat pm
noncomputable def rsO (c w h pm a : Nat) (K : Nat → Int32) (len : Nat) : (Nat × Nat) ⊕ (Nat → Int32) := (ifO K len (h * (1 + w * chN c))).elim (.inl (5, a)) (fun O => (ufO (chN c) w O h).elim (.inl (5, a)) (fun P => @ite _ (c = 3 ∧ ¬ allP P w h pm) (Classical.propDecidable _) (.inl (6, a)) (.inr P)))
theorem areInd8 {s : e_S} {g : ps_G} {w h d pm : Nat} {P : Nat → Int32} (hw : w ≤ 24) (hh : h ≤ 24) (hd : d = h * (1 + w)) (hd2 : d ≤ 2328) (f4 : s.1 125 4 = Int32.ofNat w) (f5 : s.1 125 5 = Int32.ofNat h) (f8 : s.1 125 8 = Int32.ofNat pm) (ro : RO s d P) : ∃ v, fX8_areIndices (e_g s g) 125 = some v ∧ (allP P w h pm → v = 1) ∧ (¬ allP P w h pm → v = 0) := by
  have e1 : (1 : Int32) = Int32.ofNat 1 := rfl
  have ix : ∀ y x : Nat, Int32.ofNat y * (1 + Int32.ofNat w) + 1 + Int32.ofNat x = Int32.ofNat (y * (1 + w) + 1 + x) := fun y x => by
    rw [e1, n_add, n_mul, n_add, n_add]
  have lt : ∀ y x, y < h → x < w → y * (1 + w) + 1 + x < d := fun y x hy hx => by
    have a : (y + 1) * (1 + w) ≤ h * (1 + w) := Nat.mul_le_mul_right _ hy
    have b : (y + 1) * (1 + w) = y * (1 + w) + (1 + w) := Nat.succ_mul y _
    omega
  have inner : ∀ y, y < h → ∀ m x, x + m = w → ((∀ x', x ≤ x' → x' < w → P (y * (1 + w) + 1 + x') < Int32.ofNat pm) → q_lp (fun t => bX8_areIndices_12 (e_g s g) 125 (Int32.ofNat y) t) (Int32.ofNat x) = some (.inl ())) ∧ (¬ (∀ x', x ≤ x' → x' < w → P (y * (1 + w) + 1 + x') < Int32.ofNat pm) → q_lp (fun t => bX8_areIndices_12 (e_g s g) 125 (Int32.ofNat y) t) (Int32.ofNat x) = some (.inr 0)) := by
    intro y hy m
    induction m with
    | zero =>
      intro x hx
      have e : x = w := hx
      subst e
      refine ⟨fun _ => lp_end ?_, fun nk => absurd (fun x' a b => by omega) nk⟩
      show bX8_areIndices_12 _ _ _ _ = _
      unfold bX8_areIndices_12
      rw [f125_4, f4, ob_n, if_pos (nlr (by omega))]
    | succ m ih =>
      intro x hx
      have z := ih (x + 1) (by omega)
      have rd := at7 (g := g) (i := y * (1 + w) + 1 + x) hd2 ro (lt y x hy (by omega))
      by_cases q : P (y * (1 + w) + 1 + x) < Int32.ofNat pm
      · have st : bX8_areIndices_12 (e_g s g) 125 (Int32.ofNat y) (Int32.ofNat x) = some (.inl (Int32.ofNat (x + 1))) := by
          unfold bX8_areIndices_12
          rw [f125_4, f4, ob_n, if_neg (nle (by omega) (by omega)), f125_12, ob_n, ob_n, ob_n, ob128, ob_n, ix, rd, ob_n, f125_8, f8, ob_n, if_pos q, n_suc]
        rw [lp_go (b := fun t => bX8_areIndices_12 (e_g s g) 125 (Int32.ofNat y) t) st]
        refine ⟨fun al => z.1 (fun x' a b => al x' (by omega) b), fun nk => z.2 (fun al => nk (fun x' a b => ?_))⟩
        by_cases e : x' = x
        · rw [e]; exact q
        · exact al x' (by omega) b
      · refine ⟨fun al => absurd (al x (Nat.le_refl _) (by omega)) q, fun _ => lp_end ?_⟩
        show bX8_areIndices_12 _ _ _ _ = _
        unfold bX8_areIndices_12
        rw [f125_4, f4, ob_n, if_neg (nle (by omega) (by omega)), f125_12, ob_n, ob_n, ob_n, ob128, ob_n, ix, rd, ob_n, f125_8, f8, ob_n, if_neg q]
  have outer : ∀ m y, y + m = h → ((∀ y', y ≤ y' → y' < h → ∀ x, x < w → P (y' * (1 + w) + 1 + x) < Int32.ofNat pm) → q_lp (fun t => bX8_areIndices_2 (e_g s g) 125 t) (Int32.ofNat y) = some (.inl ())) ∧ (¬ (∀ y', y ≤ y' → y' < h → ∀ x, x < w → P (y' * (1 + w) + 1 + x) < Int32.ofNat pm) → q_lp (fun t => bX8_areIndices_2 (e_g s g) 125 t) (Int32.ofNat y) = some (.inr 0)) := by
    intro m
    induction m with
    | zero =>
      intro y hy
      have e : y = h := hy
      subst e
      refine ⟨fun _ => lp_end ?_, fun nk => absurd (fun y' a b => by omega) nk⟩
      show bX8_areIndices_2 _ _ _ = _
      unfold bX8_areIndices_2
      rw [f125_5, f5, ob_n, if_pos (nlr (by omega))]
    | succ m ih =>
      intro y hy
      have z := ih (y + 1) (by omega)
      obtain ⟨n1, n2⟩ := inner y (by omega) w 0 (by omega)
      by_cases q : ∀ x', 0 ≤ x' → x' < w → P (y * (1 + w) + 1 + x') < Int32.ofNat pm
      · have l1 : q_lp (fun t => bX8_areIndices_12 (e_g s g) 125 (Int32.ofNat y) t) (0 : Int32) = some (.inl ()) := n1 q
        have st : bX8_areIndices_2 (e_g s g) 125 (Int32.ofNat y) = some (.inl (Int32.ofNat (y + 1))) := by
          unfold bX8_areIndices_2
          rw [f125_5, f5, ob_n, if_neg (nle (by omega) (by omega)), l1, ob_n, Sum.elim_inl, n_suc]
        rw [lp_go (b := fun t => bX8_areIndices_2 (e_g s g) 125 t) st]
        refine ⟨fun al => z.1 (fun y' a b => al y' (by omega) b), fun nk => z.2 (fun al => nk (fun y' a b => ?_))⟩
        by_cases e : y' = y
        · rw [e]; exact fun x hx => q x (by omega) hx
        · exact al y' (by omega) b
      · have l1 : q_lp (fun t => bX8_areIndices_12 (e_g s g) 125 (Int32.ofNat y) t) (0 : Int32) = some (.inr 0) := n2 q
        refine ⟨fun al => absurd (fun x' a b => al y (Nat.le_refl _) (by omega) x' b) q, fun _ => lp_end ?_⟩
        show bX8_areIndices_2 _ _ _ = _
        unfold bX8_areIndices_2
        rw [f125_5, f5, ob_n, if_neg (nle (by omega) (by omega)), l1, ob_n, Sum.elim_inr]
  obtain ⟨o1, o2⟩ := outer h 0 (by omega)
  have pr : ∀ r, q_lp (fun t => bX8_areIndices_2 (e_g s g) 125 t) (Int32.ofNat 0) = some r → fX8_areIndices (e_g s g) 125 = Sum.elim (fun r22 => some (1 : Int32)) (fun v23 => some v23) r := fun r hr => by
    have hr' : q_lp (fun t => bX8_areIndices_2 (e_g s g) 125 t) (0 : Int32) = some r := hr
    unfold fX8_areIndices
    rw [hr', ob_n]
  by_cases al : allP P w h pm
  · exact ⟨1, by rw [pr _ (o1 (fun y' _ b => al y' b)), Sum.elim_inl], fun _ => rfl, fun y => absurd al y⟩
  · exact ⟨0, by rw [pr _ (o2 (fun y => al (fun y' b => y y' (by omega) b))), Sum.elim_inr], fun y => absurd y al, fun _ => rfl⟩
/-- the class, from all chunks to the rows -/
def KX (s s' : e_S) : Prop := (∀ j, [130, 131, 132, 133, 134, 135, 136].contains j = false → s'.2.1 j = s.2.1 j) ∧ (∀ i k, ¬ (i = 125 ∧ [0, 1].contains k = true) → ¬ (i = 128 ∧ [2, 3, 5, 6].contains k = true) → s'.1 i k = s.1 i k) ∧ s'.2.2.1 = s.2.2.1 ∧ s'.2.2.2 = s.2.2.2
theorem kx_7 {s s' : e_S} (h : K7 s s') : KX s s' := ⟨h.1, fun i k _ b => h.2.1 i k b, h.2.2⟩
theorem kx_tr {s s' s'' : e_S} (h : KX s s') (h' : KX s' s'') : KX s s'' := ⟨fun j hj => (h'.1 j hj).trans (h.1 j hj), fun i k a b => (h'.2.1 i k a b).trans (h.2.1 i k a b), h'.2.2.1.trans h.2.2.1, h'.2.2.2.trans h.2.2.2⟩
theorem kx_F {s : e_S} {f : Nat} {v : Int32} (hf : [0, 1].contains f = true) : KX s (sF s 125 f v) := by
  refine ⟨fun j hj => by rw [A_sF], fun i k a b => ?_, by rw [R_sF], by rw [L_sF]⟩
  rw [F_sF, if_neg]
  intro e
  exact a ⟨e.1, by rw [e.2]; exact hf⟩
theorem kx_u {s s' : e_S} (h : Kp [130] 128 [] s s') : KX s s' := kx_7 (kp_w h (fun j hj => by
  rw [List.contains_iff_mem] at hj ⊢
  have : ∀ j, j ∈ [130] → j ∈ [130, 131, 132, 133, 134, 135, 136] := by decide
  exact this j hj) (fun j hj => by cases hj))
theorem read180 {s : e_S} {g : ps_G} {Q : CQ} {c w h a : Nat} (hT : TbC g) (hQ : QC s Q) (q1 : Q.1 = some (c, w, h)) (q4 : Q.2.2.2.1 = some a) (hB : ByO (Q.2.2.2.2.1, Q.2.2.2.2.2)) (hl : Q.2.2.2.2.2 ≤ 8000) : ∃ s' v, jX8_read_180 (e_g s g) 125 = some (v, e_g s' g) ∧ KX s s' ∧ (∀ P, rsO c w h Q.2.1.1 a Q.2.2.2.2.1 Q.2.2.2.2.2 = .inr P → v = 1 ∧ RO s' (h * (1 + w * chN c)) P) ∧ ∀ e p, rsO c w h Q.2.1.1 a Q.2.2.2.2.1 Q.2.2.2.2.2 = .inl (e, p) → v = 0 ∧ s'.1 125 0 = Int32.ofNat e ∧ s'.1 125 1 = Int32.ofNat p := by
  obtain ⟨r1, r2, r3, r4, r5, r6⟩ := id hQ
  obtain ⟨c1, w1, h1, x1, x2, x3, x4, x5, x6, x7⟩ : ∃ c w h', Q.1 = some (c, w, h') ∧ c < 7 ∧ (1 ≤ w ∧ w ≤ 24) ∧ (1 ≤ h' ∧ h' ≤ 24) ∧ s.1 125 6 = Int32.ofNat c ∧ s.1 125 4 = Int32.ofNat w ∧ s.1 125 5 = Int32.ofNat h' := r1.elim (fun y => by rw [q1] at y; cases y.1) id
  rw [q1] at x1
  have x1' := Option.some.inj x1
  have ec : c = c1 := congrArg Prod.fst x1'
  have ew : w = w1 := congrArg (fun t => t.2.1) x1'
  have eh : h = h1 := congrArg (fun t => t.2.2) x1'
  subst ec ew eh
  obtain ⟨a', y1, y2, y3⟩ : ∃ a, Q.2.2.2.1 = some a ∧ a ≤ 8000 ∧ s.1 125 11 = Int32.ofNat a := r4.elim (fun y => by rw [q4] at y; cases y.1) id
  rw [q4] at y1
  have ea : a = a' := Option.some.inj y1
  subst ea
  have b0 : q_bl 0 = some 0 := rfl
  have b1 : q_bl 1 = some 1 := rfl
  have hu := ch_i (c := c)
  have wst : w * chN c ≤ 24 * 4 := Nat.mul_le_mul x3.2 hu.2
  have hd2 : h * (1 + w * chN c) ≤ 2328 := by
    have : h * (1 + w * chN c) ≤ 24 * 97 := Nat.mul_le_mul x4.2 (by omega)
    omega
  have eD : Int32.ofNat h * (1 + Int32.ofNat w * Int32.ofNat (chN c)) = Int32.ofNat (h * (1 + w * chN c)) := by
    have e1 : (1 : Int32) = Int32.ofNat 1 := rfl
    rw [n_mul, e1, n_add, n_mul]
  obtain ⟨S, v, t1, t2, t3, t4⟩ := inflate7 (g := g) (K := Q.2.2.2.2.1) (n := Q.2.2.2.2.2) (d := h * (1 + w * chN c)) hT hl hd2 r5 r6 hB
  have kS := kx_7 t2
  have j217 : ∀ S : e_S, KX s S → jX8_read_217 (e_g S g) 125 = some (0, e_g (sF (sF S 125 0 (Int32.ofNat 5)) 125 1 (Int32.ofNat a)) g) := fun S k => by
    have fa := fails8 (s := S) (g := g) (e := 5) (a := Int32.ofNat a)
    have f11 : S.1 125 11 = Int32.ofNat a := (k.2.1 125 11 (by decide) (by decide)).trans y3
    unfold jX8_read_217
    rw [f125_11, f11, ob_n, ob125, ob_n, fa, b2_n, b0, ob_n]
    rfl
  have fin : ∀ (S : e_S) (e : Nat), KX s S → KX s (sF (sF S 125 0 (Int32.ofNat e)) 125 1 (Int32.ofNat a)) ∧ (sF (sF S 125 0 (Int32.ofNat e)) 125 1 (Int32.ofNat a)).1 125 0 = Int32.ofNat e ∧ (sF (sF S 125 0 (Int32.ofNat e)) 125 1 (Int32.ofNat a)).1 125 1 = Int32.ofNat a := fun S e k => ⟨kx_tr k (kx_tr (kx_F (by decide)) (kx_F (by decide))), by rw [F_sF, if_neg (by decide), F_sF, if_pos ⟨rfl, rfl⟩], by rw [F_sF, if_pos ⟨rfl, rfl⟩]⟩
  -- a fault
  have flt : ∀ (S : e_S) (e : Nat), KX s S → rsO c w h Q.2.1.1 a Q.2.2.2.2.1 Q.2.2.2.2.2 = .inl (e, a) → ∃ s' v, (some ((0 : Int32), e_g (sF (sF S 125 0 (Int32.ofNat e)) 125 1 (Int32.ofNat a)) g) : Option (Int32 × ps_G)) = some (v, e_g s' g) ∧ KX s s' ∧ (∀ P, rsO c w h Q.2.1.1 a Q.2.2.2.2.1 Q.2.2.2.2.2 = .inr P → v = 1 ∧ RO s' (h * (1 + w * chN c)) P) ∧ ∀ e p, rsO c w h Q.2.1.1 a Q.2.2.2.2.1 Q.2.2.2.2.2 = .inl (e, p) → v = 0 ∧ s'.1 125 0 = Int32.ofNat e ∧ s'.1 125 1 = Int32.ofNat p := fun S e k hr => by
    obtain ⟨k1, k2, k3⟩ := fin S e k
    refine ⟨_, 0, rfl, k1, fun P z => (by rw [hr] at z; cases z), fun e' p' z => ?_⟩
    rw [hr] at z
    have z' := Sum.inl.inj z
    have e1 : e = e' := congrArg Prod.fst z'
    have e2 : a = p' := congrArg Prod.snd z'
    rw [← e1, ← e2]
    exact ⟨rfl, k2, k3⟩
  have pre : jX8_read_180 (e_g s g) 125 = if v = 0 then (jX8_read_217 (e_g S g) 125) else (Option.bind (q_ob 8 (e_g S g) 125) fun u65 => q_b2 (fX8_unfilter (e_g S g) 125) fun v66 g67 => if ¬ v66 = 0 then (Option.bind (q_fI 8 6 g67 125) fun v69 => if ¬ v69 = (3 : Int32) then (jX8_read_255 g67) else (Option.bind (q_ob 8 g67 125) fun u72 => Option.bind (fX8_areIndices g67 125) fun v73 => if ¬ v73 = 0 then (jX8_read_255 g67) else (Option.bind (q_fI 8 11 g67 125) fun v75 => Option.bind (q_ob 8 g67 125) fun u76 => q_b2 (fX8_fails g67 125 (6 : Int32) v75) fun v77 g78 => if v77 = 0 then (jX8_read_260 g78 (0 : Int32)) else (jX8_read_255 g78)))) else (jX8_read_217 g67 125)) := by
    unfold jX8_read_180
    rw [f125_5, x7, ob_n, f125_4, x6, ob_n, ob125, ob_n, channels7 (by omega) x5, ob_n, f125_12, ob_n, ob_n, ob128, ob_n, eD, t1, b2_n]
  have one : ¬ (1 : Int32) = 0 := by decide
  rw [pre]
  cases ei : ifO Q.2.2.2.2.1 Q.2.2.2.2.2 (h * (1 + w * chN c)) with
  | none =>
    have u : rsO c w h Q.2.1.1 a Q.2.2.2.2.1 Q.2.2.2.2.2 = .inl (5, a) := by
      unfold rsO
      rw [ei]
      rfl
    rw [if_pos (t4 ei), j217 S kS]
    exact flt S 5 kS u
  | some O =>
    obtain ⟨v1, g5, gO⟩ := t3 O ei
    have vn : ¬ v = 0 := by rw [v1]; exact one
    obtain ⟨S2, v2, m1, m2, m3, m4⟩ := unfilter7 (s := S) (g := g) (c := c) (w := w) (h := h) (d := h * (1 + w * chN c)) (O := O) (by omega) x3.2 x4.2 ((kS.2.1 125 6 (by decide) (by decide)).trans x5) ((kS.2.1 125 4 (by decide) (by decide)).trans x6) ((kS.2.1 125 5 (by decide) (by decide)).trans x7) rfl hd2 (if_by ei) ⟨g5, gO⟩
    have k2 := kx_tr kS (kx_u m2)
    rw [if_neg vn, ob125, ob_n, m1, b2_n]
    cases eu : ufO (chN c) w O h with
    | none =>
      have u : rsO c w h Q.2.1.1 a Q.2.2.2.2.1 Q.2.2.2.2.2 = .inl (5, a) := by
        unfold rsO
        rw [ei]
        show (ufO (chN c) w O h).elim _ _ = _
        rw [eu]
        rfl
      have vz : ¬ ¬ v2 = 0 := fun y => y (m4 eu)
      rw [if_neg vz, j217 S2 k2]
      exact flt S2 5 k2 u
    | some P =>
      obtain ⟨v21, ro⟩ := m3 P eu
      have vn2 : ¬ v2 = 0 := by rw [v21]; exact one
      have u : rsO c w h Q.2.1.1 a Q.2.2.2.2.1 Q.2.2.2.2.2 = @ite _ (c = 3 ∧ ¬ allP P w h Q.2.1.1) (Classical.propDecidable _) (.inl (6, a)) (.inr P) := by
        unfold rsO
        rw [ei]
        show (ufO (chN c) w O h).elim _ _ = _
        rw [eu]
        rfl
      have j255 : jX8_read_255 (e_g S2 g) = some (1, e_g S2 g) := by
        unfold jX8_read_255 jX8_read_260
        rw [b1, ob_n]
      have ok : rsO c w h Q.2.1.1 a Q.2.2.2.2.1 Q.2.2.2.2.2 = .inr P → ∃ s' v, (some ((1 : Int32), e_g S2 g) : Option (Int32 × ps_G)) = some (v, e_g s' g) ∧ KX s s' ∧ (∀ P, rsO c w h Q.2.1.1 a Q.2.2.2.2.1 Q.2.2.2.2.2 = .inr P → v = 1 ∧ RO s' (h * (1 + w * chN c)) P) ∧ ∀ e p, rsO c w h Q.2.1.1 a Q.2.2.2.2.1 Q.2.2.2.2.2 = .inl (e, p) → v = 0 ∧ s'.1 125 0 = Int32.ofNat e ∧ s'.1 125 1 = Int32.ofNat p := fun hr => by
        refine ⟨S2, 1, rfl, k2, fun P2 z => ?_, fun e p z => (by rw [hr] at z; cases z)⟩
        rw [hr] at z
        have e : P = P2 := Sum.inr.inj z
        rw [← e]
        exact ⟨rfl, ro⟩
      have f6 : S2.1 125 6 = Int32.ofNat c := (k2.2.1 125 6 (by decide) (by decide)).trans x5
      have c3 : Int32.ofNat c = (3 : Int32) ↔ c = 3 := n_eq (b := 3) (by omega) (by omega)
      rw [if_pos vn2, f125_6, f6, ob_n]
      by_cases qc : c = 3
      · have nc : ¬ ¬ Int32.ofNat c = (3 : Int32) := fun y => y (c3.mpr qc)
        have e13 : chN c = 1 := by rw [qc]; rfl
        have ed : h * (1 + w * chN c) = h * (1 + w) := by rw [e13, Nat.mul_one]
        obtain ⟨v3, a1, a2, a3⟩ := areInd8 (s := S2) (g := g) (w := w) (h := h) (d := h * (1 + w * chN c)) (pm := Q.2.1.1) (P := P) x3.2 x4.2 ed hd2 ((k2.2.1 125 4 (by decide) (by decide)).trans x6) ((k2.2.1 125 5 (by decide) (by decide)).trans x7) ((k2.2.1 125 8 (by decide) (by decide)).trans r2.2.1) ro
        rw [if_neg nc, ob125, ob_n, a1, ob_n]
        by_cases al : allP P w h Q.2.1.1
        · have vn3 : ¬ v3 = 0 := by rw [a2 al]; exact one
          rw [if_pos vn3, j255]
          exact ok (by rw [u, if_neg (fun y => y.2 al)])
        · have vz3 : ¬ ¬ v3 = 0 := fun y => y (a3 al)
          have fa := fails8 (s := S2) (g := g) (e := 6) (a := Int32.ofNat a)
          have f11 : S2.1 125 11 = Int32.ofNat a := (k2.2.1 125 11 (by decide) (by decide)).trans y3
          have j260 : ∀ G : ps_G, jX8_read_260 G 0 = some (0, G) := fun G => by
            unfold jX8_read_260
            rw [b0, ob_n]
          rw [if_neg vz3, f125_11, f11, ob_n, ob_n, fa, b2_n, if_pos rfl, j260]
          exact flt S2 6 k2 (by rw [u, if_pos ⟨qc, al⟩])
      · have nc : ¬ Int32.ofNat c = (3 : Int32) := fun y => qc (c3.mp y)
        rw [if_pos nc, j255]
        exact ok (by rw [u, if_neg (fun y => qc y.1)])
