-- needs: 97zzzzi
/-! ===== png: pixels ===== -/
def c5 (c : Nat) : Prop := c = 0 ∨ c = 2 ∨ c = 3 ∨ c = 4 ∨ c = 6
def HdQ (Q : CQ) : Prop := ∀ c w h, Q.1 = some (c, w, h) → c5 c
theorem tk_h {I : Nat → Int32} {p z : Nat} {nm : Int32} {Q Q' : CQ} (hB : HdQ Q) (h : tkO I p z nm Q = .inr Q') : HdQ Q' := by
  unfold tkO at h
  by_cases hd : nm = 1229472850 ∨ Q.1 = none
  · rw [if_pos hd] at h
    by_cases ok : nm = 1229472850 ∧ Q.1 = none ∧ hdK I p z
    · rw [if_pos ok] at h
      have e := Sum.inr.inj h
      rw [← e]
      intro c w h' q
      have q' : hdQ I p = (c, w, h') := Option.some.inj q
      have qc : (I (p + 17)).toInt.toNat = c := congrArg Prod.fst q'
      have e0 : (0 : Int32).toInt.toNat = 0 := by decide
      have e2 : (2 : Int32).toInt.toNat = 2 := by decide
      have e3 : (3 : Int32).toInt.toNat = 3 := by decide
      have e4 : (4 : Int32).toInt.toNat = 4 := by decide
      have e6 : (6 : Int32).toInt.toNat = 6 := by decide
      unfold c5
      rcases ok.2.2.2.2.2.2.1 with y | y | y | y | y
      · rw [y, e0] at qc; omega
      · rw [y, e2] at qc; omega
      · rw [y, e3] at qc; omega
      · rw [y, e4] at qc; omega
      · rw [y, e6] at qc; omega
    · rw [if_neg ok] at h; cases h
  · rw [if_neg hd] at h
    by_cases nP : nm = 1347179589
    · rw [if_pos nP] at h
      by_cases ok : plK z
      · rw [if_pos ok] at h
        have e := Sum.inr.inj h
        rw [← e]; exact hB
      · rw [if_neg ok] at h; cases h
    · rw [if_neg nP] at h
      by_cases nT : nm = 1951551059
      · rw [if_pos nT] at h
        by_cases c3 : c3Q Q
        · rw [if_pos c3] at h
          by_cases ok : z ≤ Q.2.1.1
          · rw [if_pos ok] at h
            have e := Sum.inr.inj h
            rw [← e]; exact hB
          · rw [if_neg ok] at h; cases h
        · rw [if_neg c3] at h
          have e := Sum.inr.inj h
          rw [← e]; exact hB
      · rw [if_neg nT] at h
        by_cases nD : nm = 1229209940
        · rw [if_pos nD] at h
          have e := Sum.inr.inj h
          rw [← e]; exact hB
        · rw [if_neg nD] at h
          have e := Sum.inr.inj h
          rw [← e]; exact hB
theorem rc_h {I : Nat → Int32} {n : Nat} : ∀ (m p : Nat) (Q Q' : CQ), HdQ Q → rcO I n m p Q = .inr Q' → HdQ Q' := by
  intro m
  induction m with
  | zero => intro p Q Q' _ h; cases h
  | succ m ih =>
    intro p Q Q' hB h
    rw [rc_u] at h
    cases ez : szO I n p with
    | none => rw [ez] at h; cases h
    | some z =>
      rw [ez] at h
      have h' : @ite _ (crK I p z) (Classical.propDecidable _) (Sum.elim .inl (fun Q' => if sm4 I (p + 4) = 1229278788 then (if p + 12 + z = n then @ite _ (Q'.2.2.2.1 = none ∨ (c3Q Q' ∧ Q'.2.1.1 = 0)) (Classical.propDecidable _) (.inl (4, p)) (.inr Q') else .inl (1, p + 12 + z)) else rcO I n m (p + 12 + z) Q') (tkO I p z (sm4 I (p + 4)) Q)) (.inl (2, p)) = .inr Q' := h
      by_cases ck : crK I p z
      · rw [if_pos ck] at h'
        cases et : tkO I p z (sm4 I (p + 4)) Q with
        | inl f => rw [et, Sum.elim_inl] at h'; cases h'
        | inr Q1 =>
          rw [et, Sum.elim_inr] at h'
          have b1 := tk_h hB et
          by_cases nE : sm4 I (p + 4) = 1229278788
          · rw [if_pos nE] at h'
            by_cases qn : p + 12 + z = n
            · rw [if_pos qn] at h'
              by_cases bd : Q1.2.2.2.1 = none ∨ (c3Q Q1 ∧ Q1.2.1.1 = 0)
              · rw [if_pos bd] at h'; cases h'
              · rw [if_neg bd] at h'
                have e := Sum.inr.inj h'
                rw [← e]
                exact b1
            · rw [if_neg qn] at h'; cases h'
          · rw [if_neg nE] at h'
            exact ih _ Q1 Q' b1 h'
      · rw [if_neg ck] at h'; cases h'
/-- what is known of a file that was read -/
def PQ (Q : CQ) (P : Nat → Int32) (c w h : Nat) : Prop := Q.1 = some (c, w, h) ∧ c5 c ∧ (∀ i, i < h * (1 + w * chN c) → rg (P i) 0 255 = true) ∧ (c = 3 → allP P w h Q.2.1.1)
theorem rs_k {c w h pm a len : Nat} {K P : Nat → Int32} (hr : rsO c w h pm a K len = .inr P) : (∀ i, i < h * (1 + w * chN c) → rg (P i) 0 255 = true) ∧ (c = 3 → allP P w h pm) := by
  unfold rsO at hr
  cases ei : ifO K len (h * (1 + w * chN c)) with
  | none => rw [ei] at hr; cases hr
  | some O =>
    rw [ei] at hr
    have hr' : (ufO (chN c) w O h).elim (Sum.inl (5, a) : (Nat × Nat) ⊕ (Nat → Int32)) (fun P => @ite ((Nat × Nat) ⊕ (Nat → Int32)) (c = 3 ∧ ¬ allP P w h pm) (Classical.propDecidable _) (Sum.inl (6, a)) (Sum.inr P)) = Sum.inr P := hr
    cases eu : ufO (chN c) w O h with
    | none => rw [eu] at hr'; cases hr'
    | some P' =>
      rw [eu] at hr'
      have hr2 : @ite ((Nat × Nat) ⊕ (Nat → Int32)) (c = 3 ∧ ¬ allP P' w h pm) (Classical.propDecidable _) (Sum.inl (6, a)) (Sum.inr P') = Sum.inr P := hr'
      by_cases q : c = 3 ∧ ¬ allP P' w h pm
      · rw [if_pos q] at hr2; cases hr2
      · rw [if_neg q] at hr2
        have e := Sum.inr.inj hr2
        rw [← e]
        refine ⟨uf_by (if_by ei) h P' eu, fun c3 => ?_⟩
        exact Classical.byContradiction fun y => q ⟨c3, y⟩
theorem pg_s {I : Nat → Int32} {n : Nat} {Q : CQ} {P : Nat → Int32} (hI : ∀ i, i < n → rg (I i) 0 255 = true) (h : pgO I n = .inr (Q, P)) : ∃ c w h', PQ Q P c w h' := by
  unfold pgO at h
  by_cases sg : sgK I n
  · rw [if_pos sg] at h
    cases er : rcO I n (n + 1) 8 Q00 with
    | inl f => rw [er, Sum.elim_inl] at h; cases h
    | inr Q1 =>
      rw [er, Sum.elim_inr] at h
      cases es : rsQ Q1 with
      | inl f => rw [es, Sum.elim_inl] at h; cases h
      | inr P1 =>
        rw [es, Sum.elim_inr] at h
        have h' := Sum.inr.inj h
        have eQ : Q1 = Q := congrArg Prod.fst h'
        have eP : P1 = P := congrArg Prod.snd h'
        subst eQ eP
        obtain ⟨-, -, z3, -⟩ := rc_by hI (n + 1) 8 Q00 Q1 (by show 0 ≤ 8; omega) (fun i hi => absurd hi (Nat.not_lt_zero i)) er
        have z5 := rc_h (n + 1) 8 Q00 Q1 (fun c w h y => by cases y) er
        cases q1 : Q1.1 with
        | none => exact absurd q1 z3
        | some hd =>
          obtain ⟨c, w, h'⟩ := hd
          unfold rsQ at es
          rw [q1] at es
          have b := rs_k es
          exact ⟨c, w, h', q1, z5 c w h' q1, b.1, b.2⟩
  · rw [if_neg sg] at h; cases h
/-- a pixel -/
def pxP (Q : CQ) (P : Nat → Int32) (c o : Nat) : Int32 := if c = 0 then fX11_pack 255 (P o) (P o) (P o) else if c = 2 then fX11_pack 255 (P o) (P (o + 1)) (P (o + 2)) else if c = 3 then q_shl (if (P o).toInt.toNat < Q.2.2.1.1 then Q.2.2.1.2 (P o).toInt.toNat else 255) 24 ||| Q.2.1.2 (P o).toInt.toNat else if c = 4 then fX11_pack (P (o + 1)) (P o) (P o) (P o) else fX11_pack (P (o + 3)) (P o) (P (o + 1)) (P (o + 2))
theorem px_lt {w h u x y k d : Nat} (hd : d = h * (1 + w * u)) (hx : x < w) (hy : y < h) (hk : k < u) : y * (1 + w * u) + 1 + (x * u + k) < d := by
  have a : (y + 1) * (1 + w * u) ≤ h * (1 + w * u) := Nat.mul_le_mul_right _ hy
  have b : (y + 1) * (1 + w * u) = y * (1 + w * u) + (1 + w * u) := Nat.succ_mul y _
  have c : (x + 1) * u ≤ w * u := Nat.mul_le_mul_right _ hx
  have e : (x + 1) * u = x * u + u := Nat.succ_mul x u
  omega
theorem c_ix {Q : CQ} {P : Nat → Int32} {w h x y : Nat} (hP : PQ Q P 3 w h) (hx : x < w) (hy : y < h) (hm : Q.2.1.1 ≤ 256) : ∃ b : Nat, P (y * (1 + w * 1) + 1 + x * 1) = Int32.ofNat b ∧ b < Q.2.1.1 ∧ b < 256 ∧ (P (y * (1 + w * 1) + 1 + x * 1)).toInt.toNat = b := by
  obtain ⟨q1, -, q3, q4⟩ := hP
  have lt := px_lt (w := w) (h := h) (u := 1) (x := x) (y := y) (k := 0) rfl hx hy (by omega)
  have c3 : chN 3 = 1 := rfl
  obtain ⟨b, hb, lb⟩ := rg_n (N := 255) (q3 (y * (1 + w * 1) + 1 + x * 1) (by rw [c3]; omega)) (by decide)
  have q5 : P (y * (1 + w) + 1 + x) < Int32.ofNat Q.2.1.1 := q4 rfl y hy x hx
  rw [Nat.mul_one, Nat.mul_one] at hb
  rw [hb] at q5
  have q6 := (n_lt (by omega) (by omega)).mp q5
  rw [Nat.mul_one, Nat.mul_one]
  refine ⟨b, hb, q6, by omega, ?_⟩
  rw [hb, n_int (by omega)]
  rfl
theorem colour8 {s : e_S} {g : ps_G} {Q : CQ} {P : Nat → Int32} {c w h x y : Nat} (hP : PQ Q P c w h) (hQ : QC s Q) (ro : RO s (h * (1 + w * chN c)) P) (hx : x < w) (hy : y < h) : fX8_colourAt (e_g s g) 125 (Int32.ofNat x) (Int32.ofNat y) = some (pxP Q P c (y * (1 + w * chN c) + 1 + x * chN c)) := by
  obtain ⟨r1, r2, r3, r4, r5, r6⟩ := id hQ
  have q1 := hP.1
  obtain ⟨c1, w1, h1, x1, x2, x3, x4, x5, x6, x7⟩ : ∃ c w h', Q.1 = some (c, w, h') ∧ c < 7 ∧ (1 ≤ w ∧ w ≤ 24) ∧ (1 ≤ h' ∧ h' ≤ 24) ∧ s.1 125 6 = Int32.ofNat c ∧ s.1 125 4 = Int32.ofNat w ∧ s.1 125 5 = Int32.ofNat h' := r1.elim (fun y => by rw [q1] at y; cases y.1) id
  rw [q1] at x1
  have x1' := Option.some.inj x1
  have ec : c = c1 := congrArg Prod.fst x1'
  have ew : w = w1 := congrArg (fun t => t.2.1) x1'
  have eh : h = h1 := congrArg (fun t => t.2.2) x1'
  subst ec ew eh
  have hu := ch_i (c := c)
  have wst : w * chN c ≤ 24 * 4 := Nat.mul_le_mul x3.2 hu.2
  have hd2 : h * (1 + w * chN c) ≤ 2328 := by
    have : h * (1 + w * chN c) ≤ 24 * 97 := Nat.mul_le_mul x4.2 (by omega)
    omega
  obtain ⟨o, eo⟩ : ∃ o, o = y * (1 + w * chN c) + 1 + x * chN c := ⟨_, rfl⟩
  have e1 : (1 : Int32) = Int32.ofNat 1 := rfl
  have ix : Int32.ofNat y * ((1 : Int32) + Int32.ofNat w * Int32.ofNat (chN c)) + 1 + Int32.ofNat x * Int32.ofNat (chN c) = Int32.ofNat o := by
    rw [n_mul, e1, n_add, n_mul, n_add, n_mul, n_add, ← eo]
  have lt : ∀ k, k < chN c → o + k < h * (1 + w * chN c) := fun k hk => by
    have := px_lt (w := w) (h := h) (u := chN c) (x := x) (y := y) (k := k) rfl hx hy hk
    omega
  have rd : ∀ k, k < chN c → fX2_at (e_g s g) 128 (Int32.ofNat (o + k)) = some (P (o + k)) := fun k hk => at7 hd2 ro (lt k hk)
  have rd0 : fX2_at (e_g s g) 128 (Int32.ofNat o) = some (P o) := rd 0 (by omega)
  have a1 : Int32.ofNat o + 1 = Int32.ofNat (o + 1) := n_add (m := 1)
  have a2 : Int32.ofNat o + 2 = Int32.ofNat (o + 2) := n_add (m := 2)
  have a3 : Int32.ofNat o + 3 = Int32.ofNat (o + 3) := n_add (m := 3)
  have bb : P o &&& 255 = P o := and_b (hP.2.2.1 o (by have := lt 0 (by omega); omega))
  have e : ∀ k : Nat, k < 100 → (Int32.ofNat c = Int32.ofNat k ↔ c = k) := fun k hk => n_eq (by omega) (by omega)
  have k0 : Int32.ofNat c = (0 : Int32) ↔ c = 0 := e 0 (by omega)
  have k2 : Int32.ofNat c = (2 : Int32) ↔ c = 2 := e 2 (by omega)
  have k3 : Int32.ofNat c = (3 : Int32) ↔ c = 3 := e 3 (by omega)
  have k4 : Int32.ofNat c = (4 : Int32) ↔ c = 4 := e 4 (by omega)
  rw [← eo]
  unfold fX8_colourAt pxP
  rw [ob125, ob_n, channels7 (by omega) x5, ob_n, f125_4, x6, ob_n, f125_12, ob_n, ob_n, ob128, ob_n, ix, rd0, ob_n, f125_6, x5, ob_n, bb]
  by_cases q0 : c = 0
  · rw [if_pos (k0.mpr q0), if_pos q0]
  · rw [if_neg (fun z => q0 (k0.mp z)), if_neg q0]
    by_cases q2 : c = 2
    · have u3 : chN c = 3 := by rw [q2]; rfl
      rw [if_pos (k2.mpr q2), if_pos q2, ob_n, ob_n, ob128, ob_n, a1, rd 1 (by omega), ob_n, ob_n, ob_n, ob128, ob_n, a2, rd 2 (by omega), ob_n]
    · rw [if_neg (fun z => q2 (k2.mp z)), if_neg q2]
      by_cases q3 : c = 3
      · subst q3
        have u1 : chN 3 = 1 := rfl
        rw [u1] at eo
        obtain ⟨b, b1, b2, b3, b4⟩ := c_ix hP hx hy r2.1
        rw [← eo] at b1 b4
        have pl : ∀ v, jX8_colourAt_142 (e_g s g) 125 (Int32.ofNat b) v = some (q_shl v 24 ||| Q.2.1.2 b) := fun v => by
          unfold jX8_colourAt_142
          rw [f125_7, ob_n, ob_n, tb_rd t126 b3 (by omega), ob_n, r2.2.2 b b2]
        rw [if_pos (k3.mpr rfl), if_pos rfl, f125_10, r3.2.1, ob_n, b4, b1]
        by_cases z : b < Q.2.2.1.1
        · rw [if_neg (nle z (by omega)), if_pos z, f125_9, ob_n, ob_n, tb_rd t127 b3 (by omega), ob_n, r3.2.2 b z, pl]
        · rw [if_pos ((n_le (by omega) (by omega)).mpr (by omega)), if_neg z, pl]
      · rw [if_neg (fun z => q3 (k3.mp z)), if_neg q3]
        by_cases q4 : c = 4
        · have u2 : chN c = 2 := by rw [q4]; rfl
          rw [if_pos (k4.mpr q4), if_pos q4, ob_n, ob_n, ob128, ob_n, a1, rd 1 (by omega), ob_n]
        · have q6 : c = 6 := by
            have := hP.2.1
            unfold c5 at this
            omega
          have u4 : chN c = 4 := by rw [q6]; rfl
          rw [if_neg (fun z => q4 (k4.mp z)), if_neg q4, ob_n, ob_n, ob128, ob_n, a3, rd 3 (by omega), ob_n, ob_n, ob_n, ob128, ob_n, a1, rd 1 (by omega), ob_n, ob_n, ob_n, ob128, ob_n, a2, rd 2 (by omega), ob_n]
theorem pngPx12 {s : e_S} {g : ps_G} {Q : CQ} {P : Nat → Int32} {c w h x y : Nat} (hP : PQ Q P c w h) (hQ : QM s Q) (ro : RM s (chN c) w h (h * (1 + w * chN c)) P) (hx : x < w) (hy : y < h) : fX12_pngPixel (e_g s g) 139 (Int32.ofNat x) (Int32.ofNat y) = some (pxP Q P c (y * (1 + w * chN c) + 1 + x * chN c)) := by
  obtain ⟨r1, r2, r3, r4, r5, r6⟩ := id hQ
  have q1 := hP.1
  obtain ⟨c1, w1, h1, x1, x2, x3, x4, x5, x6, x7⟩ : ∃ c w h', Q.1 = some (c, w, h') ∧ c < 7 ∧ (1 ≤ w ∧ w ≤ 24) ∧ (1 ≤ h' ∧ h' ≤ 24) ∧ s.1 139 85 = Int32.ofNat c ∧ s.1 139 83 = Int32.ofNat w ∧ s.1 139 84 = Int32.ofNat h' := r1.elim (fun y => by rw [q1] at y; cases y) id
  rw [q1] at x1
  have x1' := Option.some.inj x1
  have ec : c = c1 := congrArg Prod.fst x1'
  have ew : w = w1 := congrArg (fun t => t.2.1) x1'
  have eh : h = h1 := congrArg (fun t => t.2.2) x1'
  subst ec ew eh
  have hu := ch_i (c := c)
  have wst : w * chN c ≤ 24 * 4 := Nat.mul_le_mul x3.2 hu.2
  have hd2 : h * (1 + w * chN c) ≤ 2328 := by
    have : h * (1 + w * chN c) ≤ 24 * 97 := Nat.mul_le_mul x4.2 (by omega)
    omega
  obtain ⟨o, eo⟩ : ∃ o, o = y * (1 + w * chN c) + 1 + x * chN c := ⟨_, rfl⟩
  have xu : x * chN c ≤ 24 * 4 := Nat.mul_le_mul (by omega) hu.2
  have ea : Int32.ofNat (chN c) * Int32.ofNat x = Int32.ofNat (x * chN c) := by rw [n_mul, Nat.mul_comm]
  have lt : ∀ k, k < chN c → o + k < h * (1 + w * chN c) := fun k hk => by
    have := px_lt (w := w) (h := h) (u := chN c) (x := x) (y := y) (k := k) rfl hx hy hk
    omega
  have rd : ∀ k, k < chN c → fX12_rowByte (e_g s g) 139 (Int32.ofNat y) (Int32.ofNat (x * chN c + k)) = some (P (o + k)) := fun k hk => by
    have := lt k hk
    rw [rowB12 hu.2 x3.2 hd2 ro (by omega) (by omega) (by omega), eo, Nat.add_assoc (y * (1 + w * chN c) + 1)]
  have rd0 : fX12_rowByte (e_g s g) 139 (Int32.ofNat y) (Int32.ofNat (x * chN c)) = some (P o) := rd 0 (by omega)
  have a1 : Int32.ofNat (x * chN c) + 1 = Int32.ofNat (x * chN c + 1) := n_add (m := 1)
  have a2 : Int32.ofNat (x * chN c) + 2 = Int32.ofNat (x * chN c + 2) := n_add (m := 2)
  have a3 : Int32.ofNat (x * chN c) + 3 = Int32.ofNat (x * chN c + 3) := n_add (m := 3)
  obtain ⟨v1, rv1⟩ : ∃ v, fX12_rowByte (e_g s g) 139 (Int32.ofNat y) (Int32.ofNat (x * chN c + 1)) = some v := by
    have wu : chN c * w = w * chN c := Nat.mul_comm _ w
    have ix : ((1 : Int32) + Int32.ofNat (chN c) * Int32.ofNat w) * Int32.ofNat y + 1 + Int32.ofNat (x * chN c + 1) = Int32.ofNat (o + 1) := by
      have e1 : (1 : Int32) = Int32.ofNat 1 := rfl
      rw [n_mul, e1, n_add, n_mul, n_add, n_add, wu, Nat.mul_comm (1 + w * chN c) y, eo]
      rfl
    have z0 : (0 : Int32) ≤ Int32.ofNat (x * chN c + 1) := show Int32.ofNat 0 ≤ _ from (n_le (by omega) (by omega)).mpr (by omega)
    have := lt 0 (by omega)
    refine ⟨s.2.1 187 (o + 1), ?_⟩
    unfold fX12_rowByte jX12_rowByte_34
    rw [if_pos ⟨n_neg (by omega), z0⟩, f139_74, ob_n, ob_n, f139_93, ro.1, ob_n, f139_83, ro.2.1, ob_n, ix, tb_rd t187 (by omega) (by omega), ob_n]
  have e : ∀ k : Nat, k < 100 → (Int32.ofNat c = Int32.ofNat k ↔ c = k) := fun k hk => n_eq (by omega) (by omega)
  have k0 : Int32.ofNat c = (0 : Int32) ↔ c = 0 := e 0 (by omega)
  have k2 : Int32.ofNat c = (2 : Int32) ↔ c = 2 := e 2 (by omega)
  have k3 : Int32.ofNat c = (3 : Int32) ↔ c = 3 := e 3 (by omega)
  have k4 : Int32.ofNat c = (4 : Int32) ↔ c = 4 := e 4 (by omega)
  have vp : 1 < chN c → v1 = P (o + 1) := fun hk => by
    have z := rd 1 hk
    rw [rv1] at z
    exact Option.some.inj z
  rw [← eo]
  unfold fX12_pngPixel pxP
  rw [f139_93, ro.1, ob_n, ob139, ob_n, ea, rd0, ob_n, ob_n, ob_n, ea, a1, rv1, ob_n, f139_85, x5, ob_n]
  by_cases q0 : c = 0
  · rw [if_pos (k0.mpr q0), if_pos q0]
    rfl
  · rw [if_neg (fun z => q0 (k0.mp z)), if_neg q0]
    by_cases q2 : c = 2
    · have u3 : chN c = 3 := by rw [q2]; rfl
      rw [if_pos (k2.mpr q2), if_pos q2, ob_n, ob_n, ea, a2, rd 2 (by omega), ob_n, vp (by omega)]
      rfl
    · rw [if_neg (fun z => q2 (k2.mp z)), if_neg q2]
      by_cases q3 : c = 3
      · subst q3
        have u1 : chN 3 = 1 := rfl
        rw [u1] at eo
        obtain ⟨b, b1, b2, b3, b4⟩ := c_ix hP hx hy r2.1
        rw [← eo] at b1 b4
        rw [if_pos (k3.mpr rfl), if_pos rfl, f139_81, ob_n, ob_n, b4, b1, tb_rd t190 b3 (by omega), ob_n, f139_80, ob_n, ob_n, tb_rd t189 b3 (by omega), ob_n, r3.2 b b3, r2.2.2 b b2]
      · rw [if_neg (fun z => q3 (k3.mp z)), if_neg q3]
        by_cases q4 : c = 4
        · have u2 : chN c = 2 := by rw [q4]; rfl
          rw [if_pos (k4.mpr q4), if_pos q4, vp (by omega)]
          rfl
        · have q6 : c = 6 := by
            have := hP.2.1
            unfold c5 at this
            omega
          have u4 : chN c = 4 := by rw [q6]; rfl
          rw [if_neg (fun z => q4 (k4.mp z)), if_neg q4, ob_n, ob_n, ea, a2, rd 2 (by omega), ob_n, ob_n, ob_n, ea, a3, rd 3 (by omega), ob_n, vp (by omega)]
          rfl
