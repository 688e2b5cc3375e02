-- needs: 97zzzp
/-! ===== png: the lengths told, by the reference ===== -/
theorem wrl12 {g : ps_G} {x1 x2 v : Int32} {a tm : Nat} {S : e_S} (ha : a + tm ≤ 340) : ∃ B', q_lp (fun t => bX12_ownCodes_267 139 x1 x2 (Int32.ofNat tm) v t.1 t.2.1 t.2.2) (Int32.ofNat a, (0 : Int32), e_g S g) = some (Int32.ofNat (a + tm), e_g (sA S 193 B') g) ∧ (∀ j, j < a → B' j = S.2.1 193 j) ∧ ∀ j, a ≤ j → j < a + tm → B' j = v := by
  obtain ⟨r, lp, B', e, h1, h2⟩ := lp_n (b := fun t => bX12_ownCodes_267 139 x1 x2 (Int32.ofNat tm) v t.1 t.2.1 t.2.2) (fun i t => ∃ B', t = (Int32.ofNat (a + i), Int32.ofNat i, e_g (sA S 193 B') g) ∧ (∀ j, j < a → B' j = S.2.1 193 j) ∧ ∀ j, a ≤ j → j < a + i → B' j = v) (fun r => ∃ B', r = (Int32.ofNat (a + tm), e_g (sA S 193 B') g) ∧ (∀ j, j < a → B' j = S.2.1 193 j) ∧ ∀ j, a ≤ j → j < a + tm → B' j = v) tm (fun i t hi ⟨B', ht, h1, h2⟩ => by
    refine ⟨(Int32.ofNat (a + (i + 1)), Int32.ofNat (i + 1), e_g (sA S 193 (upd B' (a + i) v)) g), ?_, _, rfl, fun j hj => ?_, fun j hj hj2 => ?_⟩
    · rw [ht]
      show bX12_ownCodes_267 _ _ _ _ _ _ _ _ = _
      unfold bX12_ownCodes_267
      dsimp only
      rw [if_neg (nle hi (by omega)), f139_92, ob_n, ob_n, tb_wr t193 (by decide) (by omega) (by omega), ob_n, A_sA, if_pos rfl, sA_sA, n_suc, n_suc]
      rfl
    · rw [upd_r, if_neg (by omega)]; exact h1 j hj
    · rw [upd_r]
      by_cases q : j = a + i
      · rw [if_pos q]
      · rw [if_neg q]; exact h2 j hj (by omega)) (fun t ⟨B', ht, h1, h2⟩ => by
    refine ⟨_, ?_, B', rfl, h1, h2⟩
    rw [ht]
    show bX12_ownCodes_267 _ _ _ _ _ _ _ _ = _
    unfold bX12_ownCodes_267
    dsimp only
    rw [if_pos (nlr (by omega))]) (s := (Int32.ofNat a, (0 : Int32), e_g S g)) ⟨S.2.1 193, by rw [sA_id]; rfl, fun j _ => rfl, fun j h1 h2 => by omega⟩
  exact ⟨B', by rw [lp, e], h1, h2⟩
theorem bad206 {g : ps_G} {x1 x2 x4 x5 x6 k0 : Int32} {S : e_S} (hw : S.1 139 87 = 1) : jX12_ownCodes_206_130 (e_g S g) 139 x1 x2 x4 x5 x6 k0 = some (.inr (.inr (e_g S g))) := by
  have id1 : sF S 139 87 1 = S := by rw [← hw, sF_id]
  unfold jX12_ownCodes_206_130
  rw [f139_87, hw, ob_n, if_neg (fun z => z.1 (by decide)), w139_87 (Or.inr rfl), ob_n, id1]
/-- what stood before -/
def Bf (x5 : Int32) (L : Nat → Nat) (a : Nat) : Prop := (a = 0 ∧ x5 = -1) ∨ (1 ≤ a ∧ x5 = Int32.ofNat (L (a - 1)) ∧ L (a - 1) < 16)
theorem good206 {g : ps_G} {lit dist a p tm : Nat} {x5 : Int32} {S : e_S} {L : Nat → Nat} (hw : S.1 139 87 = 0) (ha : a ≤ lit + dist) (ht : lit + dist ≤ 320) (hp : p < 19) (hm : tm ≤ 200) (hm1 : 1 ≤ tm) (hL : Ln (S.2.1 193) L a) (hB : Bf x5 L a) : ((p = 16 ∧ a = 0) ∨ lit + dist < a + tm → jX12_ownCodes_206_130 (e_g S g) 139 (Int32.ofNat lit) (Int32.ofNat dist) (Int32.ofNat a) x5 (Int32.ofNat p) (Int32.ofNat tm) = some (.inr (.inr (e_g (sF S 139 87 1) g)))) ∧ (¬ ((p = 16 ∧ a = 0) ∨ lit + dist < a + tm) → ∃ B' x', jX12_ownCodes_206_130 (e_g S g) 139 (Int32.ofNat lit) (Int32.ofNat dist) (Int32.ofNat a) x5 (Int32.ofNat p) (Int32.ofNat tm) = some (.inl (Int32.ofNat (a + tm), x', e_g (sA S 193 B') g)) ∧ Ln B' (flN L a tm (if p < 16 then p else if p = 16 then L (a - 1) else 0)) (a + tm) ∧ Bf x' (flN L a tm (if p < 16 then p else if p = 16 then L (a - 1) else 0)) (a + tm)) := by
  have e16 : Int32.ofNat p = (16 : Int32) ↔ p = 16 := n_eq (b := 16) (by omega) (by omega)
  have g16 : (16 : Int32) ≤ Int32.ofNat p ↔ 16 ≤ p := n_le (n := 16) (by omega) (by omega)
  have le : Int32.ofNat a + Int32.ofNat tm ≤ Int32.ofNat lit + Int32.ofNat dist ↔ a + tm ≤ lit + dist := by rw [n_add, n_add]; exact n_le (by omega) (by omega)
  obtain ⟨v, hv⟩ : ∃ v, v = (if (16 : Int32) ≤ Int32.ofNat p then (if ¬ Int32.ofNat p = (16 : Int32) then (0 : Int32) else x5) else Int32.ofNat p) := ⟨_, rfl⟩
  have ev : v = if p < 16 then Int32.ofNat p else if p = 16 then x5 else 0 := by
    rw [hv]
    by_cases c1 : p < 16
    · rw [if_neg (fun z => absurd (g16.mp z) (by omega)), if_pos c1]
    · rw [if_pos (g16.mpr (by omega)), if_neg c1]
      by_cases c2 : p = 16
      · rw [if_neg (fun z => z (e16.mpr c2)), if_pos c2]
      · rw [if_pos (fun z => c2 (e16.mp z)), if_neg c2]
  have ng : v < 0 ↔ p = 16 ∧ a = 0 := by
    rw [ev]
    by_cases c1 : p < 16
    · rw [if_pos c1]
      exact ⟨fun z => absurd z (n_neg (by omega)), fun z => by omega⟩
    · rw [if_neg c1]
      by_cases c2 : p = 16
      · rw [if_pos c2]
        rcases hB with ⟨b1, b2⟩ | ⟨b1, b2, b3⟩
        · rw [b2]
          exact ⟨fun _ => ⟨c2, b1⟩, fun _ => by decide⟩
        · rw [b2]
          exact ⟨fun z => absurd z (n_neg (by omega)), fun z => by omega⟩
      · rw [if_neg c2]
        exact ⟨fun z => absurd z (by decide), fun z => absurd z.1 c2⟩
  have pre : jX12_ownCodes_206_130 (e_g S g) 139 (Int32.ofNat lit) (Int32.ofNat dist) (Int32.ofNat a) x5 (Int32.ofNat p) (Int32.ofNat tm) = if ¬ (¬ (0 : Int32) = 0) ∧ (¬ (v < 0) ∧ (Int32.ofNat a + Int32.ofNat tm) ≤ (Int32.ofNat lit + Int32.ofNat dist)) then (Option.bind (q_lp (fun s => bX12_ownCodes_267 139 (Int32.ofNat lit) (Int32.ofNat dist) (Int32.ofNat tm) v s.1 s.2.1 s.2.2) (Int32.ofNat a, (0 : Int32), e_g S g)) fun s73 => some (.inl (s73.1, v, s73.2))) else (Option.bind (q_sB 12 87 (e_g S g) 139 (1 : Int32)) fun g74 => some (.inr (.inr g74))) := by
    unfold jX12_ownCodes_206_130
    rw [f139_87, hw, ob_n, ← hv]
  rw [pre]
  refine ⟨fun w => ?_, fun w => ?_⟩
  · rw [if_neg, w139_87 (Or.inr rfl), ob_n]
    rintro ⟨-, z2, z3⟩
    rcases w with w | w
    · exact z2 (ng.mpr w)
    · have := le.mp z3
      omega
  · have w1 : ¬ (p = 16 ∧ a = 0) := fun z => w (Or.inl z)
    have w2 : ¬ lit + dist < a + tm := fun z => w (Or.inr z)
    obtain ⟨u, hu, u16⟩ : ∃ u : Nat, v = Int32.ofNat u ∧ u < 16 ∧ u = (if p < 16 then p else if p = 16 then L (a - 1) else 0) := by
      rw [ev]
      by_cases c1 : p < 16
      · rw [if_pos c1]
        exact ⟨p, rfl, c1, by rw [if_pos c1]⟩
      · rw [if_neg c1]
        by_cases c2 : p = 16
        · rw [if_pos c2]
          rcases hB with ⟨b1, b2⟩ | ⟨b1, b2, b3⟩
          · exact absurd ⟨c2, b1⟩ w1
          · exact ⟨L (a - 1), b2, b3, by rw [if_neg c1, if_pos c2]⟩
        · rw [if_neg c2]
          exact ⟨0, rfl, by omega, by rw [if_neg c1, if_neg c2]⟩
    obtain ⟨B', q1, q2, q3⟩ := wrl12 (g := g) (x1 := Int32.ofNat lit) (x2 := Int32.ofNat dist) (v := v) (a := a) (tm := tm) (S := S) (by omega)
    rw [hu] at q3
    refine ⟨B', v, ?_, ?_, ?_⟩
    · rw [if_pos ⟨fun z => z rfl, fun z => w1 (ng.mp z), le.mpr (by omega)⟩, q1, ob_n]
    · rw [← u16.2]
      exact ln_f hL u16.1 q2 q3
    · rw [← u16.2]
      refine Or.inr ⟨by omega, ?_, ?_⟩
      · unfold flN
        rw [if_pos ⟨by omega, by omega⟩]
        exact hu
      · unfold flN
        rw [if_pos ⟨by omega, by omega⟩]
        exact u16.1
theorem readl12 {g : ps_G} {K : Nat → Int32} {n d sz lit dist : Nat} {O : Nat → Int32} {Lc : Nat → Nat} (ht : lit + dist ≤ 320) : ∀ (m : Nat) (t : Nat × Nat × (Nat → Nat)) (x5 : Int32) (s : e_S), lit + dist < t.1 + m → t.1 ≤ lit + dist → GM s K n d t.2.1 sz O → Tb (fun k => s.2.1 191 (16 * 2 + k)) (fun k => s.2.1 192 (320 * 2 + k)) Lc 19 → Ln (s.2.1 193) t.2.2 t.1 → Bf x5 t.2.2 t.1 → ∃ r s', q_lp (fun x => bX12_ownCodes_130 139 (Int32.ofNat lit) (Int32.ofNat dist) x.1 x.2.1 x.2.2) (Int32.ofNat t.1, x5, e_g s g) = some r ∧ Kp [193] 139 [75, 87, 88] s s' ∧ (∀ t', rdO K n Lc (lit + dist) m t = some t' → r = .inl (e_g s' g) ∧ GM s' K n d t'.2.1 sz O ∧ Ln (s'.2.1 193) t'.2.2 (lit + dist)) ∧ (rdO K n Lc (lit + dist) m t = none → r = .inr (e_g s' g) ∧ s'.1 139 87 = 1) := by
  have kF : ∀ {s : e_S} {f : Nat} {v : Int32}, [75, 87, 88].contains f = true → Kp [193] 139 [75, 87, 88] s (sF s 139 f v) := fun hf => kp_F kp_rf hf
  have kW : ∀ {s s' : e_S}, Kp [] 139 [87, 88] s s' → Kp [193] 139 [75, 87, 88] s s' := fun h => kp_w h (fun j hj => by cases hj) (fun j hj => by
    rw [List.contains_iff_mem] at hj ⊢
    have : ∀ j, j ∈ [87, 88] → j ∈ [75, 87, 88] := by decide
    exact this j hj)
  intro m
  induction m with
  | zero =>
    intro t x5 s h1 h3
    omega
  | succ m ih =>
    intro t x5 s h1 h3 h hT hL hBf
    rw [rd_u]
    have eT : Int32.ofNat lit + Int32.ofNat dist = Int32.ofNat (lit + dist) := n_add
    by_cases q : lit + dist ≤ t.1
    · rw [if_pos q]
      have e : t.1 = lit + dist := by omega
      refine ⟨.inl (e_g s g), s, lp_end ?_, kp_rf, fun t' z => ?_, fun z => (by cases z)⟩
      · show bX12_ownCodes_130 _ _ _ _ _ _ = _
        unfold bX12_ownCodes_130
        dsimp only
        rw [eT, if_pos ((n_le (by omega) (by omega)).mpr q)]
      · have z' := Option.some.inj z
        rw [← z', ← e]
        exact ⟨rfl, h, hL⟩
    · rw [if_neg q]
      have c0 : ¬ Int32.ofNat (lit + dist) ≤ Int32.ofNat t.1 := nle (by omega) (by omega)
      have D := decoded12 (g := g) (n := 19) (st := 2) (by omega) (by omega) hT h.1 h.2.1
      have pre : bX12_ownCodes_130 139 (Int32.ofNat lit) (Int32.ofNat dist) (Int32.ofNat t.1) x5 (e_g s g) = q_b2 (fX12_decoded (e_g s g) 139 (Int32.ofNat 2)) fun v45 g46 => if (16 : Int32) ≤ v45 then (if ¬ v45 = (16 : Int32) then (if ¬ v45 = (17 : Int32) then (Option.bind (q_ob 12 g46 139) fun u56 => q_b2 (fX12_low g46 139 (7 : Int32)) fun v57 g58 => jX12_ownCodes_206_130 g58 139 (Int32.ofNat lit) (Int32.ofNat dist) (Int32.ofNat t.1) x5 v45 ((11 : Int32) + v57)) else (Option.bind (q_ob 12 g46 139) fun u80 => q_b2 (fX12_low g46 139 (3 : Int32)) fun v81 g82 => jX12_ownCodes_206_130 g82 139 (Int32.ofNat lit) (Int32.ofNat dist) (Int32.ofNat t.1) x5 v45 ((3 : Int32) + v81))) else (Option.bind (q_ob 12 g46 139) fun u85 => q_b2 (fX12_low g46 139 (2 : Int32)) fun v86 g87 => jX12_ownCodes_206_130 g87 139 (Int32.ofNat lit) (Int32.ofNat dist) (Int32.ofNat t.1) x5 v45 ((3 : Int32) + v86))) else (jX12_ownCodes_206_130 g46 139 (Int32.ofNat lit) (Int32.ofNat dist) (Int32.ofNat t.1) x5 v45 (1 : Int32)) := by
        unfold bX12_ownCodes_130
        rw [eT, if_neg c0, f139_87, h.2.1, ob_n, if_neg (fun z => z rfl), ob139, ob_n]
        rfl
      cases ed : dcN Lc 19 K n 15 0 0 t.2.1 with
      | none =>
        obtain ⟨v, s1, d1, d2, d3⟩ := D.2 ed
        rw [ob_no]
        have ex : bX12_ownCodes_130 139 (Int32.ofNat lit) (Int32.ofNat dist) (Int32.ofNat t.1) x5 (e_g s g) = some (.inr (.inr (e_g s1 g))) := by
          rw [pre, d1, b2_n]
          by_cases a1 : (16 : Int32) ≤ v
          · rw [if_pos a1]
            by_cases a2 : ¬ v = (16 : Int32)
            · rw [if_pos a2]
              by_cases a3 : ¬ v = (17 : Int32)
              · obtain ⟨v', y1⟩ := low12b (g := g) (m := 7) d2 (by omega)
                have y1' : fX12_low (e_g s1 g) 139 7 = some (v', e_g s1 g) := y1
                rw [if_pos a3, ob139, ob_n, y1', b2_n, bad206 d2]
              · obtain ⟨v', y1⟩ := low12b (g := g) (m := 3) d2 (by omega)
                have y1' : fX12_low (e_g s1 g) 139 3 = some (v', e_g s1 g) := y1
                rw [if_neg a3, ob139, ob_n, y1', b2_n, bad206 d2]
            · obtain ⟨v', y1⟩ := low12b (g := g) (m := 2) d2 (by omega)
              have y1' : fX12_low (e_g s1 g) 139 2 = some (v', e_g s1 g) := y1
              rw [if_neg a2, ob139, ob_n, y1', b2_n, bad206 d2]
          · rw [if_neg a1, bad206 d2]
        exact ⟨.inr (e_g s1 g), s1, lp_end ex, kW d3, fun t' z => (by cases z), fun _ => ⟨rfl, d2⟩⟩
      | some p =>
        obtain ⟨p1, p2⟩ := p
        have d1 := D.1 p1 p2 ed
        have di := dc_i (L := Lc) 15 0 0 t.2.1 (by omega) (by omega) p1 p2 ed
        have d2 := gm_b h di.2.2
        rw [ob_n]
        have e16 : Int32.ofNat p1 = (16 : Int32) ↔ p1 = 16 := n_eq (b := 16) (by omega) (by omega)
        have e17 : Int32.ofNat p1 = (17 : Int32) ↔ p1 = 17 := n_eq (b := 17) (by omega) (by omega)
        have g16 : (16 : Int32) ≤ Int32.ofNat p1 ↔ 16 ≤ p1 := n_le (n := 16) (by omega) (by omega)
        have core : ∀ (b2 tm : Nat), tm ≤ 200 → 1 ≤ tm → GM (sF s 139 88 (Int32.ofNat b2)) K n d b2 sz O → bX12_ownCodes_130 139 (Int32.ofNat lit) (Int32.ofNat dist) (Int32.ofNat t.1) x5 (e_g s g) = jX12_ownCodes_206_130 (e_g (sF s 139 88 (Int32.ofNat b2)) g) 139 (Int32.ofNat lit) (Int32.ofNat dist) (Int32.ofNat t.1) x5 (Int32.ofNat p1) (Int32.ofNat tm) → rpO K n t.1 t.2.2 (p1, p2) = (if p1 = 16 ∧ t.1 = 0 then none else some (tm, (if p1 < 16 then p1 else if p1 = 16 then t.2.2 (t.1 - 1) else 0), b2)) → ∃ r s', q_lp (fun x => bX12_ownCodes_130 139 (Int32.ofNat lit) (Int32.ofNat dist) x.1 x.2.1 x.2.2) (Int32.ofNat t.1, x5, e_g s g) = some r ∧ Kp [193] 139 [75, 87, 88] s s' ∧ (∀ t', ((rpO K n t.1 t.2.2 (p1, p2)).bind fun q => if lit + dist < t.1 + q.1 then none else rdO K n Lc (lit + dist) m (t.1 + q.1, q.2.2, flN t.2.2 t.1 q.1 q.2.1)) = some t' → r = .inl (e_g s' g) ∧ GM s' K n d t'.2.1 sz O ∧ Ln (s'.2.1 193) t'.2.2 (lit + dist)) ∧ (((rpO K n t.1 t.2.2 (p1, p2)).bind fun q => if lit + dist < t.1 + q.1 then none else rdO K n Lc (lit + dist) m (t.1 + q.1, q.2.2, flN t.2.2 t.1 q.1 q.2.1)) = none → r = .inr (e_g s' g) ∧ s'.1 139 87 = 1) := by
          intro b2 tm htm htm1 hG hB hr
          have gg := good206 (g := g) (lit := lit) (dist := dist) (a := t.1) (p := p1) (tm := tm) (x5 := x5) (S := sF s 139 88 (Int32.ofNat b2)) (L := t.2.2) hG.2.1 h3 ht di.1 htm htm1 (by rw [A_sF]; exact hL) hBf
          rw [hr]
          by_cases w : (p1 = 16 ∧ t.1 = 0) ∨ lit + dist < t.1 + tm
          · have nn : ((if p1 = 16 ∧ t.1 = 0 then none else some (tm, (if p1 < 16 then p1 else if p1 = 16 then t.2.2 (t.1 - 1) else 0), b2)).bind fun q => if lit + dist < t.1 + q.1 then none else rdO K n Lc (lit + dist) m (t.1 + q.1, q.2.2, flN t.2.2 t.1 q.1 q.2.1)) = none := by
              by_cases w1 : p1 = 16 ∧ t.1 = 0
              · rw [if_pos w1, ob_no]
              · rw [if_neg w1, ob_n]
                dsimp only
                rw [if_pos (w.elim (fun z => absurd z w1) id)]
            rw [nn]
            have g1 := gg.1 w
            rw [← hB] at g1
            exact ⟨.inr (e_g (sF (sF s 139 88 (Int32.ofNat b2)) 139 87 1) g), sF (sF s 139 88 (Int32.ofNat b2)) 139 87 1, lp_end g1, kp_tr (kF (by decide)) (kF (by decide)), fun t' z => (by cases z), fun _ => ⟨rfl, by rw [F_sF, if_pos ⟨rfl, rfl⟩]⟩⟩
          · have w1 : ¬ (p1 = 16 ∧ t.1 = 0) := fun z => w (Or.inl z)
            have w2 : ¬ lit + dist < t.1 + tm := fun z => w (Or.inr z)
            rw [if_neg w1, ob_n]
            dsimp only
            rw [if_neg w2]
            obtain ⟨B', x', g1, g2, g3⟩ := gg.2 w
            rw [← hB] at g1
            have kk : Kp [191, 192, 193] 139 [] (sF s 139 88 (Int32.ofNat b2)) (sA (sF s 139 88 (Int32.ofNat b2)) 193 B') := kp_A kp_rf (by decide)
            have kk2 : Kp [193] 139 [75, 87, 88] (sF s 139 88 (Int32.ofNat b2)) (sA (sF s 139 88 (Int32.ofNat b2)) 193 B') := kp_A kp_rf (by decide)
            obtain ⟨r, s', l1, l2, l3, l4⟩ := ih (t.1 + tm, b2, flN t.2.2 t.1 tm (if p1 < 16 then p1 else if p1 = 16 then t.2.2 (t.1 - 1) else 0)) x' (sA (sF s 139 88 (Int32.ofNat b2)) 193 B') (by dsimp only; omega) (by dsimp only; omega) (gm_k hG kk) (by
              rw [A_sA, if_neg (by decide), A_sA, if_neg (by decide), A_sF]
              exact hT) (by
              rw [A_sA, if_pos rfl]
              exact g2) g3
            refine ⟨r, s', ?_, kp_tr (kp_tr (kF (by decide)) kk2) l2, l3, l4⟩
            rw [lp_go3 (bX12_ownCodes_130 139 (Int32.ofNat lit) (Int32.ofNat dist)) g1]
            exact l1
        have more : ∀ (mm base : Nat), mm ≤ 7 → (∀ {v : Int32} {S : e_S}, fX12_low (e_g (sF s 139 88 (Int32.ofNat p2)) g) 139 (Int32.ofNat mm) = some (v, e_g S g) → bX12_ownCodes_130 139 (Int32.ofNat lit) (Int32.ofNat dist) (Int32.ofNat t.1) x5 (e_g s g) = jX12_ownCodes_206_130 (e_g S g) 139 (Int32.ofNat lit) (Int32.ofNat dist) (Int32.ofNat t.1) x5 (Int32.ofNat p1) (Int32.ofNat base + v)) → 1 ≤ base → base ≤ 11 → (∀ x, rbO K n p2 mm = x → rpO K n t.1 t.2.2 (p1, p2) = x.bind fun x => if p1 = 16 ∧ t.1 = 0 then none else some (base + x.1, (if p1 < 16 then p1 else if p1 = 16 then t.2.2 (t.1 - 1) else 0), x.2)) → ∃ r s', q_lp (fun x => bX12_ownCodes_130 139 (Int32.ofNat lit) (Int32.ofNat dist) x.1 x.2.1 x.2.2) (Int32.ofNat t.1, x5, e_g s g) = some r ∧ Kp [193] 139 [75, 87, 88] s s' ∧ (∀ t', ((rpO K n t.1 t.2.2 (p1, p2)).bind fun q => if lit + dist < t.1 + q.1 then none else rdO K n Lc (lit + dist) m (t.1 + q.1, q.2.2, flN t.2.2 t.1 q.1 q.2.1)) = some t' → r = .inl (e_g s' g) ∧ GM s' K n d t'.2.1 sz O ∧ Ln (s'.2.1 193) t'.2.2 (lit + dist)) ∧ (((rpO K n t.1 t.2.2 (p1, p2)).bind fun q => if lit + dist < t.1 + q.1 then none else rdO K n Lc (lit + dist) m (t.1 + q.1, q.2.2, flN t.2.2 t.1 q.1 q.2.1)) = none → r = .inr (e_g s' g) ∧ s'.1 139 87 = 1) := by
          intro mm base hmm hB hb1 hb11 hr
          cases er : rbO K n p2 mm with
          | none =>
            obtain ⟨v, sx⟩ := low12 (g := g) (m := mm) d2.1 d2.2.1 (by omega)
            rw [if_neg (rbO_n er), sF_sF] at sx
            have bS : (sF (sF s 139 88 (Int32.ofNat (8 * n))) 139 87 1).1 139 87 = 1 := by rw [F_sF, if_pos ⟨rfl, rfl⟩]
            have g1 := hB sx
            rw [bad206 bS] at g1
            rw [hr none er, ob_no, ob_no]
            exact ⟨.inr (e_g (sF (sF s 139 88 (Int32.ofNat (8 * n))) 139 87 1) g), sF (sF s 139 88 (Int32.ofNat (8 * n))) 139 87 1, lp_end g1, kp_tr (kF (by decide)) (kF (by decide)), fun t' z => (by cases z), fun _ => ⟨rfl, bS⟩⟩
          | some x =>
            obtain ⟨x1, x2⟩ := x
            obtain ⟨r1, r2, r3⟩ := (rb12 (g := g) (m := mm) d2 (by omega)).1 x1 x2 er
            rw [sF_sF] at r1 r2
            have p7 : (2 : Nat) ^ mm ≤ 2 ^ 7 := Nat.pow_le_pow_right (by omega) hmm
            have p7' : (2 : Nat) ^ 7 = 128 := by decide
            have g1 := hB r1
            rw [n_add] at g1
            exact core x2 (base + x1) (by omega) (by omega) r2 g1 (hr _ er)
        by_cases c1 : p1 < 16
        · refine core p2 1 (by omega) (by omega) d2 ?_ ?_
          · rw [pre, d1, b2_n, if_neg (fun z => absurd (g16.mp z) (by omega))]
            rfl
          · unfold rpO
            dsimp only
            rw [if_pos c1, if_pos c1, if_neg (fun z => by omega)]
        · by_cases c2 : p1 = 16
          · refine more 2 3 (by omega) (fun {v S} z => ?_) (by omega) (by omega) (fun x hx => ?_)
            · have z' : fX12_low (e_g (sF s 139 88 (Int32.ofNat p2)) g) 139 2 = some (v, e_g S g) := z
              rw [pre, d1, b2_n, if_pos (g16.mpr (by omega)), if_neg (fun z => z (e16.mpr c2)), ob139, ob_n, z', b2_n]
              rfl
            · unfold rpO
              dsimp only
              rw [if_neg c1, if_pos c2, hx]
              congr 1
              funext y
              rw [if_neg c1, if_pos c2]
              by_cases a0 : t.1 = 0
              · rw [if_pos a0, if_pos ⟨c2, a0⟩]
              · rw [if_neg a0, if_neg (fun z => a0 z.2)]
          · by_cases c3 : p1 = 17
            · refine more 3 3 (by omega) (fun {v S} z => ?_) (by omega) (by omega) (fun x hx => ?_)
              · have z' : fX12_low (e_g (sF s 139 88 (Int32.ofNat p2)) g) 139 3 = some (v, e_g S g) := z
                rw [pre, d1, b2_n, if_pos (g16.mpr (by omega)), if_pos (fun z => c2 (e16.mp z)), if_neg (fun z => z (e17.mpr c3)), ob139, ob_n, z', b2_n]
                rfl
              · unfold rpO
                dsimp only
                rw [if_neg c1, if_neg c2, if_pos c3, hx]
                congr 1
                funext y
                rw [if_neg c1, if_neg c2, if_neg (fun z => c2 z.1)]
            · refine more 7 11 (by omega) (fun {v S} z => ?_) (by omega) (by omega) (fun x hx => ?_)
              · have z' : fX12_low (e_g (sF s 139 88 (Int32.ofNat p2)) g) 139 7 = some (v, e_g S g) := z
                rw [pre, d1, b2_n, if_pos (g16.mpr (by omega)), if_pos (fun z => c2 (e16.mp z)), if_pos (fun z => c3 (e17.mp z)), ob139, ob_n, z', b2_n]
                rfl
              · unfold rpO
                dsimp only
                rw [if_neg c1, if_neg c2, if_neg c3, hx]
                congr 1
                funext y
                rw [if_neg c1, if_neg c2, if_neg (fun z => c2 z.1)]
