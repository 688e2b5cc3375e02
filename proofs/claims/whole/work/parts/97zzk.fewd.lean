-- needs: 97zzj
theorem fewAt12 {s : e_S} {g : ps_G} {w h l n x y : Nat} {di : Int32} {E B : Nat → Int32} (hw : w ≤ 24) (hh : h ≤ 24) (hl : l < 30) (hn : n ≤ 16) (e1 : s.1 139 13 = Int32.ofNat w) (e2 : s.1 139 14 = Int32.ofNat h) (hx : x < w) (hy : y < h) (hB : ∀ k, y * w + x < k → k < w * h → s.2.1 142 (1169 * l + 17 + k) = B k) : fX12_fewAt (e_g (sA s 179 E) g) 139 (Int32.ofNat l) (Int32.ofNat (y * w + x)) (B (y * w + x)) (Int32.ofNat n) di = some (clF (s.2.1 178) B E n (y * w + x), e_g (sA s 179 (if di = 0 then E else stF (alB B) w h (s.2.1 178) B E n (y * w + x))) g) := by
  have hwh := wh_le hw hh
  have hlt := at_lt hx hy
  have dm := md (w := w) (x := x) (y := y) hx
  have n3 : (3 : Int32) * Int32.ofNat (y * w + x) = Int32.ofNat (3 * (y * w + x)) := n_mul (n := 3)
  have p1 : Int32.ofNat (3 * (y * w + x)) + (1 : Int32) = Int32.ofNat (3 * (y * w + x) + 1) := n_add (m := 1)
  have p2 : Int32.ofNat (3 * (y * w + x)) + (2 : Int32) = Int32.ofNat (3 * (y * w + x) + 2) := n_add (m := 2)
  have re : ∀ i, i < 1728 → q_aI (e_g (sA s 179 E) g) 179 (Int32.ofNat i) = some (E i) := fun i hi => by
    rw [a179, n_idx (by omega), if_neg (n_in2 hi (by decide)), A_sA, if_pos rfl]
  have ne := near12f (s := sA s 179 E) (g := g) (r := chR B E (y * w + x)) (gr := chG B E (y * w + x)) (b := chB B E (y * w + x)) (x1 := Int32.ofNat l) (x2 := Int32.ofNat (y * w + x)) (x5 := di) hn clp_r clp_r clp_r
  rw [A_sA, if_neg (by decide)] at ne
  have i := (ne_i (C := s.2.1 178) (r := chR B E (y * w + x)) (g := chG B E (y * w + x)) (b := chB B E (y * w + x)) clp_r clp_r clp_r n).1
  have rc : q_aI (e_g (sA s 179 E) g) 178 (Int32.ofNat (neN (s.2.1 178) (chR B E (y * w + x)) (chG B E (y * w + x)) (chB B E (y * w + x)) n).1) = some (clF (s.2.1 178) B E n (y * w + x)) := by
    rw [a178, n_idx (by omega), if_neg (n_in2 (show (neN (s.2.1 178) (chR B E (y * w + x)) (chG B E (y * w + x)) (chB B E (y * w + x)) n).1 < 16 by omega) (by decide)), A_sA, if_neg (by decide)]
    rfl
  have hR : fX12_clip (fX12_part (B (y * w + x)) 0 + E (3 * (y * w + x))) = chR B E (y * w + x) := by rw [clip12, part_k.1]; rfl
  have hG : fX12_clip (fX12_part (B (y * w + x)) 1 + E (3 * (y * w + x) + 1)) = chG B E (y * w + x) := by rw [clip12, part_k.2.1]; rfl
  have hBl : fX12_clip (fX12_part (B (y * w + x)) 2 + E (3 * (y * w + x) + 2)) = chB B E (y * w + x) := by rw [clip12, part_k.2.2]; rfl
  have sp := fun (E' : Nat → Int32) (c : Nat) (e : Int32) (hc : c < 3) => spread12 (s := s) (g := g) (E := E') (B := B) (e := e) (c := c) hw hh hl hc e1 e2 hx hy hB
  have est : stF (alB B) w h (s.2.1 178) B E n (y * w + x) = spN (alB B) w h x y 2 (chB B E (y * w + x) - fX11_blue (clF (s.2.1 178) B E n (y * w + x))) (spN (alB B) w h x y 1 (chG B E (y * w + x) - fX11_green (clF (s.2.1 178) B E n (y * w + x))) (spN (alB B) w h x y 0 (chR B E (y * w + x) - fX11_red (clF (s.2.1 178) B E n (y * w + x))) E)) := by
    unfold stF; rw [dm.1, dm.2]
  unfold fX12_fewAt jX12_fewAt_235
  rw [f139_65, ob_n, ob_n, n3, re _ (by omega), ob_n, ob_n, ob_n, p1, re _ (by omega), ob_n, ob_n, ob_n, p2, re _ (by omega), ob_n, hR, hG, hBl, ne, ob_n, f139_64, ob_n, ob_n, rc, ob_n, est]
  generalize clF (s.2.1 178) B E n (y * w + x) = cl
  generalize chR B E (y * w + x) = c0
  generalize chG B E (y * w + x) = c1
  generalize chB B E (y * w + x) = c2
  by_cases q : di = 0
  · rw [if_pos q, if_pos q]
  · have s0 : ∀ E' e, fX12_spread (e_g (sA s 179 E') g) 139 (Int32.ofNat l) (Int32.ofNat (y * w + x)) 0 e = _ := fun E' e => sp E' 0 e (by omega)
    have s1 : ∀ E' e, fX12_spread (e_g (sA s 179 E') g) 139 (Int32.ofNat l) (Int32.ofNat (y * w + x)) 1 e = _ := fun E' e => sp E' 1 e (by omega)
    have s2 : ∀ E' e, fX12_spread (e_g (sA s 179 E') g) 139 (Int32.ofNat l) (Int32.ofNat (y * w + x)) 2 e = _ := fun E' e => sp E' 2 e (by omega)
    rw [if_neg q, if_neg q, ob139, ob_n, part_k.1, s0, ob_n, ob139, ob_n, part_k.2.1, s1, ob_n, ob139, ob_n, part_k.2.2, s2, ob_n]
theorem cp_up {A N : Nat → Int32} {b n : Nat} : upd (cpT A N b n) (b + n) (N n) = cpT A N b (n + 1) := by
  funext i
  rw [upd_r]
  by_cases q : i = b + n
  · rw [if_pos q, q, cpT_ge (by omega) (by omega), Nat.add_sub_cancel_left]
  · rw [if_neg q]
    by_cases q2 : b ≤ i ∧ i < b + n
    · rw [cpT_ge q2.1 q2.2, cpT_ge q2.1 (by omega)]
    · rw [cpT_out q2, cpT_out (by omega)]
theorem reduce12 {s : e_S} {g : ps_G} {w h l n : Nat} {di : Int32} {E0 : Nat → Int32} (hw1 : 1 ≤ w) (hw : w ≤ 24) (hh : h ≤ 24) (hl : l < 30) (hn : n ≤ 16) (e1 : s.1 139 13 = Int32.ofNat w) (e2 : s.1 139 14 = Int32.ofNat h) : q_lp (fun t => bX12_few_193 139 (Int32.ofNat l) di (Int32.ofNat n) t.1 t.2) ((0 : Int32), e_g (sA s 179 E0) g) = some (e_g (sA (sA s 142 (cpT (s.2.1 142) (fwP (alB (pxN (s.2.1 142) l)) w h (s.2.1 178) (pxN (s.2.1 142) l) E0 n di) (1169 * l + 17) (h * w))) 179 (fwE (alB (pxN (s.2.1 142) l)) w h (s.2.1 178) (pxN (s.2.1 142) l) E0 n di (h * w))) g) := by
  have hwh := wh_le hw hh
  generalize hBB : pxN (s.2.1 142) l = B
  generalize hEE : fwE (alB B) w h (s.2.1 178) B E0 n di = EE
  generalize hPP : fwP (alB B) w h (s.2.1 178) B E0 n di = PP
  have eE0 : EE 0 = E0 := by rw [← hEE]; rfl
  have eB : ∀ k, s.2.1 142 (1169 * l + 17 + k) = B k := fun k => by rw [← hBB]; unfold pxN; rw [Nat.add_assoc]
  refine lp_0 (fun k => (Int32.ofNat k, e_g (sA (sA s 142 (cpT (s.2.1 142) PP (1169 * l + 17) k)) 179 (EE k)) g)) (h * w) ?_ (fun k hk => ?_) ?_
  · show _ = (_, e_g (sA (sA s 142 (cpT (s.2.1 142) PP (1169 * l + 17) 0)) 179 (EE 0)) g)
    rw [eE0, cpT_0, sA_id]; rfl
  · obtain ⟨x, y, hx, hy, rfl⟩ : ∃ x y, x < w ∧ y < h ∧ k = y * w + x := ⟨k % w, k / w, Nat.mod_lt _ (by omega), Nat.div_lt_of_lt_mul (by rw [Nat.mul_comm]; exact hk), by rw [Nat.mul_comm]; exact (Nat.div_add_mod k w).symm⟩
    have hlt := at_lt hx hy
    have hE1 : EE (y * w + x + 1) = if alB B (y * w + x) = false ∨ di = 0 then EE (y * w + x) else stF (alB B) w h (s.2.1 178) B (EE (y * w + x)) n (y * w + x) := by rw [← hEE]; rfl
    have hP1 : PP (y * w + x) = if alB B (y * w + x) then (B (y * w + x) &&& -16777216) ||| clF (s.2.1 178) B (EE (y * w + x)) n (y * w + x) else B (y * w + x) := by rw [← hPP, ← hEE]; rfl
    generalize EE (y * w + x) = E at *
    have cf : ∀ j, y * w + x ≤ j → cpT (s.2.1 142) PP (1169 * l + 17) (y * w + x) (1169 * l + 17 + j) = B j := fun j hj => by rw [cpT_out (by omega), eB]
    have cu : ∀ v, v = PP (y * w + x) → upd (cpT (s.2.1 142) PP (1169 * l + 17) (y * w + x)) (1169 * l + 17 + (y * w + x)) v = cpT (s.2.1 142) PP (1169 * l + 17) (y * w + x + 1) := fun v hv => by
      rw [hv]; exact cp_up
    generalize cpT (s.2.1 142) PP (1169 * l + 17) (y * w + x) = G at cf cu
    have z1 : (sA s 142 G).1 139 13 = Int32.ofNat w := by rw [F_sA]; exact e1
    have z2 : (sA s 142 G).1 139 14 = Int32.ofNat h := by rw [F_sA]; exact e2
    have gt := get12n (s := sA (sA s 142 G) 179 E) (g := g) (l := l) (k := y * w + x) hl (by omega)
    rw [A_sA, if_neg (by decide), A_sA, if_pos rfl, cf _ (Nat.le_refl _)] at gt
    show bX12_few_193 _ _ _ _ _ _ = _
    unfold bX12_few_193 jX12_few_258_193
    dsimp only
    rw [f139_13, F_sA, z1, ob_n, f139_14, F_sA, z2, ob_n, n_mul, if_neg (nle hlt (by omega)), ob139, ob_n, gt, ob_n]
    by_cases q : q_ush (B (y * w + x)) 24 = 0
    · have al : alB B (y * w + x) = false := decide_eq_false (fun z => z q)
      rw [if_pos (Or.inl al)] at hE1
      rw [al, if_neg (by decide)] at hP1
      have := cu _ hP1.symm
      have e0 : upd G (1169 * l + 17 + (y * w + x)) (B (y * w + x)) = G := by
        funext i
        rw [upd_r]
        split
        · rename_i z; rw [z, cf _ (Nat.le_refl _)]
        · rfl
      rw [e0] at this
      rw [if_pos (al_le.mpr q), n_suc, hE1, ← this]
    · have al : alB B (y * w + x) = true := decide_eq_true q
      rw [al, if_pos rfl] at hP1
      have fa := fewAt12 (s := sA s 142 G) (g := g) (l := l) (n := n) (di := di) (E := E) (B := B) hw hh hl hn z1 z2 hx hy (fun j h1 h2 => by rw [A_sA, if_pos rfl]; exact cf j (by omega))
      rw [A_sA, if_neg (by decide)] at fa
      have hE2 : (if di = 0 then E else stF (alB B) w h (s.2.1 178) B E n (y * w + x)) = EE (y * w + x + 1) := by
        rw [hE1]
        by_cases qd : di = 0
        · rw [if_pos qd, if_pos (Or.inr qd)]
        · rw [if_neg qd, if_neg (fun z => z.elim (fun z => by rw [al] at z; cases z) qd)]
      rw [hE2] at fa
      have pn := put12n (s := sA (sA s 142 G) 179 (EE (y * w + x + 1))) (g := g) (l := l) (k := y * w + x) (v := q_shl (fX12_alpha (B (y * w + x))) 24 ||| clF (s.2.1 178) B E n (y * w + x)) hl (by omega)
      have hv : q_shl (fX12_alpha (B (y * w + x))) 24 ||| clF (s.2.1 178) B E n (y * w + x) = PP (y * w + x) := by
        unfold fX12_alpha; rw [hi_a, hP1]
      rw [A_sA, if_neg (by decide), A_sA, if_pos rfl, cu _ hv, sA_cm (show ¬ 179 = 142 by decide), sA_sA] at pn
      rw [if_neg (fun z => q (al_le.mp z)), ob_n, fa, b2_n, ob139, ob_n, pn, ob_n, n_suc]
  · show bX12_few_193 _ _ _ _ _ _ = _
    unfold bX12_few_193
    dsimp only
    rw [f139_13, F_sA, F_sA, e1, ob_n, f139_14, F_sA, F_sA, e2, ob_n, n_mul, if_pos (by rw [Nat.mul_comm h w]; exact nlr (by omega))]
theorem KI_px2 {hs : List ps_H} {c : Option ((String ⊕ Int32) × ps_G)} {m : ps_G → Option (Int32 × ps_G)} {s s1 : e_S} {g : ps_G} {w h a b st pc uc l : Nat} {φ : Nat → Int32} {v : Int32} (hR : Rel s g) (sm : Sm s s1) (h7 : G7 s w h) (f1 : st < 25) (f2 : pc + uc ≤ 24) (f3 : s.2.2.1 8 0 = some a) (f4 : s.1 8 2 = Int32.ofNat pc) (f9 : StN g a w h (s.2.1 142)) (f10 : ∀ k, k < 35071 → s.2.1 143 (35071 * ((st + pc) % 25) + k) = s.2.1 142 k) (f11 : ∀ i, i < pc → ∃ b, s.2.2.1 12 i = some b ∧ StN g b w h (kp (s.2.1 143) st i)) (hl : l < 30) (hl1 : s.2.1 142 (1169 * l) = 1) (hLy : LyN g b w h l (lR (s.2.1 142) l)) (hk : s.2.1 142 (1169 * l + 1) = 0) (f : Nat → Int32) (hf : ∀ k, k < w * h → f k = φ k) (hc : ∀ g2, fX11_replacePixels (e_g s1 (mkA g f)) 8 b g.1 = some (e_g (fgC (rmC s1 a (g.1 + 2) pc)) g2) → c = some (.inr v, e_g (fgC (rmC s1 a (g.1 + 2) pc)) g2)) (hm : ∀ g2, ∃ s2, m (e_g (pO (fgC (rmC s1 a (g.1 + 2) pc)) (Int32.toInt64 v)) g2) = some (v, e_g s2 g2) ∧ s2.1 139 0 = 0 ∧ s2.2.2.2 = (pO (fgC (rmC s1 a (g.1 + 2) pc)) (Int32.toInt64 v)).2.2.2 ∧ Sm (fg12 (edM (sA (fgC (rmC s1 a (g.1 + 2) pc)) 142 (cpT (s.2.1 142) φ (1169 * l + 17) (h * w))) st pc)) s2) : KI (Option.bind (q_ob 11 (e_g s g) 8) fun _ => q_wr hs c (fun v g1 => Option.bind (q_wL g1 194 (0 : Int32) (Int32.toInt64 v)) fun g2 => some ((0 : Int32), g2))) m g := by
  have hg := rel_g hR
  have hwh := wh_le h7.2.1 h7.2.2.2.1
  have r8 : s1.2.2.1 8 = s.2.2.1 8 := sm.2.2 8 (Or.inl rfl)
  have r12 : s1.2.2.1 12 = s.2.2.1 12 := sm.2.2 12 (Or.inr (Or.inl rfl))
  have f82 : s1.1 8 2 = s.1 8 2 := sm.2.1 (8, 2) (by decide)
  obtain ⟨g2, w1, w2, w3⟩ := pixEdit (s := s1) (N' := cpT (s.2.1 142) φ (1169 * l + 17) (h * w)) (f := f) hwh hg (by rw [r8]; exact f3) (by rw [f82]; exact f4) (show pc ≤ 24 by omega) (fun i hi => (f11 i hi).imp fun b hb => ⟨_, by rw [r12]; exact hb.1, hb.2⟩) f9 hl hl1 hLy hk (fun j hj => by rw [cpT_out (by rw [Nat.mul_comm h w]; omega)]) (fun k hk => by
    rw [hf k hk, ← Nat.add_assoc, cpT_in (by rw [Nat.mul_comm]; exact hk)])
  obtain ⟨s2, m1, m2, mL, m3⟩ := hm g2
  refine KI_r (hc g2 w1) m1 m2 mL (rel_sm (rel_edit hR h7 f1 f2 f9 f10 f11 w2 w3) (sm_tr ?_ m3)) w2
  unfold edS
  exact sm_fg (sm_edM (sm_A2 (sm_frC sm)))
