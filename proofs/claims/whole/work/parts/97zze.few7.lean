-- needs: 97zzd
/-! ===== few: the pixels gathered, the means ===== -/
def gaN (B R0 : Nat → Int32) : Nat → Nat × (Nat → Int32)
  | 0 => (0, R0)
  | i + 1 => if q_ush (B i) 24 = 0 then gaN B R0 i else ((gaN B R0 i).1 + 1, upd (gaN B R0 i).2 (gaN B R0 i).1 (B i &&& 16777215))
theorem ga_i {B R0 : Nat → Int32} : ∀ i, (gaN B R0 i).1 ≤ i := by
  intro i
  induction i with
  | zero => exact Nat.le_refl _
  | succ i ih =>
    by_cases q : q_ush (B i) 24 = 0
    · have e : gaN B R0 (i + 1) = gaN B R0 i := if_pos q
      rw [e]; omega
    · have e : gaN B R0 (i + 1) = ((gaN B R0 i).1 + 1, upd (gaN B R0 i).2 (gaN B R0 i).1 (B i &&& 16777215)) := if_neg q
      rw [e]; show (gaN B R0 i).1 + 1 ≤ i + 1; omega
theorem ga_c {B B' R0 R1 : Nat → Int32} : ∀ i, (∀ k, k < i → B k = B' k) → (gaN B R0 i).1 = (gaN B' R1 i).1 ∧ Al (gaN B R0 i).1 (gaN B R0 i).2 (gaN B' R1 i).2 := by
  intro i
  induction i with
  | zero => exact fun _ => ⟨rfl, fun i hi => absurd hi (Nat.not_lt_zero _)⟩
  | succ i ih =>
    intro eB
    obtain ⟨a, b⟩ := ih (fun k hk => eB k (by omega))
    have e0 := eB i (by omega)
    by_cases q : q_ush (B i) 24 = 0
    · have e : gaN B R0 (i + 1) = gaN B R0 i := if_pos q
      have e' : gaN B' R1 (i + 1) = gaN B' R1 i := if_pos (by rw [← e0]; exact q)
      rw [e, e']; exact ⟨a, b⟩
    · have e : gaN B R0 (i + 1) = ((gaN B R0 i).1 + 1, upd (gaN B R0 i).2 (gaN B R0 i).1 (B i &&& 16777215)) := if_neg q
      have e' : gaN B' R1 (i + 1) = ((gaN B' R1 i).1 + 1, upd (gaN B' R1 i).2 (gaN B' R1 i).1 (B' i &&& 16777215)) := if_neg (by rw [← e0]; exact q)
      rw [e, e']
      refine ⟨by show _ + 1 = _ + 1; rw [a], fun j hj => ?_⟩
      have hj' : j < (gaN B R0 i).1 + 1 := hj
      show upd _ _ _ j = upd _ _ _ j
      rw [upd_r, upd_r, ← a, e0]
      split
      · rfl
      · exact b j (by omega)
theorem ga_s {B R0 : Nat → Int32} : ∀ i, Sh (gaN B R0 i).2 (gaN B R0 i).1 := by
  intro i
  induction i with
  | zero => exact fun i hi => absurd hi (Nat.not_lt_zero _)
  | succ i ih =>
    by_cases q : q_ush (B i) 24 = 0
    · have e : gaN B R0 (i + 1) = gaN B R0 i := if_pos q
      rw [e]; exact ih
    · have e : gaN B R0 (i + 1) = ((gaN B R0 i).1 + 1, upd (gaN B R0 i).2 (gaN B R0 i).1 (B i &&& 16777215)) := if_neg q
      rw [e]
      intro j hj
      have hj' : j < (gaN B R0 i).1 + 1 := hj
      show 0 ≤ (upd _ _ _ j).toInt ∧ (upd _ _ _ j).toInt ≤ 16777215
      rw [upd_r]
      split
      · exact and_r (m := 16777215) (k := 16777215) (by decide) (by decide)
      · exact ih j (by omega)
theorem gather3 {s : e_S} {g : ps_G} {F : Nat → Int32} {n : Nat} {x3 : Int32} (hg : 195 ≤ g.1) (hn : n ≤ 576) : q_lp (fun t => bX3_boxes_6 111 g.1 (Int32.ofNat n) x3 t.1 t.2.1 t.2.2) ((0 : Int32), (0 : Int32), e_g s (mkA g F)) = some (Int32.ofNat (gaN F (s.2.1 116) n).1, e_g (sA s 116 (gaN F (s.2.1 116) n).2) (mkA g F)) := by
  have at_ : ∀ s' : e_S, ∀ i : Nat, i < 576 → q_aI (e_g s' (mkA g F)) g.1 (Int32.ofNat i) = some (F i) := fun s' i hi => by
    rw [d_aI (Or.inl hg) (show (mkA g F).2.2 g.1 = .inl (0, (576, .inl F)) from nw_at), n_idx (by omega), if_neg (n_in2 hi (by decide))]
  have ln : ∀ s' : e_S, q_len (e_g s' (mkA g F)) g.1 = some 576 := fun s' => d_len (Or.inl hg) (show (mkA g F).2.2 g.1 = .inl (0, (576, .inl F)) from nw_at)
  refine lp_0 (fun i => (Int32.ofNat (gaN F (s.2.1 116) i).1, Int32.ofNat i, e_g (sA s 116 (gaN F (s.2.1 116) i).2) (mkA g F))) n ?_ (fun i hi => ?_) ?_
  · show _ = (_, _, e_g (sA s 116 (s.2.1 116)) (mkA g F))
    rw [sA_id]; rfl
  · have gi := ga_i (B := F) (R0 := s.2.1 116) i
    have c : ¬ ((576 : Int32) ≤ Int32.ofNat i ∨ (576 : Int32) ≤ Int32.ofNat i) := by
      have c5 : ¬ (576 : Int32) ≤ Int32.ofNat i := show ¬ Int32.ofNat 576 ≤ Int32.ofNat i from nle (by omega) (by omega)
      exact fun z => z.elim c5 c5
    show bX3_boxes_6 _ _ _ _ _ _ _ = _
    unfold bX3_boxes_6 jX3_boxes_54_6
    dsimp only
    rw [if_neg (nle hi (by omega)), ln, ob_n, if_neg c, at_ _ i (by omega), ob_n]
    by_cases q : q_ush (F i) 24 = 0
    · have e : gaN F (s.2.1 116) (i + 1) = gaN F (s.2.1 116) i := if_pos q
      rw [if_pos q, n_suc, e]
    · have e : gaN F (s.2.1 116) (i + 1) = ((gaN F (s.2.1 116) i).1 + 1, upd (gaN F (s.2.1 116) i).2 (gaN F (s.2.1 116) i).1 (F i &&& 16777215)) := if_neg q
      rw [if_neg q, f111_4, ob_n, ob_n, ob_n, u116, n_idx (by omega), if_neg (n_in2 (show (gaN F (s.2.1 116) i).1 < 576 by omega) (by decide)), ob_n, n_suc, n_suc, A_sA, if_pos rfl, sA_sA, e]
  · show bX3_boxes_6 _ _ _ _ _ _ _ = _
    unfold bX3_boxes_6
    dsimp only
    rw [if_pos (nlr (by omega))]
theorem gather12 {s : e_S} {g : ps_G} {w h l : Nat} {x2 x3 : Int32} (hw : w ≤ 24) (hh : h ≤ 24) (hl : l < 30) (e1 : s.1 139 13 = Int32.ofNat w) (e2 : s.1 139 14 = Int32.ofNat h) : q_lp (fun t => bX12_few_31 139 (Int32.ofNat l) x2 x3 t.1 t.2.1 t.2.2) ((0 : Int32), (0 : Int32), e_g s g) = some (Int32.ofNat (gaN (pxN (s.2.1 142) l) (s.2.1 175) (w * h)).1, e_g (sA s 175 (gaN (pxN (s.2.1 142) l) (s.2.1 175) (w * h)).2) g) := by
  have hwh := wh_le hw hh
  have gt : ∀ R : Nat → Int32, ∀ i : Nat, i < 576 → fX12_get (e_g (sA s 175 R) g) 139 (Int32.ofNat l) (17 + Int32.ofNat i) = some (pxN (s.2.1 142) l i) := fun R i hi => by
    rw [get12n hl hi, A_sA, if_neg (by decide)]
    unfold pxN
    rw [Nat.add_assoc]
  refine lp_0 (fun i => (Int32.ofNat (gaN (pxN (s.2.1 142) l) (s.2.1 175) i).1, Int32.ofNat i, e_g (sA s 175 (gaN (pxN (s.2.1 142) l) (s.2.1 175) i).2) g)) (w * h) ?_ (fun i hi => ?_) ?_
  · show _ = (_, _, e_g (sA s 175 (s.2.1 175)) g)
    rw [sA_id]; rfl
  · have gi := ga_i (B := pxN (s.2.1 142) l) (R0 := s.2.1 175) i
    show bX12_few_31 _ _ _ _ _ _ _ = _
    unfold bX12_few_31 jX12_few_84_31 fX12_alpha
    dsimp only
    rw [f139_13, F_sA, e1, ob_n, f139_14, F_sA, e2, ob_n, n_mul, if_neg (nle hi (by omega)), ob139, ob_n, gt _ i (by omega), ob_n]
    by_cases q : q_ush (pxN (s.2.1 142) l i) 24 = 0
    · have e : gaN (pxN (s.2.1 142) l) (s.2.1 175) (i + 1) = gaN (pxN (s.2.1 142) l) (s.2.1 175) i := if_pos q
      rw [if_neg (fun z => z q), n_suc, e]
    · have e : gaN (pxN (s.2.1 142) l) (s.2.1 175) (i + 1) = ((gaN (pxN (s.2.1 142) l) (s.2.1 175) i).1 + 1, upd (gaN (pxN (s.2.1 142) l) (s.2.1 175) i).2 (gaN (pxN (s.2.1 142) l) (s.2.1 175) i).1 (pxN (s.2.1 142) l i &&& 16777215)) := if_neg q
      rw [if_pos q, f139_61, ob_n, ob_n, u175, n_idx (by omega), if_neg (n_in2 (show (gaN (pxN (s.2.1 142) l) (s.2.1 175) i).1 < 576 by omega) (by decide)), ob_n, n_suc, n_suc, A_sA, if_pos rfl, sA_sA, e]
  · show bX12_few_31 _ _ _ _ _ _ _ = _
    unfold bX12_few_31
    dsimp only
    rw [f139_13, F_sA, e1, ob_n, f139_14, F_sA, e2, ob_n, n_mul, if_pos (nlr (by omega))]
/-! means -/
def smN (R : Nat → Int32) (k f : Nat) : Nat → Int32
  | 0 => 0
  | n + 1 => smN R k f n + vl k (R (f + n))
def mvV (R : Nat → Int32) (k f m : Nat) : Int32 := (smN R k f m + Int32.ofNat m / 2) / Int32.ofNat m
def mcV (R : Nat → Int32) (f m : Nat) : Int32 := fX11_pack 0 (mvV R 0 f m) (mvV R 1 f m) (mvV R 2 f m)
theorem sm_c {R R' : Nat → Int32} {k f al : Nat} (h : Al al R R') : ∀ n, f + n ≤ al → smN R k f n = smN R' k f n := by
  intro n
  induction n with
  | zero => exact fun _ => rfl
  | succ n ih =>
    intro hn
    show smN R k f n + _ = smN R' k f n + _
    rw [ih (by omega), h (f + n) (by omega)]
theorem mc_c {R R' : Nat → Int32} {f m al : Nat} (h : Al al R R') (hm : f + m ≤ al) : mcV R f m = mcV R' f m := by
  unfold mcV mvV
  rw [sm_c h m hm, sm_c h m hm, sm_c h m hm]
theorem mean3 {s : e_S} {g : ps_G} {n al b k : Nat} {Fr Mn : Nat → Nat} (hB : BxO (s.2.1 117) (s.2.1 118) n al Fr Mn) (hb : b < n) : fX3_meanOf (e_g s g) 111 (Int32.ofNat b) (16 - 8 * Int32.ofNat k) = some (mvV (s.2.1 116) k (Fr b) (Mn b)) := by
  obtain ⟨h1, h2, h3⟩ := hB
  obtain ⟨c1, c2, c3, c4⟩ := h3 b hb
  have rf : q_aI (e_g s g) 117 (Int32.ofNat b) = some (Int32.ofNat (Fr b)) := by
    rw [a117, n_idx (by omega), if_neg (n_in2 (show b < 16 by omega) (by decide)), c1]
  have rm : q_aI (e_g s g) 118 (Int32.ofNat b) = some (Int32.ofNat (Mn b)) := by
    rw [a118, n_idx (by omega), if_neg (n_in2 (show b < 16 by omega) (by decide)), c2]
  have lp := lp_0 (b := fun t => bX3_meanOf_18 (e_g s g) 111 (Int32.ofNat b) (16 - 8 * Int32.ofNat k) (Int32.ofNat (Mn b)) t.1 t.2) (s := ((0 : Int32), Int32.ofNat (Fr b))) (r := smN (s.2.1 116) k (Fr b) (Mn b)) (fun i => (smN (s.2.1 116) k (Fr b) i, Int32.ofNat (Fr b + i))) (Mn b) rfl (fun i hi => ?_) ?_
  · have nz : ¬ Int32.ofNat (Mn b) ≤ 0 := show ¬ Int32.ofNat (Mn b) ≤ Int32.ofNat 0 from nle (by omega) (by omega)
    have n0 : ¬ Int32.ofNat (Mn b) = 0 := fun z => by
      have := (n_eq (a := Mn b) (b := 0) (by omega) (by omega)).mp z
      omega
    unfold fX3_meanOf jX3_meanOf_63 jX3_meanOf_79
    rw [f111_6, ob_n, ob_n, rm, ob_n, f111_5, ob_n, ob_n, rf, ob_n, lp, ob_n, if_neg nz, q_div, if_neg n0, ob_n]
    rfl
  · have ri : q_aI (e_g s g) 116 (Int32.ofNat (Fr b + i)) = some (s.2.1 116 (Fr b + i)) := by
      rw [a116, n_idx (by omega), if_neg (n_in2 (show Fr b + i < 576 by omega) (by decide))]
    have c : ¬ (Int32.ofNat (Fr b + Mn b) ≤ Int32.ofNat (Fr b + i) ∨ (576 : Int32) ≤ Int32.ofNat (Fr b + i)) := by
      have c5 : ¬ (576 : Int32) ≤ Int32.ofNat (Fr b + i) := show ¬ Int32.ofNat 576 ≤ Int32.ofNat (Fr b + i) from nle (by omega) (by omega)
      exact fun z => z.elim (nle (by omega) (by omega)) c5
    show bX3_meanOf_18 _ _ _ _ _ _ _ = _
    unfold bX3_meanOf_18
    dsimp only
    rw [f111_5, ob_n, ob_n, rf, ob_n, n_add, if_neg c, f111_4, ob_n, ob_n, ri, ob_n, n_suc]
    rfl
  · show bX3_meanOf_18 _ _ _ _ _ _ _ = _
    unfold bX3_meanOf_18
    dsimp only
    rw [f111_5, ob_n, ob_n, rf, ob_n, n_add, if_pos (Or.inl (nlr (by omega)))]
theorem mean12 {s : e_S} {g : ps_G} {n al b : Nat} {Fr Mn : Nat → Nat} (hB : BxO (s.2.1 176) (s.2.1 177) n al Fr Mn) (hb : b < n) : fX12_meanOfBox (e_g s g) 139 (Int32.ofNat b) = some (e_g (sA s 178 (upd (s.2.1 178) b (mcV (s.2.1 175) (Fr b) (Mn b)))) g) := by
  obtain ⟨h1, h2, h3⟩ := hB
  obtain ⟨c1, c2, c3, c4⟩ := h3 b hb
  have rf : q_aI (e_g s g) 176 (Int32.ofNat b) = some (Int32.ofNat (Fr b)) := by
    rw [a176, n_idx (by omega), if_neg (n_in2 (show b < 16 by omega) (by decide)), c1]
  have rm : q_aI (e_g s g) 177 (Int32.ofNat b) = some (Int32.ofNat (Mn b)) := by
    rw [a177, n_idx (by omega), if_neg (n_in2 (show b < 16 by omega) (by decide)), c2]
  have n0 : ¬ Int32.ofNat (Mn b) = 0 := fun z => by
    have := (n_eq (a := Mn b) (b := 0) (by omega) (by omega)).mp z
    omega
  have inn : ∀ k c, k < 3 → q_lp (fun t => bX12_meanOfBox_29 (e_g s g) 139 (Int32.ofNat b) (Int32.ofNat (Mn b)) c (Int32.ofNat k) t.1 t.2) ((0 : Int32), Int32.ofNat (Fr b)) = some (smN (s.2.1 175) k (Fr b) (Mn b)) := fun k c hk => by
    refine lp_0 (fun i => (smN (s.2.1 175) k (Fr b) i, Int32.ofNat (Fr b + i))) (Mn b) rfl (fun i hi => ?_) ?_
    · have ri := r175 (s := s) (g := g) (i := Fr b + i) (by omega)
      show bX12_meanOfBox_29 _ _ _ _ _ _ _ _ = _
      unfold bX12_meanOfBox_29
      dsimp only
      rw [f139_62, ob_n, ob_n, rf, ob_n, n_add, if_neg (nle (by omega) (by omega)), f139_61, ob_n, ob_n, ri, ob_n, n_suc, part_v hk]
      rfl
    · show bX12_meanOfBox_29 _ _ _ _ _ _ _ _ = _
      unfold bX12_meanOfBox_29
      dsimp only
      rw [f139_62, ob_n, ob_n, rf, ob_n, n_add, if_pos (nlr (by omega))]
  have st : ∀ k c, k < 3 → bX12_meanOfBox_12 (e_g s g) 139 (Int32.ofNat b) (Int32.ofNat (Mn b)) c (Int32.ofNat k) = some (.inl (c ||| q_shl (mvV (s.2.1 175) k (Fr b) (Mn b)) (16 - 8 * Int32.ofNat k), Int32.ofNat (k + 1))) := fun k c hk => by
    have c5 : ¬ (3 : Int32) ≤ Int32.ofNat k := show ¬ Int32.ofNat 3 ≤ Int32.ofNat k from nle (by omega) (by omega)
    unfold bX12_meanOfBox_12
    rw [if_neg c5, f139_62, ob_n, ob_n, rf, ob_n, inn k c hk, ob_n, q_div, if_neg n0, ob_n, n_suc]
    rfl
  have lp : q_lp (fun t => bX12_meanOfBox_12 (e_g s g) 139 (Int32.ofNat b) (Int32.ofNat (Mn b)) t.1 t.2) ((0 : Int32), (0 : Int32)) = some (mcV (s.2.1 175) (Fr b) (Mn b)) := by
    rw [lp_go (b := fun t => bX12_meanOfBox_12 (e_g s g) 139 (Int32.ofNat b) (Int32.ofNat (Mn b)) t.1 t.2) (s := ((0 : Int32), (0 : Int32))) (st 0 0 (by omega))]
    rw [lp_go (b := fun t => bX12_meanOfBox_12 (e_g s g) 139 (Int32.ofNat b) (Int32.ofNat (Mn b)) t.1 t.2) (st 1 _ (by omega))]
    rw [lp_go (b := fun t => bX12_meanOfBox_12 (e_g s g) 139 (Int32.ofNat b) (Int32.ofNat (Mn b)) t.1 t.2) (st 2 _ (by omega))]
    refine lp_end ?_
    show bX12_meanOfBox_12 _ _ _ _ _ _ = _
    unfold bX12_meanOfBox_12
    dsimp only
    rw [if_pos (show (3 : Int32) ≤ Int32.ofNat (2 + 1) by decide)]
    unfold mcV fX11_pack
    generalize mvV (s.2.1 175) 0 (Fr b) (Mn b) = p0
    generalize mvV (s.2.1 175) 1 (Fr b) (Mn b) = p1
    generalize mvV (s.2.1 175) 2 (Fr b) (Mn b) = p2
    have e0 : (16 : Int32) - 8 * Int32.ofNat 0 = 16 := by decide
    have e1 : (16 : Int32) - 8 * Int32.ofNat 1 = 8 := by decide
    have e2 : (16 : Int32) - 8 * Int32.ofNat 2 = 0 := by decide
    have e3 : q_shl (0 : Int32) 24 = 0 := by decide
    rw [e0, e1, e2, e3, shl_0]
  unfold fX12_meanOfBox
  rw [f139_63, ob_n, ob_n, rm, ob_n, lp, ob_n, f139_64, ob_n, ob_n, u178, n_idx (by omega), if_neg (n_in2 (show b < 16 by omega) (by decide)), ob_n]
