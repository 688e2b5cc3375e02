-- needs: 97zze
/-! ===== few: the boxes, both sides ===== -/
/-- few's boxes and their colours -/
def FwC (s S : e_S) (n : Nat) : Prop := n ≤ 16 ∧ s.1 111 8 = Int32.ofNat n ∧ ∀ b, b < n → s.2.1 119 b = S.2.1 178 b
theorem means {s0 S0 s S : e_S} {g g' : ps_G} {n al : Nat} {Fr Mn : Nat → Nat} {x1 x3 : Int32} (hF : Fw s S n al Fr Mn) (hc : Kfc s0 s) (hm : Kfm S0 S) : ∃ s' S', jX3_boxes_130 (e_g s g) 111 = some (Int32.ofNat n, e_g s' g) ∧ q_lp (fun t => bX12_few_146 139 x1 x3 (Int32.ofNat n) t.1 t.2) ((0 : Int32), e_g S g') = some (e_g S' g') ∧ FwC s' S' n ∧ Kfc s0 s' ∧ Kfm S0 S' := by
  obtain ⟨a1, a2, a3, a4, a5⟩ := id hF
  have hn := a3.2.1
  have l3 := fillN (fun f => e_g (sA s 119 f) g) 0 n (fun b => mcV (s.2.1 116) (Fr b) (Mn b)) (s.2.1 119) (bO := fun t => bX3_boxes_133 111 t.1 t.2) (fun f b hb _ => by
    have m3 := fun k => mean3 (s := sA s 119 f) (g := g) (b := b) (k := k) (n := n) (al := al) (Fr := Fr) (Mn := Mn) (by rw [A_sA, if_neg (by decide), A_sA, if_neg (by decide)]; exact a3) hb
    have m0 : fX3_meanOf (e_g (sA s 119 f) g) 111 (Int32.ofNat b) 16 = some (mvV (s.2.1 116) 0 (Fr b) (Mn b)) := by
      have := m3 0
      rw [A_sA, if_neg (by decide)] at this
      exact this
    have m1 : fX3_meanOf (e_g (sA s 119 f) g) 111 (Int32.ofNat b) 8 = some (mvV (s.2.1 116) 1 (Fr b) (Mn b)) := by
      have := m3 1
      rw [A_sA, if_neg (by decide)] at this
      exact this
    have m2 : fX3_meanOf (e_g (sA s 119 f) g) 111 (Int32.ofNat b) 0 = some (mvV (s.2.1 116) 2 (Fr b) (Mn b)) := by
      have := m3 2
      rw [A_sA, if_neg (by decide)] at this
      exact this
    show bX3_boxes_133 _ _ _ = _
    unfold bX3_boxes_133
    rw [f111_8, F_sA, a5, ob_n, if_neg (nle hb (by omega)), f111_7, ob_n, ob_n, ob111, ob_n, m0, ob_n, ob_n, m1, ob_n, ob_n, m2, ob_n, u119, n_idx (by omega), if_neg (n_in2 (show b < 16 by omega) (by decide)), ob_n, n_suc, A_sA, if_pos rfl, sA_sA, Nat.zero_add]
    rfl) (fun f => by
    show bX3_boxes_133 _ _ _ = _
    unfold bX3_boxes_133
    rw [f111_8, F_sA, a5, ob_n, if_pos (nlr (by omega))])
  rw [sA_id] at l3
  have l12 := fillN (fun f => e_g (sA S 178 f) g') 0 n (fun b => mcV (S.2.1 175) (Fr b) (Mn b)) (S.2.1 178) (bO := fun t => bX12_few_146 139 x1 x3 (Int32.ofNat n) t.1 t.2) (fun f b hb _ => by
    have m12 := mean12 (s := sA S 178 f) (g := g') (b := b) (n := n) (al := al) (Fr := Fr) (Mn := Mn) (by rw [A_sA, if_neg (by decide), A_sA, if_neg (by decide)]; exact a4) hb
    rw [A_sA, if_pos rfl, A_sA, if_neg (by decide), sA_sA] at m12
    show bX12_few_146 _ _ _ _ _ _ = _
    unfold bX12_few_146
    rw [if_neg (nle hb (by omega)), ob139, ob_n, m12, ob_n, n_suc, Nat.zero_add]) (fun f => by
    show bX12_few_146 _ _ _ _ _ _ = _
    unfold bX12_few_146
    rw [if_pos (nlr (by omega))])
  rw [sA_id] at l12
  refine ⟨sA s 119 (cpT (s.2.1 119) (fun b => mcV (s.2.1 116) (Fr b) (Mn b)) 0 n), sA S 178 (cpT (S.2.1 178) (fun b => mcV (S.2.1 175) (Fr b) (Mn b)) 0 n), ?_, l12, ⟨hn, ?_, fun b hb => ?_⟩, kc_A hc (by omega), km_A hm (by omega)⟩
  · unfold jX3_boxes_130
    rw [l3, ob_n, f111_8, F_sA, a5, ob_n]
  · rw [F_sA]; exact a5
  · rw [A_sA, if_pos rfl, A_sA, if_pos rfl, cpT_ge (by omega) (by omega), cpT_ge (by omega) (by omega), Nat.sub_zero]
    exact mc_c a1 (a3.2.2 b hb).2.2.1
theorem ga_0 {B R0 : Nat → Int32} : ∀ i, (gaN B R0 i).1 = 0 → ∀ k, k < i → q_ush (B k) 24 = 0 := by
  intro i
  induction i with
  | zero => exact fun _ k hk => absurd hk (Nat.not_lt_zero _)
  | succ i ih =>
    intro h k hk
    by_cases q : q_ush (B i) 24 = 0
    · have e : gaN B R0 (i + 1) = gaN B R0 i := if_pos q
      rw [e] at h
      by_cases c : k = i
      · rw [c]; exact q
      · exact ih h k (by omega)
    · have e : gaN B R0 (i + 1) = ((gaN B R0 i).1 + 1, upd (gaN B R0 i).2 (gaN B R0 i).1 (B i &&& 16777215)) := if_neg q
      rw [e] at h
      exact absurd h (Nat.succ_ne_zero _)
theorem boxes_b {s S : e_S} {g g' : ps_G} {F : Nat → Int32} {w h l N : Nat} {x3 : Int32} (hg : 195 ≤ g.1) (hw : w ≤ 24) (hh : h ≤ 24) (hl : l < 30) (hN : N ≤ 16) (hN2 : 2 ≤ N) (e1 : S.1 139 13 = Int32.ofNat w) (e2 : S.1 139 14 = Int32.ofNat h) (hF : ∀ k, k < w * h → F k = pxN (S.2.1 142) l k) : ∃ s' S' n al Z, fX3_boxes (e_g s (mkA g F)) 111 g.1 (Int32.ofNat (w * h)) (Int32.ofNat N) = some (Int32.ofNat n, e_g s' (mkA g F)) ∧ q_lp (fun t => bX12_few_31 139 (Int32.ofNat l) (Int32.ofNat N) x3 t.1 t.2.1 t.2.2) ((0 : Int32), (0 : Int32), e_g S g') = some (Int32.ofNat al, e_g Z g') ∧ (∃ Z2, q_lp (fun t => bX12_few_117 139 (Int32.ofNat l) (Int32.ofNat N) x3 t.1 t.2) ((if Int32.ofNat al ≤ 0 then (0 : Int32) else 1), e_g (sA (sA Z 176 (upd (Z.2.1 176) 0 0)) 177 (upd (Z.2.1 177) 0 (Int32.ofNat al))) g') = some (Int32.ofNat n, e_g Z2 g') ∧ q_lp (fun t => bX12_few_146 139 (Int32.ofNat l) x3 (Int32.ofNat n) t.1 t.2) ((0 : Int32), e_g Z2 g') = some (e_g S' g')) ∧ FwC s' S' n ∧ Kfc s s' ∧ Kfm S S' ∧ (n = 0 → ∀ k, k < w * h → q_ush (F k) 24 = 0) := by
  have hwh := wh_le hw hh
  have g3 := gather3 (s := s) (g := g) (F := F) (n := w * h) (x3 := Int32.ofNat N) hg hwh
  have g12 := gather12 (s := S) (g := g') (x2 := Int32.ofNat N) (x3 := x3) hw hh hl e1 e2
  have gc := ga_c (B := F) (B' := pxN (S.2.1 142) l) (R0 := s.2.1 116) (R1 := S.2.1 175) (w * h) hF
  have gi := ga_i (B := F) (R0 := s.2.1 116) (w * h)
  have gs := ga_s (B := pxN (S.2.1 142) l) (R0 := S.2.1 175) (w * h)
  have g0 := ga_0 (B := F) (R0 := s.2.1 116) (w * h)
  rw [← gc.1] at g12 gs
  have ra := gc.2
  generalize (gaN F (s.2.1 116) (w * h)).1 = al at *
  generalize (gaN F (s.2.1 116) (w * h)).2 = R at *
  generalize (gaN (pxN (S.2.1 142) l) (S.2.1 175) (w * h)).2 = R' at *
  have pre : fX3_boxes (e_g s (mkA g F)) 111 g.1 (Int32.ofNat (w * h)) (Int32.ofNat N) = Option.bind (q_lp (fun t => bX3_boxes_92 111 (Int32.ofNat N) t.1 t.2) ((1 : Int32), e_g (sA (sA (sF (sA s 116 R) 111 8 (if Int32.ofNat al ≤ 0 then (0 : Int32) else 1)) 117 (upd (s.2.1 117) 0 0)) 118 (upd (s.2.1 118) 0 (Int32.ofNat al))) (mkA g F))) fun s47 => jX3_boxes_130 s47 111 := by
    unfold fX3_boxes jX3_boxes_60
    rw [g3, ob_n]
    dsimp only
    rw [w111_8, ob_n, f111_5, ob_n, ob_n, u117, if_neg (by decide), ob_n, f111_6, ob_n, ob_n, u118, if_neg (by decide), ob_n]
    simp (decide := true) only [A_sA, A_sF, reduceIte]
    rfl
  have kc1 : Kfc s (sA (sA (sF (sA s 116 R) 111 8 (if Int32.ofNat al ≤ 0 then (0 : Int32) else 1)) 117 (upd (s.2.1 117) 0 0)) 118 (upd (s.2.1 118) 0 (Int32.ofNat al))) := kc_A (kc_A (kc_F (kc_A kc_rf (by omega)) (by omega)) (by omega)) (by omega)
  have km1 : Kfm S (sA (sA (sA S 175 R') 176 (upd ((sA S 175 R').2.1 176) 0 0)) 177 (upd ((sA S 175 R').2.1 177) 0 (Int32.ofNat al))) := km_A (km_A (km_A km_rf (by omega)) (by omega)) (by omega)
  have c116 : (sA (sA (sF (sA s 116 R) 111 8 (if Int32.ofNat al ≤ 0 then (0 : Int32) else 1)) 117 (upd (s.2.1 117) 0 0)) 118 (upd (s.2.1 118) 0 (Int32.ofNat al))).2.1 116 = R := by simp (decide := true) only [A_sA, A_sF, reduceIte]
  have c117 : (sA (sA (sF (sA s 116 R) 111 8 (if Int32.ofNat al ≤ 0 then (0 : Int32) else 1)) 117 (upd (s.2.1 117) 0 0)) 118 (upd (s.2.1 118) 0 (Int32.ofNat al))).2.1 117 = upd (s.2.1 117) 0 0 := by simp (decide := true) only [A_sA, A_sF, reduceIte]
  have c118 : (sA (sA (sF (sA s 116 R) 111 8 (if Int32.ofNat al ≤ 0 then (0 : Int32) else 1)) 117 (upd (s.2.1 117) 0 0)) 118 (upd (s.2.1 118) 0 (Int32.ofNat al))).2.1 118 = upd (s.2.1 118) 0 (Int32.ofNat al) := by simp (decide := true) only [A_sA, A_sF, reduceIte]
  have c8 : (sA (sA (sF (sA s 116 R) 111 8 (if Int32.ofNat al ≤ 0 then (0 : Int32) else 1)) 117 (upd (s.2.1 117) 0 0)) 118 (upd (s.2.1 118) 0 (Int32.ofNat al))).1 111 8 = if Int32.ofNat al ≤ 0 then (0 : Int32) else 1 := by rw [F_sA, F_sA, F_sF, if_pos ⟨rfl, rfl⟩]
  generalize sA (sA (sF (sA s 116 R) 111 8 (if Int32.ofNat al ≤ 0 then (0 : Int32) else 1)) 117 (upd (s.2.1 117) 0 0)) 118 (upd (s.2.1 118) 0 (Int32.ofNat al)) = s1 at pre kc1 c116 c117 c118 c8
  have m175 : (sA (sA (sA S 175 R') 176 (upd ((sA S 175 R').2.1 176) 0 0)) 177 (upd ((sA S 175 R').2.1 177) 0 (Int32.ofNat al))).2.1 175 = R' := by simp (decide := true) only [A_sA, A_sF, reduceIte]
  have m176 : (sA (sA (sA S 175 R') 176 (upd ((sA S 175 R').2.1 176) 0 0)) 177 (upd ((sA S 175 R').2.1 177) 0 (Int32.ofNat al))).2.1 176 = upd ((sA S 175 R').2.1 176) 0 0 := by simp (decide := true) only [A_sA, A_sF, reduceIte]
  have m177 : (sA (sA (sA S 175 R') 176 (upd ((sA S 175 R').2.1 176) 0 0)) 177 (upd ((sA S 175 R').2.1 177) 0 (Int32.ofNat al))).2.1 177 = upd ((sA S 175 R').2.1 177) 0 (Int32.ofNat al) := by simp (decide := true) only [A_sA, A_sF, reduceIte]
  by_cases q : al = 0
  · subst q
    have z0 : (if Int32.ofNat 0 ≤ 0 then (0 : Int32) else 1) = Int32.ofNat 0 := by decide
    rw [z0] at c8
    have hFw : Fw s1 (sA (sA (sA S 175 R') 176 (upd ((sA S 175 R').2.1 176) 0 0)) 177 (upd ((sA S 175 R').2.1 177) 0 (Int32.ofNat 0))) 0 0 (fun _ => 0) (fun _ => 0) := ⟨fun i hi => absurd hi (Nat.not_lt_zero _), fun i hi => absurd hi (Nat.not_lt_zero _), ⟨by omega, by omega, fun b hb => absurd hb (Nat.not_lt_zero _)⟩, ⟨by omega, by omega, fun b hb => absurd hb (Nat.not_lt_zero _)⟩, c8⟩
    obtain ⟨s', S', r1, r2, r3, r4, r5⟩ := means (g := mkA g F) (g' := g') (x1 := Int32.ofNat l) (x3 := x3) hFw kc1 km1
    have w3 := widest3 (s := s1) (g := mkA g F) hFw.2.2.1 c8
    have c1 : ¬ (Int32.ofNat N ≤ 1 ∨ (16 : Int32) ≤ 1) := by
      have c5 : ¬ Int32.ofNat N ≤ (1 : Int32) := show ¬ Int32.ofNat N ≤ Int32.ofNat 1 from nle (by omega) (by omega)
      exact fun z => z.elim c5 (by decide)
    have lp : q_lp (fun t => bX3_boxes_92 111 (Int32.ofNat N) t.1 t.2) ((1 : Int32), e_g s1 (mkA g F)) = some (e_g s1 (mkA g F)) := by
      refine lp_end ?_
      show bX3_boxes_92 _ _ _ _ = _
      unfold bX3_boxes_92
      dsimp only
      rw [if_neg c1, ob111, ob_n, w3, b2_n]
      rfl
    refine ⟨s', S', 0, 0, sA S 175 R', by rw [pre, lp, ob_n, r1], g12, ⟨_, ?_, r2⟩, r3, r4, r5, fun _ => g0 rfl⟩
    rw [z0]
    refine lp_end ?_
    show bX12_few_117 _ _ _ _ _ _ = _
    unfold bX12_few_117
    dsimp only
    rw [if_pos (Or.inl (by decide))]
  · have nz : ¬ Int32.ofNat al ≤ 0 := show ¬ Int32.ofNat al ≤ Int32.ofNat 0 from nle (by omega) (by omega)
    rw [if_neg nz] at c8
    have hFw : Fw s1 (sA (sA (sA S 175 R') 176 (upd ((sA S 175 R').2.1 176) 0 0)) 177 (upd ((sA S 175 R').2.1 177) 0 (Int32.ofNat al))) 1 al (fun _ => 0) (fun _ => al) := by
      refine ⟨?_, ?_, ⟨by omega, by omega, fun b hb => ?_⟩, ⟨by omega, by omega, fun b hb => ?_⟩, c8⟩
      · rw [c116, m175]; exact ra
      · rw [m175]; exact gs
      · have : b = 0 := by omega
        subst this
        rw [c117, c118, upd_s, upd_s]
        exact ⟨rfl, rfl, show 0 + al ≤ al by omega, show 1 ≤ al by omega⟩
      · have : b = 0 := by omega
        subst this
        rw [m176, m177, upd_s, upd_s]
        exact ⟨rfl, rfl, show 0 + al ≤ al by omega, show 1 ≤ al by omega⟩
    obtain ⟨r, r', l3, l12, s2, S2, n, Fr, Mn, rfl, rfl, f2, kc2, km2, n1, n2⟩ := cuts (s0 := s) (S0 := S) (g := mkA g F) (g' := g') (N := N) (al := al) (x1 := Int32.ofNat l) (x3 := x3) hN (N - 1) (Int32.ofNat 1, e_g s1 (mkA g F)) (Int32.ofNat 1, e_g (sA (sA (sA S 175 R') 176 (upd ((sA S 175 R').2.1 176) 0 0)) 177 (upd ((sA S 175 R').2.1 177) 0 (Int32.ofNat al))) g') ⟨_, _, 1, _, _, rfl, rfl, hFw, kc1, km1, by omega, by omega, rfl⟩
    obtain ⟨s', S', r1, r2, r3, r4, r5⟩ := means (g := mkA g F) (g' := g') (x1 := Int32.ofNat l) (x3 := x3) f2 kc2 km2
    have l3' : q_lp (fun t => bX3_boxes_92 111 (Int32.ofNat N) t.1 t.2) ((1 : Int32), e_g s1 (mkA g F)) = some (e_g s2 (mkA g F)) := l3
    refine ⟨s', S', n, al, sA S 175 R', by rw [pre, l3', ob_n, r1], g12, ⟨S2, ?_, r2⟩, r3, r4, r5, fun z => absurd z (by omega)⟩
    rw [if_neg nz]
    exact l12
