-- needs: 97zn
/-! ===== the wand of the reference ===== -/
theorem cXY {j : Nat} {x y : Int32} (hj : j < 4) : (if ¬ Int32.ofNat j = 0 then (if ¬ Int32.ofNat j = (1 : Int32) then x else x + (1 : Int32)) else x - (1 : Int32)) = x + dX j ∧ (if ¬ Int32.ofNat j = (2 : Int32) then (if ¬ Int32.ofNat j = (3 : Int32) then y else y + (1 : Int32)) else y - (1 : Int32)) = y + dY j := by
  have sb : ∀ v : Int32, v - 1 = v + (-1) := fun v => by rw [Int32.sub_eq_add_neg]
  have : j = 0 ∨ j = 1 ∨ j = 2 ∨ j = 3 := by omega
  rcases this with rfl | rfl | rfl | rfl
  · exact ⟨sb x, (Int32.add_zero y).symm⟩
  · exact ⟨rfl, (Int32.add_zero y).symm⟩
  · exact ⟨(Int32.add_zero x).symm, sb y⟩
  · exact ⟨(Int32.add_zero x).symm, rfl⟩
def WJ (w h : Nat) (L : Nat → Bool) (st t : Nat) (M Q : Nat → Int32) (q : Nat → Nat) (X : Nat → Prop) : Prop := t ≤ cnt (mk M) (w * h) ∧ (∀ k, k < w * h → M k = 0 ∨ M k = 255) ∧ M st = 255 ∧ (∀ i, i < t → Q i = Int32.ofNat (q i) ∧ q i < w * h ∧ M (q i) = 255) ∧ (∀ k, k < w * h → M k = 255 → RS w h L st k) ∧ ∀ k, k < w * h → M k = 255 → X k ∨ (∃ i, i < t ∧ q i = k) ∨ ∀ j, j < 4 → ∀ m, nbr w h k j = some m → L m = true → M m = 255
theorem WJ_up {w h st t m : Nat} {L : Nat → Bool} {M Q : Nat → Int32} {q : Nat → Nat} {X : Nat → Prop} (hI : WJ w h L st t M Q q X) (hm : m < w * h) (h0 : M m = 0) (hr : RS w h L st m) : WJ w h L st (t + 1) (upd M m 255) (upd Q t (Int32.ofNat m)) (fun i => if i = t then m else q i) X := by
  obtain ⟨i1, i3, i4, i5, i7, i8⟩ := hI
  have mono : ∀ k, M k = 255 → upd M m 255 k = 255 := fun k hk => by
    rw [upd_r]; split
    · rfl
    · exact hk
  refine ⟨by rw [cnt_up hm h0]; omega, fun k hk => ?_, mono _ i4, fun i hi => ?_, fun k hk hM => ?_, fun k hk hM => ?_⟩
  · rw [upd_r]; split
    · exact Or.inr rfl
    · exact i3 k hk
  · by_cases e : i = t
    · rw [e, upd_s]
      dsimp only
      rw [if_pos rfl, upd_s]
      exact ⟨rfl, hm, rfl⟩
    · rw [upd_n e]
      dsimp only
      rw [if_neg e]
      obtain ⟨a, b, c⟩ := i5 i (by omega)
      exact ⟨a, b, mono _ c⟩
  · by_cases e : k = m
    · rw [e]; exact hr
    · rw [upd_n e] at hM
      exact i7 k hk hM
  · by_cases e : k = m
    · exact Or.inr (Or.inl ⟨t, by omega, by dsimp only; rw [if_pos rfl, e]⟩)
    · rw [upd_n e] at hM
      rcases i8 k hk hM with z | ⟨i, z1, z2⟩ | z
      · exact Or.inl z
      · exact Or.inr (Or.inl ⟨i, by omega, by dsimp only; rw [if_neg (by omega)]; exact z2⟩)
      · exact Or.inr (Or.inr (fun j hj m' e1 e2 => mono _ (z j hj m' e1 e2)))
theorem stepM {s : e_S} {g : ps_G} {w h k j n : Nat} {c fr : Int32} {M Q : Nat → Int32} (hw : w ≤ 24) (hh : h ≤ 24) (e0 : s.1 139 13 = Int32.ofNat w) (e1 : s.1 139 14 = Int32.ofNat h) (hj : j < 4) (hn : n < 2400) (hM : ∀ m, m < w * h → M m = 0 ∨ M m = 255) : bX12_wand_153 139 c fr (Int32.ofNat (k % w)) (Int32.ofNat (k / w)) (Int32.ofNat n) (Int32.ofNat j) (e_g (sA (sA s 156 M) 157 Q) g) = match nbr w h k j with
    | none => some (.inl (Int32.ofNat n, Int32.ofNat (j + 1), e_g (sA (sA s 156 M) 157 Q) g))
    | some m => if M m = 0 then (if lkB (s.2.1 145 m) fr c then some (.inl (Int32.ofNat (n + 1), Int32.ofNat (j + 1), e_g (sA (sA s 156 (upd M m 255)) 157 (upd Q n (Int32.ofNat m))) g)) else some (.inl (Int32.ofNat n, Int32.ofNat (j + 1), e_g (sA (sA s 156 M) 157 Q) g))) else some (.inl (Int32.ofNat n, Int32.ofNat (j + 1), e_g (sA (sA s 156 M) 157 Q) g)) := by
  have hwh := wh_le hw hh
  obtain ⟨x1, x2⟩ := cXY (x := Int32.ofNat (k % w)) (y := Int32.ofNat (k / w)) hj
  have g4 : ¬ (4 : Int32) ≤ Int32.ofNat j := nle (b := 4) hj (by omega)
  have v156 : (sA (sA s 156 M) 157 Q).2.1 156 = M := by rw [A_sA, if_neg (by decide), A_sA, if_pos rfl]
  have v157 : ∀ M', (sA (sA s 156 M') 157 Q).2.1 157 = Q := fun M' => by rw [A_sA, if_pos rfl]
  have v145 : (sA (sA s 156 M) 157 Q).2.1 145 = s.2.1 145 := by rw [A_sA, if_neg (by decide), A_sA, if_neg (by decide)]
  have pl := fun cx cy => place12 (s := sA (sA s 156 M) 157 Q) (g := g) (x := cx) (y := cy) hw hh (by rw [F_sA, F_sA]; exact e0) (by rw [F_sA, F_sA]; exact e1)
  unfold bX12_wand_153 jX12_wand_304_153
  rw [if_neg g4, x1, x2, n_suc (n := j)]
  unfold nbr
  generalize Int32.ofNat (k % w) + dX j = cx
  generalize Int32.ofNat (k / w) + dY j = cy
  rw [ob139, ob_n, pl, ob_n]
  by_cases q : plc w h cx cy = true
  · rw [if_pos q, if_pos q]
    obtain ⟨a, b, rfl, rfl, ha, hb⟩ := plc_n q
    have hlt := at_lt ha hb
    have ta : (Int32.ofNat a).toInt.toNat = a := by rw [n_int (by omega)]; rfl
    have tb : (Int32.ofNat b).toInt.toNat = b := by rw [n_int (by omega)]; rfl
    have at1 : ∀ S : e_S, S.1 = s.1 → fX12_at (e_g S g) 139 (Int32.ofNat a) (Int32.ofNat b) = some (Int32.ofNat (b * w + a)) := fun S e => at12n (by rw [e]; exact e0)
    have ra : q_aI (e_g (sA (sA s 156 M) 157 Q) g) 156 (Int32.ofNat (b * w + a)) = some (M (b * w + a)) := by rw [rdI t156 (by omega), v156]
    have rs9 : q_aI (e_g (sA (sA s 156 M) 157 Q) g) 145 (Int32.ofNat (b * w + a)) = some (s.2.1 145 (b * w + a)) := by
      rw [a145, n_idx (by omega), if_neg (n_in2 (N := 18000) (by omega) (by decide)), v145]
    have w157 : ∀ S : e_S, q_wI (e_g S g) 157 (Int32.ofNat n) (Int32.ofNat (b * w + a)) = some (e_g (sA S 157 (upd (S.2.1 157) n (Int32.ofNat (b * w + a)))) g) := fun S => by
      rw [u157, n_idx (by omega), if_neg (n_in2 (N := 2400) hn (by decide))]
    rw [ta, tb, if_neg (by decide)]
    dsimp only
    rw [f139_32, ob_n, ob_n, ob_n, at1 _ (by rw [F_sA, F_sA]), ob_n, ra, ob_n]
    by_cases z : M (b * w + a) = 0
    · rw [if_neg (by rw [z]; decide), f139_16, ob_n, ob_n, ob_n, ob_n, rs9, ob_n, alike12, ob_n, if_pos z]
      by_cases zl : lkB (s.2.1 145 (b * w + a)) fr c = true
      · rw [if_pos zl, if_pos zl, if_pos (by decide), ob_n, ob_n, ob_n, ob_n, wrI t156 (by omega) (by omega), ob_n, v156, f139_33, ob_n, ob_n, ob139, ob_n, at1 _ (by rw [F_sA, F_sA, F_sA]), ob_n, sA_cm (i := 157) (j := 156) (by decide), sA_sA, w157, ob_n, v157, sA_sA, n_suc]
      · rw [if_neg zl, if_neg zl, if_neg (fun y => y rfl)]
    · have h5 := (hM _ hlt).resolve_left z
      rw [if_pos (by rw [h5]; decide), if_neg z]
  · rw [if_neg q, if_neg q, if_pos rfl]
theorem wand12 {s : e_S} {g : ps_G} {w h x y : Nat} {c : Int32} {M0 : Nat → Int32} (hw : w ≤ 24) (hh : h ≤ 24) (e0 : s.1 139 13 = Int32.ofNat w) (e1 : s.1 139 14 = Int32.ofNat h) (hx : x < w) (hy : y < h) (hM0 : ∀ k, k < w * h → M0 k = 0) : ∃ M Q, q_lp (fun t => bX12_wand_114 139 c (s.2.1 145 (y * w + x)) t.1 t.2) ((1 : Int32), e_g (sA (sA s 156 (upd M0 (y * w + x) 255)) 157 (upd (s.2.1 157) 0 (Int32.ofNat (y * w + x)))) g) = some (e_g (sA (sA s 156 M) 157 Q) g) ∧ WE w h (fun m => lkB (s.2.1 145 m) (s.2.1 145 (y * w + x)) c) (y * w + x) M := by
  have hwh := wh_le hw hh
  have hlt := at_lt hx hy
  generalize y * w + x = st at hlt
  generalize s.2.1 145 st = fr
  generalize hL : (fun m => lkB (s.2.1 145 m) fr c) = L
  have Lv : ∀ m, L m = lkB (s.2.1 145 m) fr c := fun m => by rw [← hL]
  have wd : ¬ Int32.ofNat w = 0 := fun z => by
    have := (n_eq (b := 0) (by omega) (by omega)).mp z
    omega
  have inner : ∀ t k M Q q, WJ w h L st t M Q q (fun k' => k' = k) → k < w * h → M k = 255 → ∃ t' M' Q' q', q_lp (fun u => bX12_wand_153 139 c fr (Int32.ofNat (k % w)) (Int32.ofNat (k / w)) u.1 u.2.1 u.2.2) (Int32.ofNat t, (0 : Int32), e_g (sA (sA s 156 M) 157 Q) g) = some (Int32.ofNat t', e_g (sA (sA s 156 M') 157 Q') g) ∧ WJ w h L st t' M' Q' q' (fun _ => False) ∧ 2 * (w * h - cnt (mk M') (w * h)) + t' ≤ 2 * (w * h - cnt (mk M) (w * h)) + t := by
    intro t k M Q q hI hk hkM
    have lp := lp_n (b := fun u => bX12_wand_153 139 c fr (Int32.ofNat (k % w)) (Int32.ofNat (k / w)) u.1 u.2.1 u.2.2) (fun j u => ∃ t' M' Q' q', u = (Int32.ofNat t', Int32.ofNat j, e_g (sA (sA s 156 M') 157 Q') g) ∧ WJ w h L st t' M' Q' q' (fun k' => k' = k) ∧ M' k = 255 ∧ (∀ j', j' < j → ∀ m, nbr w h k j' = some m → L m = true → M' m = 255) ∧ 2 * (w * h - cnt (mk M') (w * h)) + t' ≤ 2 * (w * h - cnt (mk M) (w * h)) + t) (fun r => ∃ t' M' Q' q', r = (Int32.ofNat t', e_g (sA (sA s 156 M') 157 Q') g) ∧ WJ w h L st t' M' Q' q' (fun _ => False) ∧ 2 * (w * h - cnt (mk M') (w * h)) + t' ≤ 2 * (w * h - cnt (mk M) (w * h)) + t) 4 (s := (Int32.ofNat t, (0 : Int32), e_g (sA (sA s 156 M) 157 Q) g)) (fun j u hj hu => ?_) (fun u hu => ?_) ⟨t, M, Q, q, rfl, hI, hkM, fun j' hj' => absurd hj' (by omega), Nat.le_refl _⟩
    · obtain ⟨r, l1, t', M', Q', q', l2, l3, l4⟩ := lp
      exact ⟨t', M', Q', q', by rw [l1, l2], l3, l4⟩
    · obtain ⟨t', M', Q', q', rfl, J, J1, J3, J4⟩ := hu
      obtain ⟨i1, i3, i4, i5, i7, i8⟩ := id J
      have nle9 : cnt (mk M') (w * h) ≤ w * h := cnt_le
      have st' := stepM (s := s) (g := g) (w := w) (h := h) (k := k) (j := j) (n := t') (c := c) (fr := fr) (M := M') (Q := Q') hw hh e0 e1 hj (by omega) i3
      cases hb : nbr w h k j with
      | none =>
        rw [hb] at st'
        refine ⟨_, st', t', M', Q', q', rfl, J, J1, fun j' hj' m hm hl => ?_, J4⟩
        by_cases e : j' = j
        · rw [e, hb] at hm; cases hm
        · exact J3 j' (by omega) m hm hl
      | some m0 =>
        rw [hb] at st'
        dsimp only at st'
        have old : M' m0 = 255 ∨ ¬ L m0 = true → ∀ j', j' < j + 1 → ∀ m, nbr w h k j' = some m → L m = true → M' m = 255 := fun ho j' hj' m hm hl => by
          by_cases e : j' = j
          · rw [e, hb] at hm
            cases hm
            exact ho.resolve_right (fun z => z hl)
          · exact J3 j' (by omega) m hm hl
        by_cases z : M' m0 = 0
        · rw [if_pos z, ← Lv] at st'
          by_cases zl : L m0 = true
          · rw [if_pos zl] at st'
            have hr : RS w h L st m0 := RS_s (i7 k hk J1) hj hb zl
            have cu := cnt_up (M := M') (nbr_lt hb) z
            have cl : cnt (mk (upd M' m0 255)) (w * h) ≤ w * h := cnt_le
            refine ⟨_, st', t' + 1, upd M' m0 255, upd Q' t' (Int32.ofNat m0), (fun i => if i = t' then m0 else q' i), rfl, WJ_up J (nbr_lt hb) z hr, ?_, fun j' hj' m hm hl => ?_, by omega⟩
            · rw [upd_r]; split
              · rfl
              · exact J1
            · rw [upd_r]
              split
              · rfl
              · rename_i ne
                by_cases e : j' = j
                · rw [e, hb] at hm
                  cases hm
                  exact absurd rfl ne
                · exact J3 j' (by omega) m hm hl
          · rw [if_neg zl] at st'
            exact ⟨_, st', t', M', Q', q', rfl, J, J1, old (Or.inr zl), J4⟩
        · rw [if_neg z] at st'
          exact ⟨_, st', t', M', Q', q', rfl, J, J1, old (Or.inl ((i3 m0 (nbr_lt hb)).resolve_left z)), J4⟩
    · obtain ⟨t', M', Q', q', rfl, J, J1, J3, J4⟩ := hu
      obtain ⟨i1, i3, i4, i5, i7, i8⟩ := id J
      refine ⟨_, ?_, t', M', Q', q', rfl, ⟨i1, i3, i4, i5, i7, fun k' hk' hM' => ?_⟩, J4⟩
      · show bX12_wand_153 _ _ _ _ _ _ _ _ = _
        unfold bX12_wand_153
        dsimp only
        rw [if_pos (by decide)]
      · rcases i8 k' hk' hM' with z | z | z
        · rw [z]
          exact Or.inr (Or.inr (fun j hj m hm hl => J3 j hj m hm hl))
        · exact Or.inr (Or.inl z)
        · exact Or.inr (Or.inr z)
  have lp := lp_inv (b := fun u => bX12_wand_114 139 c fr u.1 u.2) (fun μ u => ∃ t M Q q, u = (Int32.ofNat t, e_g (sA (sA s 156 M) 157 Q) g) ∧ WJ w h L st t M Q q (fun _ => False) ∧ μ = 2 * (w * h - cnt (mk M) (w * h)) + t) (fun r => ∃ M Q, r = e_g (sA (sA s 156 M) 157 Q) g ∧ WE w h L st M) (fun μ u hu => ?_)
  · have z1 : (upd M0 st 255) st = 255 := upd_s
    have c1 := cnt_up (M := M0) (m := st) (n := w * h) hlt (hM0 _ hlt)
    have I0 : WJ w h L st 1 (upd M0 st 255) (upd (s.2.1 157) 0 (Int32.ofNat st)) (fun _ => st) (fun _ => False) := by
      refine ⟨by omega, fun k hk => ?_, z1, fun i hi => ?_, fun k hk hM => ?_, fun k hk hM => Or.inr (Or.inl ⟨0, by omega, ?_⟩)⟩
      · rw [upd_r]; split
        · exact Or.inr rfl
        · exact Or.inl (hM0 k hk)
      · have : i = 0 := by omega
        subst this
        exact ⟨upd_s, hlt, z1⟩
      · by_cases e : k = st
        · rw [e]; exact RS_0
        · rw [upd_n e, hM0 k hk] at hM
          exact absurd hM (by decide)
      · by_cases e : k = st
        · exact e.symm
        · rw [upd_n e, hM0 k hk] at hM
          exact absurd hM (by decide)
    obtain ⟨r, l1, M, Q, l2, l3⟩ := lp _ ((1 : Int32), e_g (sA (sA s 156 (upd M0 st 255)) 157 (upd (s.2.1 157) 0 (Int32.ofNat st))) g) ⟨1, _, _, _, rfl, I0, rfl⟩
    exact ⟨M, Q, by rw [l1, l2], l3⟩
  · obtain ⟨t, M, Q, q, rfl, hI, hμ⟩ := hu
    obtain ⟨i1, i3, i4, i5, i7, i8⟩ := id hI
    have nle9 : cnt (mk M) (w * h) ≤ w * h := cnt_le
    by_cases z : t = 0
    · right
      refine ⟨_, ?_, M, Q, rfl, WE_c i3 hlt i4 i7 (fun k hk hM => ?_)⟩
      · show bX12_wand_114 _ _ _ _ _ = _
        unfold bX12_wand_114
        dsimp only
        rw [if_pos (by rw [z]; decide)]
      · rcases i8 k hk hM with y | ⟨i, y1, y2⟩ | y
        · exact y.elim
        · omega
        · exact y
    · left
      obtain ⟨t0, rfl⟩ : ∃ t0, t = t0 + 1 := ⟨t - 1, by omega⟩
      obtain ⟨q1, q2, q3⟩ := i5 t0 (by omega)
      have hJ : WJ w h L st t0 M Q q (fun k' => k' = q t0) := by
        refine ⟨by omega, i3, i4, fun i hi => i5 i (by omega), i7, fun k hk hM => ?_⟩
        rcases i8 k hk hM with y | ⟨i, y1, y2⟩ | y
        · exact y.elim
        · by_cases e : i = t0
          · rw [e] at y2
            exact Or.inl y2.symm
          · exact Or.inr (Or.inl ⟨i, by omega, y2⟩)
        · exact Or.inr (Or.inr y)
      obtain ⟨t', M', Q', q', l1, l2, l3⟩ := inner t0 (q t0) M Q q hJ q2 q3
      have m1 : Int32.ofNat (t0 + 1) + (-1) = Int32.ofNat t0 := by
        rw [← Int32.sub_eq_add_neg]
        exact n_sub (b := 1) (by omega) (by omega)
      have ng : ¬ Int32.ofNat (t0 + 1) ≤ 0 := fun y => by
        have := (n_le (m := 0) (by omega) (by omega)).mp y
        omega
      have rQ : q_aI (e_g (sA (sA s 156 M) 157 Q) g) 157 (Int32.ofNat t0) = some (Int32.ofNat (q t0)) := by
        rw [a157, n_idx (by omega), if_neg (n_in2 (N := 2400) (by omega) (by decide)), A_sA, if_pos rfl, q1]
      refine ⟨_, 2 * (w * h - cnt (mk M') (w * h)) + t', ?_, by omega, t', M', Q', q', rfl, l2, rfl⟩
      show bX12_wand_114 _ _ _ _ _ = _
      unfold bX12_wand_114 q_mod q_div
      dsimp only
      rw [if_neg ng, f139_33, ob_n, ob_n, m1, rQ, ob_n, f139_13, F_sA, F_sA, e0, ob_n, if_neg wd, ob_n, ob_n, ob_n, rQ, ob_n, ob_n, if_neg wd, ob_n, n_rem (by omega) (by omega), n_div (by omega) (by omega), l1, ob_n]
