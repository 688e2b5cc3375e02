-- needs: 97zm
/-- the class's wand -/
theorem wand0 {s : e_S} {g : ps_G} {w h x y : Nat} {c : Int32} (hw : w ≤ 24) (hh : h ≤ 24) (e0 : s.1 89 0 = Int32.ofNat w) (e1 : s.1 89 1 = Int32.ofNat h) (hx : x < w) (hy : y < h) : ∃ M Q, fX0_wand (e_g s g) 89 86 (Int32.ofNat x) (Int32.ofNat y) c = some (e_g (sA (sA s 91 M) 92 Q) g) ∧ WE w h (fun m => lkB (s.2.1 86 m) (s.2.1 86 (y * w + x)) c) (y * w + x) M := by
  have hwh := wh_le hw hh
  have hlt := at_lt hx hy
  generalize hst : y * w + x = st at hlt
  generalize hfr : s.2.1 86 st = fr
  generalize hL : (fun m => lkB (s.2.1 86 m) fr c) = L
  have Lv : ∀ m, L m = lkB (s.2.1 86 m) fr c := fun m => by rw [← hL]
  -- all neighbours of one
  have inner : ∀ n hd k M Q q, WI w h L st n hd M Q q → hd < n → q hd = k → ∃ n' M' Q' q', q_lp (fun t => bX0_wand_101 89 86 c fr (Int32.ofNat hd) (Int32.ofNat (k % w)) (Int32.ofNat (k / w)) t.1 t.2.1 t.2.2) (Int32.ofNat n, (0 : Int32), e_g (sA (sA s 91 M) 92 Q) g) = some (Int32.ofNat n', e_g (sA (sA s 91 M') 92 Q') g) ∧ WI w h L st n' (hd + 1) M' Q' q' := by
    intro n hd k M Q q hI hhd hk
    have lp := lp_n (b := fun t => bX0_wand_101 89 86 c fr (Int32.ofNat hd) (Int32.ofNat (k % w)) (Int32.ofNat (k / w)) t.1 t.2.1 t.2.2) (fun j t => ∃ n' M' Q' q', t = (Int32.ofNat n', Int32.ofNat j, e_g (sA (sA s 91 M') 92 Q') g) ∧ WI w h L st n' hd M' Q' q' ∧ hd < n' ∧ q' hd = k ∧ ∀ j', j' < j → ∀ m, nbr w h k j' = some m → L m = true → M' m = 255) (fun r => ∃ n' M' Q' q', r = (Int32.ofNat n', e_g (sA (sA s 91 M') 92 Q') g) ∧ WI w h L st n' (hd + 1) M' Q' q') 4 (s := (Int32.ofNat n, (0 : Int32), e_g (sA (sA s 91 M) 92 Q) g)) (fun j t hj ht => ?_) (fun t ht => ?_) ⟨n, M, Q, q, rfl, hI, hhd, hk, fun j' hj' => absurd hj' (by omega)⟩
    · obtain ⟨r, l1, n', M', Q', q', l2, l3⟩ := lp
      exact ⟨n', M', Q', q', by rw [l1, l2], l3⟩
    · obtain ⟨n', M', Q', q', rfl, J, J1, J2, J3⟩ := ht
      obtain ⟨i1, i2, i3, i4, i5, i6, i7, i8⟩ := id J
      have nle9 : n' ≤ w * h := by rw [i1]; exact cnt_le
      have n5 : ∀ m, nbr w h k j = some m → M' m = 0 → n' < 576 := fun m hm h0 => by
        have c1 := cnt_up (M := M') (nbr_lt hm) h0
        have c2 : cnt (mk (upd M' m 255)) (w * h) ≤ w * h := cnt_le
        omega
      have st' := stepC (s := s) (g := g) (w := w) (h := h) (k := k) (j := j) (n := n') (c := c) (fr := fr) (x8 := Int32.ofNat hd) (M := M') (Q := Q') hw hh e0 e1 hj (by omega) n5
      cases hb : nbr w h k j with
      | none =>
        rw [hb] at st'
        refine ⟨_, st', n', M', Q', q', rfl, J, J1, J2, fun j' hj' m hm hl => ?_⟩
        by_cases e : j' = j
        · rw [e, hb] at hm; cases hm
        · exact J3 j' (by omega) m hm hl
      | some m0 =>
        rw [hb] at st'
        dsimp only at st'
        have old : M' m0 = 255 ∨ ¬ L m0 = true → ∀ j', j' < j + 1 → ∀ m, nbr w h k j' = some m → L m = true → M' m = 255 := fun ho j' hj' m hm hl => by
          by_cases e : j' = j
          · rw [e, hb] at hm
            cases hm
            exact ho.resolve_right (fun z => z hl)
          · exact J3 j' (by omega) m hm hl
        by_cases z : M' m0 = 0
        · rw [if_pos z, ← Lv] at st'
          by_cases zl : L m0 = true
          · rw [if_pos zl] at st'
            have hr : RS w h L st m0 := by
              have kk := i5 hd J1
              rw [J2] at kk
              exact RS_s (i7 k kk.2.1 kk.2.2) hj hb zl
            refine ⟨_, st', n' + 1, upd M' m0 255, upd Q' n' (Int32.ofNat m0), (fun i => if i = n' then m0 else q' i), rfl, WI_up J (nbr_lt hb) z hr, by omega, by dsimp only; rw [if_neg (by omega)]; exact J2, fun j' hj' m hm hl => ?_⟩
            rw [upd_r]
            split
            · rfl
            · rename_i ne
              by_cases e : j' = j
              · rw [e, hb] at hm
                cases hm
                exact absurd rfl ne
              · exact J3 j' (by omega) m hm hl
          · rw [if_neg zl] at st'
            exact ⟨_, st', n', M', Q', q', rfl, J, J1, J2, old (Or.inr zl)⟩
        · rw [if_neg z] at st'
          exact ⟨_, st', n', M', Q', q', rfl, J, J1, J2, old (Or.inl ((i3 m0 (nbr_lt hb)).resolve_left z))⟩
    · obtain ⟨n', M', Q', q', rfl, J, J1, J2, J3⟩ := ht
      obtain ⟨i1, i2, i3, i4, i5, i6, i7, i8⟩ := id J
      refine ⟨_, ?_, n', M', Q', q', rfl, i1, by omega, i3, i4, i5, i6, i7, fun i hi j hj m hm hl => ?_⟩
      · show bX0_wand_101 _ _ _ _ _ _ _ _ _ _ = _
        unfold bX0_wand_101
        dsimp only
        rw [if_pos (by decide)]
      · by_cases e : i = hd
        · rw [e, J2] at hm
          exact J3 j hj m hm hl
        · exact i8 i (by omega) j hj m hm hl
  have wd : ¬ Int32.ofNat w = 0 := fun z => by
    have := (n_eq (b := 0) (by omega) (by omega)).mp z
    omega
  have lp := lp_inv (b := fun t => bX0_wand_55 89 86 c fr t.1 t.2.1 t.2.2) (fun μ t => ∃ n hd M Q q, t = (Int32.ofNat n, Int32.ofNat hd, e_g (sA (sA s 91 M) 92 Q) g) ∧ WI w h L st n hd M Q q ∧ μ = w * h - hd) (fun r => ∃ M Q, r = e_g (sA (sA s 91 M) 92 Q) g ∧ WE w h L st M) (fun μ t ht => ?_)
  · have z1 : (upd (fl (s.2.1 91) 576 0) st 255) st = 255 := upd_s
    have c1 := cnt_up (M := fl (s.2.1 91) 576 0) (m := st) (n := w * h) hlt (fl_lt (by omega))
    have c0 : cnt (mk (fl (s.2.1 91) 576 0)) (w * h) = 0 := cnt_ff (fun i hi => by unfold mk; rw [fl_lt (by omega)]; rfl)
    rw [c0] at c1
    have I0 : WI w h L st 1 0 (upd (fl (s.2.1 91) 576 0) st 255) (upd (s.2.1 92) 0 (Int32.ofNat st)) (fun _ => st) := by
      refine ⟨c1.symm, by omega, fun k hk => ?_, z1, fun i hi => ?_, fun k hk hM => ⟨0, by omega, ?_⟩, fun k hk hM => ?_, fun i hi => absurd hi (by omega)⟩
      · rw [upd_r]; split
        · exact Or.inr rfl
        · exact Or.inl (fl_lt (by omega))
      · have : i = 0 := by omega
        subst this
        exact ⟨upd_s, hlt, z1⟩
      · by_cases e : k = st
        · exact e.symm
        · rw [upd_n e, fl_lt (by omega)] at hM
          exact absurd hM (by decide)
      · by_cases e : k = st
        · rw [e]; exact RS_0
        · rw [upd_n e, fl_lt (by omega)] at hM
          exact absurd hM (by decide)
    obtain ⟨r, l1, M, Q, l2, l3⟩ := lp (w * h - 0) ((1 : Int32), (0 : Int32), e_g (sA (sA s 91 (upd (fl (s.2.1 91) 576 0) st 255)) 92 (upd (s.2.1 92) 0 (Int32.ofNat st))) g) ⟨1, 0, _, _, _, rfl, I0, rfl⟩
    refine ⟨M, Q, ?_, l3⟩
    have w0 : ∀ S : e_S, q_wI (e_g S g) 92 0 (Int32.ofNat st) = some (e_g (sA S 92 (upd (S.2.1 92) 0 (Int32.ofNat st))) g) := fun S => wrI (i := 0) t92 (by omega) (by omega)
    unfold fX0_wand jX0_wand_264
    rw [f89_0, e0, ob_n, n_mul, n_add, hst, within575 (by omega), rdI t86 (by omega), ob_n, hfr, f89_3, ob_n, ob_n, fillI t91 (by omega) (by omega), ob_n, f89_3, ob_n, ob_n, wrI t91 (by omega) (by omega), ob_n, A_sA, if_pos rfl, sA_sA, f89_4, ob_n, ob_n, w0, ob_n, A_sA, if_neg (by decide), l1, ob_n, l2]
  · obtain ⟨n, hd, M, Q, q, rfl, hI, hμ⟩ := ht
    obtain ⟨i1, i2, i3, i4, i5, i6, i7, i8⟩ := id hI
    have nle9 : n ≤ w * h := by rw [i1]; exact cnt_le
    by_cases z : n ≤ hd
    · right
      refine ⟨_, ?_, M, Q, rfl, WE_c i3 hlt i4 i7 (fun k hk hM j hj m hm hl => ?_)⟩
      · show bX0_wand_55 _ _ _ _ _ _ _ = _
        unfold bX0_wand_55
        dsimp only
        rw [if_pos (Or.inl ((n_le (by omega) (by omega)).mpr z))]
      · obtain ⟨i, a1, a2⟩ := i6 k hk hM
        rw [← a2] at hm
        exact i8 i (by omega) j hj m hm hl
    · left
      obtain ⟨q1, q2, q3⟩ := i5 hd (by omega)
      obtain ⟨n', M', Q', q', l1, l2⟩ := inner n hd (q hd) M Q q hI (by omega) rfl
      have gd : ¬ (Int32.ofNat n ≤ Int32.ofNat hd ∨ (576 : Int32) ≤ Int32.ofNat hd) := by
        rintro (y | y)
        · exact z ((n_le (by omega) (by omega)).mp y)
        · exact nle (b := 576) (show hd < 576 by omega) (by omega) y
      have rQ : q_aI (e_g (sA (sA s 91 M) 92 Q) g) 92 (Int32.ofNat hd) = some (Int32.ofNat (q hd)) := by
        rw [rdI t92 (by omega), A_sA, if_pos rfl, q1]
      refine ⟨_, w * h - (hd + 1), ?_, by omega, n', hd + 1, M', Q', q', rfl, l2, rfl⟩
      show bX0_wand_55 _ _ _ _ _ _ _ = _
      unfold bX0_wand_55 q_mod q_div
      dsimp only
      rw [if_neg gd, f89_4, ob_n, ob_n, rQ, ob_n, f89_0, F_sA, F_sA, e0, ob_n, if_neg wd, ob_n, ob_n, ob_n, rQ, ob_n, ob_n, if_neg wd, ob_n, n_rem (by omega) (by omega), n_div (by omega) (by omega), l1, ob_n, n_suc]
