-- needs: 97zp
theorem K_select {s : e_S} {g : ps_G} {sh way a b c d : Int32} (hR : Rel s g) : KI (fL_select (e_g s g) 8 sh way a b c d 194) (fun G => fX12_select G 139 sh way a b c d) g := by
  have hg := rel_g hR
  obtain ⟨h1, h2, h3, h4, h5, h6, ⟨w, h, h7, h8, h9⟩, h10, h11⟩ := id hR
  obtain ⟨q, st, pc, uc, f1, f2, f3, f4, f5, f6, f7, f8, f9, f10, f11, f12⟩ := h9
  obtain ⟨d1, d2, d3, d4, d5, d6, d7, d8, d9⟩ := id h7
  have hwh := wh_le d2 d4
  have ns := needShape11 (s := s) (sh := sh) (way := way) (a := a) (b := b) (c := c) (d := d) hg d1 d2 d3 d4 f3 f9
  by_cases ok : (rg sh 0 6 && (rg way 0 3 && okS w h sh a b c d)) = true
  · rw [if_pos ok] at ns
    have hS : ∀ S : e_S, S.1 139 13 = Int32.ofNat w → S.1 139 14 = Int32.ofNat h → fX12_select (e_g S g) 139 sh way a b c d = jX12_select_39 (e_g S g) 139 sh way a b c d 0 := fun S e1 e2 => by rw [selH d2 d4 e1 e2, if_pos ok]
    have okr := Bool.and_eq_true_iff.mp ok
    have q1 := okr.1
    have oks := (Bool.and_eq_true_iff.mp okr.2).2
    -- a shape by pixels alone
    have byPx : ∀ (A : Nat → Int32) (V : Nat → Int32), ¬ sh = 3 → ¬ sh = 4 → ¬ sh = 6 → fX11_select (e_g s g) 8 sh way a b c d = jX11_select_216 (e_g (sA s 91 (cpT (s.2.1 91) A 0 (h * w))) g) 8 way → (∀ k, k < w * h → A k = V k ∧ rg (V k) 0 255) → (∀ S : e_S, S.2.1 142 = s.2.1 142 → S.1 139 13 = Int32.ofNat w → S.1 139 14 = Int32.ofNat h → jX12_select_39 (e_g S g) 139 sh way a b c d 0 = jX12_select_70 (e_g S g) 139 sh way a b c d 139 0 ∧ ∀ F y x, y < h → x < w → bX12_select_141 139 sh way a b c d (Int32.ofNat y) (Int32.ofNat x) (e_g (sA (sF S 139 0 0) 155 F) g) = jX12_select_289_141 (e_g (sA (sF S 139 0 0) 155 F) g) 139 sh way a b c d (Int32.ofNat y) (Int32.ofNat x) (Int32.ofNat (y * w + x)) (V (y * w + x))) → KI (fL_select (e_g s g) 8 sh way a b c d 194) (fun G => fX12_select G 139 sh way a b c d) g := by
      intro A V n3 n4 n6 hc hA hr
      have smT : Sm s (sA s 91 (cpT (s.2.1 91) A 0 (h * w))) := sm_A sm_rf (by decide)
      have t91 : ∀ k, k < w * h → (sA s 91 (cpT (s.2.1 91) A 0 (h * w))).2.1 91 k = V k ∧ rg (V k) 0 255 := fun k hk => by
        have := cpT_in (A := s.2.1 91) (N := A) (b := 0) (n := h * w) (k := k) (by rw [Nat.mul_comm]; exact hk)
        rw [Nat.zero_add] at this
        rw [A_sA, if_pos rfl, this]
        exact hA k hk
      have tA : ∀ j, ¬ j = 91 → (sA s 91 (cpT (s.2.1 91) A 0 (h * w))).2.1 j = s.2.1 j := fun j hj => by rw [A_sA, if_neg hj]
      have tF : (sA s 91 (cpT (s.2.1 91) A 0 (h * w))).1 = s.1 := F_sA
      generalize sA s 91 (cpT (s.2.1 91) A 0 (h * w)) = T at hc smT t91 tA tF
      refine sel_fin (way := way) (T := T) (V := V) (rel_sm hR smT) (g7_sm h7 smT) hc t91 (fun S sA' sF' sR' => ?_)
      have e13 : S.1 139 13 = Int32.ofNat w := by rw [sF', tF]; exact d5
      have e14 : S.1 139 14 = Int32.ofNat h := by rw [sF', tF]; exact d6
      obtain ⟨r1, r2⟩ := hr S (by rw [sA' _ (by decide), tA _ (by decide)]) e13 e14
      have rr := selR (S := S) (g := g) (V := V) d2 d4 e13 e14 n3 n4 n6 r1 r2
      rw [sA' 155 (by decide)] at rr
      exact ⟨sF S 139 0 0, by show fX12_select (e_g S g) 139 sh way a b c d = _; rw [hS S e13 e14, rr], sm_F sm_rf (by decide), by rw [F_sF, if_pos ⟨rfl, rfl⟩], by rw [L_sF]⟩
    rcases sh_7 q1 with rfl | rfl | rfl | rfl | rfl | rfl | rfl
    · -- all
      refine byPx (bxV 0 0 24 24 w) (fun _ => 255) (by decide) (by decide) (by decide) ?_ (fun k hk => ⟨?_, by decide⟩) (fun S _ e13 e14 => ⟨hd39 (by decide), fun F y x hy hx => ?_⟩)
      · unfold fX11_select
        rw [ob8, ob_n, ns, tc_rn, if_pos rfl, f8_7, ob_n, ob_n, ob89, ob_n, box0 d2 d4 d7 d8, ob_n]
      · have mo := Nat.mod_lt k (show 0 < w by omega)
        have dv : k / w < h := Nat.div_lt_of_lt_mul (by omega)
        unfold bxV
        rw [if_neg]
        have z24 : (0 : Int32) + 24 = Int32.ofNat 24 := by decide
        rw [z24]
        rintro (y | y | y | y)
        · exact n_neg (by omega) y
        · have := (n_le (by omega) (by omega)).mp y
          omega
        · exact n_neg (by omega) y
        · have := (n_le (by omega) (by omega)).mp y
          omega
      · rw [hd141 d2 d4 (by rw [F_sF, if_neg (by decide)]; exact e13) hx hy, if_neg (fun z => z rfl)]
    · -- a box
      refine byPx (bxV a b c d w) (bxV a b c d w) (by decide) (by decide) (by decide) ?_ (fun k hk => ⟨rfl, bxV_r⟩) (fun S _ e13 e14 => ⟨hd39 (by decide), fun F y x hy hx => ?_⟩)
      · unfold fX11_select
        rw [ob8, ob_n, ns, tc_rn, if_neg (by decide), if_pos rfl, f8_7, ob_n, ob_n, ob89, ob_n, box0 d2 d4 d7 d8, ob_n]
      · have dm := md (w := w) (x := x) (y := y) hx
        have ev : bxV a b c d w (y * w + x) = if (Int32.ofNat x < a) ∨ (((a + c) ≤ Int32.ofNat x) ∨ ((Int32.ofNat y < b) ∨ ((b + d) ≤ Int32.ofNat y))) then (0 : Int32) else (255 : Int32) := by
          unfold bxV
          rw [dm.1, dm.2]
        rw [hd141 d2 d4 (by rw [F_sF, if_neg (by decide)]; exact e13) hx hy, if_pos (by decide), if_neg (fun z => z rfl), ev]
    · -- an ellipse
      unfold okS at oks
      rw [if_neg (by decide), if_pos (by decide)] at oks
      obtain ⟨o1, o2⟩ := Bool.and_eq_true_iff.mp oks
      obtain ⟨o2, o3⟩ := Bool.and_eq_true_iff.mp o2
      obtain ⟨o3, o4⟩ := Bool.and_eq_true_iff.mp o3
      refine byPx (elV a b c d w) (elV a b c d w) (by decide) (by decide) (by decide) ?_ (fun k hk => ⟨rfl, elV_r⟩) (fun S _ e13 e14 => ⟨hd39 (by decide), fun F y x hy hx => ?_⟩)
      · unfold fX11_select
        rw [ob8, ob_n, ns, tc_rn, if_neg (by decide), if_neg (by decide), if_pos rfl, f8_7, ob_n, ob_n, ob89, ob_n, ell0 d2 d4 d7 d8, ob_n]
      · have dm := md (w := w) (x := x) (y := y) hx
        have ev : elV a b c d w (y * w + x) = if c ≤ 0 ∨ d ≤ 0 then 0 else (255 * Int32.ofNat (psV (elB a b c d (Int32.ofNat x) (Int32.ofNat y)) 0 0 4) + 8) / 16 := by
          unfold elV
          rw [dm.1, dm.2]
        rw [hd141 d2 d4 (by rw [F_sF, if_neg (by decide)]; exact e13) hx hy, if_pos (by decide), if_pos (by decide), if_neg (fun z => z rfl), ell12 (by omega) (by omega) o1 o2 o3 o4, ob_n, ev]
    · -- the wand
      unfold okS at oks
      rw [if_pos (by decide)] at oks
      obtain ⟨x, y, rfl, rfl, hx, hy⟩ := plc_n (Bool.and_eq_true_iff.mp oks).1
      obtain ⟨s1, sz, od, o, hk, c1, c2, c3, c4, c5, c6⟩ := seen11 hR h7 h8 f9
      have e89 : ∀ j, s1.1 89 j = s.1 89 j := fun j => c3.2.2.1 _ _ (by omega) (by omega)
      obtain ⟨M, Q, wd, we⟩ := wand0 (s := s1) (g := g) (w := w) (h := h) (x := x) (y := y) (c := c) d2 d4 (by rw [e89]; exact d7) (by rw [e89]; exact d8) hx hy
      have smT : Sm s1 (sA (sA s1 91 M) 92 Q) := sm_A (sm_A sm_rf (by decide)) (by decide)
      have h71 : G7 s1 w h := by
        unfold G7 at h7 ⊢
        rw [c3.2.2.1 139 13 (by decide) (by decide), c3.2.2.1 139 14 (by decide) (by decide), e89, e89, c3.2.2.2 90 (by decide), c3.2.2.2 155 (by decide)]
        exact h7
      have t91 : (sA (sA s1 91 M) 92 Q).2.1 91 = M := by rw [A_sA, if_neg (by decide), A_sA, if_pos rfl]
      have e3 : s1.2.2.1 8 0 = some q := by rw [c3.2.1 8 (by omega)]; exact f3
      have ck := cpOk_s c5 smT
      have tF : (sA (sA s1 91 M) 92 Q).1 = s1.1 := by rw [F_sA, F_sA]
      generalize sA (sA s1 91 M) 92 Q = T at wd smT t91 ck tF
      refine sel_fin (way := way) (T := T) (V := M) (rel_sm c4 smT) (g7_sm h71 smT) ?_ (fun k hk => ⟨by rw [t91], ?_⟩) (fun S sA' sF' sR' => ?_)
      · unfold fX11_select
        rw [ob8, ob_n, ns, tc_rn, if_neg (by decide), if_neg (by decide), if_neg (by decide), if_pos rfl, f8_7, ob_n, ob_n, f8_6, ob_n, ob_n, f8_0, f3, ob_n, ob_n, ob20, ob_n, c1, b2_n, ob_n, ob89, ob_n, wd, ob_n]
      · rcases (we k hk).1 with z | z <;> rw [z] <;> decide
      · have e13 : S.1 139 13 = Int32.ofNat w := by rw [sF', tF, c3.2.2.1 139 13 (by decide) (by decide)]; exact d5
        have e14 : S.1 139 14 = Int32.ofNat h := by rw [sF', tF, c3.2.2.1 139 14 (by decide) (by decide)]; exact d6
        have cS := cpOk_w (s' := sF S 139 0 0) ck.1 (fun j hj => by
          have : ∀ j, j ∈ [142, 150, 152, 153, 154] → ¬ j = 90 := by decide
          rw [A_sF, sA' j (this j hj)]) (fun j hj => by
          have : ∀ j, j ∈ [13, 14, 25, 26] → ¬ j = 0 := by decide
          rw [F_sF, if_neg (fun z => this j hj z.2), sF'])
        obtain ⟨F, E, TT, U, M', Q', r1, r2, r3, r4⟩ := wandR (g := g) (c := c) (sp := 1) cS.1 hx hy
        have F86 : ∀ k, k < w * h → F k = s1.2.1 86 k := fun k hk => by rw [r2 k hk, cS.2, ck.2, c2 k hk, c6 k hk]
        have hlt := at_lt hx hy
        have eM : ∀ k, k < w * h → M' k = M k := by
          have := r3 (by decide)
          have nb : ∀ k j m, nbr w h k j = some m → lkB (F m) (F (y * w + x)) c = lkB (s1.2.1 86 m) (s1.2.1 86 (y * w + x)) c := fun k j m hm => by rw [F86 m (nbr_lt hm), F86 _ hlt]
          have cvt : ∀ k, RS w h (fun m => lkB (F m) (F (y * w + x)) c) (y * w + x) k ↔ RS w h (fun m => lkB (s1.2.1 86 m) (s1.2.1 86 (y * w + x)) c) (y * w + x) k := fun k => ⟨fun r S' i1 i2 => r S' i1 (fun k j m a1 a2 a3 a4 => i2 k j m a1 a2 a3 (by dsimp only; rw [← nb k j m a3]; exact a4)), fun r S' i1 i2 => r S' i1 (fun k j m a1 a2 a3 a4 => i2 k j m a1 a2 a3 (by dsimp only; rw [nb k j m a3]; exact a4))⟩
          exact WE_q (fun k hk => ⟨(this k hk).1, (this k hk).2.trans (cvt k)⟩) we
        have zA : ∀ j, ¬ j = 145 → ¬ j = 146 → ¬ j = 147 → ¬ j = 151 → ¬ j = 156 → ¬ j = 157 → (sA (sA (cs (sF S 139 0 0) F E TT U) 156 M') 157 Q').2.1 j = S.2.1 j := fun j j1 j2 j3 j4 j5 j6 => by
          rw [A_sA, if_neg j6, A_sA, if_neg j5, cs_A ⟨j1, j2, j3, j4⟩, A_sF]
        have z156 : (sA (sA (cs (sF S 139 0 0) F E TT U) 156 M') 157 Q').2.1 156 = M' := by rw [A_sA, if_neg (by decide), A_sA, if_pos rfl]
        have zF : (sA (sA (cs (sF S 139 0 0) F E TT U) 156 M') 157 Q').1 = (sF S 139 0 0).1 := by rw [F_sA, F_sA, cs_F]
        have zL : (sA (sA (cs (sF S 139 0 0) F E TT U) 156 M') 157 Q').2.2.2 = S.2.2.2 := by unfold cs; simp (decide := true) only [ob_n, b2_n, tc_rn, tc_ln, F_sF, A_sF, R_sF, L_sF, F_sA, A_sA, R_sA, L_sA, F_sR, A_sR, R_sR, L_sR, F_sL, A_sL, R_sL, L_sL, and_true, true_and, and_false, false_and, and_self, reduceIte, sF_sF, sA_sA, false_or, or_false, true_or, or_true, not_false_eq_true, not_true_eq_false, decide_true, decide_false, Bool.true_or, Bool.or_true, Bool.false_and, Bool.true_and, Bool.false_or, Bool.or_false, Bool.and_true, Bool.and_false]
        have zS : Sm S (sA (sA (cs (sF S 139 0 0) F E TT U) 156 M') 157 Q') := sm_A (sm_A (sm_tr (sm_F sm_rf (by decide)) sm_cs) (by decide)) (by decide)
        generalize sA (sA (cs (sF S 139 0 0) F E TT U) 156 M') 157 Q' = Z at r1 zA z156 zF zL zS
        have jn := join12 (s := Z) (g := g) (wh := 3) (way := way) (a := Int32.ofNat x) (b := Int32.ofNat y) (c := c) (d := d) (V := M') d2 d4 (by rw [zF, F_sF, if_neg (by decide)]; exact e13) (by rw [zF, F_sF, if_neg (by decide)]; exact e14) (fun F' y' x' hy' hx' => by
          rw [hd141 d2 d4 (by rw [zF, F_sF, if_neg (by decide)]; exact e13) hx' hy', if_pos (by decide), if_pos (by decide), if_pos (by decide), if_pos (by decide), z156])
        rw [zA 155 (by decide) (by decide) (by decide) (by decide) (by decide) (by decide), sA' 155 (by decide), jnR_v eM] at jn
        refine ⟨Z, ?_, zS, by rw [zF, F_sF, if_pos ⟨rfl, rfl⟩], zL⟩
        show fX12_select (e_g S g) 139 3 way (Int32.ofNat x) (Int32.ofNat y) c d = _
        rw [hS S e13 e14, hd39 (by decide)]
        unfold jX12_select_70 jX12_select_111
        rw [w139_0, ob_n, f139_0, F_sF, if_pos ⟨rfl, rfl⟩, ob_n, if_pos (by decide), if_neg (by decide), ob139, ob_n, if_neg (by decide), r1, ob_n, if_pos (by decide), jn]
    · -- who is like a pixel
      unfold okS at oks
      rw [if_pos (by decide)] at oks
      obtain ⟨x, y, rfl, rfl, hx, hy⟩ := plc_n (Bool.and_eq_true_iff.mp oks).1
      obtain ⟨s1, sz, od, o, hk, c1, c2, c3, c4, c5, c6⟩ := seen11 hR h7 h8 f9
      have e89 : ∀ j, s1.1 89 j = s.1 89 j := fun j => c3.2.2.1 _ _ (by omega) (by omega)
      have wd := alike0 (s := s1) (g := g) (w := w) (h := h) (x := x) (y := y) (c := c) d2 d4 (by rw [e89]; exact d7) (by rw [e89]; exact d8) hx hy
      generalize hM : cpT (s1.2.1 91) (akV (s1.2.1 86) (s1.2.1 86 (y * w + x)) c) 0 (w * h) = M at wd
      have we : ∀ k, k < w * h → M k = akV (s1.2.1 86) (s1.2.1 86 (y * w + x)) c k := fun k hk => by
        have := cpT_in (A := s1.2.1 91) (N := akV (s1.2.1 86) (s1.2.1 86 (y * w + x)) c) (b := 0) hk
        rw [Nat.zero_add, hM] at this
        exact this
      have smT : Sm s1 (sA s1 91 M) := sm_A sm_rf (by decide)
      have h71 : G7 s1 w h := by
        unfold G7 at h7 ⊢
        rw [c3.2.2.1 139 13 (by decide) (by decide), c3.2.2.1 139 14 (by decide) (by decide), e89, e89, c3.2.2.2 90 (by decide), c3.2.2.2 155 (by decide)]
        exact h7
      have t91 : (sA s1 91 M).2.1 91 = M := by rw [A_sA, if_pos rfl]
      have e3 : s1.2.2.1 8 0 = some q := by rw [c3.2.1 8 (by omega)]; exact f3
      have ck := cpOk_s c5 smT
      have tF : (sA s1 91 M).1 = s1.1 := by rw [F_sA]
      generalize sA s1 91 M = T at wd smT t91 ck tF
      refine sel_fin (way := way) (T := T) (V := M) (rel_sm c4 smT) (g7_sm h71 smT) ?_ (fun k hk => ⟨by rw [t91], ?_⟩) (fun S sA' sF' sR' => ?_)
      · unfold fX11_select
        rw [ob8, ob_n, ns, tc_rn, if_neg (by decide), if_neg (by decide), if_neg (by decide), if_neg (by decide), if_pos rfl, f8_7, ob_n, ob_n, f8_6, ob_n, ob_n, f8_0, f3, ob_n, ob_n, ob20, ob_n, c1, b2_n, ob_n, ob89, ob_n, wd, ob_n]
      · rw [we k hk]; unfold akV; split <;> decide
      · have e13 : S.1 139 13 = Int32.ofNat w := by rw [sF', tF, c3.2.2.1 139 13 (by decide) (by decide)]; exact d5
        have e14 : S.1 139 14 = Int32.ofNat h := by rw [sF', tF, c3.2.2.1 139 14 (by decide) (by decide)]; exact d6
        have cS := cpOk_w (s' := sF S 139 0 0) ck.1 (fun j hj => by
          have : ∀ j, j ∈ [142, 150, 152, 153, 154] → ¬ j = 90 := by decide
          rw [A_sF, sA' j (this j hj)]) (fun j hj => by
          have : ∀ j, j ∈ [13, 14, 25, 26] → ¬ j = 0 := by decide
          rw [F_sF, if_neg (fun z => this j hj z.2), sF'])
        obtain ⟨F, E, TT, U, M', Q', r1, r2, r3, r4⟩ := wandR (g := g) (c := c) (sp := 0) cS.1 hx hy
        have F86 : ∀ k, k < w * h → F k = s1.2.1 86 k := fun k hk => by rw [r2 k hk, cS.2, ck.2, c2 k hk, c6 k hk]
        have hlt := at_lt hx hy
        have eM : ∀ k, k < w * h → M' k = M k := fun k hk => by
          rw [r4 rfl k hk, we k hk]
          unfold akV
          rw [F86 k hk, F86 _ hlt]
        have zA : ∀ j, ¬ j = 145 → ¬ j = 146 → ¬ j = 147 → ¬ j = 151 → ¬ j = 156 → ¬ j = 157 → (sA (sA (cs (sF S 139 0 0) F E TT U) 156 M') 157 Q').2.1 j = S.2.1 j := fun j j1 j2 j3 j4 j5 j6 => by
          rw [A_sA, if_neg j6, A_sA, if_neg j5, cs_A ⟨j1, j2, j3, j4⟩, A_sF]
        have z156 : (sA (sA (cs (sF S 139 0 0) F E TT U) 156 M') 157 Q').2.1 156 = M' := by rw [A_sA, if_neg (by decide), A_sA, if_pos rfl]
        have zF : (sA (sA (cs (sF S 139 0 0) F E TT U) 156 M') 157 Q').1 = (sF S 139 0 0).1 := by rw [F_sA, F_sA, cs_F]
        have zL : (sA (sA (cs (sF S 139 0 0) F E TT U) 156 M') 157 Q').2.2.2 = S.2.2.2 := by unfold cs; simp (decide := true) only [ob_n, b2_n, tc_rn, tc_ln, F_sF, A_sF, R_sF, L_sF, F_sA, A_sA, R_sA, L_sA, F_sR, A_sR, R_sR, L_sR, F_sL, A_sL, R_sL, L_sL, and_true, true_and, and_false, false_and, and_self, reduceIte, sF_sF, sA_sA, false_or, or_false, true_or, or_true, not_false_eq_true, not_true_eq_false, decide_true, decide_false, Bool.true_or, Bool.or_true, Bool.false_and, Bool.true_and, Bool.false_or, Bool.or_false, Bool.and_true, Bool.and_false]
        have zS : Sm S (sA (sA (cs (sF S 139 0 0) F E TT U) 156 M') 157 Q') := sm_A (sm_A (sm_tr (sm_F sm_rf (by decide)) sm_cs) (by decide)) (by decide)
        generalize sA (sA (cs (sF S 139 0 0) F E TT U) 156 M') 157 Q' = Z at r1 zA z156 zF zL zS
        have jn := join12 (s := Z) (g := g) (wh := 4) (way := way) (a := Int32.ofNat x) (b := Int32.ofNat y) (c := c) (d := d) (V := M') d2 d4 (by rw [zF, F_sF, if_neg (by decide)]; exact e13) (by rw [zF, F_sF, if_neg (by decide)]; exact e14) (fun F' y' x' hy' hx' => by
          rw [hd141 d2 d4 (by rw [zF, F_sF, if_neg (by decide)]; exact e13) hx' hy', if_pos (by decide), if_pos (by decide), if_pos (by decide), if_pos (by decide), z156])
        rw [zA 155 (by decide) (by decide) (by decide) (by decide) (by decide) (by decide), sA' 155 (by decide), jnR_v eM] at jn
        refine ⟨Z, ?_, zS, by rw [zF, F_sF, if_pos ⟨rfl, rfl⟩], zL⟩
        show fX12_select (e_g S g) 139 4 way (Int32.ofNat x) (Int32.ofNat y) c d = _
        rw [hS S e13 e14, hd39 (by decide)]
        unfold jX12_select_70 jX12_select_111
        rw [w139_0, ob_n, f139_0, F_sF, if_pos ⟨rfl, rfl⟩, ob_n, if_pos (by decide), if_neg (by decide), ob139, ob_n, if_pos (by decide), r1, ob_n, if_pos (by decide), jn]
    · -- the alphas of a LAYER
      have sel : ∀ l b', a = Int32.ofNat l → l < 30 → s.2.1 142 (1169 * l) = 1 → LyN g b' w h l (lR (s.2.1 142) l) → s.2.1 142 (1169 * l + 1) = 0 → fX11_known (e_g s g) 8 a = some (.inr (some b'), e_g s g) → KI (fL_select (e_g s g) 8 5 way a b c d 194) (fun G => fX12_select G 139 5 way a b c d) g := by
        intro l b' ea hl k3 hLy k4 k2
        subst ea
        obtain ⟨-, -, fK, -⟩ := ly_f hLy s
        refine byPx (alV w h (pxN (s.2.1 142) l) (s.2.1 142 (1169 * l + 8)) (s.2.1 142 (1169 * l + 9))) (alV w h (pxN (s.2.1 142) l) (s.2.1 142 (1169 * l + 8)) (s.2.1 142 (1169 * l + 9))) (by decide) (by decide) (by decide) ?_ (fun k hk => ⟨rfl, al_r⟩) (fun S e142 e13 e14 => ⟨?_, fun F y x hy hx => ?_⟩)
        · have fK0 : q_fI 4 1 (e_g s g) b' = some 0 := by rw [fK]; exact congrArg some k4
          unfold fX11_select fX11_selectable
          rw [ob8, ob_n, ns, tc_rn, if_neg (by decide), if_neg (by decide), if_neg (by decide), if_neg (by decide), if_neg (by decide), if_pos rfl, f8_7, ob_n, ob_n, ob8, ob_n, ob_n, k2, tc_rn, ob_n, fK0, ob_n, if_pos rfl, tc_rn, ob_n, ob89, ob_n, alphas0 d2 d4 d7 d8 hLy k4, ob_n]
        · have is := isG12 (s := S) (g := g) (l := l) (K := 0) hl
          rw [e142, if_pos ⟨k3, k4⟩] at is
          unfold jX12_select_39 jX12_select_69
          rw [if_pos rfl, if_neg (fun z => z rfl), ob139, ob_n, is, ob_n, if_pos (by decide)]
        · have dm := md (w := w) (x := x) (y := y) hx
          have eA : (sA (sF S 139 0 0) 155 F).2.1 142 = s.2.1 142 := by rw [A_sA, if_neg (by decide), A_sF]; exact e142
          have g8 : fX12_get (e_g (sA (sF S 139 0 0) 155 F) g) 139 (Int32.ofNat l) 8 = some (s.2.1 142 (1169 * l + 8)) := by
            have := get12 (s := sA (sF S 139 0 0) 155 F) (g := g) (n := 8) hl (by omega)
            rw [eA] at this
            exact this
          have g9 : fX12_get (e_g (sA (sF S 139 0 0) 155 F) g) 139 (Int32.ofNat l) 9 = some (s.2.1 142 (1169 * l + 9)) := by
            have := get12 (s := sA (sF S 139 0 0) 155 F) (g := g) (n := 9) hl (by omega)
            rw [eA] at this
            exact this
          have ow := own12 (s := sA (sF S 139 0 0) 155 F) (g := g) (l := l) (x := Int32.ofNat x - s.2.1 142 (1169 * l + 8)) (y := Int32.ofNat y - s.2.1 142 (1169 * l + 9)) hl d2 d4 (by rw [F_sA, F_sF, if_neg (by decide)]; exact e13) (by rw [F_sA, F_sF, if_neg (by decide)]; exact e14)
          rw [eA] at ow
          have ev : alV w h (pxN (s.2.1 142) l) (s.2.1 142 (1169 * l + 8)) (s.2.1 142 (1169 * l + 9)) (y * w + x) = q_ush (bAt w h (fun i => lR (s.2.1 142) l (17 + i)) (Int32.ofNat x - s.2.1 142 (1169 * l + 8)) (Int32.ofNat y - s.2.1 142 (1169 * l + 9))) 24 := by
            unfold alV
            rw [dm.1, dm.2]
            rfl
          rw [hd141 d2 d4 (by rw [F_sF, if_neg (by decide)]; exact e13) hx hy, if_pos (by decide), if_pos (by decide), if_pos (by decide), if_neg (fun z => z rfl), ob139, ob_n, g8, ob_n, ob_n, g9, ob_n, ob_n, ow, ob_n, ev]
          rfl
      have e3 : ps_nw (e_g s g) 6 ps_e0 = e_g s (nx g) := e_nw hg
      have no : fX12_is (e_g s (nx g)) 139 a 0 = some 0 → fX11_selectable (e_g s g) 8 a = some (.inl "java/util/NoSuchElementException", e_g s (nx g)) → KI (fL_select (e_g s g) 8 5 way a b c d 194) (fun G => fX12_select G 139 5 way a b c d) g := fun is sl => by
        refine KI_no (E := "java/util/NoSuchElementException") (y := 2) (b := 0) hR ?_ (by decide +kernel) (by decide) ?_
        · unfold fX11_select
          rw [ob8, ob_n, ns, tc_rn, if_neg (by decide), if_neg (by decide), if_neg (by decide), if_neg (by decide), if_neg (by decide), if_pos rfl, f8_7, ob_n, ob_n, ob8, ob_n, sl, tc_ln]
        · show fX12_select (e_g s (nx g)) 139 5 way a b c d = _
          rw [selH d2 d4 d5 d6, if_pos ok]
          unfold jX12_select_39 jX12_select_70
          rw [if_pos rfl, if_neg (fun z => z rfl), ob139, ob_n, is, ob_n, if_neg (fun z => z rfl), w139_0, ob_n, f139_0, F_sF, if_pos ⟨rfl, rfl⟩, ob_n, if_neg (by decide)]
      have b0 : q_bl 0 = some 0 := rfl
      rcases known11 (x := a) hg f3 f9 with ⟨k1, k2⟩ | ⟨l, b', ea, hl, k1, k3, k2, hLy⟩
      · refine no ?_ ?_
        · unfold fX12_is jX12_is_22 jX12_is_23
          rw [ob139, ob_n, isLayer12, k1, ob_n, if_pos (by decide), b0, ob_n]
        · unfold fX11_selectable
          rw [ob8, ob_n, k2, tc_ln]
      · by_cases k4 : s.2.1 142 (1169 * l + 1) = 0
        · exact sel l b' ea hl k3 hLy k4 k2
        · obtain ⟨-, -, fK, -⟩ := ly_f hLy s
          refine no ?_ ?_
          · rw [ea, isG12 hl, if_neg (fun z => k4 z.2)]
          · unfold fX11_selectable
            rw [ob8, ob_n, k2, tc_rn, ob_n, fK, ob_n, if_neg (show ¬ lR (s.2.1 142) l 1 = 0 from k4), e3]
    · -- what a PATH covers
      unfold okS at oks
      rw [if_neg (by decide), if_neg (by decide), if_pos rfl] at oks
      obtain ⟨o1, o2⟩ := Bool.and_eq_true_iff.mp oks
      obtain ⟨o2, o3⟩ := Bool.and_eq_true_iff.mp o2
      obtain ⟨p, rfl, hp⟩ : ∃ p : Nat, a = Int32.ofNat p ∧ p < 8 := by
        have z := rg_i.mp o1
        have z1 : 0 ≤ a.toInt := z.1
        have z2 : a.toInt ≤ 7 := z.2
        exact ⟨a.toInt.toNat, n_of (by omega), by omega⟩
      obtain ⟨g6a, n, hn, g6b, g6c⟩ := h6.1 p hp
      have bX : ∀ i, i < n → Bd (s.2.1 165 (40 * p + i) + 0) := fun i hi => by
        rw [Int32.add_zero]
        exact Nat.le_trans (bd2000 (g6c i hi).2.2.2.2.1) (by omega)
      have bY : ∀ i, i < n → Bd (s.2.1 166 (40 * p + i) + 0) := fun i hi => by
        rw [Int32.add_zero]
        exact Nat.le_trans (bd2000 (g6c i hi).2.2.2.2.2) (by omega)
      obtain ⟨t, tr, tok, le, lb, cE⟩ := trace6' (s := s) (g := g) (p := p) (n := n) (dx := 0) (dy := 0) (K := fun i => s.2.1 164 (40 * p + i)) (X := fun i => s.2.1 165 (40 * p + i)) (Y := fun i => s.2.1 166 (40 * p + i)) hp hn (by rw [g6a]; exact g6b) (fun i hi => (g6c i hi).1) (fun i hi => (g6c i hi).2.1) (fun i hi => (g6c i hi).2.2.1) bX bY
      generalize hlt : lnT (fun i => s.2.1 164 (40 * p + i)) (fun i => s.2.1 165 (40 * p + i)) (fun i => s.2.1 166 (40 * p + i)) 0 0 n = tt at cE
      have la := lw_all (f1 := s.2.1 105) (f2 := s.2.1 106) (f3 := s.2.1 107) (f4 := s.2.1 108) tok
      obtain ⟨TT, C, ms, mc⟩ := measure6 (s := tC s t) (g := g) (n := t.ax.length) (w := w) (h := h) (rule := b) le d2 d4 tC_F.1 (fun k hk => by
        rw [tC_105.1, tC_105.2.1, tC_105.2.2.1, tC_105.2.2.2, (la k hk).1, (la k hk).2.1, (la k hk).2.2.1, (la k hk).2.2.2]
        exact lb k hk)
      rw [tC_105.1, tC_105.2.1, tC_105.2.2.1, tC_105.2.2.2, inV_c la] at mc
      have sm1 := sm_tC (s := s) (t := t) (T := TT) (C := C)
      have z110 : (sA (sA (tC s t) 109 TT) 110 C).2.1 110 = C := by rw [A_sA, if_pos rfl]
      have zFc : ∀ i j, ¬ i = 98 → (sA (sA (tC s t) 109 TT) 110 C).1 i j = s.1 i j := fun i j hi => by
        unfold tC
        rw [F_sA, F_sA, F_sF, if_neg (fun z => hi z.1), F_sF, if_neg (fun z => hi z.1), F_sF, if_neg (fun z => hi z.1), F_sA, F_sA, F_sA, F_sA]
      have zAc : ∀ j, 111 ≤ j → (sA (sA (tC s t) 109 TT) 110 C).2.1 j = s.2.1 j := fun j hj => by
        rw [A_sA, if_neg (by omega), A_sA, if_neg (by omega), tC_A (by omega)]
      have z0 : (tC s t).2.2.1 8 0 = some q := by unfold tC; simp (decide := true) only [ob_n, b2_n, tc_rn, tc_ln, F_sF, A_sF, R_sF, L_sF, F_sA, A_sA, R_sA, L_sA, F_sR, A_sR, R_sR, L_sR, F_sL, A_sL, R_sL, L_sL, and_true, true_and, and_false, false_and, and_self, reduceIte, sF_sF, sA_sA, false_or, or_false, true_or, or_true, not_false_eq_true, not_true_eq_false, decide_true, decide_false, Bool.true_or, Bool.or_true, Bool.false_and, Bool.true_and, Bool.false_or, Bool.or_false, Bool.and_true, Bool.and_false]; exact f3
      obtain ⟨w0, w1, -, -⟩ := stW (s := tC s t) f9
      generalize sA (sA (tC s t) 109 TT) 110 C = S1 at ms sm1 z110 zFc zAc
      have cv0 := covered0 (s := S1) (g := g) d2 d4 (by rw [zFc _ _ (by decide)]; exact d7) (by rw [zFc _ _ (by decide)]; exact d8)
      rw [z110] at cv0
      have smT : Sm s (sA S1 91 (cpT (S1.2.1 91) C 0 (w * h))) := sm_A sm1 (by decide)
      have t91 : ∀ k, k < w * h → (sA S1 91 (cpT (S1.2.1 91) C 0 (w * h))).2.1 91 k = cvT b tt w k ∧ rg (cvT b tt w k) 0 255 := fun k hk => by
        have := cpT_in (A := S1.2.1 91) (N := C) (b := 0) hk
        rw [Nat.zero_add] at this
        have mo := Nat.mod_lt k (show 0 < w by omega)
        have dv : k / w < h := Nat.div_lt_of_lt_mul (by omega)
        have ix : k / w * w + k % w = k := by rw [Nat.mul_comm]; exact Nat.div_add_mod k w
        have mcv := mc (k / w) (k % w) dv mo
        rw [ix] at mcv
        rw [A_sA, if_pos rfl, this, ← cE, mcv]
        exact ⟨rfl, by rw [cE]; exact cvT_r⟩
      have tA : ∀ j, 111 ≤ j → (sA S1 91 (cpT (S1.2.1 91) C 0 (w * h))).2.1 j = s.2.1 j := fun j hj => by rw [A_sA, if_neg (by omega), zAc j hj]
      have tF : ∀ j, (sA S1 91 (cpT (S1.2.1 91) C 0 (w * h))).1 139 j = s.1 139 j := fun j => by rw [F_sA, zFc _ _ (by decide)]
      generalize sA S1 91 (cpT (S1.2.1 91) C 0 (w * h)) = T at cv0 smT t91 tA tF
      refine sel_fin (way := way) (T := T) (V := cvT b tt w) (rel_sm hR smT) (g7_sm h7 smT) ?_ t91 (fun S sA' sF' sR' => ?_)
      · unfold fX11_select
        rw [ob8, ob_n, ns, tc_rn, if_neg (by decide), if_neg (by decide), if_neg (by decide), if_neg (by decide), if_neg (by decide), if_neg (by decide), f8_9, ob_n, ob_n, ob98, ob_n, tr, ob_n, f8_9, ob_n, ob_n, f8_0, z0, ob_n, ob_n, w0, ob_n, ob_n, ob_n, w1, ob_n, ob98, ob_n, ms, ob_n, f8_7, ob_n, ob_n, f8_9, ob_n, ob_n, f98_14, ob_n, ob_n, ob89, ob_n, cv0, ob_n]
      · have e13 : S.1 139 13 = Int32.ofNat w := by rw [sF', tF]; exact d5
        have e14 : S.1 139 14 = Int32.ofNat h := by rw [sF', tF]; exact d6
        have eA : ∀ j, 111 ≤ j → (sF S 139 0 0).2.1 j = s.2.1 j := fun j hj => by rw [A_sF, sA' j (by omega), tA j hj]
        obtain ⟨F', shp, cv⟩ := shape12 (s := sF S 139 0 0) (g := g) (p := p) (n := n) (w := w) (h := h) (rule := b) (dx := 0) (dy := 0) (K := fun i => s.2.1 164 (40 * p + i)) (X := fun i => s.2.1 165 (40 * p + i)) (Y := fun i => s.2.1 166 (40 * p + i)) hp hn d2 d4 (by rw [F_sF, if_neg (by decide)]; exact e13) (by rw [F_sF, if_neg (by decide)]; exact e14) (by rw [eA _ (by decide)]; exact g6b) (fun i hi => by rw [eA _ (by decide)]) (fun i hi => (g6c i hi).2.2.2.1) (fun i hi => by rw [eA _ (by decide)]) (fun i hi => by rw [eA _ (by decide)]) bX bY
        rw [hlt] at shp cv
        have zS : Sm S (sA (tM (sF S 139 0 0) tt) 156 F') := sm_tM (sm_F sm_rf (by decide))
        have z155 : (sA (tM (sF S 139 0 0) tt) 156 F').2.1 155 = S.2.1 155 := by rw [A_sA, if_neg (by decide), tM_A (by decide), A_sF]
        have z156 : (sA (tM (sF S 139 0 0) tt) 156 F').2.1 156 = F' := by rw [A_sA, if_pos rfl]
        have zF : ∀ j, ¬ j = 52 → (sA (tM (sF S 139 0 0) tt) 156 F').1 139 j = (sF S 139 0 0).1 139 j := fun j hj => by
          rw [F_sA]
          unfold tM
          rw [F_sF, if_neg (fun z => hj z.2), F_sA, F_sA, F_sA, F_sA]
        have zL : (sA (tM (sF S 139 0 0) tt) 156 F').2.2.2 = S.2.2.2 := by unfold tM; simp (decide := true) only [ob_n, b2_n, tc_rn, tc_ln, F_sF, A_sF, R_sF, L_sF, F_sA, A_sA, R_sA, L_sA, F_sR, A_sR, R_sR, L_sR, F_sL, A_sL, R_sL, L_sL, and_true, true_and, and_false, false_and, and_self, reduceIte, sF_sF, sA_sA, false_or, or_false, true_or, or_true, not_false_eq_true, not_true_eq_false, decide_true, decide_false, Bool.true_or, Bool.or_true, Bool.false_and, Bool.true_and, Bool.false_or, Bool.or_false, Bool.and_true, Bool.and_false]
        generalize sA (tM (sF S 139 0 0) tt) 156 F' = Z at shp zS z155 z156 zF zL
        have jn := join12 (s := Z) (g := g) (wh := 6) (way := way) (a := Int32.ofNat p) (b := b) (c := c) (d := d) (V := F') d2 d4 (by rw [zF _ (by decide), F_sF, if_neg (by decide)]; exact e13) (by rw [zF _ (by decide), F_sF, if_neg (by decide)]; exact e14) (fun F9 y' x' hy' hx' => by
          rw [hd141 d2 d4 (by rw [zF _ (by decide), F_sF, if_neg (by decide)]; exact e13) hx' hy', if_pos (by decide), if_pos (by decide), if_pos (by decide), if_pos (by decide), z156])
        rw [z155, sA' 155 (by decide), jnR_v cv] at jn
        refine ⟨Z, ?_, zS, by rw [zF _ (by decide), F_sF, if_pos ⟨rfl, rfl⟩], zL⟩
        show fX12_select (e_g S g) 139 6 way (Int32.ofNat p) b c d = _
        rw [hS S e13 e14, hd39 (by decide)]
        unfold jX12_select_70 jX12_select_111
        rw [w139_0, ob_n, f139_0, F_sF, if_pos ⟨rfl, rfl⟩, ob_n, if_pos (by decide), if_pos (by decide), if_neg (by decide), ob139, ob_n, shp, ob_n, jn]
  · refine KI_no (E := "java/lang/IllegalArgumentException") (y := 1) (b := 0) hR ?_ (by decide +kernel) (by decide) ?_
    · rw [if_neg ok] at ns
      unfold fX11_select
      rw [ob8, ob_n, ns, tc_ln]
    · show fX12_select (e_g s (nx g)) 139 sh way a b c d = _
      rw [selH d2 d4 d5 d6, if_neg ok]
