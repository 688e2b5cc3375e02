-- needs: 07 10 13 14 20 21 22 23 24 25 26 27 32 33 34 36 38 39 40 41 42 43 44 46 47 48 49 50 52 53 54 70 71 72 97h 97s 97t
theorem sL_sL {s : e_S} {j : Nat} {r r' : Nat → Int64} : sL (sL s j r) j r' = sL s j r' := by
  show (s.1, s.2.1, s.2.2.1, rs (rs s.2.2.2 j r) j r') = (s.1, s.2.1, s.2.2.1, rs s.2.2.2 j r')
  have : rs (rs s.2.2.2 j r) j r' = rs s.2.2.2 j r' := by
    funext k
    unfold rs
    split <;> rfl
  rw [this]
theorem updL_f {f φ : Nat → Int64} {n : Nat} : vp_updL (fun k => if k < n then φ k else f k) n (φ n) = fun k => if k < n + 1 then φ k else f k := by
  funext k
  unfold vp_updL
  by_cases h : k = n
  · rw [if_pos h, if_pos (by omega), h]
  · rw [if_neg h]
    dsimp only
    by_cases h2 : k < n
    · rw [if_pos h2, if_pos (by omega)]
    · rw [if_neg h2, if_neg (by omega)]
theorem byRow3 {s : e_S} {g : ps_G} {p j : Nat} {a b c : Int32} (hp : p < 4) (hj : j < 3) : fX3_byRow (e_g s g) 111 (Int32.ofNat p) (Int32.ofNat (3 * j)) a b c = some (q_shr (((s.2.1 112 (10 * p + 3 * j) * a) + (s.2.1 112 (10 * p + 3 * j + 1) * b)) + (s.2.1 112 (10 * p + 3 * j + 2) * c)) 10) := by
  have ix : Int32.ofNat p * 10 + Int32.ofNat (3 * j) = Int32.ofNat (10 * p + 3 * j) := by
    rw [show (10 : Int32) = Int32.ofNat 10 from rfl, n_mul, n_add, Nat.mul_comm p 10]
  have ix2 : Int32.ofNat (10 * p + 3 * j) + 2 = Int32.ofNat (10 * p + 3 * j + 2) := n_add (m := 2)
  unfold fX3_byRow
  rw [ix, ix2, n_suc, f111_0, ob_n, ob_n, rd112 (by omega), ob_n, ob_n, ob_n, rd112 (by omega), ob_n, ob_n, ob_n, rd112 (by omega), ob_n]
theorem translate3 {s : e_S} {g : ps_G} {p q n pa : Nat} {F f0 : Nat → Int32} (hg : 195 ≤ g.1) (hpa : e_fr pa) (hpa2 : pa < g.1) (hpc : g.2.2 pa = .inl (0, (576, .inl F))) (hp : p < 4) (hq : q < 4) (hs : rg (s.2.1 112 (10 * q + 9)) 0 2) (hd : ¬ dtF (s.2.1 112) q 3 = 0) (hn : n ≤ 576) : ∃ I L, fX3_translate (e_g s (mkA g f0)) 111 pa g.1 (Int32.ofNat p) (Int32.ofNat q) (Int32.ofNat n) = some (e_g (sA (sL s 115 I) 114 L) (mkA g (cpT f0 (fun k => cvF (s.2.1 112) p q (F k) 3) 0 n))) := by
  have hcm : ¬ lg_cmp (dtF (s.2.1 112) q 3) 0 = 0 := fun z => hd ((lg_cmp_eq _ _).mp z)
  have l1 : q_lp (fun t => bX3_translate_19 111 pa g.1 (Int32.ofNat p) (Int32.ofNat q) (Int32.ofNat n) (dtF (s.2.1 112) q 3) t.1 t.2) ((0 : Int32), e_g s (mkA g f0)) = some (e_g (sL s 115 (fun k => if k < 9 then cofV (s.2.1 112) q (k % 3) (k / 3) else s.2.2.2 115 k)) (mkA g f0)) := by
    refine lp_0 (fun i => (Int32.ofNat i, e_g (sL s 115 (fun k => if k < i then cofV (s.2.1 112) q (k % 3) (k / 3) else s.2.2.2 115 k)) (mkA g f0))) 9 ?_ (fun i hi => ?_) ?_
    · have : (fun k => if k < 0 then cofV (s.2.1 112) q (k % 3) (k / 3) else s.2.2.2 115 k) = s.2.2.2 115 := by
        funext k
        rw [if_neg (by omega)]
      rw [this]
      have : sL s 115 (s.2.2.2 115) = s := by
        show (s.1, s.2.1, s.2.2.1, rs s.2.2.2 115 (s.2.2.2 115)) = s
        rw [rs_id]
      rw [this]; rfl
    · have cf := cof3 (s := sL s 115 (fun k => if k < i then cofV (s.2.1 112) q (k % 3) (k / 3) else s.2.2.2 115 k)) (g := mkA g f0) (p := q) (i := i % 3) (j := i / 3) hq (Nat.mod_lt _ (by omega)) (by omega)
      rw [A_sL] at cf
      show bX3_translate_19 _ _ _ _ _ _ _ _ _ = _
      unfold bX3_translate_19
      dsimp only
      rw [if_neg (show ¬ (9 : Int32) ≤ Int32.ofNat _ from nle (b := 9) hi (by omega)), f111_3, ob_n, ob_n, ob111, ob_n, show (3 : Int32) = Int32.ofNat 3 from rfl, n_rem (by omega) (by omega), n_div (by omega) (by omega), cf, ob_n, u115, n_idx (by omega), if_neg (n_in2 hi (by decide)), ob_n, n_suc, L_sL, if_pos rfl, updL_f, sL_sL]
    · show bX3_translate_19 _ _ _ _ _ _ _ _ _ = _
      unfold bX3_translate_19
      dsimp only
      rw [if_pos (by decide)]
  generalize hI : (fun k => if k < 9 then cofV (s.2.1 112) q (k % 3) (k / 3) else s.2.2.2 115 k) = I at l1
  have hIk : ∀ k j, k < 3 → j < 3 → I (3 * k + j) = cofV (s.2.1 112) q j k := fun k j hk hj => by
    rw [← hI]
    dsimp only
    rw [if_pos (by omega), show (3 * k + j) % 3 = j by omega, show (3 * k + j) / 3 = k by omega]
  have e112 : (sL s 115 I).2.1 112 = s.2.1 112 := by rw [A_sL]
  have i10 : ∀ x : Nat, Int32.ofNat x * 10 + 9 = Int32.ofNat (10 * x + 9) := fun x => by
    rw [show (10 : Int32) = Int32.ofNat 10 from rfl, show (9 : Int32) = Int32.ofNat 9 from rfl, n_mul, n_add, Nat.mul_comm x 10]
  have l2 := fillN (fun L => e_g (sA (sL s 115 I) 114 L) (mkA g f0)) 0 256 (fun c => fX3_level (s.2.1 112 (10 * q + 9)) (Int32.ofNat c)) ((sL s 115 I).2.1 114) (bO := fun t => bX3_translate_56 111 pa g.1 (Int32.ofNat p) (Int32.ofNat q) (Int32.ofNat n) (dtF (s.2.1 112) q 3) t.1 t.2) (fun L i hi _ => ?_) (fun L => ?_)
  · rw [sA_id] at l2
    generalize hL : cpT ((sL s 115 I).2.1 114) (fun c => fX3_level (s.2.1 112 (10 * q + 9)) (Int32.ofNat c)) 0 256 = L at l2
    have hLk : ∀ c, c < 256 → L c = fX3_level (s.2.1 112 (10 * q + 9)) (Int32.ofNat c) := fun c hc => by
      have := cpT_in (A := (sL s 115 I).2.1 114) (N := fun c => fX3_level (s.2.1 112 (10 * q + 9)) (Int32.ofNat c)) (b := 0) hc
      rw [Nat.zero_add, hL] at this
      exact this
    have z112 : (sA (sL s 115 I) 114 L).2.1 112 = s.2.1 112 := by rw [A_sA, if_neg (by decide), A_sL]
    have z114 : (sA (sL s 115 I) 114 L).2.1 114 = L := by rw [A_sA, if_pos rfl]
    have z115 : (sA (sL s 115 I) 114 L).2.2.2 115 = I := by rw [L_sA, L_sL, if_pos rfl]
    generalize hz : sA (sL s 115 I) 114 L = z at l2 z112 z114 z115
    refine ⟨I, L, ?_⟩
    rw [hz]
    -- one pixel
    have px : ∀ (G : ps_G) (c : Int32) (i : Nat), q_lp (fun t => bX3_translate_233 (e_g z G) 111 pa g.1 (Int32.ofNat p) (Int32.ofNat n) (dtF (s.2.1 112) q 3) (s.2.1 112 (10 * p + 9)) (Int32.ofNat i) (Int32.toInt64 (ltV (s.2.1 112) p c 0)) (Int32.toInt64 (ltV (s.2.1 112) p c 1)) (Int32.toInt64 (ltV (s.2.1 112) p c 2)) t.1 t.2) (c &&& -16777216, (0 : Int32)) = some (cvF (s.2.1 112) p q c 3) := by
      intro G c i
      refine lp_0 (fun k => (cvF (s.2.1 112) p q c k, Int32.ofNat k)) 3 rfl (fun k hk => ?_) ?_
      · have rl : ∀ j, j < 3 → q_aL (e_g z G) 115 (Int32.ofNat (3 * k + j)) = some (cofV (s.2.1 112) q j k) := fun j hj => by
          rw [a115, n_idx (by omega), if_neg (n_in2 (show 3 * k + j < 9 by omega) (by decide)), z115, hIk k j hk hj]
        have i3 : (3 : Int32) * Int32.ofNat k = Int32.ofNat (3 * k + 0) := n_mul (n := 3)
        have i31 : Int32.ofNat (3 * k + 0) + 1 = Int32.ofNat (3 * k + 1) := n_suc
        have i32 : Int32.ofNat (3 * k + 0) + 2 = Int32.ofNat (3 * k + 2) := n_add (m := 2)
        have nl := nearestLevel3 (s := z) (g := G) (a := s.2.1 112 (10 * q + 9)) (v := Int64.toInt32 (clV (cvL (s.2.1 112) p q c k * 1024 / dtF (s.2.1 112) q 3))) hs (by rw [z114]; exact hLk) (by rw [toI32 clV_b]; exact clV_b)
        rw [toI32 clV_b] at nl
        show bX3_translate_233 _ _ _ _ _ _ _ _ _ _ _ _ _ _ = _
        unfold bX3_translate_233
        dsimp only
        rw [if_neg (show ¬ (3 : Int32) ≤ Int32.ofNat _ from nle (b := 3) hk (by omega)), f111_3, ob_n, ob_n, i3, rl 0 (by omega), ob_n, ob_n, ob_n, i31, rl 1 (by omega), ob_n, ob_n, ob_n, i32, rl 2 (by omega), ob_n]
        unfold q_ldiv
        rw [if_neg hd, ob_n, ob111, ob_n, clV_m]
        have nl' : fX3_nearestLevel (e_g z G) 111 (Int64.toInt32 (clV (((((Int32.toInt64 (ltV (s.2.1 112) p c 0)) * cofV (s.2.1 112) q 0 k) + ((Int32.toInt64 (ltV (s.2.1 112) p c 1)) * cofV (s.2.1 112) q 1 k)) + ((Int32.toInt64 (ltV (s.2.1 112) p c 2)) * cofV (s.2.1 112) q 2 k)) * 1024 / dtF (s.2.1 112) q 3))) = some (cvN (s.2.1 112) p q c k) := nl
        rw [nl', ob_n, n_suc]
        rfl
      · show bX3_translate_233 _ _ _ _ _ _ _ _ _ _ _ _ _ _ = _
        unfold bX3_translate_233
        dsimp only
        rw [if_pos (by decide)]
    have l3 := fillN (fun f => e_g z (mkA g f)) 0 n (fun k => cvF (s.2.1 112) p q (F k) 3) f0 (bO := fun t => bX3_translate_112 111 pa g.1 (Int32.ofNat p) (Int32.ofNat n) (dtF (s.2.1 112) q 3) (s.2.1 112 (10 * p + 9)) t.1 t.2) (fun f i hi _ => ?_) (fun f => ?_)
    · unfold fX3_translate jX3_translate_339
      rw [ob111, ob_n, det3 hq, ob_n, if_pos hcm, l1, ob_n, l2, ob_n, f111_0, ob_n, ob_n, i10, rd112 (by omega), ob_n, z112, l3, ob_n]
    · have ln1 : q_len (e_g z (mkA g f)) pa = some (Int32.ofNat 576) := d_len hpa (by rw [show (mkA g f).2.2 pa = g.2.2 pa from nw_lo hpa2]; exact hpc)
      have ln2 : q_len (e_g z (mkA g f)) g.1 = some (Int32.ofNat 576) := d_len (Or.inl hg) nw_at
      have rF : q_aI (e_g z (mkA g f)) pa (Int32.ofNat i) = some (F i) := by
        rw [d_aI hpa (show (mkA g f).2.2 pa = .inl (0, (576, .inl F)) by rw [show (mkA g f).2.2 pa = g.2.2 pa from nw_lo hpa2]; exact hpc), n_idx (by omega), if_neg (n_in2 (show i < 576 by omega) (by decide))]
      have br := fun j (hj : j < 3) a b c => byRow3 (s := z) (g := mkA g f) (p := p) (j := j) (a := a) (b := b) (c := c) hp hj
      rw [z112] at br
      have b0 : ∀ a b c, fX3_byRow (e_g z (mkA g f)) 111 (Int32.ofNat p) 0 a b c = _ := fun a b c => br 0 (by omega) a b c
      have b3 : ∀ a b c, fX3_byRow (e_g z (mkA g f)) 111 (Int32.ofNat p) 3 a b c = _ := fun a b c => br 1 (by omega) a b c
      have b6 : ∀ a b c, fX3_byRow (e_g z (mkA g f)) 111 (Int32.ofNat p) 6 a b c = _ := fun a b c => br 2 (by omega) a b c
      have pp := px (mkA g f) (F i) i
      unfold ltV at pp
      show bX3_translate_112 _ _ _ _ _ _ _ _ _ = _
      unfold bX3_translate_112
      dsimp only
      rw [if_neg (nle hi (by omega)), ln1, ob_n, if_neg (nle (b := 576) (by omega) (by omega)), ln2, ob_n, if_neg (nle (b := 576) (by omega) (by omega)), rF, ob_n, ob_n, ob_n, ob111, ob_n, b0, ob_n, ob_n, b3, ob_n, ob_n, b6, ob_n, ob_n, pp, ob_n, wI_mk hg, n_idx (by omega), if_neg (n_in2 (show i < 576 by omega) (by decide)), ob_n, n_suc, Nat.zero_add]
    · show bX3_translate_112 _ _ _ _ _ _ _ _ _ = _
      unfold bX3_translate_112
      dsimp only
      rw [if_pos (nlr (by omega))]
  · show bX3_translate_56 _ _ _ _ _ _ _ _ _ = _
    unfold bX3_translate_56
    dsimp only
    rw [if_neg (show ¬ (256 : Int32) ≤ Int32.ofNat _ from nle (b := 256) hi (by omega)), f111_2, ob_n, ob_n, f111_0, ob_n, ob_n, i10, rd112 (by omega), ob_n, A_sA, if_neg (by decide), e112, u114, n_idx (by omega), if_neg (n_in2 hi (by decide)), ob_n, A_sA, if_pos rfl, sA_sA, n_suc, Nat.zero_add]
  · show bX3_translate_56 _ _ _ _ _ _ _ _ _ = _
    unfold bX3_translate_56
    dsimp only
    rw [if_pos (by decide)]
