-- needs: 07 10 13 14 20 21 22 23 24 25 26 27 32 38 41 43 46 47 48 50 52 53 54 55 57 60 61 70 71 72 73 74 80 81 82 83 84 85 86 87 88 89 90 91 92 93
theorem around_b {s : e_S} {g : ps_G} {w h : Nat} {how nn X Y j b sm i : Int32} (hw1 : 1 ≤ w) (hh1 : 1 ≤ h) (hw : w ≤ 24) (hh : h ≤ 24) (e0 : s.1 139 13 = Int32.ofNat w) (e1 : s.1 139 14 = Int32.ofNat h) (hlt : ¬ X + nn < i) : bX12_around_37 (e_g s g) 139 how nn X Y j b sm i = jX12_around_144_37 (e_g s g) 139 how nn X Y b sm j i (if plc w h i j then 1 else 0) (if plc w h i j = true ∨ how = 3 then nr (s.2.1 156) w h i j else 0) := by
  have hn := wh_le hw hh
  have hl := at_lt (w := w) (h := h) (clN_lt (v := i) hw1) (clN_lt (v := j) hh1)
  have j115 : jX12_around_115_37 (e_g s g) 139 how nn X Y b sm j i (if plc w h i j then 1 else 0) (Int32.ofNat (clN i w)) (Int32.ofNat (clN j h)) = jX12_around_144_37 (e_g s g) 139 how nn X Y b sm j i (if plc w h i j then 1 else 0) (if plc w h i j = true ∨ how = 3 then nr (s.2.1 156) w h i j else 0) := by
    unfold jX12_around_115_37
    by_cases q : plc w h i j = true ∨ how = 3
    · have nq : ¬ (¬ ¬ (if plc w h i j = true then (1 : Int32) else 0) = 0 ∧ ¬ how = 3) := by
        rintro ⟨z1, z2⟩
        rcases q with q | q
        · rw [if_pos q] at z1; exact z1 (by decide)
        · exact z2 q
      rw [if_neg nq, if_pos q, f139_32, ob_n, ob_n, ob139, ob_n, at12n e0, ob_n, rdI t156 (by omega), ob_n]
      rfl
    · have q0 := q
      rw [not_or] at q
      have nq : ¬ ¬ (if plc w h i j = true then (1 : Int32) else 0) = 0 ∧ ¬ how = 3 := ⟨fun z => z (by rw [if_neg q.1]), q.2⟩
      rw [if_pos nq, if_neg q0]
  have j84 : jX12_around_84_37 (e_g s g) 139 how nn X Y b sm j i (if plc w h i j then 1 else 0) (Int32.ofNat (clN i w)) = jX12_around_115_37 (e_g s g) 139 how nn X Y b sm j i (if plc w h i j then 1 else 0) (Int32.ofNat (clN i w)) (Int32.ofNat (clN j h)) := by
    obtain ⟨a, b', c⟩ := cl_c (x := j) hh1 hh
    unfold jX12_around_84_37
    by_cases q : 0 ≤ j
    · rw [if_pos q, f139_14, e1, ob_n, ob_n]
      by_cases q2 : j < Int32.ofNat h
      · rw [if_pos q2, ← b' q q2]
      · rw [if_neg q2, c q q2]
    · rw [if_neg q, a q]; rfl
  rw [← j115, ← j84]
  obtain ⟨a, b', c⟩ := cl_c (x := i) hw1 hw
  unfold bX12_around_37
  rw [if_neg hlt, ob139, ob_n, place12 hw hh e0 e1, ob_n]
  by_cases q : 0 ≤ i
  · rw [if_pos q, f139_13, e0, ob_n, ob_n]
    by_cases q2 : i < Int32.ofNat w
    · rw [if_pos q2, ← b' q q2]
    · rw [if_neg q2, c q q2]
  · rw [if_neg q, a q]; rfl
theorem around12 {s : e_S} {g : ps_G} {w h n X Y : Nat} {how : Int32} (hw1 : 1 ≤ w) (hh1 : 1 ≤ h) (hw : w ≤ 24) (hh : h ≤ 24) (e0 : s.1 139 13 = Int32.ofNat w) (e1 : s.1 139 14 = Int32.ofNat h) (hn : n ≤ 8) (hX : X < 24) (hY : Y < 24) (h13 : how = 1 ∨ how = 2 ∨ how = 3) (hB : ∀ k, k < w * h → rg (s.2.1 156 k) 0 255) : fX12_around (e_g s g) 139 how (Int32.ofNat n) (Int32.ofNat X) (Int32.ofNat Y) = some (arV how n w h (s.2.1 156) X Y) := by
  have bR : ∀ x y, 0 ≤ (bAt w h (s.2.1 156) x y).toInt := by
    intro x y
    unfold bAt
    by_cases q : plc w h x y
    · obtain ⟨a, b, rfl, rfl, ha, hb⟩ := plc_n q
      rw [if_pos q, n_int (by omega), n_int (by omega), Int.toNat_natCast, Int.toNat_natCast]
      exact (rg_i.mp (hB _ (at_lt ha hb))).1
    · rw [if_neg q]; decide
  have inner : ∀ j b sm, (how = 1 → 0 ≤ b.toInt) → ∃ r, q_lp (fun u => bX12_around_37 (e_g s g) 139 how (Int32.ofNat n) (Int32.ofNat X) (Int32.ofNat Y) j u.1 u.2.1 u.2.2) (b, sm, Int32.ofNat X - Int32.ofNat n) = some r ∧ (how = 1 → r.1 = wI fJ9_max_7cf53 (bAt w h (s.2.1 156)) j (Int32.ofNat X - Int32.ofNat n) b (2 * n + 1) ∧ 0 ≤ r.1.toInt) ∧ (how = 2 → r.1 = wI fJ9_min_7cf53 (bAt w h (s.2.1 156)) j (Int32.ofNat X - Int32.ofNat n) b (2 * n + 1)) ∧ (how = 3 → r.2 = wI (fun a b => a + b) (nr (s.2.1 156) w h) j (Int32.ofNat X - Int32.ofNat n) sm (2 * n + 1)) := by
    intro j b sm hb
    refine lp_n (fun p u => ∃ b' sm', u = (b', sm', Int32.ofNat X - Int32.ofNat n + Int32.ofNat p) ∧ (how = 1 → b' = wI fJ9_max_7cf53 (bAt w h (s.2.1 156)) j (Int32.ofNat X - Int32.ofNat n) b p ∧ 0 ≤ b'.toInt) ∧ (how = 2 → b' = wI fJ9_min_7cf53 (bAt w h (s.2.1 156)) j (Int32.ofNat X - Int32.ofNat n) b p) ∧ (how = 3 → sm' = wI (fun a b => a + b) (nr (s.2.1 156) w h) j (Int32.ofNat X - Int32.ofNat n) sm p)) _ (2 * n + 1) (fun p u hp hu => ?_) (fun u hu => ?_) ⟨b, sm, by show (b, sm, _) = (b, sm, Int32.ofNat X - Int32.ofNat n + 0); rw [Int32.add_zero], fun e => ⟨rfl, hb e⟩, fun _ => rfl, fun _ => rfl⟩
    · obtain ⟨b', sm', rfl, i1, i2, i3⟩ := hu
      have a := at_w (X := X) (n := n) (p := p) hX hn (by omega)
      show ∃ s', bX12_around_37 _ _ _ _ _ _ _ _ _ _ = _ ∧ _
      rw [around_b hw1 hh1 hw hh e0 e1 (by rw [i_lt, a.1, a.2]; omega)]
      unfold jX12_around_144_37
      rw [at_s]
      generalize hxi : Int32.ofNat X - Int32.ofNat n + Int32.ofNat p = xi
      refine ⟨_, rfl, _, _, rfl, fun e => ?_, fun e => ?_, fun e => ?_⟩
      · subst e
        obtain ⟨i1, i1b⟩ := i1 rfl
        have e1' : ¬ (1 : Int32) = 2 := by decide
        have e3' : ¬ (1 : Int32) = 3 := by decide
        have kv : (if plc w h xi j = true ∨ (1 : Int32) = 3 then nr (s.2.1 156) w h xi j else 0) = bAt w h (s.2.1 156) xi j := by
          by_cases q : plc w h xi j = true
          · rw [if_pos (Or.inl q), nr_bAt hw hh q]
          · rw [if_neg (fun z => z.elim q e3')]
            exact (if_neg q).symm
        rw [kv, if_pos (Or.inl e1')]
        have mv : (if ¬ (1 : Int32) = 1 ∨ (if plc w h xi j = true then (1 : Int32) else 0) = 0 ∨ bAt w h (s.2.1 156) xi j ≤ b' then b' else bAt w h (s.2.1 156) xi j) = fJ9_max_7cf53 b' (bAt w h (s.2.1 156) xi j) := by
          unfold fJ9_max_7cf53
          by_cases q : plc w h xi j = true
          · by_cases q2 : b' < bAt w h (s.2.1 156) xi j
            · rw [if_pos q2, if_neg]
              rintro (z | z | z)
              · exact z rfl
              · rw [if_pos q] at z; exact absurd z (by decide)
              · rw [i_lt] at q2; rw [i_le] at z; omega
            · rw [if_neg q2, if_pos (Or.inr (Or.inr (by rw [i_lt] at q2; rw [i_le]; omega)))]
          · have z0 : bAt w h (s.2.1 156) xi j = 0 := if_neg q
            rw [if_pos (Or.inr (Or.inl (if_neg q))), z0, if_neg (by rw [i_lt, show (0 : Int32).toInt = 0 from rfl]; omega)]
        rw [mv]
        refine ⟨?_, ?_⟩
        · show _ = fJ9_max_7cf53 (wI fJ9_max_7cf53 (bAt w h (s.2.1 156)) j (Int32.ofNat X - Int32.ofNat n) b p) (bAt w h (s.2.1 156) (Int32.ofNat X - Int32.ofNat n + Int32.ofNat p) j)
          rw [← i1, hxi]
        · exact Int.le_trans i1b mx_o.1
      · subst e
        have i2 := i2 rfl
        have e1' : ¬ (2 : Int32) = 1 := by decide
        have e3' : ¬ (2 : Int32) = 3 := by decide
        have kv : (if plc w h xi j = true ∨ (2 : Int32) = 3 then nr (s.2.1 156) w h xi j else 0) = bAt w h (s.2.1 156) xi j := by
          by_cases q : plc w h xi j = true
          · rw [if_pos (Or.inl q), nr_bAt hw hh q]
          · rw [if_neg (fun z => z.elim q e3')]
            exact (if_neg q).symm
        rw [kv, if_pos (Or.inl e1')]
        have mv : (if ¬ (2 : Int32) = 2 ∨ b' ≤ bAt w h (s.2.1 156) xi j then b' else bAt w h (s.2.1 156) xi j) = fJ9_min_7cf53 b' (bAt w h (s.2.1 156) xi j) := by
          unfold fJ9_min_7cf53
          by_cases q2 : bAt w h (s.2.1 156) xi j < b'
          · rw [if_pos q2, if_neg]
            rintro (z | z)
            · exact z rfl
            · rw [i_lt] at q2; rw [i_le] at z; omega
          · rw [if_neg q2, if_pos (Or.inr (by rw [i_lt] at q2; rw [i_le]; omega))]
        rw [mv]
        show _ = fJ9_min_7cf53 (wI fJ9_min_7cf53 (bAt w h (s.2.1 156)) j (Int32.ofNat X - Int32.ofNat n) b p) (bAt w h (s.2.1 156) (Int32.ofNat X - Int32.ofNat n + Int32.ofNat p) j)
        rw [← i2, hxi]
      · rw [if_pos (Or.inr e)]
        show _ = wI (fun a b => a + b) (nr (s.2.1 156) w h) j (Int32.ofNat X - Int32.ofNat n) sm p + nr (s.2.1 156) w h (Int32.ofNat X - Int32.ofNat n + Int32.ofNat p) j
        rw [← i3 e, hxi]
    · obtain ⟨b', sm', rfl, i1, i2, i3⟩ := hu
      have a := at_w (X := X) (n := n) (p := 2 * n + 1) hX hn (by omega)
      refine ⟨(b', sm'), ?_, i1, i2, i3⟩
      show bX12_around_37 _ _ _ _ _ _ _ _ _ _ = _
      unfold bX12_around_37
      rw [if_pos (show Int32.ofNat X + Int32.ofNat n < Int32.ofNat X - Int32.ofNat n + Int32.ofNat (2 * n + 1) by rw [i_lt, a.1, a.2]; omega)]
  have outer : ∃ r, q_lp (fun u => bX12_around_23 (e_g s g) 139 how (Int32.ofNat n) (Int32.ofNat X) (Int32.ofNat Y) u.1 u.2.1 u.2.2) ((if ¬ how = (1 : Int32) then (255 : Int32) else (0 : Int32)), (0 : Int32), Int32.ofNat Y - Int32.ofNat n) = some r ∧ (how = 1 → r.1 = wO fJ9_max_7cf53 (bAt w h (s.2.1 156)) (Int32.ofNat Y - Int32.ofNat n) (Int32.ofNat X - Int32.ofNat n) (2 * n + 1) 0 (2 * n + 1)) ∧ (how = 2 → r.1 = wO fJ9_min_7cf53 (bAt w h (s.2.1 156)) (Int32.ofNat Y - Int32.ofNat n) (Int32.ofNat X - Int32.ofNat n) (2 * n + 1) 255 (2 * n + 1)) ∧ (how = 3 → r.2 = wO (fun a b => a + b) (nr (s.2.1 156) w h) (Int32.ofNat Y - Int32.ofNat n) (Int32.ofNat X - Int32.ofNat n) (2 * n + 1) 0 (2 * n + 1)) := by
    refine lp_n (fun q u => ∃ b' sm', u = (b', sm', Int32.ofNat Y - Int32.ofNat n + Int32.ofNat q) ∧ (how = 1 → b' = wO fJ9_max_7cf53 (bAt w h (s.2.1 156)) (Int32.ofNat Y - Int32.ofNat n) (Int32.ofNat X - Int32.ofNat n) (2 * n + 1) 0 q ∧ 0 ≤ b'.toInt) ∧ (how = 2 → b' = wO fJ9_min_7cf53 (bAt w h (s.2.1 156)) (Int32.ofNat Y - Int32.ofNat n) (Int32.ofNat X - Int32.ofNat n) (2 * n + 1) 255 q) ∧ (how = 3 → sm' = wO (fun a b => a + b) (nr (s.2.1 156) w h) (Int32.ofNat Y - Int32.ofNat n) (Int32.ofNat X - Int32.ofNat n) (2 * n + 1) 0 q)) _ (2 * n + 1) (fun q u hq hu => ?_) (fun u hu => ?_) ⟨_, 0, by rw [show Int32.ofNat 0 = 0 from rfl, Int32.add_zero], fun e => ?_, fun e => ?_, fun _ => rfl⟩
    · obtain ⟨b', sm', rfl, i1, i2, i3⟩ := hu
      have a := at_w (X := Y) (n := n) (p := q) hY hn (by omega)
      obtain ⟨r, r1, r2, r3, r4⟩ := inner (Int32.ofNat Y - Int32.ofNat n + Int32.ofNat q) b' sm' (fun e => (i1 e).2)
      refine ⟨(r.1, r.2, Int32.ofNat Y - Int32.ofNat n + Int32.ofNat (q + 1)), ?_, r.1, r.2, rfl, fun e => ?_, fun e => ?_, fun e => ?_⟩
      · show bX12_around_23 _ _ _ _ _ _ _ _ _ = _
        unfold bX12_around_23
        rw [if_neg (show ¬ Int32.ofNat Y + Int32.ofNat n < Int32.ofNat Y - Int32.ofNat n + Int32.ofNat q by rw [i_lt, a.1, a.2]; omega), r1, ob_n, at_s]
      · obtain ⟨z1, z2⟩ := r2 e
        rw [(i1 e).1] at z1
        exact ⟨z1, z2⟩
      · rw [r3 e, i2 e]; rfl
      · rw [r4 e, i3 e]; rfl
    · obtain ⟨b', sm', rfl, i1, i2, i3⟩ := hu
      have a := at_w (X := Y) (n := n) (p := 2 * n + 1) hY hn (by omega)
      refine ⟨(b', sm'), ?_, fun e => (i1 e).1, i2, i3⟩
      show bX12_around_23 _ _ _ _ _ _ _ _ _ = _
      unfold bX12_around_23
      rw [if_pos (show Int32.ofNat Y + Int32.ofNat n < Int32.ofNat Y - Int32.ofNat n + Int32.ofNat (2 * n + 1) by rw [i_lt, a.1, a.2]; omega)]
    · rw [if_neg (fun z => z e)]; exact ⟨rfl, by decide⟩
    · rw [if_pos (by rw [e]; decide)]; rfl
  obtain ⟨r, r1, r2, r3, r4⟩ := outer
  have m2 : (2 : Int32) * Int32.ofNat n + 1 = Int32.ofNat (2 * n + 1) := by
    show Int32.ofNat 2 * _ + _ = _
    rw [n_mul, n_suc]
  have mm : (2 * n + 1) * (2 * n + 1) ≤ 17 * 17 := Nat.mul_le_mul (by omega) (by omega)
  have mp : 0 < (2 * n + 1) * (2 * n + 1) := Nat.mul_pos (by omega) (by omega)
  have mz : ¬ Int32.ofNat ((2 * n + 1) * (2 * n + 1)) = 0 := by
    rw [show (0 : Int32) = Int32.ofNat 0 from rfl, n_eq (by omega) (by omega)]; omega
  unfold fX12_around jX12_around_235 arV
  rw [r1, ob_n, m2, n_mul]
  rcases h13 with e | e | e
  · rw [if_pos (by rw [e]; decide), if_pos e, r2 e]
  · rw [if_pos (by rw [e]; decide), if_neg (by rw [e]; decide), if_pos e, r3 e]
  · unfold q_div
    rw [if_neg (fun z => z e), if_neg mz, ob_n, if_neg (by rw [e]; decide), if_neg (by rw [e]; decide), r4 e]
