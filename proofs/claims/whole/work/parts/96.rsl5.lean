-- needs: 07 10 13 14 20 21 22 23 24 25 26 27 32 38 41 43 46 47 48 50 52 53 54 55 57 60 61 70 71 72 73 74 80 81 82 83 84 85 86 87 88 89 90 91 92 93 94 95
theorem turnOver11 {s : e_S} {g : ps_G} {w h n : Nat} (hw : w ≤ 24) (hh : h ≤ 24) (e0 : s.1 89 0 = Int32.ofNat w) (e1 : s.1 89 1 = Int32.ofNat h) : fX0_turnOver (e_g s g) 89 = some (e_g (sA s 90 (nwR 0 n w h (s.2.1 90))) g) := by
  have hn := wh_le hw hh
  have fin := fillN (fun f => e_g (sA s 90 f) g) 0 (w * h) (fun k => 255 - s.2.1 90 k) (s.2.1 90) (bO := fun x => bX0_turnOver_2 89 x.1 x.2) (fun f i hi hf => ?_) (fun f => ?_)
  · have e : nwR 0 n w h (s.2.1 90) = cpT (s.2.1 90) (fun k => 255 - s.2.1 90 k) 0 (w * h) := by
      unfold nwR
      rw [Nat.mul_comm h w]
      rfl
    rw [sA_id] at fin
    unfold fX0_turnOver
    rw [fin, ob_n, e]
  · rw [Nat.zero_add] at hf ⊢
    show bX0_turnOver_2 _ _ _ = _
    unfold bX0_turnOver_2
    dsimp only
    rw [f89_0, F_sA, e0, ob_n, f89_1, F_sA, e1, ob_n, n_mul, if_neg (nle hi (by omega)), f89_2, ob_n, ob_n, ob_n, ob_n, rdI t90 (by omega), A_sA, if_pos rfl, ob_n, wrI t90 (by omega) (by omega), A_sA, if_pos rfl, sA_sA, ob_n, n_suc, hf]
  · show bX0_turnOver_2 _ _ _ = _
    unfold bX0_turnOver_2
    dsimp only
    rw [f89_0, F_sA, e0, ob_n, f89_1, F_sA, e1, ob_n, n_mul, if_pos (nlr (by omega))]
theorem round12 {s : e_S} {g : ps_G} {w h n : Nat} {how r : Int32} (hw1 : 1 ≤ w) (hh1 : 1 ≤ h) (hw : w ≤ 24) (hh : h ≤ 24) (e0 : s.1 139 13 = Int32.ofNat w) (e1 : s.1 139 14 = Int32.ofNat h) (hn : n ≤ 8) (h13 : how = 0 ∨ how = 1 ∨ how = 2 ∨ how = 3) (hB : ∀ k, k < 576 → rg (s.2.1 155 k) 0 255) (hr : ¬ (if ¬ how = (3 : Int32) then (1 : Int32) else (2 : Int32)) ≤ r) : bX12_reselect_50 139 how (Int32.ofNat n) r (e_g s g) = some (.inl (r + 1, e_g (sA (sA s 156 (cpT (s.2.1 156) (s.2.1 155) 0 (w * h))) 155 (nwR how n w h (s.2.1 155))) g)) := by
  have hwh := wh_le hw hh
  have fin1 := fillN (fun f => e_g (sA s 156 f) g) 0 (w * h) (s.2.1 155) (s.2.1 156) (bO := fun x => bX12_reselect_67 139 how (Int32.ofNat n) r x.1 x.2) (fun f i hi hf => by
    rw [Nat.zero_add] at hf ⊢
    show bX12_reselect_67 _ _ _ _ _ _ = _
    unfold bX12_reselect_67
    dsimp only
    rw [f139_13, F_sA, e0, ob_n, f139_14, F_sA, e1, ob_n, n_mul, if_neg (nle hi (by omega)), f139_32, ob_n, ob_n, f139_31, ob_n, ob_n, rdI t155 (by omega), A_sA, if_neg (by decide), ob_n, wrI t156 (by omega) (by omega), A_sA, if_pos rfl, sA_sA, ob_n, n_suc]) (fun f => by
    show bX12_reselect_67 _ _ _ _ _ _ = _
    unfold bX12_reselect_67
    dsimp only
    rw [f139_13, F_sA, e0, ob_n, f139_14, F_sA, e1, ob_n, n_mul, if_pos (nlr (by omega))])
  rw [sA_id] at fin1
  have bk : ∀ k, k < w * h → cpT (s.2.1 156) (s.2.1 155) 0 (w * h) k = s.2.1 155 k := fun k hk => by
    have := cpT_in (A := s.2.1 156) (N := s.2.1 155) (b := 0) hk
    rwa [Nat.zero_add] at this
  have e155 : (sA s 156 (cpT (s.2.1 156) (s.2.1 155) 0 (w * h))).2.1 155 = s.2.1 155 := by rw [A_sA, if_neg (by decide)]
  have fin2 := fill1 (fun f => e_g (sA (sA s 156 (cpT (s.2.1 156) (s.2.1 155) 0 (w * h))) 155 f) g) 0 w h (rsV how n w h (s.2.1 155)) (s.2.1 155) (bI := fun y x => bX12_reselect_116 139 how (Int32.ofNat n) r y x.1 x.2) (bO := fun x => bX12_reselect_104 139 how (Int32.ofNat n) r x.1 x.2) (fun f y x hy hx _ => by
    have hi := at_lt hx hy
    have d := (k_at (w := w) (k := y * w + x) (y := y) (x := x) hx).mp rfl
    have e156 : (sA (sA s 156 (cpT (s.2.1 156) (s.2.1 155) 0 (w * h))) 155 f).2.1 156 = cpT (s.2.1 156) (s.2.1 155) 0 (w * h) := by rw [A_sA, if_neg (by decide), A_sA, if_pos rfl]
    have m13 : (sA (sA s 156 (cpT (s.2.1 156) (s.2.1 155) 0 (w * h))) 155 f).1 139 13 = Int32.ofNat w := by rw [F_sA, F_sA]; exact e0
    have m14 : (sA (sA s 156 (cpT (s.2.1 156) (s.2.1 155) 0 (w * h))) 155 f).1 139 14 = Int32.ofNat h := by rw [F_sA, F_sA]; exact e1
    rw [Nat.zero_add]
    show bX12_reselect_116 _ _ _ _ _ _ _ = _
    unfold bX12_reselect_116 jX12_reselect_171_116
    dsimp only
    rw [f139_13, m13, ob_n, if_neg (nle hx (by omega)), f139_31, ob_n, ob_n, ob139, ob_n, at12n m13, ob_n]
    by_cases q : how = 0
    · have ev : rsV how n w h (s.2.1 155) (y * w + x) = 255 - s.2.1 155 (y * w + x) := if_pos q
      rw [if_neg (fun z => z q), f139_32, ob_n, ob_n, ob_n, ob_n, rdI t156 (by omega), e156, bk _ hi, ob_n, ob_n, wrI t155 (by omega) (by omega), A_sA, if_pos rfl, sA_sA, ob_n, n_suc, ev]
    · have ar := around12 (s := sA (sA s 156 (cpT (s.2.1 156) (s.2.1 155) 0 (w * h))) 155 f) (g := g) (n := n) (X := x) (Y := y) (how := how) hw1 hh1 hw hh m13 m14 hn (by omega) (by omega) (h13.resolve_left q) (fun k hk => by rw [e156, bk k hk]; exact hB k (by omega))
      rw [e156, arV_c hw1 hh1 bk] at ar
      have ev : rsV how n w h (s.2.1 155) (y * w + x) = arV how n w h (s.2.1 155) x y := by
        unfold rsV
        rw [if_neg q, d.1, d.2]
      rw [if_pos q, ob_n, ar, ob_n, ob_n, wrI t155 (by omega) (by omega), A_sA, if_pos rfl, sA_sA, ob_n, n_suc, ev]) (fun f y hy => by
    show bX12_reselect_116 _ _ _ _ _ _ _ = _
    unfold bX12_reselect_116
    dsimp only
    rw [f139_13, F_sA, F_sA, e0, ob_n, if_pos (nlr (by omega))]) (fun f y hy => by
    show bX12_reselect_104 _ _ _ _ _ _ = _
    unfold bX12_reselect_104
    dsimp only
    rw [f139_14, F_sA, F_sA, e1, ob_n, if_neg (nle hy (by omega))]) (fun f => by
    show bX12_reselect_104 _ _ _ _ _ _ = _
    unfold bX12_reselect_104
    dsimp only
    rw [f139_14, F_sA, F_sA, e1, ob_n, if_pos (nlr (by omega))])
  have idd := @sA_id (sA s 156 (cpT (s.2.1 156) (s.2.1 155) 0 (w * h))) 155
  rw [e155] at idd
  rw [idd] at fin2
  unfold bX12_reselect_50
  rw [if_neg hr, fin1, ob_n, fin2, ob_n]
  rfl
