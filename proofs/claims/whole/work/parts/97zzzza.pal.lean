-- needs: 97zzzz
/-! ===== png: palette, clear and packed bytes ===== -/
def pltV (I : Nat → Int32) (a i : Nat) : Int32 := (q_shl (I (a + 3 * i)) 16 ||| q_shl (I (a + 3 * i + 1)) 8) ||| I (a + 3 * i + 2)
def plK (z : Nat) : Prop := 3 ≤ z ∧ z ≤ 768 ∧ z % 3 = 0
theorem pk_0 {a b c : Int32} : fX11_pack 0 a b c = (q_shl a 16 ||| q_shl b 8) ||| c := by
  unfold fX11_pack
  have e : q_shl 0 24 = 0 := by decide
  rw [e, Int32.zero_or]
theorem pl_c {z : Nat} (hz : z < 100000) : (¬ (Int32.ofNat z < 3 ∨ (768 : Int32) < Int32.ofNat z) ↔ 3 ≤ z ∧ z ≤ 768) ∧ (q_rem (Int32.ofNat z) 3 = 0 ↔ z % 3 = 0) ∧ Int32.ofNat z / 3 = Int32.ofNat (z / 3) := by
  have c1 : Int32.ofNat z < (3 : Int32) ↔ z < 3 := n_lt (m := 3) (by omega) (by omega)
  have c2 : (768 : Int32) < Int32.ofNat z ↔ 768 < z := n_lt (n := 768) (by omega) (by omega)
  have e : q_rem (Int32.ofNat z) 3 = Int32.ofNat (z % 3) := n_rem (b := 3) (by omega) (by omega)
  refine ⟨by rw [c1, c2]; omega, ?_, n_div (b := 3) (by omega) (by omega)⟩
  rw [e]
  exact n_eq (b := 0) (by omega) (by omega)
theorem takePalette8 {s : e_S} {g : ps_G} {I : Nat → Int32} {n p z : Nat} (h : DC s I n) (hp : p + 12 + z ≤ n) : (plK z → ∃ s', fX8_takePalette (e_g s g) 125 (Int32.ofNat (p + 8)) (Int32.ofNat z) = some (1, e_g s' g) ∧ Kp [126] 125 [8] s s' ∧ s'.1 125 8 = Int32.ofNat (z / 3) ∧ ∀ i, i < z / 3 → s'.2.1 126 i = pltV I (p + 8) i) ∧ (¬ plK z → fX8_takePalette (e_g s g) 125 (Int32.ofNat (p + 8)) (Int32.ofNat z) = some (0, e_g s g)) := by
  have hn := h.1
  obtain ⟨c1, c2, c3⟩ := pl_c (z := z) (by omega)
  refine ⟨fun ok => ?_, fun nk => ?_⟩
  · have l1 : ∀ S : e_S, q_len (e_g S g) 126 = some (Int32.ofNat 256) := fun S => l126
    obtain ⟨o1, o2, o3⟩ := ok
    have kd : ∀ {S : e_S}, Kp [126] 125 [8] s S → K8 s S := fun k => ⟨fun j hj => k.1 j (by
      cases e : [126].contains j with
      | false => rfl
      | true =>
        have := List.contains_iff_mem.mp e
        rw [List.mem_singleton.mp this] at hj
        exact absurd hj (by decide)), fun i m a b => k.2.1 i m (fun y => a ⟨y.1, by
        have := List.contains_iff_mem.mp y.2
        rw [List.mem_singleton.mp this]
        decide⟩), k.2.2.1, k.2.2.2⟩
    obtain ⟨r, lp, s', e, k, f8, ro⟩ := lp_n (b := fun t => bX8_takePalette_29 125 (Int32.ofNat (p + 8)) t.1 t.2) (fun i t => ∃ s', t = (Int32.ofNat i, e_g s' g) ∧ Kp [126] 125 [8] s s' ∧ s'.1 125 8 = Int32.ofNat (z / 3) ∧ ∀ j, j < i → s'.2.1 126 j = pltV I (p + 8) j) (fun r => ∃ s', r = e_g s' g ∧ Kp [126] 125 [8] s s' ∧ s'.1 125 8 = Int32.ofNat (z / 3) ∧ ∀ j, j < z / 3 → s'.2.1 126 j = pltV I (p + 8) j) (z / 3) (fun i t hi ⟨s', ht, kk, f8, ro⟩ => by
      have d' := dc_k h (kd kk)
      have m3 : (3 : Int32) * Int32.ofNat i = Int32.ofNat (3 * i) := n_mul (n := 3)
      have i0 : Int32.ofNat (p + 8) + 3 * Int32.ofNat i = Int32.ofNat (p + 8 + 3 * i) := by rw [m3, n_add]
      have i1 : Int32.ofNat (p + 8 + 3 * i) + 1 = Int32.ofNat (p + 8 + 3 * i + 1) := n_suc
      have i2 : Int32.ofNat (p + 8 + 3 * i) + 2 = Int32.ofNat (p + 8 + 3 * i + 2) := n_add (m := 2)
      refine ⟨(Int32.ofNat (i + 1), e_g (sA s' 126 (upd (s'.2.1 126) i (pltV I (p + 8) i))) g), ?_, _, rfl, kp_A kk (by decide), by rw [F_sA]; exact f8, fun j hj => ?_⟩
      · rw [ht]
        show bX8_takePalette_29 _ _ _ _ = _
        unfold bX8_takePalette_29
        dsimp only
        rw [f125_8, f8, ob_n, if_neg (nle hi (by omega)), f125_7, ob_n, ob_n, l1, ob_n, if_neg (nle (by omega) (by omega)), ob_n, ob_n, ob125, ob_n, i0, byte8 d' (by omega), ob_n, ob_n, i1, byte8 d' (by omega), ob_n, ob_n, i2, byte8 d' (by omega), ob_n, pk_0, biz_i (by omega), biz_i (by omega), biz_i (by omega), tb_wr t126 (by decide) (by omega) (by omega), ob_n, n_suc]
        rfl
      · rw [A_sA, if_pos rfl, upd_r]
        by_cases q : j = i
        · rw [if_pos q, q]
        · rw [if_neg q]; exact ro j (by omega)) (fun t ⟨s', ht, kk, f8, ro⟩ => by
      refine ⟨_, ?_, s', rfl, kk, f8, ro⟩
      rw [ht]
      show bX8_takePalette_29 _ _ _ _ = _
      unfold bX8_takePalette_29
      dsimp only
      rw [f125_8, f8, ob_n, if_pos (nlr (by omega))]) (s := ((0 : Int32), e_g (sF s 125 8 (Int32.ofNat (z / 3))) g)) ⟨_, rfl, kp_F kp_rf (by decide), by rw [F_sF, if_pos ⟨rfl, rfl⟩], fun j hj => absurd hj (Nat.not_lt_zero j)⟩
    refine ⟨s', ?_, k, f8, ro⟩
    unfold fX8_takePalette jX8_takePalette_93
    rw [if_neg (c1.mpr ⟨o1, o2⟩), if_pos (c2.mpr o3), c3, w125_8, ob_n, lp, ob_n, e]
  · unfold fX8_takePalette jX8_takePalette_18
    by_cases q : Int32.ofNat z < 3 ∨ (768 : Int32) < Int32.ofNat z
    · rw [if_pos q]
    · rw [if_neg q, if_neg (fun y => nk ⟨(c1.mp q).1, (c1.mp q).2, c2.mp y⟩)]
theorem takeClear8 {s : e_S} {g : ps_G} {I : Nat → Int32} {n p z pm : Nat} (h : DC s I n) (hp : p + 12 + z ≤ n) (hm : pm ≤ 256) (f8 : s.1 125 8 = Int32.ofNat pm) : (z ≤ pm → ∃ s', fX8_takeClear (e_g s g) 125 (Int32.ofNat (p + 8)) (Int32.ofNat z) = some (1, e_g s' g) ∧ Kp [127] 125 [10] s s' ∧ s'.1 125 10 = Int32.ofNat z ∧ ∀ i, i < z → s'.2.1 127 i = I (p + 8 + i)) ∧ (¬ z ≤ pm → fX8_takeClear (e_g s g) 125 (Int32.ofNat (p + 8)) (Int32.ofNat z) = some (0, e_g s g)) := by
  have hn := h.1
  refine ⟨fun ok => ?_, fun nk => ?_⟩
  · have l1 : ∀ S : e_S, q_len (e_g S g) 127 = some (Int32.ofNat 256) := fun S => l127
    have kd : ∀ {S : e_S}, Kp [127] 125 [10] s S → K8 s S := fun k => ⟨fun j hj => k.1 j (by
      cases e : [127].contains j with
      | false => rfl
      | true =>
        have := List.contains_iff_mem.mp e
        rw [List.mem_singleton.mp this] at hj
        exact absurd hj (by decide)), fun i m a b => k.2.1 i m (fun y => a ⟨y.1, by
        have := List.contains_iff_mem.mp y.2
        rw [List.mem_singleton.mp this]
        decide⟩), k.2.2.1, k.2.2.2⟩
    obtain ⟨r, lp, s', e, k, f10, ro⟩ := lp_n (b := fun t => bX8_takeClear_17 125 (Int32.ofNat (p + 8)) (Int32.ofNat z) t.1 t.2) (fun i t => ∃ s', t = (Int32.ofNat i, e_g s' g) ∧ Kp [127] 125 [10] s s' ∧ s'.1 125 10 = Int32.ofNat z ∧ ∀ j, j < i → s'.2.1 127 j = I (p + 8 + j)) (fun r => ∃ s', r = e_g s' g ∧ Kp [127] 125 [10] s s' ∧ s'.1 125 10 = Int32.ofNat z ∧ ∀ j, j < z → s'.2.1 127 j = I (p + 8 + j)) z (fun i t hi ⟨s', ht, kk, f10, ro⟩ => by
      have d' := dc_k h (kd kk)
      refine ⟨(Int32.ofNat (i + 1), e_g (sA s' 127 (upd (s'.2.1 127) i (I (p + 8 + i)))) g), ?_, _, rfl, kp_A kk (by decide), by rw [F_sA]; exact f10, fun j hj => ?_⟩
      · rw [ht]
        show bX8_takeClear_17 _ _ _ _ _ = _
        unfold bX8_takeClear_17
        dsimp only
        rw [if_neg (nle hi (by omega)), f125_9, ob_n, ob_n, l1, ob_n, if_neg (nle (by omega) (by omega)), ob_n, ob_n, ob125, ob_n, n_add, byte8 d' (by omega), ob_n, biz_i (by omega), tb_wr t127 (by decide) (by omega) (by omega), ob_n, n_suc]
      · rw [A_sA, if_pos rfl, upd_r]
        by_cases q : j = i
        · rw [if_pos q, q]
        · rw [if_neg q]; exact ro j (by omega)) (fun t ⟨s', ht, kk, f10, ro⟩ => by
      refine ⟨_, ?_, s', rfl, kk, f10, ro⟩
      rw [ht]
      show bX8_takeClear_17 _ _ _ _ _ = _
      unfold bX8_takeClear_17
      dsimp only
      rw [if_pos (nlr (by omega))]) (s := ((0 : Int32), e_g (sF s 125 10 (Int32.ofNat z)) g)) ⟨_, rfl, kp_F kp_rf (by decide), by rw [F_sF, if_pos ⟨rfl, rfl⟩], fun j hj => absurd hj (Nat.not_lt_zero j)⟩
    refine ⟨s', ?_, k, f10, ro⟩
    unfold fX8_takeClear jX8_takeClear_50
    rw [f125_8, f8, ob_n, if_pos ((n_le (by omega) (by omega)).mpr ok), w125_10, ob_n, lp, ob_n, e]
  · unfold fX8_takeClear
    rw [f125_8, f8, ob_n, if_neg (nle (by omega) (by omega))]
/-- packed bytes go on -/
def pkV (I : Nat → Int32) (a len : Nat) (K : Nat → Int32) : Nat → Int32 := fun i => if i < len then K i else I (a + (i - len))
theorem packed8 {s : e_S} {g : ps_G} {I : Nat → Int32} {n p z len : Nat} {K : Nat → Int32} {v : Int32} (h : DC s I n) (hp : p + 12 + z ≤ n) (hl : len + z ≤ 8000) (f1 : s.1 128 1 = Int32.ofNat len) (hK : ∀ i, i < len → s.2.1 129 i = K i) : ∃ s', jX8_takeChunk_176 (e_g s g) 125 (Int32.ofNat p) (Int32.ofNat z) 125 v = some (1, e_g s' g) ∧ K8 s s' ∧ s'.1 125 11 = v ∧ (∀ k, ¬ k = 11 → s'.1 125 k = s.1 125 k) ∧ (∀ j, ¬ j = 129 → s'.2.1 j = s.2.1 j) ∧ s'.1 128 1 = Int32.ofNat (len + z) ∧ ∀ i, i < len + z → s'.2.1 129 i = pkV I (p + 8) len K i := by
  have hn := h.1
  have e8 : Int32.ofNat p + 8 = Int32.ofNat (p + 8) := n_add (m := 8)
  obtain ⟨r, lp, s', e, k, q11, qk, qa, q1, ro⟩ := lp_n (b := fun t => bX8_takeChunk_182 125 (Int32.ofNat p) (Int32.ofNat z) t.1 t.2) (fun i t => ∃ s', t = (Int32.ofNat i, e_g s' g) ∧ K8 s s' ∧ s'.1 125 11 = v ∧ (∀ k, ¬ k = 11 → s'.1 125 k = s.1 125 k) ∧ (∀ j, ¬ j = 129 → s'.2.1 j = s.2.1 j) ∧ s'.1 128 1 = Int32.ofNat (len + i) ∧ ∀ j, j < len + i → s'.2.1 129 j = pkV I (p + 8) len K j) (fun r => ∃ s', r = e_g s' g ∧ K8 s s' ∧ s'.1 125 11 = v ∧ (∀ k, ¬ k = 11 → s'.1 125 k = s.1 125 k) ∧ (∀ j, ¬ j = 129 → s'.2.1 j = s.2.1 j) ∧ s'.1 128 1 = Int32.ofNat (len + z) ∧ ∀ j, j < len + z → s'.2.1 129 j = pkV I (p + 8) len K j) z (fun i t hi ⟨s', ht, kk, q11, qk, qa, q1, ro⟩ => by
    have d' := dc_k h kk
    have c8 : ¬ (8000 : Int32) ≤ Int32.ofNat (len + i) := show ¬ Int32.ofNat 8000 ≤ _ from nle (by omega) (by omega)
    refine ⟨(Int32.ofNat (i + 1), e_g (sF (sA s' 129 (upd (s'.2.1 129) (len + i) (I (p + 8 + i)))) 128 1 (Int32.ofNat (len + (i + 1)))) g), ?_, _, rfl, k8_tr (k8_tr kk (k8_A (by decide))) k8_L, ?_, fun k hk => ?_, fun j hj => ?_, ?_, fun j hj => ?_⟩
    · rw [ht]
      show bX8_takeChunk_182 _ _ _ _ _ = _
      unfold bX8_takeChunk_182 fX2_addByte jX2_addByte_30
      dsimp only
      rw [if_neg (nle hi (by omega)), f125_12, ob_n, ob_n, ob125, ob_n, e8, n_add, byte8 d' (by omega), ob_n, biz_i (by omega), ob128, ob_n, f128_1, q1, ob_n, if_neg c8, f128_0, ob_n, ob_n, ob_n, tb_wr t129 (by decide) (by omega) (by omega), ob_n, f128_1, F_sA, q1, ob_n, w128_1, ob_n, ob_n, n_suc, n_suc]
      rfl
    · rw [F_sF, if_neg (by decide), F_sA]; exact q11
    · rw [F_sF, if_neg (fun y => absurd y.1 (by decide)), F_sA]; exact qk k hk
    · rw [A_sF, A_sA, if_neg hj]; exact qa j hj
    · rw [F_sF, if_pos ⟨rfl, rfl⟩]
    · rw [A_sF, A_sA, if_pos rfl, upd_r]
      by_cases q : j = len + i
      · rw [if_pos q, q]
        unfold pkV
        rw [if_neg (by omega), show len + i - len = i by omega]
      · rw [if_neg q]; exact ro j (by omega)) (fun t ⟨s', ht, kk, q11, qk, qa, q1, ro⟩ => by
    refine ⟨_, ?_, s', rfl, kk, q11, qk, qa, q1, ro⟩
    rw [ht]
    show bX8_takeChunk_182 _ _ _ _ _ = _
    unfold bX8_takeChunk_182
    dsimp only
    rw [if_pos (nlr (by omega))]) (s := ((0 : Int32), e_g (sF s 125 11 v) g)) ⟨_, rfl, k8_F (by decide), by rw [F_sF, if_pos ⟨rfl, rfl⟩], fun k hk => by rw [F_sF, if_neg (fun y => hk y.2)], fun j _ => by rw [A_sF], by rw [F_sF, if_neg (by decide)]; exact f1, fun j hj => by
      rw [A_sF, hK j hj]
      unfold pkV
      rw [if_pos (show j < len from hj)]⟩
  refine ⟨s', ?_, k, q11, qk, qa, q1, ro⟩
  unfold jX8_takeChunk_176 jX8_takeChunk_212
  rw [w125_11, ob_n, lp, ob_n, e]
/-! the reference -/
theorem readColours12 {s : e_S} {g : ps_G} {I : Nat → Int32} {n p z : Nat} (h : DM s I n) (hp : p + 12 + z ≤ n) (h4 : s.1 139 4 = 0) : (plK z → ∃ s', fX12_readColours (e_g s g) 139 (Int32.ofNat p) (Int32.ofNat z) = some (e_g s' g) ∧ Kp [189] 139 [82] s s' ∧ s'.1 139 82 = Int32.ofNat (z / 3) ∧ ∀ i, i < z / 3 → s'.2.1 189 i = pltV I (p + 8) i) ∧ (¬ plK z → fX12_readColours (e_g s g) 139 (Int32.ofNat p) (Int32.ofNat z) = some (e_g (sF (sF s 139 4 4) 139 5 (Int32.ofNat p)) g)) := by
  have hn := h.1
  obtain ⟨c1, c2, c3⟩ := pl_c (z := z) (by omega)
  refine ⟨fun ok => ?_, fun nk => ?_⟩
  · obtain ⟨o1, o2, o3⟩ := ok
    have dk : ∀ {S : e_S}, Kp [189] 139 [82] s S → DM S I n := fun k => by
      unfold DM at h ⊢
      rw [k.2.1 139 3 (by decide), k.1 140 (by decide)]
      exact h
    obtain ⟨r, lp, s', e, k, f8, ro⟩ := lp_n (b := fun t => bX12_readColours_34 139 (Int32.ofNat p) t.1 t.2) (fun i t => ∃ s', t = (Int32.ofNat i, e_g s' g) ∧ Kp [189] 139 [82] s s' ∧ s'.1 139 82 = Int32.ofNat (z / 3) ∧ ∀ j, j < i → s'.2.1 189 j = pltV I (p + 8) j) (fun r => ∃ s', r = e_g s' g ∧ Kp [189] 139 [82] s s' ∧ s'.1 139 82 = Int32.ofNat (z / 3) ∧ ∀ j, j < z / 3 → s'.2.1 189 j = pltV I (p + 8) j) (z / 3) (fun i t hi ⟨s', ht, kk, f8, ro⟩ => by
      have d' := dk kk
      have m3 : (3 : Int32) * Int32.ofNat i = Int32.ofNat (3 * i) := n_mul (n := 3)
      have ad : ∀ a : Nat, Int32.ofNat p + Int32.ofNat a + 3 * Int32.ofNat i = Int32.ofNat (p + a + 3 * i) := fun a => by rw [m3, n_add, n_add]
      have i0 : Int32.ofNat p + 8 + 3 * Int32.ofNat i = Int32.ofNat (p + 8 + 3 * i) := ad 8
      have i1 : Int32.ofNat p + 9 + 3 * Int32.ofNat i = Int32.ofNat (p + 8 + 3 * i + 1) := (ad 9).trans (by congr 1; omega)
      have i2 : Int32.ofNat p + 10 + 3 * Int32.ofNat i = Int32.ofNat (p + 8 + 3 * i + 2) := (ad 10).trans (by congr 1; omega)
      refine ⟨(Int32.ofNat (i + 1), e_g (sA s' 189 (upd (s'.2.1 189) i (pltV I (p + 8) i))) g), ?_, _, rfl, kp_A kk (by decide), by rw [F_sA]; exact f8, fun j hj => ?_⟩
      · rw [ht]
        show bX12_readColours_34 _ _ _ _ = _
        unfold bX12_readColours_34
        dsimp only
        rw [f139_82, f8, ob_n, if_neg (nle hi (by omega)), f139_80, ob_n, ob_n, f139_1, ob_n, ob_n, i0, in12 d' (by omega), ob_n, ob_n, ob_n, i1, in12 d' (by omega), ob_n, ob_n, ob_n, i2, in12 d' (by omega), ob_n, tb_wr t189 (by decide) (by omega) (by omega), ob_n, n_suc]
        rfl
      · rw [A_sA, if_pos rfl, upd_r]
        by_cases q : j = i
        · rw [if_pos q, q]
        · rw [if_neg q]; exact ro j (by omega)) (fun t ⟨s', ht, kk, f8, ro⟩ => by
      refine ⟨_, ?_, s', rfl, kk, f8, ro⟩
      rw [ht]
      show bX12_readColours_34 _ _ _ _ = _
      unfold bX12_readColours_34
      dsimp only
      rw [f139_82, f8, ob_n, if_pos (nlr (by omega))]) (s := ((0 : Int32), e_g (sF s 139 82 (Int32.ofNat (z / 3))) g)) ⟨_, rfl, kp_F kp_rf (by decide), by rw [F_sF, if_pos ⟨rfl, rfl⟩], fun j hj => absurd hj (Nat.not_lt_zero j)⟩
    refine ⟨s', ?_, k, f8, ro⟩
    unfold fX12_readColours
    rw [if_neg (c1.mpr ⟨o1, o2⟩), if_pos (c2.mpr o3), c3, w139_82, ob_n, lp, ob_n, e]
  · have j18 : jX12_readColours_18 (e_g s g) 139 (Int32.ofNat p) = some (e_g (sF (sF s 139 4 4) 139 5 (Int32.ofNat p)) g) := by
      unfold jX12_readColours_18
      rw [ob139, ob_n, wrong12 h4, ob_n]
    unfold fX12_readColours
    rw [j18]
    by_cases q : Int32.ofNat z < 3 ∨ (768 : Int32) < Int32.ofNat z
    · rw [if_pos q]
    · rw [if_neg q, if_neg (fun y => nk ⟨(c1.mp q).1, (c1.mp q).2, c2.mp y⟩)]
theorem readClear12 {s : e_S} {g : ps_G} {I : Nat → Int32} {n p z pm c : Nat} (h : DM s I n) (hp : p + 12 + z ≤ n) (hm : pm ≤ 256) (hc : c < 7) (h4 : s.1 139 4 = 0) (f8 : s.1 139 82 = Int32.ofNat pm) (f5 : s.1 139 85 = Int32.ofNat c) : (¬ c = 3 → fX12_readClear (e_g s g) 139 (Int32.ofNat p) (Int32.ofNat z) = some (e_g s g)) ∧ (c = 3 → z ≤ pm → ∃ s', fX12_readClear (e_g s g) 139 (Int32.ofNat p) (Int32.ofNat z) = some (e_g s' g) ∧ Kp [190] 139 [] s s' ∧ ∀ i, i < 256 → s'.2.1 190 i = if i < z then I (p + 8 + i) else 255) ∧ (c = 3 → ¬ z ≤ pm → fX12_readClear (e_g s g) 139 (Int32.ofNat p) (Int32.ofNat z) = some (e_g (sF (sF s 139 4 4) 139 5 (Int32.ofNat p)) g)) := by
  have hn := h.1
  have c3 : Int32.ofNat c = (3 : Int32) ↔ c = 3 := n_eq (b := 3) (by omega) (by omega)
  have e8 : Int32.ofNat p + 8 = Int32.ofNat (p + 8) := n_add (m := 8)
  unfold fX12_readClear
  rw [f139_85, f5, ob_n]
  refine ⟨fun q => by rw [if_neg (fun y => q (c3.mp y))], fun q ok => ?_, fun q nk => ?_⟩
  · have dk : ∀ {S : e_S}, Kp [190] 139 [] s S → DM S I n := fun k => by
      unfold DM at h ⊢
      rw [k.2.1 139 3 (by decide), k.1 140 (by decide)]
      exact h
    obtain ⟨r, lp, s', e, k, ro⟩ := lp_n (b := fun t => bX12_readClear_26 139 (Int32.ofNat p) (Int32.ofNat z) t.1 t.2) (fun i t => ∃ s', t = (Int32.ofNat i, e_g s' g) ∧ Kp [190] 139 [] s s' ∧ ∀ j, j < i → s'.2.1 190 j = if j < z then I (p + 8 + j) else 255) (fun r => ∃ s', r = e_g s' g ∧ Kp [190] 139 [] s s' ∧ ∀ j, j < 256 → s'.2.1 190 j = if j < z then I (p + 8 + j) else 255) 256 (fun i t hi ⟨s', ht, kk, ro⟩ => by
      have d' := dk kk
      have c6 : ¬ (256 : Int32) ≤ Int32.ofNat i := show ¬ Int32.ofNat 256 ≤ _ from nle hi (by omega)
      refine ⟨(Int32.ofNat (i + 1), e_g (sA s' 190 (upd (s'.2.1 190) i (if i < z then I (p + 8 + i) else 255))) g), ?_, _, rfl, kp_A kk (by decide), fun j hj => ?_⟩
      · rw [ht]
        show bX12_readClear_26 _ _ _ _ _ = _
        unfold bX12_readClear_26 jX12_readClear_60_26
        dsimp only
        rw [if_neg c6, f139_81, ob_n, ob_n]
        by_cases q2 : i < z
        · rw [if_neg (nle q2 (by omega)), f139_1, ob_n, ob_n, e8, n_add, in12 d' (by omega), ob_n, ob_n, tb_wr t190 (by decide) (by omega) (by omega), ob_n, n_suc, if_pos q2]
        · rw [if_pos ((n_le (by omega) (by omega)).mpr (by omega)), ob_n, tb_wr t190 (by decide) (by omega) (by omega), ob_n, n_suc, if_neg q2]
      · rw [A_sA, if_pos rfl, upd_r]
        by_cases q : j = i
        · rw [if_pos q, q]
        · rw [if_neg q]; exact ro j (by omega)) (fun t ⟨s', ht, kk, ro⟩ => by
      refine ⟨_, ?_, s', rfl, kk, ro⟩
      rw [ht]
      show bX12_readClear_26 _ _ _ _ _ = _
      unfold bX12_readClear_26
      dsimp only
      rw [if_pos (show (256 : Int32) ≤ Int32.ofNat 256 by decide)]) (s := ((0 : Int32), e_g s g)) ⟨_, rfl, kp_rf, fun j hj => absurd hj (Nat.not_lt_zero j)⟩
    refine ⟨s', ?_, k, ro⟩
    rw [if_pos (c3.mpr q), f139_82, f8, ob_n, if_pos ((n_le (by omega) (by omega)).mpr ok), lp, ob_n, e]
  · rw [if_pos (c3.mpr q), f139_82, f8, ob_n, if_neg (nle (by omega) (by omega)), ob139, ob_n, wrong12 h4, ob_n]
theorem readPacked12 {s : e_S} {g : ps_G} {I : Nat → Int32} {n p z len : Nat} {K : Nat → Int32} (h : DM s I n) (hp : p + 12 + z ≤ n) (hl : len + z ≤ 8000) (f1 : s.1 139 79 = Int32.ofNat len) (hK : ∀ i, i < len → s.2.1 188 i = K i) : ∃ s', fX12_readPacked (e_g s g) 139 (Int32.ofNat p) (Int32.ofNat z) = some (e_g s' g) ∧ Kp [188] 139 [79, 86] s s' ∧ s'.1 139 86 = (if 0 ≤ s.1 139 86 then s.1 139 86 else Int32.ofNat p) ∧ s'.1 139 79 = Int32.ofNat (len + z) ∧ ∀ i, i < len + z → s'.2.1 188 i = pkV I (p + 8) len K i := by
  have hn := h.1
  have e8 : Int32.ofNat p + 8 = Int32.ofNat (p + 8) := n_add (m := 8)
  have dk : ∀ {S : e_S}, Kp [188] 139 [79, 86] s S → DM S I n := fun k => by
    unfold DM at h ⊢
    rw [k.2.1 139 3 (by decide), k.1 140 (by decide)]
    exact h
  have go : ∀ (S : e_S) (v : Int32), Kp [188] 139 [79, 86] s S → S.1 139 86 = v → S.1 139 79 = Int32.ofNat len → (∀ i, i < len → S.2.1 188 i = K i) → ∃ s', jX12_readPacked_12 (e_g S g) 139 (Int32.ofNat p) (Int32.ofNat z) = some (e_g s' g) ∧ Kp [188] 139 [79, 86] s s' ∧ s'.1 139 86 = v ∧ s'.1 139 79 = Int32.ofNat (len + z) ∧ ∀ i, i < len + z → s'.2.1 188 i = pkV I (p + 8) len K i := fun S v k0 v0 g1 gK => by
    obtain ⟨r, lp, s', e, k, q11, q1, ro⟩ := lp_n (b := fun t => bX12_readPacked_14 139 (Int32.ofNat p) (Int32.ofNat z) t.1 t.2) (fun i t => ∃ s', t = (Int32.ofNat i, e_g s' g) ∧ Kp [188] 139 [79, 86] s s' ∧ s'.1 139 86 = v ∧ s'.1 139 79 = Int32.ofNat (len + i) ∧ ∀ j, j < len + i → s'.2.1 188 j = pkV I (p + 8) len K j) (fun r => ∃ s', r = e_g s' g ∧ Kp [188] 139 [79, 86] s s' ∧ s'.1 139 86 = v ∧ s'.1 139 79 = Int32.ofNat (len + z) ∧ ∀ j, j < len + z → s'.2.1 188 j = pkV I (p + 8) len K j) z (fun i t hi ⟨s', ht, kk, q11, q1, ro⟩ => by
      have d' := dk kk
      refine ⟨(Int32.ofNat (i + 1), e_g (sF (sA s' 188 (upd (s'.2.1 188) (len + i) (I (p + 8 + i)))) 139 79 (Int32.ofNat (len + (i + 1)))) g), ?_, _, rfl, kp_F (kp_A kk (by decide)) (by decide), ?_, ?_, fun j hj => ?_⟩
      · rw [ht]
        show bX12_readPacked_14 _ _ _ _ _ = _
        unfold bX12_readPacked_14
        dsimp only
        rw [if_neg (nle hi (by omega)), f139_78, ob_n, ob_n, f139_79, q1, ob_n, f139_1, ob_n, ob_n, e8, n_add, in12 d' (by omega), ob_n, tb_wr t188 (by decide) (by omega) (by omega), ob_n, f139_79, F_sA, q1, ob_n, w139_79, ob_n, n_suc, n_suc]
        rfl
      · rw [F_sF, if_neg (by decide), F_sA]; exact q11
      · rw [F_sF, if_pos ⟨rfl, rfl⟩]
      · rw [A_sF, A_sA, if_pos rfl, upd_r]
        by_cases q : j = len + i
        · rw [if_pos q, q]
          unfold pkV
          rw [if_neg (by omega), show len + i - len = i by omega]
        · rw [if_neg q]; exact ro j (by omega)) (fun t ⟨s', ht, kk, q11, q1, ro⟩ => by
      refine ⟨_, ?_, s', rfl, kk, q11, q1, ro⟩
      rw [ht]
      show bX12_readPacked_14 _ _ _ _ _ = _
      unfold bX12_readPacked_14
      dsimp only
      rw [if_pos (nlr (by omega))]) (s := ((0 : Int32), e_g S g)) ⟨_, rfl, k0, v0, g1, fun j hj => by
        rw [gK j hj]
        unfold pkV
        rw [if_pos (show j < len from hj)]⟩
    refine ⟨s', ?_, k, q11, q1, ro⟩
    unfold jX12_readPacked_12
    rw [lp, ob_n, e]
  unfold fX12_readPacked
  rw [f139_86, ob_n]
  by_cases q : 0 ≤ s.1 139 86
  · rw [if_pos q, if_pos q]
    exact go s _ kp_rf rfl f1 hK
  · rw [if_neg q, if_neg q, w139_86, ob_n]
    exact go _ _ (kp_F kp_rf (by decide)) (by rw [F_sF, if_pos ⟨rfl, rfl⟩]) (by rw [F_sF, if_neg (by decide)]; exact f1) (fun i hi => by rw [A_sF]; exact hK i hi)
theorem header12 {s : e_S} {g : ps_G} {I : Nat → Int32} {n p z : Nat} {fs nm : Int32} (h : DM s I n) (hp : p + 12 + z ≤ n) (h4 : s.1 139 4 = 0) (hf : fs = 0 ∨ fs = 1) : ((fs = 1 ∧ nm = 1229472850 ∧ hdK I p z) → ∃ s', fX12_header (e_g s g) 139 (Int32.ofNat p) (Int32.ofNat z) nm fs = some (e_g s' g) ∧ Kp [] 139 [83, 84, 85] s s' ∧ s'.1 139 83 = sm4 I (p + 8) ∧ s'.1 139 84 = sm4 I (p + 12) ∧ s'.1 139 85 = I (p + 17)) ∧ (¬ (fs = 1 ∧ nm = 1229472850 ∧ hdK I p z) → ∃ s', fX12_header (e_g s g) 139 (Int32.ofNat p) (Int32.ofNat z) nm fs = some (e_g (sF (sF s' 139 4 3) 139 5 (Int32.ofNat p)) g) ∧ Kp [] 139 [83, 84, 85] s s') := by
  have hn := h.1
  have ad : ∀ k : Nat, Int32.ofNat p + Int32.ofNat k = Int32.ofNat (p + k) := fun k => n_add
  have a8 : Int32.ofNat p + 8 = Int32.ofNat (p + 8) := ad 8
  have a12 : Int32.ofNat p + 12 = Int32.ofNat (p + 12) := ad 12
  have a16 : Int32.ofNat p + 16 = Int32.ofNat (p + 16) := ad 16
  have a17 : Int32.ofNat p + 17 = Int32.ofNat (p + 17) := ad 17
  have a18 : Int32.ofNat p + 18 = Int32.ofNat (p + 18) := ad 18
  have a19 : Int32.ofNat p + 19 = Int32.ofNat (p + 19) := ad 19
  have a20 : Int32.ofNat p + 20 = Int32.ofNat (p + 20) := ad 20
  have c13 : Int32.ofNat z = (13 : Int32) ↔ z = 13 := n_eq (b := 13) (by omega) (by omega)
  have bad : ∀ S : e_S, S.1 139 4 = 0 → jX12_header_202 (e_g S g) 139 (Int32.ofNat p) 0 = some (e_g (sF (sF S 139 4 3) 139 5 (Int32.ofNat p)) g) := fun S hS => by
    unfold jX12_header_202 jX12_header_213
    rw [if_neg (fun y => y rfl), ob139, ob_n, wrong12 hS, ob_n]
  by_cases q : fs = 1 ∧ nm = 1229472850 ∧ z = 13
  · obtain ⟨q1, q2, q3⟩ := q
    have cnd : ¬ (fs = 0 ∨ ((¬ nm = (1229472850 : Int32)) ∨ (¬ Int32.ofNat z = (13 : Int32)))) := by
      rintro (y | y | y)
      · rw [q1] at y; exact absurd y (by decide)
      · exact y q2
      · exact y (c13.mpr q3)
    obtain ⟨S, eS⟩ : ∃ S, S = sF (sF (sF s 139 83 (sm4 I (p + 8))) 139 84 (sm4 I (p + 12))) 139 85 (I (p + 17)) := ⟨_, rfl⟩
    have kS : Kp [] 139 [83, 84, 85] s S := by
      rw [eS]
      exact kp_F (kp_F (kp_F kp_rf (by decide)) (by decide)) (by decide)
    have g3 : S.1 139 83 = sm4 I (p + 8) := by rw [eS, F_sF, if_neg (by decide), F_sF, if_neg (by decide), F_sF, if_pos ⟨rfl, rfl⟩]
    have g4 : S.1 139 84 = sm4 I (p + 12) := by rw [eS, F_sF, if_neg (by decide), F_sF, if_pos ⟨rfl, rfl⟩]
    have g5 : S.1 139 85 = I (p + 17) := by rw [eS, F_sF, if_pos ⟨rfl, rfl⟩]
    have s4 : S.1 139 4 = 0 := (kS.2.1 139 4 (by decide)).trans h4
    have dk : ∀ {S : e_S}, Kp [] 139 [83, 84, 85] s S → DM S I n := fun k => by
      unfold DM at h ⊢
      rw [k.2.1 139 3 (by decide), k.1 140 (by decide)]
      exact h
    have d1 : DM (sF s 139 83 (sm4 I (p + 8))) I n := dk (kp_F kp_rf (by decide))
    have d2 : DM (sF (sF s 139 83 (sm4 I (p + 8))) 139 84 (sm4 I (p + 12))) I n := dk (kp_F (kp_F kp_rf (by decide)) (by decide))
    have dS := dk kS
    have pre : fX12_header (e_g s g) 139 (Int32.ofNat p) (Int32.ofNat z) nm fs = if (fX12_in (sm4 I (p + 8)) (1 : Int32) (24 : Int32)) = 0 then (jX12_header_147 (e_g S g) 139 (Int32.ofNat p)) else (if (fX12_in (sm4 I (p + 12)) (1 : Int32) (24 : Int32)) = 0 then (jX12_header_147 (e_g S g) 139 (Int32.ofNat p)) else (if ¬ I (p + 16) = (8 : Int32) then (jX12_header_147 (e_g S g) 139 (Int32.ofNat p)) else (if ¬ I (p + 18) = 0 then (jX12_header_147 (e_g S g) 139 (Int32.ofNat p)) else (if ¬ I (p + 19) = 0 then (jX12_header_147 (e_g S g) 139 (Int32.ofNat p)) else (if ¬ I (p + 20) = 0 then (jX12_header_147 (e_g S g) 139 (Int32.ofNat p)) else (jX12_header_148 (e_g S g) 139 (Int32.ofNat p) (1 : Int32))))))) := by
      unfold fX12_header
      rw [if_neg cnd, if_neg (by decide), ob139, ob_n, a8, word12 h (by omega), ob_n, w139_83, ob_n, ob139, ob_n, a12, word12 d1 (by omega), ob_n, w139_84, ob_n, f139_1, ob_n, ob_n, a17, in12 d2 (by omega), ob_n, w139_85, ob_n, ← eS, f139_83, g3, ob_n, f139_84, g4, ob_n, f139_1, ob_n, ob_n, a16, in12 dS (by omega), ob_n, ob_n, ob_n, a18, in12 dS (by omega), ob_n, ob_n, ob_n, a19, in12 dS (by omega), ob_n, ob_n, ob_n, a20, in12 dS (by omega), ob_n]
    clear eS
    have inn : ∀ x : Int32, fX12_in x 1 24 = 0 ↔ ¬ ((1 : Int32) ≤ x ∧ x ≤ 24) := fun x => by
      unfold fX12_in
      have e1 : (1 : Int32).toInt = 1 := by decide
      have e24 : (24 : Int32).toInt = 24 := by decide
      constructor
      · intro y
        rintro ⟨y1, y2⟩
        rw [if_neg (by rw [i_lt, i_lt, e1, e24]; rw [i_le, e1] at y1; rw [i_le, e24] at y2; omega)] at y
        exact absurd y (by decide)
      · intro y
        rw [if_pos (by
          rw [i_lt, i_lt, e1, e24]
          rw [i_le, i_le, e1, e24] at y
          omega)]
    have j147 : jX12_header_147 (e_g S g) 139 (Int32.ofNat p) = some (e_g (sF (sF S 139 4 3) 139 5 (Int32.ofNat p)) g) := by
      unfold jX12_header_147 jX12_header_148 jX12_header_199 jX12_header_200
      rw [if_pos rfl, bad S s4]
    have j195 : jX12_header_195 (e_g S g) 139 (Int32.ofNat p) = some (e_g S g) := by
      unfold jX12_header_195 jX12_header_200 jX12_header_202 jX12_header_213
      rw [if_pos (by decide)]
    have j199 : jX12_header_199 (e_g S g) 139 (Int32.ofNat p) = some (e_g (sF (sF S 139 4 3) 139 5 (Int32.ofNat p)) g) := by
      unfold jX12_header_199 jX12_header_200
      rw [bad S s4]
    have j148 : jX12_header_148 (e_g S g) 139 (Int32.ofNat p) 1 = if (I (p + 17) = 0 ∨ I (p + 17) = 2 ∨ I (p + 17) = 3 ∨ I (p + 17) = 4 ∨ I (p + 17) = 6) then some (e_g S g) else some (e_g (sF (sF S 139 4 3) 139 5 (Int32.ofNat p)) g) := by
      unfold jX12_header_148
      rw [if_neg (by decide), f139_85, g5, ob_n, ob_n, ob_n, ob_n, ob_n, j195, j199]
      by_cases x0 : I (p + 17) = 0
      · rw [if_pos x0, if_pos (Or.inl x0)]
      · rw [if_neg x0]
        by_cases x2 : I (p + 17) = 2
        · rw [if_pos x2, if_pos (Or.inr (Or.inl x2))]
        · rw [if_neg x2]
          by_cases x3 : I (p + 17) = 3
          · rw [if_pos x3, if_pos (Or.inr (Or.inr (Or.inl x3)))]
          · rw [if_neg x3]
            by_cases x4 : I (p + 17) = 4
            · rw [if_pos x4, if_pos (Or.inr (Or.inr (Or.inr (Or.inl x4))))]
            · rw [if_neg x4]
              by_cases x6 : I (p + 17) = 6
              · rw [if_neg (fun y => y x6), if_pos (Or.inr (Or.inr (Or.inr (Or.inr x6))))]
              · rw [if_pos x6, if_neg]
                rintro (y | y | y | y | y)
                · exact x0 y
                · exact x2 y
                · exact x3 y
                · exact x4 y
                · exact x6 y
    rw [pre, j147, j148]
    refine ⟨fun ok => ?_, fun nk => ?_⟩
    · obtain ⟨-, -, -, b1, b2, b3, b4, b5, b6, b7⟩ := ok
      refine ⟨S, ?_, kS, g3, g4, g5⟩
      rw [if_neg (fun y => (inn _).mp y b1), if_neg (fun y => (inn _).mp y b2), if_neg (fun y => y b3), if_neg (fun y => y b5), if_neg (fun y => y b6), if_neg (fun y => y b7), if_pos b4]
    · refine ⟨S, ?_, kS⟩
      by_cases b1 : (1 : Int32) ≤ sm4 I (p + 8) ∧ sm4 I (p + 8) ≤ 24
      · rw [if_neg (fun y => (inn _).mp y b1)]
        by_cases b2 : (1 : Int32) ≤ sm4 I (p + 12) ∧ sm4 I (p + 12) ≤ 24
        · rw [if_neg (fun y => (inn _).mp y b2)]
          by_cases b3 : I (p + 16) = 8
          · rw [if_neg (fun y => y b3)]
            by_cases b5 : I (p + 18) = 0
            · rw [if_neg (fun y => y b5)]
              by_cases b6 : I (p + 19) = 0
              · rw [if_neg (fun y => y b6)]
                by_cases b7 : I (p + 20) = 0
                · rw [if_neg (fun y => y b7), if_neg (fun b4 => nk ⟨q1, q2, q3, b1, b2, b3, b4, b5, b6, b7⟩)]
                · rw [if_pos b7]
              · rw [if_pos b6]
            · rw [if_pos b5]
          · rw [if_pos b3]
        · rw [if_pos ((inn _).mpr b2)]
      · rw [if_pos ((inn _).mpr b1)]
  · have cnd : fs = 0 ∨ ((¬ nm = (1229472850 : Int32)) ∨ (¬ Int32.ofNat z = (13 : Int32))) := by
      rcases hf with hf | hf
      · exact Or.inl hf
      · by_cases y1 : nm = 1229472850
        · exact Or.inr (Or.inr (fun y => q ⟨hf, y1, c13.mp y⟩))
        · exact Or.inr (Or.inl y1)
    refine ⟨fun ok => absurd ⟨ok.1, ok.2.1, ok.2.2.1⟩ q, fun _ => ⟨s, ?_, kp_rf⟩⟩
    unfold fX12_header
    rw [if_pos cnd, if_pos rfl, bad s h4]
