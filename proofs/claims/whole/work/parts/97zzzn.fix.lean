-- needs: 97zzzm
/-! ===== png: the fixed codes ===== -/
def fxL (i : Nat) : Nat := if i < 144 then 8 else if i < 256 then 9 else if i < 280 then 7 else 8
def fdL (_ : Nat) : Nat := 5
theorem fx_16 {i : Nat} : fxL i < 16 := by
  unfold fxL
  split
  · omega
  · split
    · omega
    · split <;> omega
theorem and15n {x : Nat} (h : x < 16) : Int32.ofNat x &&& 15 = Int32.ofNat x := by
  have : ∀ x : Fin 16, Int32.ofNat x.1 &&& 15 = Int32.ofNat x.1 := by decide
  exact this ⟨x, h⟩
theorem fx_e {i : Nat} (hi : i < 1000) : (if (144 : Int32) ≤ Int32.ofNat i then (if (256 : Int32) ≤ Int32.ofNat i then (if (280 : Int32) ≤ Int32.ofNat i then (8 : Int32) else (7 : Int32)) else (9 : Int32)) else (8 : Int32)) = Int32.ofNat (fxL i) := by
  have c : ∀ k : Nat, k < 1000 → (Int32.ofNat k ≤ Int32.ofNat i ↔ k ≤ i) := fun k hk => n_le (by omega) (by omega)
  have c1 : (144 : Int32) ≤ Int32.ofNat i ↔ 144 ≤ i := c 144 (by omega)
  have c2 : (256 : Int32) ≤ Int32.ofNat i ↔ 256 ≤ i := c 256 (by omega)
  have c3 : (280 : Int32) ≤ Int32.ofNat i ↔ 280 ≤ i := c 280 (by omega)
  unfold fxL
  by_cases q1 : 144 ≤ i
  · rw [if_pos (c1.mpr q1), if_neg (show ¬ i < 144 by omega)]
    by_cases q2 : 256 ≤ i
    · rw [if_pos (c2.mpr q2), if_neg (show ¬ i < 256 by omega)]
      by_cases q3 : 280 ≤ i
      · rw [if_pos (c3.mpr q3), if_neg (show ¬ i < 280 by omega)]; rfl
      · rw [if_neg (fun z => q3 (c3.mp z)), if_pos (show i < 280 by omega)]; rfl
    · rw [if_neg (fun z => q2 (c2.mp z)), if_pos (show i < 256 by omega)]; rfl
  · rw [if_neg (fun z => q1 (c1.mp z)), if_pos (show i < 144 by omega)]; rfl
theorem tbC_c {C C' Y Y' : Nat → Int32} {L : Nat → Nat} {n : Nat} (h : Tb C Y L n) (h1 : ∀ k, k < 16 → C' k = C k) (h2 : ∀ k, k < n → Y' k = Y k) : Tb C' Y' L n := by
  refine ⟨fun k hk => by rw [h1 k hk]; exact h.1 k hk, fun b b1 b2 r hr => ?_⟩
  have o1 := of_s (L := L) (i := n) (b := b) b1
  have o2 := of_le (L := L) (b := b + 1) (by omega) n
  rw [h2 _ (by omega)]
  exact h.2 b b1 b2 r hr
theorem gc_k {s s' : e_S} {K : Nat → Int32} {n d b sz : Nat} {O : Nat → Int32} (h : GC s K n d b sz O) (k : Kp [131, 132, 133, 134, 135, 136] 128 [] s s') : GC s' K n d b sz O := by
  have f : ∀ j, s'.1 128 j = s.1 128 j := fun j => k.2.1 128 j (fun z => by cases z.2)
  unfold GC PC at h ⊢
  rw [f, f, f, f, f, k.1 129 (by decide), k.1 130 (by decide)]
  exact h
theorem bc_k {s s' : e_S} {K : Nat → Int32} {n : Nat} (h : BC s K n) (k : Kp [131, 132, 133, 134, 135, 136] 128 [] s s') : BC s' K n := by
  have f : ∀ j, s'.1 128 j = s.1 128 j := fun j => k.2.1 128 j (fun z => by cases z.2)
  unfold BC PC at h ⊢
  rw [f, f, f, k.1 129 (by decide)]
  exact h
theorem gm_k {s s' : e_S} {K : Nat → Int32} {n d b sz : Nat} {O : Nat → Int32} (h : GM s K n d b sz O) (k : Kp [191, 192, 193] 139 [] s s') : GM s' K n d b sz O := by
  have f : ∀ j, s'.1 139 j = s.1 139 j := fun j => k.2.1 139 j (fun z => by cases z.2)
  unfold GM PM at h ⊢
  rw [f, f, f, f, f, k.1 188 (by decide), k.1 187 (by decide)]
  exact h
theorem kx {s : e_S} {c0 y0 : Nat} {C Y O : Nat → Int32} (h1 : [131, 132, 133, 134, 135, 136].contains c0 = true) (h2 : [131, 132, 133, 134, 135, 136].contains y0 = true) : Kp [131, 132, 133, 134, 135, 136] 128 [] s (xT s c0 y0 C Y O) := kp_A (kp_A (kp_A kp_rf h1) h2) (by decide)
theorem ky {s : e_S} {C Y : Nat → Int32} : Kp [191, 192, 193] 139 [] s (yT s C Y) := kp_A (kp_A kp_rf (by decide)) (by decide)
theorem fixed7 {s : e_S} {g : ps_G} : ∃ s', fX2_fixedCodes (e_g s g) 128 = some (e_g s' g) ∧ Kp [131, 132, 133, 134, 135, 136] 128 [] s s' ∧ TC s' fxL fdL 288 30 := by
  obtain ⟨r1, lp1, B1, e1, h1⟩ := lp_n (b := fun t => bX2_fixedCodes_2 128 t.1 t.2) (fun i t => ∃ B, t = (Int32.ofNat i, e_g (sA s 131 B) g) ∧ ∀ k, k < i → B k = Int32.ofNat (fxL k)) (fun r => ∃ B, r = e_g (sA s 131 B) g ∧ ∀ k, k < 288 → B k = Int32.ofNat (fxL k)) 288 (fun i t hi ⟨B, ht, hB⟩ => by
    refine ⟨(Int32.ofNat (i + 1), e_g (sA s 131 (upd B i (Int32.ofNat (fxL i)))) g), ?_, _, rfl, fun k hk => ?_⟩
    · rw [ht]
      show bX2_fixedCodes_2 _ _ _ = _
      unfold bX2_fixedCodes_2
      have c : ¬ (288 : Int32) ≤ Int32.ofNat i := show ¬ Int32.ofNat 288 ≤ _ from nle hi (by omega)
      dsimp only
      rw [if_neg c, f128_7, ob_n, ob_n, fx_e (by omega), tb_wr t131 (by decide) (by omega) (by omega), ob_n, A_sA, if_pos rfl, sA_sA, n_suc]
    · rw [upd_r]
      by_cases q : k = i
      · rw [if_pos q, q]
      · rw [if_neg q]; exact hB k (by omega)) (fun t ⟨B, ht, hB⟩ => by
    refine ⟨_, ?_, B, rfl, hB⟩
    rw [ht]
    show bX2_fixedCodes_2 _ _ _ = _
    unfold bX2_fixedCodes_2
    dsimp only
    rw [if_pos (show (288 : Int32) ≤ Int32.ofNat 288 by decide)]) (s := ((0 : Int32), e_g s g)) ⟨s.2.1 131, by rw [sA_id]; rfl, fun k hk => absurd hk (Nat.not_lt_zero k)⟩
  obtain ⟨r2, lp2, B2, e2, h2, h2'⟩ := lp_n (b := fun t => bX2_fixedCodes_63 128 t.1 t.2) (fun i t => ∃ B, t = (Int32.ofNat (288 + i), e_g (sA s 131 B) g) ∧ (∀ k, k < 288 → B k = Int32.ofNat (fxL k)) ∧ ∀ k, k < i → B (288 + k) = Int32.ofNat 5) (fun r => ∃ B, r = e_g (sA s 131 B) g ∧ (∀ k, k < 288 → B k = Int32.ofNat (fxL k)) ∧ ∀ k, k < 30 → B (288 + k) = Int32.ofNat 5) 30 (fun i t hi ⟨B, ht, hB, hB2⟩ => by
    refine ⟨(Int32.ofNat (288 + (i + 1)), e_g (sA s 131 (upd B (288 + i) 5)) g), ?_, _, rfl, fun k hk => ?_, fun k hk => ?_⟩
    · rw [ht]
      show bX2_fixedCodes_63 _ _ _ = _
      unfold bX2_fixedCodes_63
      have c : ¬ (318 : Int32) ≤ Int32.ofNat (288 + i) := show ¬ Int32.ofNat 318 ≤ _ from nle (by omega) (by omega)
      dsimp only
      rw [if_neg c, f128_7, ob_n, ob_n, tb_wr t131 (by decide) (by omega) (by omega), ob_n, A_sA, if_pos rfl, sA_sA, n_suc]
      rfl
    · rw [upd_r, if_neg (by omega)]; exact hB k hk
    · rw [upd_r]
      by_cases q : 288 + k = 288 + i
      · rw [if_pos q]; rfl
      · rw [if_neg q]; exact hB2 k (by omega)) (fun t ⟨B, ht, hB, hB2⟩ => by
    refine ⟨_, ?_, B, rfl, hB, hB2⟩
    rw [ht]
    show bX2_fixedCodes_63 _ _ _ = _
    unfold bX2_fixedCodes_63
    dsimp only
    rw [if_pos (show (318 : Int32) ≤ Int32.ofNat (288 + 30) by decide)]) (s := ((288 : Int32), e_g (sA s 131 B1) g)) ⟨B1, rfl, h1, fun k hk => absurd hk (Nat.not_lt_zero k)⟩
  obtain ⟨l1, C1, Y1, O1, o1, -, o3⟩ := order7 (s := sA s 131 B2) (g := g) (first := 0) (many := 288) (L := fxL) t132 t133 (by decide) (by decide) (by decide) (by decide) (by decide) (by decide) (by decide) (by omega) (by omega) (by omega) (fun i hi => by
    rw [A_sA, if_pos rfl, Nat.zero_add, h2 i hi, and15n fx_16]
    exact ⟨rfl, fx_16⟩)
  obtain ⟨l2, C2, Y2, O2, p1, -, p3⟩ := order7 (s := xT (sA s 131 B2) 132 133 C1 Y1 O1) (g := g) (first := 288) (many := 30) (L := fdL) t134 t135 (by decide) (by decide) (by decide) (by decide) (by decide) (by decide) (by decide) (by omega) (by omega) (by omega) (fun i hi => by
    rw [x_rl (by decide) (by decide) (by decide), A_sA, if_pos rfl, h2' i hi]
    exact ⟨show Int32.ofNat 5 &&& 15 = Int32.ofNat 5 by decide, show 5 < 16 by decide⟩)
  have o1' : fX2_order (e_g (sA s 131 B2) g) 128 132 133 0 288 = _ := o1
  have p1' : fX2_order (e_g (xT (sA s 131 B2) 132 133 C1 Y1 O1) g) 128 134 135 288 30 = _ := p1
  have k1 : Kp [131, 132, 133, 134, 135, 136] 128 [] s (sA s 131 B2) := kp_A kp_rf (by decide)
  refine ⟨xT (xT (sA s 131 B2) 132 133 C1 Y1 O1) 134 135 C2 Y2 O2, ?_, kp_tr (kp_tr k1 (kx (by decide) (by decide))) (kx (by decide) (by decide)), by omega, by omega, ?_, ?_⟩
  · unfold fX2_fixedCodes
    rw [lp1, ob_n, e1, lp2, ob_n, e2, f128_8, ob_n, ob_n, f128_9, ob_n, ob_n, ob128, ob_n, o1', b2_n, f128_10, ob_n, ob_n, f128_11, ob_n, ob_n, ob128, ob_n, p1', b2_n]
  · rw [x_rl (j := 132) (by decide) (by decide) (by decide), x_rc (by decide) (by decide), x_rl (j := 133) (by decide) (by decide) (by decide), x_ry (by decide)]
    exact o3
  · rw [x_rc (by decide) (by decide), x_ry (by decide)]
    exact p3
theorem ok_fx : okC fxL 288 0 := Or.inl (by decide +kernel)
theorem ok_fd : okC fdL 32 1 := Or.inl (by decide +kernel)
theorem fixed12 {s : e_S} {g : ps_G} : ∃ s', fX12_fixedCodes (e_g s g) 139 = some (e_g s' g) ∧ Kp [191, 192, 193] 139 [] s s' ∧ TM s' fxL fdL 288 32 := by
  obtain ⟨r1, lp1, B1, e1, h1⟩ := lp_n (b := fun t => bX12_fixedCodes_2 139 t.1 t.2) (fun i t => ∃ B, t = (Int32.ofNat i, e_g (sA s 193 B) g) ∧ ∀ k, k < i → B k = Int32.ofNat (fxL k)) (fun r => ∃ B, r = e_g (sA s 193 B) g ∧ ∀ k, k < 288 → B k = Int32.ofNat (fxL k)) 288 (fun i t hi ⟨B, ht, hB⟩ => by
    refine ⟨(Int32.ofNat (i + 1), e_g (sA s 193 (upd B i (Int32.ofNat (fxL i)))) g), ?_, _, rfl, fun k hk => ?_⟩
    · rw [ht]
      show bX12_fixedCodes_2 _ _ _ = _
      unfold bX12_fixedCodes_2
      have c : ¬ (288 : Int32) ≤ Int32.ofNat i := show ¬ Int32.ofNat 288 ≤ _ from nle hi (by omega)
      dsimp only
      rw [if_neg c, f139_92, ob_n, ob_n, fx_e (by omega), tb_wr t193 (by decide) (by omega) (by omega), ob_n, A_sA, if_pos rfl, sA_sA, n_suc]
    · rw [upd_r]
      by_cases q : k = i
      · rw [if_pos q, q]
      · rw [if_neg q]; exact hB k (by omega)) (fun t ⟨B, ht, hB⟩ => by
    refine ⟨_, ?_, B, rfl, hB⟩
    rw [ht]
    show bX12_fixedCodes_2 _ _ _ = _
    unfold bX12_fixedCodes_2
    dsimp only
    rw [if_pos (show (288 : Int32) ≤ Int32.ofNat 288 by decide)]) (s := ((0 : Int32), e_g s g)) ⟨s.2.1 193, by rw [sA_id]; rfl, fun k hk => absurd hk (Nat.not_lt_zero k)⟩
  obtain ⟨r2, lp2, B2, e2, h2, h2'⟩ := lp_n (b := fun t => bX12_fixedCodes_61 139 t.1 t.2) (fun i t => ∃ B, t = (Int32.ofNat i, e_g (sA s 193 B) g) ∧ (∀ k, k < 288 → B k = Int32.ofNat (fxL k)) ∧ ∀ k, k < i → B (288 + k) = Int32.ofNat 5) (fun r => ∃ B, r = e_g (sA s 193 B) g ∧ (∀ k, k < 288 → B k = Int32.ofNat (fxL k)) ∧ ∀ k, k < 32 → B (288 + k) = Int32.ofNat 5) 32 (fun i t hi ⟨B, ht, hB, hB2⟩ => by
    refine ⟨(Int32.ofNat (i + 1), e_g (sA s 193 (upd B (288 + i) 5)) g), ?_, _, rfl, fun k hk => ?_, fun k hk => ?_⟩
    · rw [ht]
      show bX12_fixedCodes_61 _ _ _ = _
      unfold bX12_fixedCodes_61
      have c : ¬ (32 : Int32) ≤ Int32.ofNat i := show ¬ Int32.ofNat 32 ≤ _ from nle hi (by omega)
      have e8 : (288 : Int32) + Int32.ofNat i = Int32.ofNat (288 + i) := n_add (n := 288)
      dsimp only
      rw [if_neg c, f139_92, ob_n, ob_n, e8, tb_wr t193 (by decide) (by omega) (by omega), ob_n, A_sA, if_pos rfl, sA_sA, n_suc]
    · rw [upd_r, if_neg (by omega)]; exact hB k hk
    · rw [upd_r]
      by_cases q : 288 + k = 288 + i
      · rw [if_pos q]; rfl
      · rw [if_neg q]; exact hB2 k (by omega)) (fun t ⟨B, ht, hB, hB2⟩ => by
    refine ⟨_, ?_, B, rfl, hB, hB2⟩
    rw [ht]
    show bX12_fixedCodes_61 _ _ _ = _
    unfold bX12_fixedCodes_61
    dsimp only
    rw [if_pos (show (32 : Int32) ≤ Int32.ofNat 32 by decide)]) (s := ((0 : Int32), e_g (sA s 193 B1) g)) ⟨B1, rfl, h1, fun k hk => absurd hk (Nat.not_lt_zero k)⟩
  obtain ⟨C1, Y1, o1, -, -, -⟩ := makeCodes12 (s := sA s 193 B2) (g := g) (st := 0) (fr := 0) (n := 288) (L := fxL) (by omega) (by omega) (by omega) (fun i hi => by
    rw [A_sA, if_pos rfl, Nat.zero_add, h2 i hi]
    exact ⟨rfl, fx_16⟩)
  obtain ⟨o2, o3⟩ := o1 ok_fx
  obtain ⟨C2, Y2, p1, -, p4, p5⟩ := makeCodes12 (s := yT (sA s 193 B2) C1 Y1) (g := g) (st := 1) (fr := 288) (n := 32) (L := fdL) (by omega) (by omega) (by omega) (fun i hi => by
    rw [y_rl (by decide) (by decide), A_sA, if_pos rfl, h2' i hi]
    exact ⟨rfl, show 5 < 16 by decide⟩)
  obtain ⟨p2, p3⟩ := p1 ok_fd
  rw [y_rc] at p4
  rw [y_ry] at p5
  have o2' : fX12_makeCodes (e_g (sA s 193 B2) g) 139 0 0 288 = _ := o2
  have p2' : fX12_makeCodes (e_g (yT (sA s 193 B2) C1 Y1) g) 139 1 288 32 = _ := p2
  have k1 : Kp [191, 192, 193] 139 [] s (sA s 193 B2) := kp_A kp_rf (by decide)
  refine ⟨yT (yT (sA s 193 B2) C1 Y1) C2 Y2, ?_, kp_tr (kp_tr k1 ky) ky, by omega, by omega, ?_, ?_⟩
  · unfold fX12_fixedCodes
    rw [lp1, ob_n, e1, lp2, ob_n, e2, ob139, ob_n, o2', ob_n, ob139, ob_n, p2', ob_n]
  · rw [y_rc, y_ry]
    exact tbC_c o3 (fun k hk => p4 _ (by omega)) (fun k hk => p5 _ (by omega))
  · rw [y_rc, y_ry]
    exact p3
/-- thirty codes or thirty-two: the last two are wrong -/
theorem ft_5 {n k : Nat} : ftL fdL k n = if k = 5 then List.range n else [] := by
  unfold ftL fdL
  by_cases q : k = 5
  · rw [if_pos q, q]
    exact List.filter_eq_self.mpr (fun a _ => rfl)
  · rw [if_neg q]
    refine List.filter_eq_nil_iff.mpr (fun a _ h => ?_)
    exact q (eq_of_beq h).symm
theorem cn_5 {n k : Nat} : cnN fdL n k = if k = 5 then n else 0 := by
  unfold cnN
  rw [ft_5]
  split
  · exact List.length_range
  · rfl
theorem nt_5 {n r : Nat} (h : r < n) : ntN fdL n 5 r = r := by
  unfold ntN
  rw [ft_5, if_pos rfl, List.getD_eq_getElem?_getD, List.getElem?_range h]
  rfl
theorem dc_5 {n nn : Nat} {K : Nat → Int32} {m c f b : Nat} (hm : m ≤ 14) (h5 : ¬ m = 10) (hf : f ≤ c) : dcN fdL n K nn (m + 1) c f b = if 8 * nn ≤ b then none else dcN fdL n K nn m (2 * (c + btN K b)) (2 * f) (b + 1) := by
  have u : dcN fdL n K nn (m + 1) c f b = if 8 * nn ≤ b then none else if c + btN K b < f + cnN fdL n (15 - m) then some (ntN fdL n (15 - m) (c + btN K b - f), b + 1) else dcN fdL n K nn m (2 * (c + btN K b)) (2 * (f + cnN fdL n (15 - m))) (b + 1) := rfl
  rw [u, cn_5, if_neg (show ¬ 15 - m = 5 by omega), if_neg (show ¬ c + btN K b < f + 0 by omega), Nat.add_zero]
theorem dc_no {n nn : Nat} {K : Nat → Int32} : ∀ m c f b, m ≤ 10 → f ≤ c → dcN fdL n K nn m c f b = none := by
  intro m
  induction m with
  | zero => exact fun c f b _ _ => rfl
  | succ m ih =>
    intro c f b hm hf
    rw [dc_5 (by omega) (by omega) hf]
    split
    · rfl
    · exact ih _ _ _ (by omega) (by omega)
theorem dc_30 {nn : Nat} {K : Nat → Int32} {b : Nat} : (∀ v b', dcN fdL 32 K nn 15 0 0 b = some (v, b') → v ≤ 29 → dcN fdL 30 K nn 15 0 0 b = some (v, b')) ∧ (∀ v b', dcN fdL 32 K nn 15 0 0 b = some (v, b') → 29 < v → dcN fdL 30 K nn 15 0 0 b = none) ∧ (dcN fdL 32 K nn 15 0 0 b = none → dcN fdL 30 K nn 15 0 0 b = none) := by
  have go : ∀ m c b, 10 ≤ m → m ≤ 14 → (m = 14 → c = 0) → (m = 13 → c ≤ 2) → (m = 12 → c ≤ 6) → (m = 11 → c ≤ 14) → (m = 10 → c ≤ 30) → (∀ v b', dcN fdL 32 K nn (m + 1) c 0 b = some (v, b') → v ≤ 29 → dcN fdL 30 K nn (m + 1) c 0 b = some (v, b')) ∧ (∀ v b', dcN fdL 32 K nn (m + 1) c 0 b = some (v, b') → 29 < v → dcN fdL 30 K nn (m + 1) c 0 b = none) ∧ (dcN fdL 32 K nn (m + 1) c 0 b = none → dcN fdL 30 K nn (m + 1) c 0 b = none) := by
    intro m
    induction m with
    | zero => intro c b h; omega
    | succ m ih =>
      intro c b h1 h2 c14 c13 c12 c11 c10
      have hbt := (bt_e (K := K) (b := b)).2
      by_cases q : m + 1 = 10
      · have em : m = 9 := by omega
        subst em
        have u : ∀ n, dcN fdL n K nn (9 + 1 + 1) c 0 b = if 8 * nn ≤ b then none else if c + btN K b < 0 + cnN fdL n 5 then some (ntN fdL n 5 (c + btN K b - 0), b + 1) else dcN fdL n K nn 10 (2 * (c + btN K b)) (2 * (0 + cnN fdL n 5)) (b + 1) := fun n => rfl
        have cc := c10 rfl
        rw [u, u, cn_5, cn_5, if_pos rfl, if_pos rfl]
        by_cases q8 : 8 * nn ≤ b
        · rw [if_pos q8, if_pos q8]
          exact ⟨fun v b' h => (by cases h), fun v b' h => (by cases h), fun _ => rfl⟩
        · rw [if_neg q8, if_neg q8, if_pos (show c + btN K b < 0 + 32 by omega), nt_5 (by omega)]
          by_cases q30 : c + btN K b < 30
          · rw [if_pos (show c + btN K b < 0 + 30 by omega), nt_5 (by omega)]
            refine ⟨fun v b' h _ => h, fun v b' h hv => ?_, fun h => h⟩
            have e := congrArg Prod.fst (Option.some.inj h)
            have e' : c + btN K b - 0 = v := e
            omega
          · rw [if_neg (show ¬ c + btN K b < 0 + 30 by omega)]
            refine ⟨fun v b' h hv => ?_, fun v b' h hv => dc_no 10 _ _ _ (by omega) (by omega), fun h => (by cases h)⟩
            have e := congrArg Prod.fst (Option.some.inj h)
            have e' : c + btN K b - 0 = v := e
            omega
      · rw [dc_5 (m := m + 1) (by omega) (by omega) (by omega), dc_5 (m := m + 1) (by omega) (by omega) (by omega)]
        by_cases q8 : 8 * nn ≤ b
        · rw [if_pos q8, if_pos q8]
          exact ⟨fun v b' h => (by cases h), fun v b' h => (by cases h), fun _ => rfl⟩
        · rw [if_neg q8, if_neg q8]
          exact ih (2 * (c + btN K b)) (b + 1) (by omega) (by omega) (by omega) (by omega) (by omega) (by omega) (by omega)
  exact go 14 0 b (by omega) (by omega) (fun _ => rfl) (by omega) (by omega) (by omega) (by omega)
theorem fc_u {K : Nat → Int32} {n d n1 k : Nat} {L1 : Nat → Nat} {t : Nat × Nat × (Nat → Int32)} : fcO K n d L1 n1 k t = (rbO K n t.1 (xbV 3 k)).bind fun q => (dcN L1 n1 K n 15 0 0 q.2).bind fun f => if 29 < f.1 then none else (rbO K n f.2 (xbV 5 f.1)).bind fun e => if t.2.1 < xbV 4 f.1 + e.1 then none else if d < t.2.1 + (xbV 2 k + q.1) then none else some (e.2, t.2.1 + (xbV 2 k + q.1), cyV t.2.2 t.2.1 (xbV 4 f.1 + e.1) (xbV 2 k + q.1)) := by
  unfold fcO
  rfl
theorem fc_30 {K : Nat → Int32} {n d k : Nat} {t : Nat × Nat × (Nat → Int32)} : fcO K n d fdL 30 k t = fcO K n d fdL 32 k t := by
  rw [fc_u, fc_u]
  cases e1 : rbO K n t.1 (xbV 3 k) with
  | none => rw [ob_no, ob_no]
  | some q =>
    obtain ⟨q1, q2⟩ := q
    rw [ob_n, ob_n]
    dsimp only
    have z := dc_30 (nn := n) (K := K) (b := q2)
    generalize dcN fdL 30 K n 15 0 0 q2 = A at z ⊢
    generalize dcN fdL 32 K n 15 0 0 q2 = B at z ⊢
    cases B with
    | none => rw [z.2.2 rfl]
    | some f =>
      obtain ⟨f1, f2⟩ := f
      by_cases q29 : 29 < f1
      · rw [z.2.1 f1 f2 rfl q29, ob_no, ob_n, if_pos q29]
      · rw [z.1 f1 f2 rfl (by omega)]
theorem st_u {K : Nat → Int32} {n d n0 n1 : Nat} {L0 L1 : Nat → Nat} {t : Nat × Nat × (Nat → Int32)} : stQ K n d L0 L1 n0 n1 t = (dcN L0 n0 K n 15 0 0 t.1).bind fun p => if p.1 = 256 then some (.inr (p.2, t.2.1, t.2.2)) else if p.1 < 256 then (if t.2.1 < d then some (.inl (p.2, t.2.1 + 1, upd t.2.2 t.2.1 (Int32.ofNat p.1))) else none) else if 285 < p.1 then none else (fcO K n d L1 n1 (p.1 - 257) (p.2, t.2.1, t.2.2)).bind fun t' => some (.inl t') := by
  unfold stQ
  rfl
theorem st_30 {K : Nat → Int32} {n d : Nat} {t : Nat × Nat × (Nat → Int32)} : stQ K n d fxL fdL 288 30 t = stQ K n d fxL fdL 288 32 t := by
  rw [st_u, st_u]
  generalize dcN fxL 288 K n 15 0 0 t.1 = A
  cases A with
  | none => rw [ob_no, ob_no]
  | some p => rw [ob_n, ob_n, fc_30]
theorem sm_u {K : Nat → Int32} {n d n0 n1 m : Nat} {L0 L1 : Nat → Nat} {t : Nat × Nat × (Nat → Int32)} : smS K n d L0 L1 n0 n1 (m + 1) t = (stQ K n d L0 L1 n0 n1 t).bind fun r => Sum.elim (fun t' => smS K n d L0 L1 n0 n1 m t') (fun t' => some t') r := rfl
theorem sm_30 {K : Nat → Int32} {n d : Nat} : ∀ m t, smS K n d fxL fdL 288 30 m t = smS K n d fxL fdL 288 32 m t := by
  intro m
  induction m with
  | zero =>
    intro t
    have e : ∀ n1, smS K n d fxL fdL 288 n1 0 t = none := fun n1 => rfl
    rw [e, e]
  | succ m ih =>
    intro t
    rw [sm_u, sm_u, st_30]
    generalize stQ K n d fxL fdL 288 32 t = A
    cases A with
    | none => rw [ob_no, ob_no]
    | some r =>
      rw [ob_n, ob_n]
      cases r with
      | inl t' => rw [Sum.elim_inl, Sum.elim_inl, ih t']
      | inr t' => rw [Sum.elim_inr, Sum.elim_inr]
