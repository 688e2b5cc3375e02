-- needs: 97zf
theorem tM_cm {s : e_S} {t : TrS} {X : Nat → Int32} : tM (sA s 142 X) t = sA (tM s t) 142 X := by
  unfold tM
  have e : ∀ j, ¬ j = 142 → (sA s 142 X).2.1 j = s.2.1 j := fun j hj => by rw [A_sA, if_neg hj]
  rw [e 167 (by decide), e 168 (by decide), e 169 (by decide), e 170 (by decide), sA_cm (i := 142) (j := 167) (by decide), sA_cm (i := 142) (j := 168) (by decide), sA_cm (i := 142) (j := 169) (by decide), sA_cm (i := 142) (j := 170) (by decide), sA_sF]
def TxR (Z0 Z : e_S) : Prop := Sm Z0 Z ∧ Z.2.2 = Z0.2.2 ∧ (∀ i j, ¬ (i = 139 ∧ j = 52) → Z.1 i j = Z0.1 i j) ∧ ∀ j, ¬ j = 156 → ¬ (167 ≤ j ∧ j ≤ 170) → Z.2.1 j = Z0.2.1 j
theorem txR_t {Z0 Z : e_S} {t : TrS} {F : Nat → Int32} (h : TxR Z0 Z) : TxR Z0 (sA (tM Z t) 156 F) := by
  obtain ⟨h1, h2, h3, h4⟩ := h
  refine ⟨sm_tM h1, ?_, fun i j hi => ?_, fun j j1 j2 => ?_⟩
  · rw [← h2]; rfl
  · rw [← h3 i j hi]
    unfold tM
    rw [F_sA, F_sF, if_neg hi, F_sA, F_sA, F_sA, F_sA]
  · rw [A_sA, if_neg j1, tM_A (by omega), h4 j j1 j2]
theorem textl12 {s Z0 : e_S} {g : ps_G} {w h l m : Nat} {x y : Int32} (H : TxH s m x y) (hw : w ≤ 24) (hh : h ≤ 24) (hw1 : 1 ≤ w) (hl : l < 30) (e13 : Z0.1 139 13 = Int32.ofNat w) (e14 : Z0.1 139 14 = Int32.ofNat h) (e3 : Z0.1 139 3 = Int32.ofNat m) (e34 : Z0.1 139 34 = s.1 139 34) (hA : ∀ k, k < 576 → rg (s.2.1 155 k) 0 255) (hZ : ∀ j, 140 ≤ j → ¬ j = 158 → Z0.2.1 j = s.2.1 j) : ∃ Z, q_lp (fun t => bX12_text_64 139 (Int32.ofNat l) y t.1 t.2.1 t.2.2) (x, (0 : Int32), e_g Z0 g) = some (e_g (sA Z 142 (cpT (s.2.1 142) (txV s l w h x y (min m 40)) (1169 * l + 17) (h * w))) g) ∧ TxR Z0 Z := by
  have hwh := wh_le hw hh
  have hm := H.2.1
  have st0 : cpT (s.2.1 142) (txV s l w h x y 0) (1169 * l + 17) (h * w) = s.2.1 142 := by
    funext k
    by_cases q : 1169 * l + 17 ≤ k ∧ k < 1169 * l + 17 + h * w
    · obtain ⟨i, rfl⟩ := Nat.le.dest q.1
      rw [cpT_in (by omega)]
      show s.2.1 142 (1169 * l + (17 + i)) = _
      rw [← Nat.add_assoc]
    · exact cpT_out (by omega)
  have lp := lp_n (b := fun t => bX12_text_64 139 (Int32.ofNat l) y t.1 t.2.1 t.2.2) (fun i t => ∃ Z, t = (txA s x i, Int32.ofNat i, e_g (sA Z 142 (cpT (s.2.1 142) (txV s l w h x y i) (1169 * l + 17) (h * w))) g) ∧ TxR Z0 Z) (fun r => ∃ Z, r = e_g (sA Z 142 (cpT (s.2.1 142) (txV s l w h x y (min m 40)) (1169 * l + 17) (h * w))) g ∧ TxR Z0 Z) (min m 40) (s := (x, (0 : Int32), e_g Z0 g)) (fun i t hi ht => ?_) (fun t ht => ?_) ⟨Z0, by
    rw [st0, ← hZ 142 (by omega) (by omega), sA_id]; rfl, ⟨sm_rf, rfl, fun _ _ _ => rfl, fun _ _ _ => rfl⟩⟩
  · obtain ⟨r, l1, Z, l2, l3⟩ := lp
    exact ⟨Z, by rw [l1, l2], l3⟩
  · obtain ⟨Z, rfl, hK⟩ := ht
    obtain ⟨K1, K2, K3, K4⟩ := id hK
    have im : i < m := by omega
    have i40 : i < 40 := by omega
    obtain ⟨b1, b2, b3⟩ := tx_b H im
    have gd : ¬ (Int32.ofNat m ≤ Int32.ofNat i ∨ (40 : Int32) ≤ Int32.ofNat i) := by
      rintro (z | z)
      · exact nle im (by omega) z
      · exact nle (b := 40) i40 (by omega) z
    generalize hX : cpT (s.2.1 142) (txV s l w h x y i) (1169 * l + 17) (h * w) = X
    have Xo : ∀ j, j < 17 → X (1169 * l + j) = s.2.1 142 (1169 * l + j) := fun j hj => by rw [← hX, cpT_out (by omega)]
    have Xp : ∀ k, k < w * h → pxN X l k = txV s l w h x y i k := fun k hk => by
      unfold pxN
      rw [← hX, ← Nat.add_assoc, cpT_in (by rw [Nat.mul_comm]; exact hk)]
    have ZA : ∀ j, 140 ≤ j → ¬ j = 142 → ¬ j = 156 → ¬ j = 158 → ¬ (167 ≤ j ∧ j ≤ 170) → (sA Z 142 X).2.1 j = s.2.1 j := fun j j0 j1 j2 j3 j4 => by rw [A_sA, if_neg j1, K4 j j2 j4, hZ j j0 j3]
    have ZF : ∀ j, ¬ j = 52 → (sA Z 142 X).1 139 j = Z0.1 139 j := fun j hj => by rw [F_sA, K3 _ _ (fun z => hj z.2)]
    have r1 : q_aI (e_g (sA Z 142 X) g) 140 (Int32.ofNat i) = some (Int32.ofNat (txB s i)) := by
      rw [a140, n_idx (by omega), if_neg (n_in2 (show i < 8000 by omega) (by decide)), ZA _ (by omega) (by decide) (by decide) (by decide) (by decide), b2]
    have r2 : ∀ Y : e_S, Y.2.1 171 = s.2.1 171 → q_aI (e_g Y g) 171 (Int32.ofNat (txB s i)) = some (s.2.1 171 (txB s i)) := fun Y e => by
      rw [a171, n_idx (by omega), if_neg (n_in2 b1 (by decide)), e]
    have r3 : ∀ Y : e_S, Y.2.1 172 = s.2.1 172 → q_aI (e_g Y g) 172 (Int32.ofNat (txB s i)) = some (s.2.1 172 (txB s i)) := fun Y e => by
      rw [a172, n_idx (by omega), if_neg (n_in2 b1 (by decide)), e]
    have head : bX12_text_64 139 (Int32.ofNat l) y (txA s x i) (Int32.ofNat i) (e_g (sA Z 142 X) g) = if 0 ≤ s.2.1 171 (txB s i) then (Option.bind (q_ob 12 (e_g (sA Z 142 X) g) 139) fun u26 => Option.bind (fX12_shapeOfPath (e_g (sA Z 142 X) g) 139 (s.2.1 171 (txB s i)) (0 : Int32) (txA s x i) y) fun v27 => Option.bind (q_ob 12 v27 139) fun u28 => Option.bind (fX12_fillShape v27 139 (Int32.ofNat l)) fun v29 => Option.bind (q_fR 12 58 v29 139) fun v30 => Option.bind (v30) fun a31 => Option.bind (q_aI v29 a31 (Int32.ofNat (txB s i))) fun v32 => jX12_text_134_64 v29 139 (Int32.ofNat l) y (txA s x i + v32) (Int32.ofNat i)) else (jX12_text_134_64 (e_g (sA Z 142 X) g) 139 (Int32.ofNat l) y (txA s x i) (Int32.ofNat i)) := by
      have rr := r2 (sA Z 142 X) (ZA _ (by omega) (by decide) (by decide) (by decide) (by decide))
      unfold bX12_text_64
      rw [f139_3, ZF _ (by decide), e3, ob_n, if_neg gd, f139_1, ob_n, ob_n, r1, ob_n, f139_57, ob_n, ob_n, rr, ob_n]
      by_cases q : 0 ≤ s.2.1 171 (txB s i)
      · rw [if_pos q, if_pos q, ob_n, ob_n, rr, ob_n]
      · rw [if_neg q, if_neg q]
    have e0 : (0 : Int32).toInt = 0 := rfl
    by_cases q : s.2.1 171 (txB s i) < 0
    · rw [if_neg (fun z => by rw [i_le] at z; rw [i_lt] at q; omega)] at head
      unfold jX12_text_134_64 at head
      rw [n_suc] at head
      refine ⟨_, head, Z, ?_, hK⟩
      rw [show txA s x (i + 1) = txA s x i from if_pos q, show txV s l w h x y (i + 1) = txV s l w h x y i from if_pos q, hX]
    · rw [if_pos (by rw [i_le]; rw [i_lt] at q; omega)] at head
      obtain ⟨p1, p2, p3, p4, p5, p6⟩ := tx_p H im i40 q
      obtain ⟨F', sh, cv⟩ := shape12 (s := sA Z 142 X) (g := g) (p := txP s i) (n := (s.2.1 163 (txP s i)).toInt.toNat) (w := w) (h := h) (rule := 0) (dx := txA s x i) (dy := y) (K := fun j => s.2.1 164 (40 * txP s i + j)) (X := fun j => s.2.1 165 (40 * txP s i + j)) (Y := fun j => s.2.1 166 (40 * txP s i + j)) p1 p3 hw hh (by rw [ZF _ (by decide)]; exact e13) (by rw [ZF _ (by decide)]; exact e14) (by rw [ZA _ (by omega) (by decide) (by decide) (by decide) (by decide)]; exact p4) (fun k hk => by rw [ZA _ (by omega) (by decide) (by decide) (by decide) (by decide)]) (fun k hk => (p6 k hk).2.2.2.1) (fun k hk => by rw [ZA _ (by omega) (by decide) (by decide) (by decide) (by decide)]) (fun k hk => by rw [ZA _ (by omega) (by decide) (by decide) (by decide) (by decide)]) (fun k hk => (p6 k hk).2.2.2.2.1) (fun k hk => (p6 k hk).2.2.2.2.2)
      have sh' : fX12_shapeOfPath (e_g (sA Z 142 X) g) 139 (Int32.ofNat (txP s i)) 0 (txA s x i) y = some (e_g (sA (sA (tM Z (txT s x y i)) 156 F') 142 X) g) := by
        rw [sh]
        show some (e_g (sA (tM (sA Z 142 X) (txT s x y i)) 156 F') g) = _
        rw [tM_cm, sA_cm (i := 142) (j := 156) (by decide)]
      have cv' : ∀ k, k < w * h → F' k = cvT 0 (txT s x y i) w k := cv
      have hK' := txR_t (t := txT s x y i) (F := F') hK
      obtain ⟨L1, L2, L3, L4⟩ := id hK'
      generalize hZZ : sA (tM Z (txT s x y i)) 156 F' = ZZ at sh' hK' L1 L2 L3 L4
      have z156 : (sA ZZ 142 X).2.1 156 = F' := by rw [A_sA, if_neg (by decide), ← hZZ, A_sA, if_pos rfl]
      have zF : ∀ j, ¬ j = 52 → (sA ZZ 142 X).1 139 j = Z0.1 139 j := fun j hj => by rw [F_sA, L3 _ _ (fun z => hj z.2)]
      have zA : ∀ j, 140 ≤ j → ¬ j = 142 → ¬ j = 156 → ¬ j = 158 → ¬ (167 ≤ j ∧ j ≤ 170) → ∀ X', (sA ZZ 142 X').2.1 j = s.2.1 j := fun j j0 j1 j2 j3 j4 X' => by rw [A_sA, if_neg j1, L4 j j2 j4, hZ j j0 j3]
      have fs := fillSh12 (s := sA ZZ 142 X) (g := g) (l := l) (w := w) (h := h) (cov := cvT 0 (txT s x y i) w) hw hh hw1 (by rw [zF _ (by decide)]; exact e13) (by rw [zF _ (by decide)]; exact e14) hl (fun k hk => by rw [zA _ (by omega) (by decide) (by decide) (by decide) (by decide)]; exact hA k hk) (fun k hk => ⟨by rw [z156]; exact cv' k hk, cvT_r⟩)
      rw [zA 155 (by omega) (by decide) (by decide) (by decide) (by decide), zF 34 (by decide), e34, A_sA, if_pos rfl, sA_sA, Xo 8 (by omega), Xo 9 (by omega)] at fs
      have eX : cpT X (plV (cvT 0 (txT s x y i) w) (s.2.1 155) (s.1 139 34) (s.2.1 142 (1169 * l + 8)) (s.2.1 142 (1169 * l + 9)) w h (pxN X l)) (1169 * l + 17) (h * w) = cpT (s.2.1 142) (txV s l w h x y (i + 1)) (1169 * l + 17) (h * w) := by
        funext k
        by_cases qk : 1169 * l + 17 ≤ k ∧ k < 1169 * l + 17 + h * w
        · obtain ⟨j, rfl⟩ := Nat.le.dest qk.1
          rw [cpT_in (by omega), cpT_in (by omega), show txV s l w h x y (i + 1) = plV (cvT 0 (txT s x y i) w) (s.2.1 155) (s.1 139 34) (s.2.1 142 (1169 * l + 8)) (s.2.1 142 (1169 * l + 9)) w h (txV s l w h x y i) from if_neg q]
          exact plV_c (by rw [Nat.mul_comm]; omega) (fun _ _ => rfl) (fun _ _ => rfl) Xp
        · rw [cpT_out (by omega), cpT_out (by omega), ← hX, cpT_out (by omega)]
      rw [eX] at fs
      rw [ob139, ob_n, p2, sh', ob_n, ob139, ob_n, fs, ob_n, f139_58, ob_n, ob_n, r3 _ (zA _ (by omega) (by decide) (by decide) (by decide) (by decide) _), ob_n] at head
      unfold jX12_text_134_64 at head
      rw [n_suc] at head
      refine ⟨_, head, ZZ, ?_, hK'⟩
      rw [show txA s x (i + 1) = txA s x i + s.2.1 172 (txB s i) from if_neg q]
  · obtain ⟨Z, rfl, hK⟩ := ht
    refine ⟨_, ?_, Z, rfl, hK⟩
    have ZF : ∀ X : Nat → Int32, (sA Z 142 X).1 139 3 = Int32.ofNat m := fun X => by rw [F_sA, hK.2.2.1 _ _ (by decide)]; exact e3
    show bX12_text_64 _ _ _ _ _ _ = _
    unfold bX12_text_64
    dsimp only
    rw [f139_3, ZF, ob_n, if_pos]
    by_cases z : m ≤ 40
    · left
      rw [show min m 40 = m by omega]
      exact nlr (by omega)
    · right
      rw [show min m 40 = 40 by omega]
      decide
