-- needs: 07 10 13 14 20 21 22 23 24 25 26 27 32 38 41 43 46 47 48 50 52 53 54 57 60 61 70 71 72 73 74 80 81 82 83 84 85 86 87 88
/-! ===== zoomed ===== -/
theorem shl_z {n z : Nat} (hn : n < 32) (hz : z < 4) : q_shl (Int32.ofNat n) (Int32.ofNat z) = Int32.ofNat (n * 2 ^ z) := by
  have : ∀ n : Fin 32, ∀ z : Fin 4, q_shl (Int32.ofNat n.1) (Int32.ofNat z.1) = Int32.ofNat (n.1 * 2 ^ z.1) := by decide +kernel
  exact this ⟨n, hn⟩ ⟨z, hz⟩
theorem shr_z {n z : Nat} (hn : n < 32) (hz : z < 4) : q_shr (Int32.ofNat n) (Int32.ofNat z) = Int32.ofNat (n / 2 ^ z) := by
  have : ∀ n : Fin 32, ∀ z : Fin 4, q_shr (Int32.ofNat n.1) (Int32.ofNat z.1) = Int32.ofNat (n.1 / 2 ^ z.1) := by decide +kernel
  exact this ⟨n, hn⟩ ⟨z, hz⟩
def zT : Type := Int32 × Int32 × Int32 × Int32 × Int32
def zad (c : Int32) (t : Int32 × Int32 × Int32 × Int32 × Int32) : Int32 × Int32 × Int32 × Int32 × Int32 := (t.1 + 1, t.2.1 + q_ush c 24, t.2.2.1 + q_ush c 24 * fX11_red c, t.2.2.2.1 + q_ush c 24 * fX11_green c, t.2.2.2.2 + q_ush c 24 * fX11_blue c)
def zI (V : Nat → Int32) (w j i0 : Nat) (t : Int32 × Int32 × Int32 × Int32 × Int32) : Nat → Int32 × Int32 × Int32 × Int32 × Int32
  | 0 => t
  | p + 1 => zad (V (j * w + (i0 + p))) (zI V w j i0 t p)
def zO (V : Nat → Int32) (w j0 i0 m : Nat) : Nat → Int32 × Int32 × Int32 × Int32 × Int32
  | 0 => (0, 0, 0, 0, 0)
  | q + 1 => zI V w (j0 + q) i0 (zO V w j0 i0 m q) m
theorem zI_c {V V' : Nat → Int32} {w j i0 : Nat} {t : Int32 × Int32 × Int32 × Int32 × Int32} : ∀ p, (∀ i, i < p → V (j * w + (i0 + i)) = V' (j * w + (i0 + i))) → zI V w j i0 t p = zI V' w j i0 t p
  | 0, _ => rfl
  | p + 1, h => by
    show zad _ (zI V w j i0 t p) = zad _ (zI V' w j i0 t p)
    rw [zI_c p (fun i hi => h i (by omega)), h p (by omega)]
theorem zO_c {V V' : Nat → Int32} {w j0 i0 m : Nat} : ∀ q, (∀ j i, j < q → i < m → V ((j0 + j) * w + (i0 + i)) = V' ((j0 + j) * w + (i0 + i))) → zO V w j0 i0 m q = zO V' w j0 i0 m q
  | 0, _ => rfl
  | q + 1, h => by
    show zI V w (j0 + q) i0 (zO V w j0 i0 m q) m = zI V' w (j0 + q) i0 (zO V' w j0 i0 m q) m
    rw [zO_c q (fun j i hj hi => h j i (by omega) hi), zI_c m (fun i hi => h q i (by omega) hi)]
theorem zI_r {V : Nat → Int32} {w j i0 c : Nat} {t : Int32 × Int32 × Int32 × Int32 × Int32} (h1 : t.1 = Int32.ofNat c) (h2 : 0 ≤ t.2.1.toInt ∧ t.2.1.toInt ≤ 255 * c) : ∀ p, c + p ≤ 1000 → (zI V w j i0 t p).1 = Int32.ofNat (c + p) ∧ 0 ≤ (zI V w j i0 t p).2.1.toInt ∧ (zI V w j i0 t p).2.1.toInt ≤ 255 * ((c + p : Nat) : Int)
  | 0, _ => ⟨h1, h2⟩
  | p + 1, hp => by
    obtain ⟨a1, a2, a3⟩ := zI_r (V := V) (w := w) (j := j) (i0 := i0) h1 h2 p (by omega)
    have u := ush_24 (x := V (j * w + (i0 + p)))
    show (zI V w j i0 t p).1 + 1 = _ ∧ 0 ≤ ((zI V w j i0 t p).2.1 + q_ush (V (j * w + (i0 + p))) 24).toInt ∧ ((zI V w j i0 t p).2.1 + q_ush (V (j * w + (i0 + p))) 24).toInt ≤ _
    rw [a1, n_suc, i_add (by omega) (by omega)]
    exact ⟨by rw [Nat.add_assoc], by omega, by omega⟩
theorem zO_r {V : Nat → Int32} {w j0 i0 m : Nat} (hm : m ≤ 8) : ∀ q, q ≤ 8 → (zO V w j0 i0 m q).1 = Int32.ofNat (q * m) ∧ 0 ≤ (zO V w j0 i0 m q).2.1.toInt ∧ (zO V w j0 i0 m q).2.1.toInt ≤ 255 * ((q * m : Nat) : Int)
  | 0, _ => by rw [Nat.zero_mul]; exact ⟨rfl, show 0 ≤ (0 : Int32).toInt by decide, show (0 : Int32).toInt ≤ 255 * ((0 : Nat) : Int) by decide⟩
  | q + 1, hq => by
    obtain ⟨a1, a2, a3⟩ := zO_r (V := V) (w := w) (j0 := j0) (i0 := i0) hm q (by omega)
    have : q * m ≤ 8 * 8 := Nat.mul_le_mul (by omega) hm
    have := zI_r (V := V) (w := w) (j := j0 + q) (i0 := i0) a1 ⟨a2, a3⟩ m (by omega)
    rw [Nat.succ_mul]
    exact this
theorem zoom11 {s : e_S} {g : ps_G} {w h X Y z mx my : Nat} (hw : w ≤ 24) (hh : h ≤ 24) (hz : z < 4) (hX : (X + 1) * 2 ^ z < 64) (hY : (Y + 1) * 2 ^ z < 64) (hx1 : X * 2 ^ z + mx ≤ w) (hx2 : X * 2 ^ z + mx = w ∨ X * 2 ^ z + mx = (X + 1) * 2 ^ z) (hx3 : X * 2 ^ z + mx ≤ (X + 1) * 2 ^ z) (hy1 : Y * 2 ^ z + my ≤ h) (hy2 : Y * 2 ^ z + my = h ∨ Y * 2 ^ z + my = (Y + 1) * 2 ^ z) (hy3 : Y * 2 ^ z + my ≤ (Y + 1) * 2 ^ z) (X32 : X + 1 < 32) (Y32 : Y + 1 < 32) : fX10_zoomedOf (e_g s g) 20 86 (Int32.ofNat z) (Int32.ofNat X) (Int32.ofNat Y) (Int32.ofNat w) (Int32.ofNat h) = fX11_mean (e_g s g) (zO (s.2.1 86) w (Y * 2 ^ z) (X * 2 ^ z) mx my).1 (zO (s.2.1 86) w (Y * 2 ^ z) (X * 2 ^ z) mx my).2.1 (zO (s.2.1 86) w (Y * 2 ^ z) (X * 2 ^ z) mx my).2.2.1 (zO (s.2.1 86) w (Y * 2 ^ z) (X * 2 ^ z) mx my).2.2.2.1 (zO (s.2.1 86) w (Y * 2 ^ z) (X * 2 ^ z) mx my).2.2.2.2 := by
  have hn := wh_le hw hh
  have ex : q_shl (Int32.ofNat X) (Int32.ofNat z) = Int32.ofNat (X * 2 ^ z) := shl_z (by omega) hz
  have ey : q_shl (Int32.ofNat Y) (Int32.ofNat z) = Int32.ofNat (Y * 2 ^ z) := shl_z (by omega) hz
  have ex1 : q_shl (Int32.ofNat X + 1) (Int32.ofNat z) = Int32.ofNat ((X + 1) * 2 ^ z) := by rw [n_suc]; exact shl_z X32 hz
  have ey1 : q_shl (Int32.ofNat Y + 1) (Int32.ofNat z) = Int32.ofNat ((Y + 1) * 2 ^ z) := by rw [n_suc]; exact shl_z Y32 hz
  generalize X * 2 ^ z = i0 at ex hx1 hx2 hx3
  generalize (X + 1) * 2 ^ z = i1 at ex1 hx2 hx3 hX
  generalize Y * 2 ^ z = j0 at ey hy1 hy2 hy3
  generalize (Y + 1) * 2 ^ z = j1 at ey1 hy2 hy3 hY
  have inner : ∀ j t, j < h → q_lp (fun u => bX10_zoomedOf_44 (e_g s g) 86 (Int32.ofNat z) (Int32.ofNat X) (Int32.ofNat Y) (Int32.ofNat w) (Int32.ofNat h) (Int32.ofNat j) u.1 u.2.1 u.2.2.1 u.2.2.2.1 u.2.2.2.2.1 u.2.2.2.2.2) (t.1, t.2.1, t.2.2.1, t.2.2.2.1, t.2.2.2.2, Int32.ofNat i0) = some (zI (s.2.1 86) w j i0 t mx) := by
    intro j t hj
    refine lp_0 (fun p => ((zI (s.2.1 86) w j i0 t p).1, (zI (s.2.1 86) w j i0 t p).2.1, (zI (s.2.1 86) w j i0 t p).2.2.1, (zI (s.2.1 86) w j i0 t p).2.2.2.1, (zI (s.2.1 86) w j i0 t p).2.2.2.2, Int32.ofNat (i0 + p))) mx rfl (fun p hp => ?_) ?_
    · have hlt := at_lt (w := w) (h := h) (a := i0 + p) (b := j) (by omega) hj
      have wi : fX11_within (Int32.ofNat (j * w + (i0 + p))) 0 575 = Int32.ofNat (j * w + (i0 + p)) := within_n (a := 0) (b := 575) (by omega) (by omega) (by omega)
      show bX10_zoomedOf_44 _ _ _ _ _ _ _ _ _ _ _ _ _ _ = _
      unfold bX10_zoomedOf_44
      rw [ex1, if_neg (fun q => q.elim (nle (by omega) (by omega)) (nle (by omega) (by omega))), n_mul, n_add, wi, rdI t86 (by omega), ob_n, n_suc]
      rfl
    · show bX10_zoomedOf_44 _ _ _ _ _ _ _ _ _ _ _ _ _ _ = _
      unfold bX10_zoomedOf_44
      rw [ex1, if_pos (by rcases hx2 with q | q; exact Or.inr (by rw [q]; exact nlr (by omega)); exact Or.inl (by rw [q]; exact nlr (by omega)))]
  have outer : q_lp (fun u => bX10_zoomedOf_21 (e_g s g) 86 (Int32.ofNat z) (Int32.ofNat X) (Int32.ofNat Y) (Int32.ofNat w) (Int32.ofNat h) u.1 u.2.1 u.2.2.1 u.2.2.2.1 u.2.2.2.2.1 u.2.2.2.2.2) ((0 : Int32), (0 : Int32), (0 : Int32), (0 : Int32), (0 : Int32), Int32.ofNat j0) = some (zO (s.2.1 86) w j0 i0 mx my) := by
    refine lp_0 (fun q => ((zO (s.2.1 86) w j0 i0 mx q).1, (zO (s.2.1 86) w j0 i0 mx q).2.1, (zO (s.2.1 86) w j0 i0 mx q).2.2.1, (zO (s.2.1 86) w j0 i0 mx q).2.2.2.1, (zO (s.2.1 86) w j0 i0 mx q).2.2.2.2, Int32.ofNat (j0 + q))) my rfl (fun q hq => ?_) ?_
    · show bX10_zoomedOf_21 _ _ _ _ _ _ _ _ _ _ _ _ _ = _
      unfold bX10_zoomedOf_21
      rw [ey1, ex, if_neg (fun q => q.elim (nle (by omega) (by omega)) (nle (by omega) (by omega))), inner (j0 + q) (zO (s.2.1 86) w j0 i0 mx q) (by omega), ob_n]
      unfold jX10_zoomedOf_147_21
      rw [n_suc]
      rfl
    · show bX10_zoomedOf_21 _ _ _ _ _ _ _ _ _ _ _ _ _ = _
      unfold bX10_zoomedOf_21
      rw [ey1, if_pos (by rcases hy2 with q | q; exact Or.inr (by rw [q]; exact nlr (by omega)); exact Or.inl (by rw [q]; exact nlr (by omega)))]
  unfold fX10_zoomedOf jX10_zoomedOf_153
  rw [ey, outer, ob_n]
  cases fX11_mean (e_g s g) (zO (s.2.1 86) w j0 i0 mx my).1 (zO (s.2.1 86) w j0 i0 mx my).2.1 (zO (s.2.1 86) w j0 i0 mx my).2.2.1 (zO (s.2.1 86) w j0 i0 mx my).2.2.2.1 (zO (s.2.1 86) w j0 i0 mx my).2.2.2.2 <;> rfl
theorem zoom12 {s : e_S} {g : ps_G} {w h X Y z mx my : Nat} {F E T U : Nat → Int32} (hw : w ≤ 24) (hh : h ≤ 24) (e1 : s.1 139 13 = Int32.ofNat w) (e2 : s.1 139 14 = Int32.ofNat h) (hX : (X + 1) * 2 ^ z < 64) (hY : (Y + 1) * 2 ^ z < 64) (hx1 : X * 2 ^ z + mx ≤ w) (hx2 : X * 2 ^ z + mx = w ∨ X * 2 ^ z + mx = (X + 1) * 2 ^ z) (hx3 : X * 2 ^ z + mx ≤ (X + 1) * 2 ^ z) (hy1 : Y * 2 ^ z + my ≤ h) (hy2 : Y * 2 ^ z + my = h ∨ Y * 2 ^ z + my = (Y + 1) * 2 ^ z) (hy3 : Y * 2 ^ z + my ≤ (Y + 1) * 2 ^ z) : q_lp (fun u => bX12_zoomed_128 (e_g (cs s F E T U) g) 139 (Int32.ofNat X) (Int32.ofNat Y) (Int32.ofNat (2 ^ z)) u.1 u.2.1 u.2.2.1 u.2.2.2.1 u.2.2.2.2.1 u.2.2.2.2.2) ((0 : Int32), (0 : Int32), (0 : Int32), (0 : Int32), (0 : Int32), Int32.ofNat Y * Int32.ofNat (2 ^ z)) = some (zO F w (Y * 2 ^ z) (X * 2 ^ z) mx my) := by
  have hn := wh_le hw hh
  have ex : Int32.ofNat X * Int32.ofNat (2 ^ z) = Int32.ofNat (X * 2 ^ z) := n_mul
  have ey : Int32.ofNat Y * Int32.ofNat (2 ^ z) = Int32.ofNat (Y * 2 ^ z) := n_mul
  have ex1 : (Int32.ofNat X + 1) * Int32.ofNat (2 ^ z) = Int32.ofNat ((X + 1) * 2 ^ z) := by rw [n_suc, n_mul]
  have ey1 : (Int32.ofNat Y + 1) * Int32.ofNat (2 ^ z) = Int32.ofNat ((Y + 1) * 2 ^ z) := by rw [n_suc, n_mul]
  generalize X * 2 ^ z = i0 at ex hx1 hx2 hx3
  generalize (X + 1) * 2 ^ z = i1 at ex1 hx2 hx3 hX
  generalize Y * 2 ^ z = j0 at ey hy1 hy2 hy3
  generalize (Y + 1) * 2 ^ z = j1 at ey1 hy2 hy3 hY
  have e13 : ∀ {α} (k : Int32 → Option α), Option.bind (q_fI 12 13 (e_g (cs s F E T U) g) 139) k = k (Int32.ofNat w) := fun k => by rw [f139_13, cs_F, e1, ob_n]
  have e14 : ∀ {α} (k : Int32 → Option α), Option.bind (q_fI 12 14 (e_g (cs s F E T U) g) 139) k = k (Int32.ofNat h) := fun k => by rw [f139_14, cs_F, e2, ob_n]
  have inner : ∀ j t, j < h → q_lp (fun u => bX12_zoomed_154 (e_g (cs s F E T U) g) 139 (Int32.ofNat X) (Int32.ofNat Y) (Int32.ofNat (2 ^ z)) (Int32.ofNat j) u.1 u.2.1 u.2.2.1 u.2.2.2.1 u.2.2.2.2.1 u.2.2.2.2.2) (t.1, t.2.1, t.2.2.1, t.2.2.2.1, t.2.2.2.2, Int32.ofNat i0) = some (zI F w j i0 t mx) := by
    intro j t hj
    refine lp_0 (fun p => ((zI F w j i0 t p).1, (zI F w j i0 t p).2.1, (zI F w j i0 t p).2.2.1, (zI F w j i0 t p).2.2.2.1, (zI F w j i0 t p).2.2.2.2, Int32.ofNat (i0 + p))) mx rfl (fun p hp => ?_) ?_
    · have hlt := at_lt (w := w) (h := h) (a := i0 + p) (b := j) (by omega) hj
      show bX12_zoomed_154 _ _ _ _ _ _ _ _ _ _ _ _ = _
      unfold bX12_zoomed_154
      rw [ex1, if_neg (nle (by omega) (by omega)), e13, if_neg (nle (by omega) (by omega)), f139_16, ob_n, ob_n, ob139, ob_n, at12n (by rw [cs_F]; exact e1), ob_n, cs_r145 (by omega), ob_n, n_suc, part12.1, part12.2.1, part12.2.2]
      rfl
    · show bX12_zoomed_154 _ _ _ _ _ _ _ _ _ _ _ _ = _
      unfold bX12_zoomed_154
      rw [ex1]
      by_cases q : i1 ≤ i0 + mx
      · rw [if_pos ((n_le (by omega) (by omega)).mpr q)]
      · rw [if_neg (nle (by omega) (by omega)), e13, if_pos (by rw [hx2.resolve_right (by omega)]; exact nlr (by omega))]
  rw [ey]
  refine lp_0 (fun q => ((zO F w j0 i0 mx q).1, (zO F w j0 i0 mx q).2.1, (zO F w j0 i0 mx q).2.2.1, (zO F w j0 i0 mx q).2.2.2.1, (zO F w j0 i0 mx q).2.2.2.2, Int32.ofNat (j0 + q))) my rfl (fun q hq => ?_) ?_
  · show bX12_zoomed_128 _ _ _ _ _ _ _ _ _ _ _ = _
    unfold bX12_zoomed_128
    rw [ey1, ex, if_neg (nle (by omega) (by omega)), e14, if_neg (nle (by omega) (by omega)), inner (j0 + q) (zO F w j0 i0 mx q) (by omega), ob_n]
    unfold jX12_zoomed_259_128
    rw [n_suc]
    rfl
  · show bX12_zoomed_128 _ _ _ _ _ _ _ _ _ _ _ = _
    unfold bX12_zoomed_128
    rw [ey1]
    by_cases q : j1 ≤ j0 + my
    · rw [if_pos ((n_le (by omega) (by omega)).mpr q)]
    · rw [if_neg (nle (by omega) (by omega)), e14, if_pos (by rw [hy2.resolve_right (by omega)]; exact nlr (by omega))]
theorem zhead {s : e_S} {g : ps_G} {w h : Nat} {z x y f bad : Int32} (e1 : s.1 139 13 = Int32.ofNat w) (e2 : s.1 139 14 = Int32.ofNat h) (hb : bad = if ¬ fX12_in z 1 3 = 0 then 0 else 1) (hf : f = if bad = 0 then q_shl 1 z else 1) (f0 : ¬ f = 0) : fX12_zoomed (e_g s g) 139 z x y = jX12_zoomed_69 (e_g s g) 139 x y bad f (if ¬ (x < 0 ∨ y < 0) ∧ ¬ (Int32.ofNat w - 1) / f < x ∧ ¬ (Int32.ofNat h - 1) / f < y then 1 else 0) := by
  unfold fX12_zoomed jX12_zoomed_68
  rw [← hb, ← hf, f139_13, e1, ob_n, f139_14, e2, ob_n]
  unfold q_div
  rw [if_neg f0, if_neg f0, ob_n, ob_n]
  by_cases q1 : x < 0 ∨ y < 0
  · rw [if_pos q1, if_neg (fun z => z.1 q1)]
  rw [if_neg q1]
  by_cases q2 : (Int32.ofNat w - 1) / f < x
  · rw [if_pos q2, if_neg (fun z => z.2.1 q2)]
  rw [if_neg q2]
  by_cases q3 : (Int32.ofNat h - 1) / f < y
  · rw [if_pos q3, if_neg (fun z => z.2.2 q3)]
  · rw [if_neg q3, if_pos ⟨q1, q2, q3⟩]
theorem K_zoomed {s : e_S} {g : ps_G} {z x y : Int32} (hR : Rel s g) : KI (fL_zoomed (e_g s g) 8 z x y 194) (fun G => fX12_zoomed G 139 z x y) g := by
  have hg := rel_g hR
  obtain ⟨h1, h2, h3, h4, h5, h6, ⟨w, h, h7, h8, h9⟩, h10, h11⟩ := id hR
  obtain ⟨a, st, pc, uc, f1, f2, f3, f4, f5, f6, f7, f8, f9, f10, f11, f12⟩ := h9
  obtain ⟨d1, d2, d3, d4, d5, d6, d7, d8, d9⟩ := id h7
  have hn := wh_le d2 d4
  have st := fun s' => stW (s := s') f9
  have e3 : ps_nw (e_g s g) 6 ps_e0 = e_g s (nx g) := e_nw hg
  by_cases r : rg z 1 3 = true
  · obtain ⟨zn, rfl, hz⟩ : ∃ zn : Nat, z = Int32.ofNat zn ∧ 1 ≤ zn ∧ zn ≤ 3 := by
      have := rg_i.mp r
      rw [show (1 : Int32).toInt = 1 from rfl, show (3 : Int32).toInt = 3 from rfl] at this
      exact ⟨z.toInt.toNat, n_of (by omega), by omega, by omega⟩
    have p2 : 2 ^ zn = 2 ∨ 2 ^ zn = 4 ∨ 2 ^ zn = 8 := by
      have : zn = 1 ∨ zn = 2 ∨ zn = 3 := by omega
      rcases this with rfl | rfl | rfl
      · exact Or.inl rfl
      · exact Or.inr (Or.inl rfl)
      · exact Or.inr (Or.inr rfl)
    have eb : (0 : Int32) = if ¬ fX12_in (Int32.ofNat zn) 1 3 = 0 then 0 else 1 := by rw [rin, if_pos r, if_pos (by decide)]
    have ef : Int32.ofNat (2 ^ zn) = if (0 : Int32) = 0 then q_shl 1 (Int32.ofNat zn) else 1 := by
      rw [if_pos rfl]
      have := shl_z (n := 1) (z := zn) (by omega) (by omega)
      rw [Nat.one_mul] at this
      exact this.symm
    have f0 : ¬ Int32.ofNat (2 ^ zn) = 0 := by
      rw [show (0 : Int32) = Int32.ofNat 0 from rfl, n_eq (by omega) (by omega)]; omega
    have zh := fun (s' : e_S) g' q1 q2 => zhead (s := s') (g := g') (w := w) (h := h) (x := x) (y := y) q1 q2 eb ef f0
    have w1 : Int32.ofNat w - 1 = Int32.ofNat (w - 1) := n_sub (b := 1) d1 (by omega)
    have h1' : Int32.ofNat h - 1 = Int32.ofNat (h - 1) := n_sub (b := 1) d3 (by omega)
    have dw : Int32.ofNat (w - 1) / Int32.ofNat (2 ^ zn) = Int32.ofNat ((w - 1) / 2 ^ zn) := n_div (by omega) (by omega)
    have dh : Int32.ofNat (h - 1) / Int32.ofNat (2 ^ zn) = Int32.ofNat ((h - 1) / 2 ^ zn) := n_div (by omega) (by omega)
    have sw : q_shr (Int32.ofNat (w - 1)) (Int32.ofNat zn) = Int32.ofNat ((w - 1) / 2 ^ zn) := shr_z (by omega) (by omega)
    have sh : q_shr (Int32.ofNat (h - 1)) (Int32.ofNat zn) = Int32.ofNat ((h - 1) / 2 ^ zn) := shr_z (by omega) (by omega)
    by_cases th : ¬ (x < 0 ∨ y < 0) ∧ ¬ (Int32.ofNat w - 1) / Int32.ofNat (2 ^ zn) < x ∧ ¬ (Int32.ofNat h - 1) / Int32.ofNat (2 ^ zn) < y
    · have lw : (w - 1) / 2 ^ zn ≤ w - 1 := Nat.div_le_self _ _
      have lh : (h - 1) / 2 ^ zn ≤ h - 1 := Nat.div_le_self _ _
      obtain ⟨X, rfl, hX⟩ : ∃ X : Nat, x = Int32.ofNat X ∧ X ≤ (w - 1) / 2 ^ zn := by
        have t1 := th.1
        have t2 := th.2.1
        rw [w1, dw, i_lt, n_int (by omega)] at t2
        rw [not_or, i_lt, show (0 : Int32).toInt = 0 from rfl] at t1
        exact ⟨x.toInt.toNat, n_of (by omega), by omega⟩
      obtain ⟨Y, rfl, hY⟩ : ∃ Y : Nat, y = Int32.ofNat Y ∧ Y ≤ (h - 1) / 2 ^ zn := by
        have t1 := th.1
        have t2 := th.2.2
        rw [h1', dh, i_lt, n_int (by omega)] at t2
        rw [not_or, i_lt (a := y), show (0 : Int32).toInt = 0 from rfl] at t1
        exact ⟨y.toInt.toNat, n_of (by omega), by omega⟩
      have bX : X * 2 ^ zn ≤ w - 1 := Nat.le_trans (Nat.mul_le_mul_right _ hX) (Nat.div_mul_le_self _ _)
      have bY : Y * 2 ^ zn ≤ h - 1 := Nat.le_trans (Nat.mul_le_mul_right _ hY) (Nat.div_mul_le_self _ _)
      have sX : (X + 1) * 2 ^ zn = X * 2 ^ zn + 2 ^ zn := Nat.succ_mul _ _
      have sY : (Y + 1) * 2 ^ zn = Y * 2 ^ zn + 2 ^ zn := Nat.succ_mul _ _
      obtain ⟨mx, hx0, hx1, hx2, hx3⟩ : ∃ mx, 1 ≤ mx ∧ X * 2 ^ zn + mx ≤ w ∧ (X * 2 ^ zn + mx = w ∨ X * 2 ^ zn + mx = (X + 1) * 2 ^ zn) ∧ X * 2 ^ zn + mx ≤ (X + 1) * 2 ^ zn := by
        by_cases q : (X + 1) * 2 ^ zn ≤ w
        · exact ⟨2 ^ zn, by omega, by omega, Or.inr (by omega), by omega⟩
        · exact ⟨w - X * 2 ^ zn, by omega, by omega, Or.inl (by omega), by omega⟩
      obtain ⟨my, hy0, hy1, hy2, hy3⟩ : ∃ my, 1 ≤ my ∧ Y * 2 ^ zn + my ≤ h ∧ (Y * 2 ^ zn + my = h ∨ Y * 2 ^ zn + my = (Y + 1) * 2 ^ zn) ∧ Y * 2 ^ zn + my ≤ (Y + 1) * 2 ^ zn := by
        by_cases q : (Y + 1) * 2 ^ zn ≤ h
        · exact ⟨2 ^ zn, by omega, by omega, Or.inr (by omega), by omega⟩
        · exact ⟨h - Y * 2 ^ zn, by omega, by omega, Or.inl (by omega), by omega⟩
      obtain ⟨s1, sz, od, o, hk, c1, c2, c3, c4, c5, c6⟩ := seen11 hR h7 h8 f9
      have e30 : s1.2.2.1 8 0 = some a := by rw [c3.2.1 8 (by omega)]; exact f3
      have z11 := zoom11 (s := s1) (g := g) (z := zn) (X := X) (Y := Y) (mx := mx) (my := my) d2 d4 (by omega) (by omega) (by omega) hx1 hx2 hx3 hy1 hy2 hy3 (by omega) (by omega)
      have ran := zO_r (V := s1.2.1 86) (w := w) (j0 := Y * 2 ^ zn) (i0 := X * 2 ^ zn) (m := mx) (by omega) my (by omega)
      have mm : 1 ≤ my * mx := Nat.mul_pos hy0 hx0
      have mm2 : my * mx ≤ 8 * 8 := Nat.mul_le_mul (by omega) (by omega)
      have V' : ∀ F : Nat → Int32, (∀ k, k < w * h → F k = s1.2.1 86 k) → zO F w (Y * 2 ^ zn) (X * 2 ^ zn) mx my = zO (s1.2.1 86) w (Y * 2 ^ zn) (X * 2 ^ zn) mx my := fun F hF => zO_c my (fun j i hj hi => hF _ (at_lt (by omega) (by omega)))
      generalize zO (s1.2.1 86) w (Y * 2 ^ zn) (X * 2 ^ zn) mx my = t at z11 ran V'
      obtain ⟨tn, ta1, ta2⟩ := ran
      have n0 : (0 : Int32) < t.1 := by
        rw [tn]
        exact (n_lt (n := 0) (by omega) (by omega)).mpr (by omega)
      have nz : ¬ t.1 = 0 := by
        rw [tn, show (0 : Int32) = Int32.ofNat 0 from rfl, n_eq (by omega) (by omega)]; omega
      obtain ⟨v, mv, m12⟩ : ∃ v, fX11_mean (e_g s1 g) t.1 t.2.1 t.2.2.1 t.2.2.2.1 t.2.2.2.2 = some v ∧ ∀ G, jX12_zoomed_265 G t.1 t.2.1 t.2.2.1 t.2.2.2.1 t.2.2.2.2 = some (v, G) := by
        unfold fX11_mean jX12_zoomed_265 jX12_zoomed_317
        by_cases q : t.2.1 = 0
        · exact ⟨0, if_neg (fun z => z.1 (by rw [q]; decide)), fun G => if_neg (fun z => z q)⟩
        · have q1 : ¬ t.2.1 ≤ 0 := fun z => q (by
            rw [i_le, show (0 : Int32).toInt = 0 from rfl] at z
            rw [i_eq, show (0 : Int32).toInt = 0 from rfl]; omega)
          unfold q_div
          refine ⟨fX12_colour ((t.2.2.1 + t.2.1 / 2) / t.2.1) ((t.2.2.2.1 + t.2.1 / 2) / t.2.1) ((t.2.2.2.2 + t.2.1 / 2) / t.2.1) ((t.2.1 + t.1 / 2) / t.1), ?_, fun G => ?_⟩
          · rw [if_pos ⟨q1, n0⟩, if_neg nz, ob_n, if_neg q, ob_n, if_neg q, ob_n, if_neg q, ob_n]; rfl
          · rw [if_pos q, if_neg q, ob_n, if_neg q, ob_n, if_neg q, ob_n, if_neg nz, ob_n]
      have hc : fX11_zoomed (e_g s g) 8 (Int32.ofNat zn) (Int32.ofNat X) (Int32.ofNat Y) = some (.inr v, e_g s1 g) := by
        have t1 := th.1
        have t2 := th.2.1
        have t3 : Int32.ofNat Y ≤ Int32.ofNat ((h - 1) / 2 ^ zn) := (n_le (by omega) (by omega)).mpr hY
        rw [w1, dw] at t2
        unfold fX11_zoomed
        rw [rng hg, if_pos r, tc_rn, if_neg t1, f8_0, f3, ob_n, ob_n, (st s).1, ob_n, w1, sw, if_neg t2, ob_n, ob_n, (st s).2.1, ob_n, h1', sh, if_pos t3, f8_6, ob_n, ob_n, ob_n, ob_n, ob_n, ob_n, ob20, ob_n, c1, b2_n, ob_n, f8_0, e30, ob_n, ob_n, (st s1).1, ob_n, ob_n, ob_n, (st s1).2.1, ob_n, ob20, ob_n, z11, mv, ob_n]
      have sm : Sm s1 (sF (pO s1 v.toInt64) 139 0 0) := sm_F (sm_L sm_rf) (by decide)
      have ck := cpOk_s c5 sm
      obtain ⟨F, E, T, U, m1, m2⟩ := composeAll12 (g := g) ck.1
      have hm : fX12_zoomed (e_g (pO s1 v.toInt64) g) 139 (Int32.ofNat zn) (Int32.ofNat X) (Int32.ofNat Y) = some (v, e_g (cs (sF (pO s1 v.toInt64) 139 0 0) F E T U) g) := by
        have q1 : (pO s1 v.toInt64).1 139 13 = Int32.ofNat w := c5.2.2.2.2.2.2.2.1
        have q2 : (pO s1 v.toInt64).1 139 14 = Int32.ofNat h := c5.2.2.2.2.2.2.2.2.1
        have z12 := zoom12 (s := sF (pO s1 v.toInt64) 139 0 0) (g := g) (z := zn) (X := X) (Y := Y) (mx := mx) (my := my) (F := F) (E := E) (T := T) (U := U) d2 d4 ck.1.2.2.2.2.2.2.2.1 ck.1.2.2.2.2.2.2.2.2.1 (by omega) (by omega) hx1 hx2 hx3 hy1 hy2 hy3
        rw [V' F (fun k hkk => by rw [m2 k hkk, ck.2, c6 k hkk, c2 k hkk])] at z12
        rw [zh _ _ q1 q2, if_pos th]
        unfold jX12_zoomed_69
        rw [if_pos rfl, if_neg (by decide), w139_0, ob_n, f139_0, F_sF, if_pos ⟨rfl, rfl⟩, ob_n, if_pos (by decide), ob139, ob_n, m1, ob_n, z12, ob_n, m12]
      refine KI_r hc hm ?_ ?_ (rel_sm (rel_thrown (rel_out c4)) sm_cs) ext_rf
      · rw [cs_F]; simp (decide := true) only [ob_n, b2_n, tc_rn, tc_ln, F_sF, A_sF, R_sF, L_sF, F_sA, A_sA, R_sA, L_sA, F_sR, A_sR, R_sR, L_sR, F_sL, A_sL, R_sL, L_sL, and_true, true_and, and_false, false_and, and_self, reduceIte, sF_sF, sA_sA, false_or, or_false, true_or, or_true, not_false_eq_true, not_true_eq_false, decide_true, decide_false, Bool.true_or, Bool.or_true, Bool.false_and, Bool.true_and, Bool.false_or, Bool.or_false, Bool.and_true, Bool.and_false]
      · unfold cs
        simp (decide := true) only [ob_n, b2_n, tc_rn, tc_ln, F_sF, A_sF, R_sF, L_sF, F_sA, A_sA, R_sA, L_sA, F_sR, A_sR, R_sR, L_sR, F_sL, A_sL, R_sL, L_sL, and_true, true_and, and_false, false_and, and_self, reduceIte, sF_sF, sA_sA, false_or, or_false, true_or, or_true, not_false_eq_true, not_true_eq_false, decide_true, decide_false, Bool.true_or, Bool.or_true, Bool.false_and, Bool.true_and, Bool.false_or, Bool.or_false, Bool.and_true, Bool.and_false]
    · refine KI_no (b := 0) (E := "java/util/NoSuchElementException") (y := 2) hR ?_ (by decide +kernel) (by decide) ?_
      · show fX11_zoomed _ _ _ _ _ = _
        unfold fX11_zoomed
        rw [rng hg, if_pos r, tc_rn, e3]
        by_cases q1 : x < 0 ∨ y < 0
        · rw [if_pos q1]
        rw [if_neg q1, f8_0, f3, ob_n, ob_n, (st s).1, ob_n, w1, sw, ← dw]
        by_cases q2 : Int32.ofNat (w - 1) / Int32.ofNat (2 ^ zn) < x
        · rw [if_pos q2]
        rw [if_neg q2, ob_n, ob_n, (st s).2.1, ob_n, h1', sh, ← dh]
        have q3 : ¬ y ≤ Int32.ofNat (h - 1) / Int32.ofNat (2 ^ zn) := fun q3 => th ⟨q1, by rw [w1]; exact q2, by rw [h1']; rw [i_le] at q3; rw [i_lt]; omega⟩
        rw [if_neg q3]
      · show fX12_zoomed _ _ _ _ _ = _
        rw [zh _ _ d5 d6, if_neg th]
        unfold jX12_zoomed_69
        rw [if_pos rfl, if_pos rfl, w139_0, ob_n, f139_0, F_sF, if_pos ⟨rfl, rfl⟩, ob_n, if_neg (by decide)]
  · refine KI_no (b := 0) (E := "java/lang/IllegalArgumentException") (y := 1) hR ?_ (by decide +kernel) (by decide) ?_
    · show fX11_zoomed _ _ _ _ _ = _
      unfold fX11_zoomed
      rw [rng hg, if_neg r, tc_ln]
    · show fX12_zoomed _ _ _ _ _ = _
      have eb : (1 : Int32) = if ¬ fX12_in z 1 3 = 0 then 0 else 1 := by rw [rin, if_neg r, if_neg (fun z => z rfl)]
      rw [zhead d5 d6 eb (f := 1) (by rw [if_neg (by decide)]) (by decide)]
      unfold jX12_zoomed_69
      rw [if_neg (by decide), w139_0, ob_n, f139_0, F_sF, if_pos ⟨rfl, rfl⟩, ob_n, if_neg (by decide)]
