-- needs: 97zzy
/-! ===== made: rows alike, their sum ===== -/
theorem pb_c {B B' : Nat → Int32} {w h i y : Nat} (hB : ∀ k, k < w * h → B k = B' k) (hi : i < 4 * w) (hy : y < h) : pbV B w i y = pbV B' w i y := by
  have e : (y + 1) * w = y * w + w := Nat.succ_mul y w
  have l : (y + 1) * w ≤ h * w := Nat.mul_le_mul_right w hy
  have c : h * w = w * h := Nat.mul_comm h w
  unfold pbV
  rw [hB _ (by omega)]
theorem rs_c {B B' : Nat → Int32} {w h f i y : Nat} (hB : ∀ k, k < w * h → B k = B' k) (hi : i < 4 * w) (hy : y < h) : rsW B w f i y = rsW B' w f i y := by
  have a1 := pb_c hB hi hy
  have a2 : (if 4 ≤ i then pbV B w (i - 4) y else 0) = (if 4 ≤ i then pbV B' w (i - 4) y else 0) := by
    rw [pb_c hB (show i - 4 < 4 * w by omega) hy]
  have a3 : (if 1 ≤ y then pbV B w i (y - 1) else 0) = (if 1 ≤ y then pbV B' w i (y - 1) else 0) := by
    rw [pb_c hB hi (show y - 1 < h by omega)]
  have a4 : (if 4 ≤ i ∧ 1 ≤ y then pbV B w (i - 4) (y - 1) else 0) = (if 4 ≤ i ∧ 1 ≤ y then pbV B' w (i - 4) (y - 1) else 0) := by
    rw [pb_c hB (show i - 4 < 4 * w by omega) (show y - 1 < h by omega)]
  unfold rsW
  rw [a1, a2, a3, a4]
theorem smR_c {B B' : Nat → Int32} {w h f y : Nat} (hB : ∀ k, k < w * h → B k = B' k) (hy : y < h) : ∀ i, i ≤ 4 * w → smR B w f y i = smR B' w f y i := by
  intro i
  induction i with
  | zero => exact fun _ => rfl
  | succ i ih =>
    intro hi
    show smR B w f y i + s1R (rsW B w f i y) = smR B' w f y i + s1R (rsW B' w f i y)
    rw [ih (by omega), rs_c hB (by omega) hy]
theorem bs_c {B B' : Nat → Int32} {w h y : Nat} (hB : ∀ k, k < w * h → B k = B' k) (hy : y < h) : ∀ f, bsR B w y f = bsR B' w y f := by
  intro f
  induction f with
  | zero => rfl
  | succ f ih =>
    show (if (bsR B w y f).2 < 0 ∨ smR B w f y (4 * w) < (bsR B w y f).2 then (f, smR B w f y (4 * w)) else bsR B w y f) = (if (bsR B' w y f).2 < 0 ∨ smR B' w f y (4 * w) < (bsR B' w y f).2 then (f, smR B' w f y (4 * w)) else bsR B' w y f)
    rw [ih, smR_c hB hy _ (Nat.le_refl _)]
def AgR (P P' : (Nat → Int32) × Nat) : Prop := P.2 = P'.2 ∧ ∀ i, i < P.2 → P.1 i = P'.1 i
theorem ag_p {P P' : (Nat → Int32) × Nat} {v : Int32} (h : AgR P P') : AgR (puV P v) (puV P' v) := by
  refine ⟨by show P.2 + 1 = P'.2 + 1; rw [h.1], fun i hi => ?_⟩
  have hi' : i < P.2 + 1 := hi
  show upd P.1 P.2 v i = upd P'.1 P'.2 v i
  rw [upd_r, upd_r, ← h.1]
  by_cases q : i = P.2
  · rw [if_pos q, if_pos q]
  · rw [if_neg q, if_neg q, h.2 i (by omega)]
theorem ro_c {B B' : Nat → Int32} {w h y b : Nat} {P P' : (Nat → Int32) × Nat} (hB : ∀ k, k < w * h → B k = B' k) (hy : y < h) (hP : AgR P P') : ∀ i, i ≤ 4 * w → AgR (roR B w y b P i) (roR B' w y b P' i) := by
  intro i
  induction i with
  | zero => exact fun _ => ag_p hP
  | succ i ih =>
    intro hi
    have z := ag_p (v := rsW B w b i y) (ih (by omega))
    have e : puV (roR B' w y b P' i) (rsW B w b i y) = roR B' w y b P' (i + 1) := by
      rw [rs_c hB (by omega) hy]
      rfl
    rw [e] at z
    exact z
theorem row_c {B B' O O' : Nat → Int32} {w h : Nat} (hB : ∀ k, k < w * h → B k = B' k) : ∀ y, y ≤ h → AgR (rowV B w O y) (rowV B' w O' y) := by
  intro y
  induction y with
  | zero => exact fun _ => ⟨rfl, fun i hi => absurd hi (Nat.not_lt_zero i)⟩
  | succ y ih =>
    intro hy
    show AgR (roR B w y (bsR B w y 5).1 (rowV B w O y) (4 * w)) (roR B' w y (bsR B' w y 5).1 (rowV B' w O' y) (4 * w))
    rw [bs_c hB (show y < h by omega) 5]
    exact ro_c hB (by omega) (ih (by omega)) _ (Nat.le_refl _)
theorem by_p {P : (Nat → Int32) × Nat} {v : Int32} (h : ByO P) (hv : rg v 0 255) : ByO (puV P v) := fun i hi => by
  have hi' : i < P.2 + 1 := hi
  show rg (upd P.1 P.2 v i) 0 255 = true
  rw [upd_r]; split
  · exact hv
  · exact h i (by omega)
theorem by_rs {B : Nat → Int32} {w f i y : Nat} : rg (rsW B w f i y) 0 255 := by_r
theorem by_ro {B : Nat → Int32} {w y b : Nat} {P : (Nat → Int32) × Nat} (hb : b < 5) (hP : ByO P) : ∀ i, ByO (roR B w y b P i) := by
  intro i
  induction i with
  | zero =>
    refine by_p hP ?_
    have : ∀ b : Fin 5, rg (Int32.ofNat b.1) 0 255 = true := by decide
    exact this ⟨b, hb⟩
  | succ i ih => exact by_p ih by_rs
theorem by_row {B O : Nat → Int32} {w : Nat} (hw : w ≤ 24) : ∀ y, ByO (rowV B w O y) := by
  intro y
  induction y with
  | zero => exact fun i hi => absurd hi (Nat.not_lt_zero i)
  | succ y ih =>
    refine by_ro ?_ ih _
    rcases (bs_r (B := B) (w := w) (y := y) hw 5).1 with z | z
    · exact z
    · omega
theorem adV_c {R R' : Nat → Int32} {n : Nat} (h : ∀ i, i < n → R i = R' i) : ∀ k, k ≤ n → adV R k = adV R' k := by
  intro k
  induction k with
  | zero => exact fun _ => rfl
  | succ k ih =>
    intro hk
    show (q_rem ((adV R k).1 + R k) 65521, q_rem ((adV R k).2 + q_rem ((adV R k).1 + R k) 65521) 65521) = (q_rem ((adV R' k).1 + R' k) 65521, q_rem ((adV R' k).2 + q_rem ((adV R' k).1 + R' k) 65521) 65521)
    rw [ih (by omega), h k (by omega)]
theorem ad_n {R : (Nat → Int32) × Nat} (h : ByO R) : ∀ k, k ≤ R.2 → ∃ a b : Nat, adV R.1 k = (Int32.ofNat a, Int32.ofNat b) ∧ a < 65521 ∧ b < 65521 := by
  intro k
  induction k with
  | zero => exact fun _ => ⟨1, 0, rfl, by omega, by omega⟩
  | succ k ih =>
    intro hk
    obtain ⟨a, b, e, ha, hb⟩ := ih (by omega)
    obtain ⟨r, er, hr⟩ := rg_n (N := 255) (h k (by omega)) (by decide)
    refine ⟨(a + r) % 65521, (b + (a + r) % 65521) % 65521, ?_, by omega, by omega⟩
    have m : ∀ x : Nat, x < 2147483648 → q_rem (Int32.ofNat x) 65521 = Int32.ofNat (x % 65521) := fun x hx => n_rem (b := 65521) hx (by decide)
    show (q_rem ((adV R.1 k).1 + R.1 k) 65521, q_rem ((adV R.1 k).2 + q_rem ((adV R.1 k).1 + R.1 k) 65521) 65521) = _
    rw [e, er]
    dsimp only
    rw [n_add, m _ (by omega), n_add, m _ (by omega)]
theorem shl16 {b : Nat} : q_shl (Int32.ofNat b) 16 = Int32.ofNat (2 ^ 16 * b) := by
  apply Int32.toBitVec_inj.mp
  apply BitVec.eq_of_toNat_eq
  have e : (q_shl (Int32.ofNat b) 16).toBitVec = (BitVec.ofNat 32 b) <<< 16 := rfl
  have e2 : (Int32.ofNat (2 ^ 16 * b)).toBitVec = BitVec.ofNat 32 (2 ^ 16 * b) := rfl
  rw [e, e2, BitVec.toNat_shiftLeft, BitVec.toNat_ofNat, BitVec.toNat_ofNat, Nat.shiftLeft_eq]
  omega
theorem adV_e {R : (Nat → Int32) × Nat} (h : ByO R) : q_shl (adV R.1 R.2).2 16 ||| (adV R.1 R.2).1 = (adV R.1 R.2).2 * 65536 + (adV R.1 R.2).1 := by
  obtain ⟨a, b, e, ha, hb⟩ := ad_n h R.2 (Nat.le_refl _)
  rw [e]
  dsimp only
  have m : Int32.ofNat b * 65536 = Int32.ofNat (b * 65536) := n_mul (m := 65536)
  rw [shl16, n_or, ← Nat.two_pow_add_eq_or_of_lt (show a < 2 ^ 16 by omega), m, n_add, Nat.mul_comm b]
theorem adlerC {S : e_S} {g : ps_G} {R : (Nat → Int32) × Nat} (hR : RwC S R) : fX11_adler (e_g S g) 124 (Int32.ofNat R.2) = some ((adV R.1 R.2).2 * 65536 + (adV R.1 R.2).1) := by
  have e := rC_i hR
  obtain ⟨h1, f1, ar⟩ := hR
  have z := adler7 (s := S) (g := g) (P := (S.2.1 124, R.2)) h1
  rw [e] at z
  have c : adV (S.2.1 124) R.2 = adV R.1 R.2 := adV_c ar R.2 (Nat.le_refl _)
  have z' : fX11_adler (e_g S g) 124 (Int32.ofNat R.2) = some ((adV (S.2.1 124) R.2).2 * 65536 + (adV (S.2.1 124) R.2).1) := z
  rw [c] at z'
  exact z'
theorem adlerM {S : e_S} {g : ps_G} {R : (Nat → Int32) × Nat} (hR : RwM S R) (hB : ByO R) : fX12_sumOfRows (e_g S g) 139 = some ((adV R.1 R.2).2 * 65536 + (adV R.1 R.2).1) := by
  have e := rM_i hR
  obtain ⟨h1, f1, ar⟩ := hR
  have z := adler12 (s := S) (g := g) (P := (S.2.1 187, R.2)) h1
  rw [e] at z
  have c : adV (S.2.1 187) R.2 = adV R.1 R.2 := adV_c ar R.2 (Nat.le_refl _)
  have z' : fX12_sumOfRows (e_g S g) 139 = some (q_shl (adV (S.2.1 187) R.2).2 16 ||| (adV (S.2.1 187) R.2).1) := z
  rw [c, adV_e hB] at z'
  exact z'
