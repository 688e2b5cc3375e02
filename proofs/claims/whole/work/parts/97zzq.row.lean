-- needs: 97zzp
/-! ===== made: bytes of pixels, foretold ===== -/
def byV (c : Int32) (k : Nat) : Int32 := if k = 3 then q_ush c 24 else q_shr c (16 - 8 * Int32.ofNat k) &&& 255
def pbV (B : Nat → Int32) (w i y : Nat) : Int32 := byV (B (y * w + i / 4)) (i % 4)
def rsW (B : Nat → Int32) (w f i y : Nat) : Int32 := (pbV B w i y - fX12_foretold (Int32.ofNat f) (if 4 ≤ i then pbV B w (i - 4) y else 0) (if 1 ≤ y then pbV B w i (y - 1) else 0) (if 4 ≤ i ∧ 1 ≤ y then pbV B w (i - 4) (y - 1) else 0)) &&& 255
theorem fore_e {f : Nat} {a b c : Int32} (hf : f < 5) : fX11_foretold (Int32.ofNat f) a b c = fX12_foretold (Int32.ofNat f) a b c := by
  unfold fX11_foretold fX12_foretold
  simp only [abs12]
  have : f = 0 ∨ f = 1 ∨ f = 2 ∨ f = 3 ∨ f = 4 := by omega
  have z : ∀ m k : Nat, m < 5 → k < 5 → ¬ m = k → ¬ Int32.ofNat m = Int32.ofNat k := fun m k h1 h2 h3 e => h3 ((n_eq (by omega) (by omega)).mp e)
  rcases this with rfl | rfl | rfl | rfl | rfl
  · rw [if_neg (show ¬ Int32.ofNat 0 = 1 by decide), if_neg (show ¬ Int32.ofNat 0 = 2 by decide), if_neg (show ¬ Int32.ofNat 0 = 3 by decide), if_neg (show ¬ Int32.ofNat 0 = 4 by decide), if_neg (show ¬ ¬ Int32.ofNat 0 = 0 by decide)]
  · rw [if_pos (show Int32.ofNat 1 = 1 by decide), if_pos (show ¬ Int32.ofNat 1 = 0 by decide), if_neg (show ¬ ¬ Int32.ofNat 1 = 1 by decide)]
  · rw [if_neg (show ¬ Int32.ofNat 2 = 1 by decide), if_pos (show Int32.ofNat 2 = 2 by decide), if_pos (show ¬ Int32.ofNat 2 = 0 by decide), if_pos (show ¬ Int32.ofNat 2 = 1 by decide), if_neg (show ¬ ¬ Int32.ofNat 2 = 2 by decide)]
  · rw [if_neg (show ¬ Int32.ofNat 3 = 1 by decide), if_neg (show ¬ Int32.ofNat 3 = 2 by decide), if_pos (show Int32.ofNat 3 = 3 by decide), if_pos (show ¬ Int32.ofNat 3 = 0 by decide), if_pos (show ¬ Int32.ofNat 3 = 1 by decide), if_pos (show ¬ Int32.ofNat 3 = 2 by decide), if_neg (show ¬ ¬ Int32.ofNat 3 = 3 by decide)]
  · rw [if_neg (show ¬ Int32.ofNat 4 = 1 by decide), if_neg (show ¬ Int32.ofNat 4 = 2 by decide), if_neg (show ¬ Int32.ofNat 4 = 3 by decide), if_pos (show Int32.ofNat 4 = 4 by decide), if_pos (show ¬ Int32.ofNat 4 = 0 by decide), if_pos (show ¬ Int32.ofNat 4 = 1 by decide), if_pos (show ¬ Int32.ofNat 4 = 2 by decide), if_pos (show ¬ Int32.ofNat 4 = 3 by decide)]
theorem pixB12 {s : e_S} {g : ps_G} {w h i y : Nat} (hw : w ≤ 24) (hh : h ≤ 24) (e1 : s.1 139 13 = Int32.ofNat w) (hi : i < 4 * w) (hy : y < h) : fX12_pixelByte (e_g s g) 139 (Int32.ofNat i) (Int32.ofNat y) = some (pbV (s.2.1 158) w i y) := by
  have hwh := wh_le hw hh
  have hlt := at_lt (show i / 4 < w by omega) hy
  have c : ¬ Int32.ofNat i < 0 ∧ 0 ≤ Int32.ofNat y := ⟨n_neg (by omega), show Int32.ofNat 0 ≤ Int32.ofNat y from (n_le (by omega) (by omega)).mpr (by omega)⟩
  have d4 : Int32.ofNat i / 4 = Int32.ofNat (i / 4) := n_div (b := 4) (by omega) (by omega)
  have m4 : q_rem (Int32.ofNat i) 4 = Int32.ofNat (i % 4) := n_rem (b := 4) (by omega) (by omega)
  have at1 := at12n (s := s) (g := g) (x := i / 4) (y := y) e1
  unfold fX12_pixelByte jX12_pixelByte_31
  rw [if_pos c, f139_35, ob_n, ob_n, ob139, ob_n, d4, at1, ob_n, a158, n_idx (by omega), if_neg (n_in2 (show y * w + i / 4 < 576 by omega) (by decide)), ob_n, m4]
  unfold fX12_byteOf pbV byV
  by_cases q : i % 4 = 3
  · rw [q, if_neg (show ¬ ¬ Int32.ofNat 3 = 3 by decide), if_pos rfl]
  · have q' : ¬ Int32.ofNat (i % 4) = 3 := fun z => q ((n_eq (b := 3) (by omega) (by omega)).mp z)
    rw [if_pos q', if_neg q]
theorem pixB0 {s : e_S} {g : ps_G} {i : Nat} : fX12_pixelByte (e_g s g) 139 (Int32.ofNat i) (Int32.ofNat 0 - 1) = some 0 := by
  have c : ¬ (¬ Int32.ofNat i < 0 ∧ (0 : Int32) ≤ Int32.ofNat 0 - 1) := fun z => absurd z.2 (by decide)
  unfold fX12_pixelByte jX12_pixelByte_31
  rw [if_neg c]
theorem rest12 {s : e_S} {g : ps_G} {w h f i y : Nat} (hw : w ≤ 24) (hh : h ≤ 24) (e1 : s.1 139 13 = Int32.ofNat w) (hi : i < 4 * w) (hy : y < h) : fX12_rest (e_g s g) 139 (Int32.ofNat f) (Int32.ofNat i) (Int32.ofNat y) = some (rsW (s.2.1 158) w f i y) := by
  have p0 := pixB12 (s := s) (g := g) (i := i) (y := y) hw hh e1 hi hy
  have up : fX12_pixelByte (e_g s g) 139 (Int32.ofNat i) (Int32.ofNat y - 1) = some (if 1 ≤ y then pbV (s.2.1 158) w i (y - 1) else 0) := by
    by_cases q : 1 ≤ y
    · have em : Int32.ofNat y - 1 = Int32.ofNat (y - 1) := sb_n (y := 1) q (by omega)
      rw [em, if_pos q, pixB12 hw hh e1 hi (by omega)]
    · have y0 : y = 0 := by omega
      rw [y0, if_neg (by omega), pixB0]
  unfold fX12_rest jX12_rest_17 jX12_rest_48 rsW
  by_cases q4 : 4 ≤ i
  · have c4 : (4 : Int32) ≤ Int32.ofNat i := show Int32.ofNat 4 ≤ Int32.ofNat i from (n_le (by omega) (by omega)).mpr q4
    have em : Int32.ofNat i - 4 = Int32.ofNat (i - 4) := sb_n (y := 4) q4 (by omega)
    have lf := pixB12 (s := s) (g := g) (i := i - 4) (y := y) hw hh e1 (by omega) hy
    have ul : fX12_pixelByte (e_g s g) 139 (Int32.ofNat (i - 4)) (Int32.ofNat y - 1) = some (if 4 ≤ i ∧ 1 ≤ y then pbV (s.2.1 158) w (i - 4) (y - 1) else 0) := by
      by_cases q : 1 ≤ y
      · have em : Int32.ofNat y - 1 = Int32.ofNat (y - 1) := sb_n (y := 1) q (by omega)
        rw [em, if_pos ⟨q4, q⟩, pixB12 hw hh e1 (by omega) (by omega)]
      · have y0 : y = 0 := by omega
        rw [y0, if_neg (by omega), pixB0]
    rw [if_pos c4, ob139, ob_n, em, lf, ob_n, ob_n, up, ob_n, if_pos c4, ob_n, ul, ob_n, ob_n, p0, ob_n, if_pos q4]
  · have c4 : ¬ (4 : Int32) ≤ Int32.ofNat i := show ¬ Int32.ofNat 4 ≤ Int32.ofNat i from nle (by omega) (by omega)
    rw [if_neg c4, ob139, ob_n, up, ob_n, if_neg c4, ob_n, p0, ob_n, if_neg q4, if_neg (show ¬ (4 ≤ i ∧ 1 ≤ y) from fun z => q4 z.1)]
/-- a row of pixels that can be read -/
def RdB (G : ps_G) (a : Nat) (B : Nat → Int32) : Prop := q_len G a = some 576 ∧ ∀ i : Nat, i < 576 → q_aI G a (Int32.ofNat i) = some (B i)
theorem and_3 : ∀ k, k < 4 → Int32.ofNat k &&& 3 = Int32.ofNat k := by decide
theorem m4_a {i : Nat} (hi : i < 2147483648) : Int32.ofNat i &&& 3 = Int32.ofNat (i % 4) := by
  apply Int32.toBitVec_inj.mp
  apply BitVec.eq_of_toNat_eq
  rw [Int32.toBitVec_and, BitVec.toNat_and]
  have e : (3 : Int32).toBitVec.toNat = 2 ^ 2 - 1 := by decide
  have n1 : ∀ j : Nat, j < 2147483648 → (Int32.ofNat j).toBitVec.toNat = j := fun j hj => by
    show (BitVec.ofNat 32 j).toNat = j
    rw [BitVec.toNat_ofNat]
    exact Nat.mod_eq_of_lt (by omega)
  rw [e, Nat.and_two_pow_sub_one_eq_mod, n1 i hi, n1 (i % 4) (by omega)]
theorem s2_d {i : Nat} (hi : i < 2147483648) : q_shr (Int32.ofNat i) 2 = Int32.ofNat (i / 4) := by
  have h := shr_k (a := Int32.ofNat i) (y := 2) (n := 2) (by decide)
  refine n_of ?_
  rw [h, n_int hi]
  show (i : Int) / 4 = ((i / 4 : Nat) : Int)
  omega
theorem byte7 {G : ps_G} {a w h i y : Nat} {B : Nat → Int32} (hR : RdB G a B) (hw : w ≤ 24) (hh : h ≤ 24) (hi : i < 4 * w) (hy : y < h) : fX7_byteAt G a (Int32.ofNat w) (Int32.ofNat y) (Int32.ofNat i) = some (pbV B w i y) := by
  have hwh := wh_le hw hh
  have hlt := at_lt (show i / 4 < w by omega) hy
  have c : ¬ (Int32.ofNat y < 0 ∨ Int32.ofNat i < 0) := fun z => z.elim (n_neg (by omega)) (n_neg (by omega))
  have c2 : Int32.ofNat (y * w + i / 4) < (576 : Int32) := show Int32.ofNat (y * w + i / 4) < Int32.ofNat 576 from (n_lt (by omega) (by omega)).mpr (by omega)
  unfold fX7_byteAt
  rw [if_neg c, hR.1, ob_n, s2_d (by omega), n_mul, n_add, if_pos c2, hR.2 _ (by omega), ob_n, m4_a (by omega)]
  unfold pbV byV
  by_cases q : i % 4 = 3
  · rw [q, if_neg (show ¬ ¬ Int32.ofNat 3 = 3 by decide), if_pos rfl]
  · have q' : ¬ Int32.ofNat (i % 4) = 3 := fun z => q ((n_eq (b := 3) (by omega) (by omega)).mp z)
    rw [if_pos q', if_neg q]
theorem byte0 {G : ps_G} {a : Nat} {w y i : Int32} (h : y < 0 ∨ i < 0) : fX7_byteAt G a w y i = some 0 := by
  unfold fX7_byteAt jX7_byteAt_24
  rw [if_pos h]
theorem less7 {G : ps_G} {a w h f i y : Nat} {B : Nat → Int32} (hR : RdB G a B) (hf : f < 5) (hw : w ≤ 24) (hh : h ≤ 24) (hi : i < 4 * w) (hy : y < h) : fX7_lessForetold G (Int32.ofNat f) a (Int32.ofNat w) (Int32.ofNat y) (Int32.ofNat i) = some (rsW B w f i y) := by
  have p0 := byte7 (i := i) (y := y) hR hw hh hi hy
  have up : fX7_byteAt G a (Int32.ofNat w) (Int32.ofNat y - 1) (Int32.ofNat i) = some (if 1 ≤ y then pbV B w i (y - 1) else 0) := by
    by_cases q : 1 ≤ y
    · have em : Int32.ofNat y - 1 = Int32.ofNat (y - 1) := sb_n (y := 1) q (by omega)
      rw [em, if_pos q, byte7 hR hw hh hi (show y - 1 < h by omega)]
    · have y0 : y = 0 := by omega
      rw [y0, if_neg (by omega), byte0 (Or.inl (by decide))]
  have lf : fX7_byteAt G a (Int32.ofNat w) (Int32.ofNat y) (Int32.ofNat i - 4) = some (if 4 ≤ i then pbV B w (i - 4) y else 0) := by
    by_cases q : 4 ≤ i
    · have em : Int32.ofNat i - 4 = Int32.ofNat (i - 4) := sb_n (y := 4) q (by omega)
      rw [em, if_pos q, byte7 hR hw hh (show i - 4 < 4 * w by omega) hy]
    · have : i = 0 ∨ i = 1 ∨ i = 2 ∨ i = 3 := by omega
      have z : Int32.ofNat i - 4 < 0 := by rcases this with rfl | rfl | rfl | rfl <;> decide
      rw [if_neg q, byte0 (Or.inr z)]
  unfold fX7_lessForetold jX7_lessForetold_49 rsW
  rw [p0, ob_n, lf, ob_n, up, ob_n]
  by_cases q : 1 ≤ y
  · have c : ¬ Int32.ofNat y ≤ 0 := show ¬ Int32.ofNat y ≤ Int32.ofNat 0 from nle q (by omega)
    have em : Int32.ofNat y - 1 = Int32.ofNat (y - 1) := sb_n (y := 1) q (by omega)
    have ul : fX7_byteAt G a (Int32.ofNat w) (Int32.ofNat y - 1) (Int32.ofNat i - 4) = some (if 4 ≤ i ∧ 1 ≤ y then pbV B w (i - 4) (y - 1) else 0) := by
      by_cases q4 : 4 ≤ i
      · have e4 : Int32.ofNat i - 4 = Int32.ofNat (i - 4) := sb_n (y := 4) q4 (by omega)
        rw [em, e4, if_pos ⟨q4, q⟩, byte7 hR hw hh (show i - 4 < 4 * w by omega) (show y - 1 < h by omega)]
      · have : i = 0 ∨ i = 1 ∨ i = 2 ∨ i = 3 := by omega
        have z : Int32.ofNat i - 4 < 0 := by rcases this with rfl | rfl | rfl | rfl <;> decide
        rw [if_neg (fun z => q4 z.1), byte0 (Or.inr z)]
    rw [if_neg c, ul, ob_n, fore_e hf]
  · have c : Int32.ofNat y ≤ 0 := show Int32.ofNat y ≤ Int32.ofNat 0 from (n_le (by omega) (by omega)).mpr (by omega)
    rw [if_pos c, fore_e hf, if_neg (show ¬ (4 ≤ i ∧ 1 ≤ y) from fun z => q z.2)]
