-- needs: 07 10 13 14 20 21 22 23 24 25 26 27 32 33 34 36 38 39 40 41 42 43 44 46 47 48 49 50 52 53 54 70 71 72 97h 97s
/-! ===== convert ===== -/
def cofV (P : Nat → Int32) (p i j : Nat) : Int64 := (Int32.toInt64 (P (10 * p + 3 * ((i + 1) % 3) + (j + 1) % 3)) * Int32.toInt64 (P (10 * p + 3 * ((i + 2) % 3) + (j + 2) % 3))) - (Int32.toInt64 (P (10 * p + 3 * ((i + 1) % 3) + (j + 2) % 3)) * Int32.toInt64 (P (10 * p + 3 * ((i + 2) % 3) + (j + 1) % 3)))
theorem rd112 {s : e_S} {g : ps_G} {k : Nat} (hk : k < 40) : q_aI (e_g s g) 112 (Int32.ofNat k) = some (s.2.1 112 k) := by
  rw [a112, n_idx (by omega), if_neg (n_in2 hk (by decide))]
theorem rd173 {s : e_S} {g : ps_G} {k : Nat} (hk : k < 40) : q_aI (e_g s g) 173 (Int32.ofNat k) = some (s.2.1 173 k) := by
  rw [a173, n_idx (by omega), if_neg (n_in2 hk (by decide))]
theorem rm3 {i k : Nat} (hi : i < 100) (hk : k < 3) : q_rem (Int32.ofNat i + Int32.ofNat k) 3 = Int32.ofNat ((i + k) % 3) := by
  rw [n_add, show (3 : Int32) = Int32.ofNat 3 from rfl, n_rem (by omega) (by omega)]
theorem cof3 {s : e_S} {g : ps_G} {p i j : Nat} (hp : p < 4) (hi : i < 3) (hj : j < 3) : fX3_cofactor (e_g s g) 111 (Int32.ofNat p) (Int32.ofNat i) (Int32.ofNat j) = some (cofV (s.2.1 112) p i j) := by
  have ix : ∀ a b, a < 3 → b < 3 → Int32.ofNat p * 10 + Int32.ofNat a * 3 + Int32.ofNat b = Int32.ofNat (10 * p + 3 * a + b) := fun a b _ _ => by
    rw [show (10 : Int32) = Int32.ofNat 10 from rfl, show (3 : Int32) = Int32.ofNat 3 from rfl, n_mul, n_mul, n_add, n_add, Nat.mul_comm p 10, Nat.mul_comm a 3]
  have i1 := rm3 (i := i) (k := 1) (by omega) (by omega)
  have i2 := rm3 (i := i) (k := 2) (by omega) (by omega)
  have j1 := rm3 (i := j) (k := 1) (by omega) (by omega)
  have j2 := rm3 (i := j) (k := 2) (by omega) (by omega)
  have i1' : q_rem (Int32.ofNat i + 1) 3 = Int32.ofNat ((i + 1) % 3) := i1
  have i2' : q_rem (Int32.ofNat i + 2) 3 = Int32.ofNat ((i + 2) % 3) := i2
  have j1' : q_rem (Int32.ofNat j + 1) 3 = Int32.ofNat ((j + 1) % 3) := j1
  have j2' : q_rem (Int32.ofNat j + 2) 3 = Int32.ofNat ((j + 2) % 3) := j2
  have m : ∀ x, x % 3 < 3 := fun x => Nat.mod_lt _ (by omega)
  have ma := m (i + 1)
  have mb := m (i + 2)
  have mc := m (j + 1)
  have me := m (j + 2)
  unfold fX3_cofactor cofV
  rw [i1', i2', j1', j2', ix _ _ ma mc, ix _ _ mb me, ix _ _ ma me, ix _ _ mb mc, f111_0, ob_n, ob_n, rd112 (by omega), ob_n, ob_n, ob_n, rd112 (by omega), ob_n, ob_n, ob_n, rd112 (by omega), ob_n, ob_n, ob_n, rd112 (by omega), ob_n]
theorem cof12 {s : e_S} {g : ps_G} {p i j : Nat} (hp : p < 4) (hi : i < 3) (hj : j < 3) : fX12_cofactor (e_g s g) 139 (Int32.ofNat p) (Int32.ofNat i) (Int32.ofNat j) = some (cofV (s.2.1 173) p i j) := by
  have ix : ∀ a b, a < 3 → b < 3 → 10 * Int32.ofNat p + 3 * Int32.ofNat a + Int32.ofNat b = Int32.ofNat (10 * p + 3 * a + b) := fun a b _ _ => by
    rw [show (10 : Int32) = Int32.ofNat 10 from rfl, show (3 : Int32) = Int32.ofNat 3 from rfl, n_mul, n_mul, n_add, n_add]
  have i1' : q_rem (Int32.ofNat i + 1) 3 = Int32.ofNat ((i + 1) % 3) := rm3 (i := i) (k := 1) (by omega) (by omega)
  have i2' : q_rem (Int32.ofNat i + 2) 3 = Int32.ofNat ((i + 2) % 3) := rm3 (i := i) (k := 2) (by omega) (by omega)
  have j1' : q_rem (Int32.ofNat j + 1) 3 = Int32.ofNat ((j + 1) % 3) := rm3 (i := j) (k := 1) (by omega) (by omega)
  have j2' : q_rem (Int32.ofNat j + 2) 3 = Int32.ofNat ((j + 2) % 3) := rm3 (i := j) (k := 2) (by omega) (by omega)
  have m : ∀ x, x % 3 < 3 := fun x => Nat.mod_lt _ (by omega)
  have ma := m (i + 1)
  have mb := m (i + 2)
  have mc := m (j + 1)
  have me := m (j + 2)
  unfold fX12_cofactor cofV
  rw [i1', i2', j1', j2', ix _ _ ma mc, ix _ _ mb me, ix _ _ ma me, ix _ _ mb mc, f139_59, ob_n, ob_n, rd173 (by omega), ob_n, ob_n, ob_n, rd173 (by omega), ob_n, ob_n, ob_n, rd173 (by omega), ob_n, ob_n, ob_n, rd173 (by omega), ob_n]
def dtF (P : Nat → Int32) (q : Nat) : Nat → Int64
  | 0 => 0
  | j + 1 => dtF P q j + Int32.toInt64 (P (10 * q + j)) * cofV P q 0 j
theorem det3 {s : e_S} {g : ps_G} {q : Nat} (hq : q < 4) : fX3_determinant (e_g s g) 111 (Int32.ofNat q) = some (dtF (s.2.1 112) q 3) := by
  have lp : q_lp (fun t => bX3_determinant_5 (e_g s g) 111 (Int32.ofNat q) t.1 t.2) ((0 : Int64), (0 : Int32)) = some (dtF (s.2.1 112) q 3) := by
    refine lp_0 (fun i => (dtF (s.2.1 112) q i, Int32.ofNat i)) 3 rfl (fun i hi => ?_) ?_
    · have ix : Int32.ofNat q * 10 + Int32.ofNat i = Int32.ofNat (10 * q + i) := by
        rw [show (10 : Int32) = Int32.ofNat 10 from rfl, n_mul, n_add, Nat.mul_comm q 10]
      have cf : fX3_cofactor (e_g s g) 111 (Int32.ofNat q) 0 (Int32.ofNat i) = _ := cof3 (s := s) (g := g) (i := 0) hq (by omega) hi
      show bX3_determinant_5 _ _ _ _ _ = _
      unfold bX3_determinant_5
      dsimp only
      rw [if_neg (show ¬ (3 : Int32) ≤ Int32.ofNat _ from nle (b := 3) hi (by omega)), f111_0, ob_n, ob_n, ix, rd112 (by omega), ob_n, ob111, ob_n, cf, ob_n, n_suc]
      rfl
    · show bX3_determinant_5 _ _ _ _ _ = _
      unfold bX3_determinant_5
      dsimp only
      rw [if_pos (by decide)]
  unfold fX3_determinant
  rw [lp, ob_n]
theorem det12 {s : e_S} {g : ps_G} {q : Nat} {a b : Int32} (hq : q < 4) : q_lp (fun t => bX12_convert_46 (e_g s g) 139 a b (Int32.ofNat q) t.1 t.2) ((0 : Int64), (0 : Int32)) = some (dtF (s.2.1 173) q 3) := by
  refine lp_0 (fun i => (dtF (s.2.1 173) q i, Int32.ofNat i)) 3 rfl (fun i hi => ?_) ?_
  · have ix : 10 * Int32.ofNat q + Int32.ofNat i = Int32.ofNat (10 * q + i) := by
      rw [show (10 : Int32) = Int32.ofNat 10 from rfl, n_mul, n_add]
    have cf : fX12_cofactor (e_g s g) 139 (Int32.ofNat q) 0 (Int32.ofNat i) = _ := cof12 (s := s) (g := g) (i := 0) hq (by omega) hi
    show bX12_convert_46 _ _ _ _ _ _ _ = _
    unfold bX12_convert_46
    dsimp only
    rw [if_neg (show ¬ (3 : Int32) ≤ Int32.ofNat _ from nle (b := 3) hi (by omega)), f139_59, ob_n, ob_n, ix, rd173 (by omega), ob_n, ob139, ob_n, cf, ob_n, n_suc]
    rfl
  · show bX12_convert_46 _ _ _ _ _ _ _ = _
    unfold bX12_convert_46
    dsimp only
    rw [if_pos (by decide)]
/-- the light of a colour in the profile p -/
def ltV (P : Nat → Int32) (p : Nat) (c : Int32) (j : Nat) : Int32 := q_shr (((P (10 * p + 3 * j) * fX3_level (P (10 * p + 9)) (fX11_red c)) + (P (10 * p + 3 * j + 1) * fX3_level (P (10 * p + 9)) (fX11_green c))) + (P (10 * p + 3 * j + 2) * fX3_level (P (10 * p + 9)) (fX11_blue c))) 10
def cvL (P : Nat → Int32) (p q : Nat) (c : Int32) (k : Nat) : Int64 := ((Int32.toInt64 (ltV P p c 0) * cofV P q 0 k) + (Int32.toInt64 (ltV P p c 1) * cofV P q 1 k)) + (Int32.toInt64 (ltV P p c 2) * cofV P q 2 k)
def cvN (P : Nat → Int32) (p q : Nat) (c : Int32) (k : Nat) : Int32 := Int32.ofNat (nrV (fun x => (fX3_level (P (10 * q + 9)) (Int32.ofNat x)).toInt) (clV (cvL P p q c k * 1024 / dtF P q 3)).toInt 255)
def cvF (P : Nat → Int32) (p q : Nat) (c : Int32) : Nat → Int32
  | 0 => c &&& -16777216
  | k + 1 => cvF P p q c k ||| q_shl (cvN P p q c k) (16 - 8 * Int32.ofNat k)
