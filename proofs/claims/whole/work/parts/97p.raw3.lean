-- needs: 07 10 13 14 20 21 22 23 24 25 26 27 32 33 34 36 38 39 40 41 42 43 44 46 47 48 49 50 52 53 54 55 57 60 61 62 63 70 71 72 73 74 80 81 82 83 84 85 86 87 88 97l 97m 97n 97o
/-! ===== raw ===== -/
theorem shl8 {a : Nat} (ha : a < 256) : q_shl (Int32.ofNat a) 8 = Int32.ofNat (2 ^ 8 * a) := by
  have : ∀ a : Fin 256, q_shl (Int32.ofNat a.1) 8 = Int32.ofNat (2 ^ 8 * a.1) := by decide +kernel
  exact this ⟨a, ha⟩
theorem n_or {x y : Nat} : Int32.ofNat x ||| Int32.ofNat y = Int32.ofNat (x ||| y) := by
  apply Int32.toBitVec_inj.mp
  show BitVec.ofNat 32 x ||| BitVec.ofNat 32 y = BitVec.ofNat 32 (x ||| y)
  exact (BitVec.ofNat_or).symm
theorem or_b {a b : Nat} (ha : a < 256) (hb : b < 256) : q_shl (Int32.ofNat a) 8 ||| Int32.ofNat b = Int32.ofNat (a * 256 + b) := by
  rw [shl8 ha, n_or, ← Nat.two_pow_add_eq_or_of_lt (show b < 2 ^ 8 by omega)]
  congr 1
  omega
def bt (v : Int32) : Prop := 0 ≤ v.toInt ∧ v.toInt ≤ 255
theorem or_c {a b : Int32} (ha : bt a) (hb : bt b) : q_shl a 8 ||| b = a * 256 + b ∧ 0 ≤ (a * 256 + b).toInt ∧ (a * 256 + b).toInt ≤ 65535 := by
  obtain ⟨a1, a2⟩ := ha
  obtain ⟨b1, b2⟩ := hb
  obtain ⟨n, rfl, hn⟩ : ∃ n : Nat, a = Int32.ofNat n ∧ n < 256 := ⟨a.toInt.toNat, n_of (by omega), by omega⟩
  obtain ⟨m, rfl, hm⟩ : ∃ m : Nat, b = Int32.ofNat m ∧ m < 256 := ⟨b.toInt.toNat, n_of (by omega), by omega⟩
  have e : Int32.ofNat n * 256 + Int32.ofNat m = Int32.ofNat (n * 256 + m) := by
    rw [show (256 : Int32) = Int32.ofNat 256 from rfl, n_mul, n_add]
  refine ⟨by rw [e, or_b hn hm], ?_, ?_⟩ <;> rw [e, n_int (by omega)] <;> omega
def fvI (I : Nat → Int32) (k : Nat) : Int32 := I (2 * k) * 256 + I (2 * k + 1)
def frV (I D : Nat → Int32) (w k : Nat) : Int32 := fX11_within ((fvI I k - D 0) * D (1 + fpN (k % w) (k / w)) / 64) 0 4095
theorem fr_eq {d e : Int32} (h1 : -4095 ≤ d.toInt) (h2 : d.toInt ≤ 4095) (h3 : 0 ≤ e.toInt) (h4 : e.toInt ≤ 1024) : fX11_within (d * e / 64) 0 4095 = if ((if 0 ≤ d then d else 0) * e) / 64 ≤ 4095 then ((if 0 ≤ d then d else 0) * e) / 64 else 4095 := by
  have p1 : d.toInt * e.toInt ≤ 4095 * e.toInt := Int.mul_le_mul_of_nonneg_right h2 h3
  have p2 : -4095 * e.toInt ≤ d.toInt * e.toInt := Int.mul_le_mul_of_nonneg_right h1 h3
  have e64 : (64 : Int32).toInt = 64 := by decide
  have e0 : (0 : Int32).toInt = 0 := by decide
  have em := i_mul (a := d) (b := e) (by omega) (by omega)
  unfold fX11_within
  by_cases q : 0 ≤ d
  · rw [if_pos q]
    rw [i_le, e0] at q
    have p3 : 0 ≤ d.toInt * e.toInt := Int.mul_nonneg q h3
    have dv := i_divp (a := d * e) (b := 64) (by rw [em]; exact p3) (by rw [e64]; omega)
    have ge : (0 : Int32) ≤ d * e / 64 := by
      rw [i_le, dv, em, e0, e64]
      omega
    rw [if_pos ge]
  · rw [if_neg q]
    rw [i_le, e0] at q
    have p3 : d.toInt * e.toInt ≤ 0 := by
      have : d.toInt * e.toInt ≤ 0 * e.toInt := Int.mul_le_mul_of_nonneg_right (by omega) h3
      omega
    have dv := i_div (a := d * e) (b := 64) (by rw [e64]; omega)
    have le : (d * e / 64).toInt ≤ 0 := by
      rw [dv, em, e64]
      have : (-(d.toInt * e.toInt)).tdiv 64 = -((d.toInt * e.toInt).tdiv 64) := Int.neg_tdiv _ _
      have : 0 ≤ (-(d.toInt * e.toInt)).tdiv 64 := Int.tdiv_nonneg (by omega) (by omega)
      omega
    have z : (0 : Int32) * e / 64 = 0 := by rw [Int32.zero_mul]; decide
    rw [z, if_pos (show (0 : Int32) ≤ 4095 by decide)]
    by_cases y : 0 ≤ d * e / 64
    · have : d * e / 64 = 0 := by
        rw [i_le, e0] at y
        rw [i_eq, e0]; omega
      rw [this, if_pos (by decide), if_pos (by decide)]
    · rw [if_neg y]
/-- what the frame needs -/
def FrO (I D : Nat → Int32) (n : Nat) : Prop := (∀ k, k < 2 * n → bt (I k)) ∧ (0 ≤ (D 0).toInt ∧ (D 0).toInt ≤ 4095) ∧ ∀ c, c < 3 → 0 ≤ (D (1 + c)).toInt ∧ (D (1 + c)).toInt ≤ 1024
theorem fr_first {P : Nat → Prop} (hP : ∀ k, P k ∨ ¬ P k) : ∀ n, (∀ k, k < n → P k) ∨ ∃ k0, k0 < n ∧ ¬ P k0 ∧ ∀ k, k < k0 → P k
  | 0 => Or.inl (fun k hk => absurd hk (by omega))
  | n + 1 => by
    rcases fr_first hP n with z | ⟨k0, z1, z2⟩
    · rcases hP n with y | y
      · refine Or.inl (fun k hk => ?_)
        by_cases e : k = n
        · rw [e]; exact y
        · exact z k (by omega)
      · exact Or.inr ⟨n, by omega, y, z⟩
    · exact Or.inr ⟨k0, by omega, z2⟩
theorem frame3 {s : e_S} {g : ps_G} {w h n : Nat} (hw1 : 1 ≤ w) (hw : w ≤ 24) (hh : h ≤ 24) (hn : n ≤ w * h) (ok : ∀ k, k < n → fvI (s.2.1 137) k ≤ 4095) (hend : n = w * h ∨ ¬ fvI (s.2.1 137) n ≤ 4095) : fX3_takeFrame (e_g s g) 111 137 (Int32.ofNat w) (Int32.ofNat h) = some (if n = w * h then (-1) else Int32.ofNat (2 * n), e_g (sA s 121 (cpT (s.2.1 121) (frV (s.2.1 137) (s.2.1 113) w) 0 n)) g) := by
  have hwh := wh_le hw hh
  have wd : ¬ Int32.ofNat w = 0 := fun z => by
    have := (n_eq (b := 0) (by omega) (by omega)).mp z
    omega
  have rd : ∀ F k, k < 8000 → q_aI (e_g (sA s 121 F) g) 137 (Int32.ofNat k) = some (s.2.1 137 k) := fun F k hk => by
    rw [a137, n_idx (by omega), if_neg (n_in2 hk (by decide)), A_sA, if_neg (by decide)]
  have rd3 : ∀ F k, k < 4 → q_aI (e_g (sA s 121 F) g) 113 (Int32.ofNat k) = some (s.2.1 113 k) := fun F k hk => by
    rw [a113, n_idx (by omega), if_neg (n_in2 hk (by decide)), A_sA, if_neg (by decide)]
  have rd30 : ∀ F, q_aI (e_g (sA s 121 F) g) 113 0 = some (s.2.1 113 0) := fun F => rd3 F 0 (by omega)
  have i2 : ∀ k : Nat, (2 : Int32) * Int32.ofNat k = Int32.ofNat (2 * k) := fun k => n_mul (n := 2)
  have gd : ∀ k, k < w * h → ¬ (Int32.ofNat w * Int32.ofNat h ≤ Int32.ofNat k ∨ 576 ≤ Int32.ofNat k) := fun k hk => by
    rw [n_mul, n_le (by omega) (by omega), show (576 : Int32) = Int32.ofNat 576 from rfl, n_le (by omega) (by omega)]; omega
  have gl : ∀ k, k < w * h → ¬ (8000 : Int32) ≤ Int32.ofNat (2 * k) + 1 := fun k hk => by
    rw [n_suc]
    exact nle (b := 8000) (by omega) (by omega)
  have lp : q_lp (fun t => bX3_takeFrame_3 111 137 (Int32.ofNat w) (Int32.ofNat h) t.1 t.2) ((0 : Int32), e_g s g) = some (if n = w * h then .inl (e_g (sA s 121 (cpT (s.2.1 121) (frV (s.2.1 137) (s.2.1 113) w) 0 n)) g) else .inr (Int32.ofNat (2 * n), e_g (sA s 121 (cpT (s.2.1 121) (frV (s.2.1 137) (s.2.1 113) w) 0 n)) g)) := by
    refine lp_0 (fun i => (Int32.ofNat i, e_g (sA s 121 (cpT (s.2.1 121) (frV (s.2.1 137) (s.2.1 113) w) 0 i)) g)) n ?_ (fun i hi => ?_) ?_
    · rw [cpT_0, sA_id]; rfl
    · have mo := Nat.mod_lt i (show 0 < w by omega)
      have dv : i / w < 24 := by
        have : i / w < h := Nat.div_lt_of_lt_mul (by omega)
        omega
      have fl := fpN_l (x := i % w) (y := i / w)
      have fo := (fp_c (x := i % w) (y := i / w) (by omega) (by omega)).1
      have up := cpT_up (A := s.2.1 121) (N := frV (s.2.1 137) (s.2.1 113) w) (b := 0) (n := i)
      rw [Nat.zero_add] at up
      have o := ok i hi
      unfold fvI at o
      show bX3_takeFrame_3 _ _ _ _ _ _ = _
      unfold bX3_takeFrame_3 q_mod q_div
      dsimp only
      rw [if_neg (gd i (by omega)), l137, ob_n, i2, if_neg (gl i (by omega)), rd _ _ (by omega), ob_n, n_suc, rd _ _ (by omega), ob_n, if_pos o, f111_12, ob_n, ob_n, f111_1, ob_n, ob_n, rd30, ob_n, ob_n, ob_n, if_neg wd, ob_n, if_neg wd, ob_n, n_rem (by omega) (by omega), n_div (by omega) (by omega), fo, show (1 : Int32) = Int32.ofNat 1 from rfl, n_add, rd3 _ _ (by omega), ob_n, wrI t121 (by omega) (by omega), ob_n, A_sA, if_pos rfl, sA_sA, n_add]
      show some (Sum.inl (_, e_g (sA s 121 (upd _ i (frV (s.2.1 137) (s.2.1 113) w i))) g)) = _
      rw [up]
    · by_cases q : n = w * h
      · show bX3_takeFrame_3 _ _ _ _ _ _ = _
        unfold bX3_takeFrame_3
        dsimp only
        rw [if_pos q, if_pos (Or.inl (by rw [q, n_mul]; exact nlr (by omega)))]
      · have o := hend.resolve_left q
        unfold fvI at o
        show bX3_takeFrame_3 _ _ _ _ _ _ = _
        unfold bX3_takeFrame_3
        dsimp only
        rw [if_neg q, if_neg (gd n (by omega)), l137, ob_n, i2, if_neg (gl n (by omega)), rd _ _ (by omega), ob_n, n_suc, rd _ _ (by omega), ob_n, if_neg o]
  unfold fX3_takeFrame jX3_takeFrame_115
  rw [lp, ob_n]
  by_cases q : n = w * h
  · rw [if_pos q, if_pos q]; rfl
  · rw [if_neg q, if_neg q]; rfl
theorem frame12 {s : e_S} {g : ps_G} {w h n : Nat} (hw1 : 1 ≤ w) (hw : w ≤ 24) (hh : h ≤ 24) (e13 : s.1 139 13 = Int32.ofNat w) (e4 : s.1 139 4 = 0) (hn : n ≤ w * h) (fo : FrO (s.2.1 140) (s.2.1 180) (w * h)) (ok : ∀ k, k < n → fvI (s.2.1 140) k ≤ 4095) (hend : n = w * h ∨ ¬ fvI (s.2.1 140) n ≤ 4095) : ∃ F, q_lp (fun t => bX12_raw_35 139 (Int32.ofNat (w * h)) t.1 t.2) ((0 : Int32), e_g s g) = some (e_g (if n = w * h then sA s 181 F else sA (sF (sF s 139 4 2) 139 5 (Int32.ofNat (2 * n))) 181 F) g) ∧ (n = w * h → ∀ k, k < w * h → F k = frV (s.2.1 140) (s.2.1 180) w k) := by
  have hwh := wh_le hw hh
  obtain ⟨fo1, fo2, fo3⟩ := fo
  have wd : ¬ Int32.ofNat w = 0 := fun z => by
    have := (n_eq (b := 0) (by omega) (by omega)).mp z
    omega
  have rd : ∀ s' : e_S, s'.2.1 140 = s.2.1 140 → ∀ k, k < 8000 → q_aI (e_g s' g) 140 (Int32.ofNat k) = some (s.2.1 140 k) := fun s' e k hk => by
    rw [a140, n_idx (by omega), if_neg (n_in2 hk (by decide)), e]
  have rd3 : ∀ s' : e_S, s'.2.1 180 = s.2.1 180 → ∀ k, k < 4 → q_aI (e_g s' g) 180 (Int32.ofNat k) = some (s.2.1 180 k) := fun s' e k hk => by
    rw [a180, n_idx (by omega), if_neg (n_in2 hk (by decide)), e]
  have i2 : ∀ k : Nat, (2 : Int32) * Int32.ofNat k = Int32.ofNat (2 * k) := fun k => n_mul (n := 2)
  -- the value is put
  have put : ∀ (s' : e_S) k v, s'.2.1 180 = s.2.1 180 → s'.1 139 13 = Int32.ofNat w → k < w * h → jX12_raw_85_35 (e_g s' g) 139 (Int32.ofNat (w * h)) (Int32.ofNat k) v = some (.inl (Int32.ofNat (k + 1), e_g (sA s' 181 (upd (s'.2.1 181) k (if ((if 0 ≤ v - s.2.1 180 0 then v - s.2.1 180 0 else 0) * s.2.1 180 (1 + fpN (k % w) (k / w))) / 64 ≤ 4095 then ((if 0 ≤ v - s.2.1 180 0 then v - s.2.1 180 0 else 0) * s.2.1 180 (1 + fpN (k % w) (k / w))) / 64 else 4095))) g)) := by
    intro s' k v a1 a2 hk
    have mo := Nat.mod_lt k (show 0 < w by omega)
    have dv : k / w < 24 := by
      have : k / w < h := Nat.div_lt_of_lt_mul (by omega)
      omega
    have fl := fpN_l (x := k % w) (y := k / w)
    have fo := (fp_c (x := k % w) (y := k / w) (by omega) (by omega)).2
    have r0 : q_aI (e_g s' g) 180 0 = some (s.2.1 180 0) := rd3 s' a1 0 (by omega)
    have fin : ∀ d, jX12_raw_108_35 (e_g s' g) 139 (Int32.ofNat (w * h)) (Int32.ofNat k) d = some (.inl (Int32.ofNat (k + 1), e_g (sA s' 181 (upd (s'.2.1 181) k (if (d * s.2.1 180 (1 + fpN (k % w) (k / w))) / 64 ≤ 4095 then (d * s.2.1 180 (1 + fpN (k % w) (k / w))) / 64 else 4095))) g)) := by
      intro d
      unfold jX12_raw_108_35 q_mod q_div
      rw [f139_66, ob_n, ob_n, f139_13, a2, ob_n, if_neg wd, ob_n, ob_n, if_neg wd, ob_n, n_rem (by omega) (by omega), n_div (by omega) (by omega), fo, show (1 : Int32) = Int32.ofNat 1 from rfl, n_add, rd3 s' a1 _ (by omega), ob_n, f139_67, ob_n, ob_n, wrI t181 (by omega) (by omega), ob_n, n_add]
    unfold jX12_raw_85_35
    rw [f139_66, ob_n, ob_n, r0, ob_n]
    by_cases q : 0 ≤ v - s.2.1 180 0
    · rw [if_pos q, ob_n, ob_n, r0, ob_n, fin, if_pos q]
    · rw [if_neg q, fin, if_neg q]
  have val : ∀ k, k < w * h → q_shl (s.2.1 140 (2 * k)) 8 ||| s.2.1 140 (2 * k + 1) = fvI (s.2.1 140) k := fun k hk => (or_c (fo1 _ (by omega)) (fo1 _ (by omega))).1
  have gd : ∀ k, k < w * h → ¬ Int32.ofNat (w * h) ≤ Int32.ofNat k := fun k hk => nle hk (by omega)
  have e12 : ∀ F j, ¬ j = 181 → (sA s 181 F).2.1 j = s.2.1 j := fun F j hj => by rw [A_sA, if_neg hj]
  have stp : ∀ i, i < n → bX12_raw_35 139 (Int32.ofNat (w * h)) (Int32.ofNat i) (e_g (sA s 181 (cpT (s.2.1 181) (frV (s.2.1 140) (s.2.1 180) w) 0 i)) g) = some (.inl (Int32.ofNat (i + 1), e_g (sA s 181 (cpT (s.2.1 181) (frV (s.2.1 140) (s.2.1 180) w) 0 (i + 1))) g)) := by
    intro i hi
    have o := ok i hi
    have bb := or_c (fo1 (2 * i) (by omega)) (fo1 (2 * i + 1) (by omega))
    have up := cpT_up (A := s.2.1 181) (N := frV (s.2.1 140) (s.2.1 180) w) (b := 0) (n := i)
    rw [Nat.zero_add] at up
    have pp := put (sA s 181 (cpT (s.2.1 181) (frV (s.2.1 140) (s.2.1 180) w) 0 i)) i (fvI (s.2.1 140) i) (e12 _ _ (by decide)) (by rw [F_sA]; exact e13) (by omega)
    have o' : (fvI (s.2.1 140) i).toInt ≤ 4095 := i_le.mp o
    have e4095 : (4095 : Int32).toInt = 4095 := by decide
    have sb := i_sub (a := fvI (s.2.1 140) i) (b := s.2.1 180 0) (by unfold fvI; omega) (by omega)
    have fe := fr_eq (d := fvI (s.2.1 140) i - s.2.1 180 0) (e := s.2.1 180 (1 + fpN (i % w) (i / w))) (by rw [sb]; unfold fvI; omega) (by rw [sb]; omega) (fo3 _ fpN_l).1 (fo3 _ fpN_l).2
    rw [← fe, A_sA, if_pos rfl, sA_sA] at pp
    have e9 : upd (cpT (s.2.1 181) (frV (s.2.1 140) (s.2.1 180) w) 0 i) i (fX11_within ((fvI (s.2.1 140) i - s.2.1 180 0) * s.2.1 180 (1 + fpN (i % w) (i / w)) / 64) 0 4095) = cpT (s.2.1 181) (frV (s.2.1 140) (s.2.1 180) w) 0 (i + 1) := up
    rw [e9] at pp
    unfold bX12_raw_35
    rw [if_neg (gd i (by omega)), f139_4, F_sA, e4, ob_n, if_neg (fun z => z rfl), f139_1, ob_n, ob_n, i2, rd _ (e12 _ _ (by decide)) _ (by omega), ob_n, ob_n, ob_n, n_suc, rd _ (e12 _ _ (by decide)) _ (by omega), ob_n, val i (by omega), if_pos o, pp]
  by_cases q : n = w * h
  · refine ⟨cpT (s.2.1 181) (frV (s.2.1 140) (s.2.1 180) w) 0 n, ?_, fun _ k hk => ?_⟩
    · rw [if_pos q]
      refine lp_0 (fun i => (Int32.ofNat i, e_g (sA s 181 (cpT (s.2.1 181) (frV (s.2.1 140) (s.2.1 180) w) 0 i)) g)) n ?_ stp ?_
      · rw [cpT_0, sA_id]; rfl
      · show bX12_raw_35 _ _ _ _ = _
        unfold bX12_raw_35
        dsimp only
        rw [if_pos (by rw [q]; exact nlr (by omega))]
    · have := cpT_in (A := s.2.1 181) (N := frV (s.2.1 140) (s.2.1 180) w) (b := 0) (n := n) (k := k) (by omega)
      rw [Nat.zero_add] at this
      exact this
  · have o := hend.resolve_left q
    have nd : bX12_raw_35 139 (Int32.ofNat (w * h)) (Int32.ofNat n) (e_g (sA s 181 (cpT (s.2.1 181) (frV (s.2.1 140) (s.2.1 180) w) 0 n)) g) = jX12_raw_85_35 (e_g (sF (sF (sA s 181 (cpT (s.2.1 181) (frV (s.2.1 140) (s.2.1 180) w) 0 n)) 139 4 2) 139 5 (Int32.ofNat (2 * n))) g) 139 (Int32.ofNat (w * h)) (Int32.ofNat n) (fvI (s.2.1 140) n) := by
      unfold bX12_raw_35
      rw [if_neg (gd n (by omega)), f139_4, F_sA, e4, ob_n, if_neg (fun z => z rfl), f139_1, ob_n, ob_n, i2, rd _ (e12 _ _ (by decide)) _ (by omega), ob_n, ob_n, ob_n, n_suc, rd _ (e12 _ _ (by decide)) _ (by omega), ob_n, val n (by omega), if_neg o, ob139, ob_n, wrong12 (by rw [F_sA]; exact e4), ob_n]
    have pp := put (sF (sF (sA s 181 (cpT (s.2.1 181) (frV (s.2.1 140) (s.2.1 180) w) 0 n)) 139 4 2) 139 5 (Int32.ofNat (2 * n))) n (fvI (s.2.1 140) n) (by rw [A_sF, A_sF]; exact e12 _ _ (by decide)) (by simp (decide := true) only [ob_n, b2_n, tc_rn, tc_ln, F_sF, A_sF, R_sF, L_sF, F_sA, A_sA, R_sA, L_sA, F_sR, A_sR, R_sR, L_sR, F_sL, A_sL, R_sL, L_sL, and_true, true_and, and_false, false_and, and_self, reduceIte, sF_sF, sA_sA, false_or, or_false, true_or, or_true, not_false_eq_true, not_true_eq_false, decide_true, decide_false, Bool.true_or, Bool.or_true, Bool.false_and, Bool.true_and, Bool.false_or, Bool.or_false, Bool.and_true, Bool.and_false]; exact e13) (by omega)
    rw [← nd] at pp
    generalize (if ((if 0 ≤ fvI (s.2.1 140) n - s.2.1 180 0 then fvI (s.2.1 140) n - s.2.1 180 0 else 0) * s.2.1 180 (1 + fpN (n % w) (n / w))) / 64 ≤ 4095 then ((if 0 ≤ fvI (s.2.1 140) n - s.2.1 180 0 then fvI (s.2.1 140) n - s.2.1 180 0 else 0) * s.2.1 180 (1 + fpN (n % w) (n / w))) / 64 else 4095) = vv at pp
    rw [A_sF, A_sF, A_sA, if_pos rfl] at pp
    have cm : sA (sF (sF (sA s 181 (cpT (s.2.1 181) (frV (s.2.1 140) (s.2.1 180) w) 0 n)) 139 4 2) 139 5 (Int32.ofNat (2 * n))) 181 (upd (cpT (s.2.1 181) (frV (s.2.1 140) (s.2.1 180) w) 0 n) n vv) = sA (sF (sF s 139 4 2) 139 5 (Int32.ofNat (2 * n))) 181 (upd (cpT (s.2.1 181) (frV (s.2.1 140) (s.2.1 180) w) 0 n) n vv) := by
      have : sF (sF (sA s 181 (cpT (s.2.1 181) (frV (s.2.1 140) (s.2.1 180) w) 0 n)) 139 4 2) 139 5 (Int32.ofNat (2 * n)) = sA (sF (sF s 139 4 2) 139 5 (Int32.ofNat (2 * n))) 181 (cpT (s.2.1 181) (frV (s.2.1 140) (s.2.1 180) w) 0 n) := rfl
      rw [this, sA_sA]
    rw [cm] at pp
    refine ⟨upd (cpT (s.2.1 181) (frV (s.2.1 140) (s.2.1 180) w) 0 n) n vv, ?_, fun z => absurd z q⟩
    rw [if_neg q]
    generalize upd (cpT (s.2.1 181) (frV (s.2.1 140) (s.2.1 180) w) 0 n) n vv = F at pp
    have st := lp_st (b := fun t => bX12_raw_35 139 (Int32.ofNat (w * h)) t.1 t.2) (fun i => if i ≤ n then (Int32.ofNat i, e_g (sA s 181 (cpT (s.2.1 181) (frV (s.2.1 140) (s.2.1 180) w) 0 i)) g) else (Int32.ofNat (n + 1), e_g (sA (sF (sF s 139 4 2) 139 5 (Int32.ofNat (2 * n))) 181 F) g)) (n + 1) (r := e_g (sA (sF (sF s 139 4 2) 139 5 (Int32.ofNat (2 * n))) 181 F) g) (fun i hi => ?_) ?_ 0 (by omega)
    · rw [if_pos (by omega), cpT_0, sA_id] at st
      exact st
    · by_cases e : i = n
      · rw [e, if_pos (by omega), if_neg (by omega)]
        exact pp
      · rw [if_pos (by omega), if_pos (by omega)]
        exact stp i (by omega)
    · rw [if_neg (by omega)]
      show bX12_raw_35 _ _ _ _ = _
      unfold bX12_raw_35
      dsimp only
      by_cases z : Int32.ofNat (w * h) ≤ Int32.ofNat (n + 1)
      · rw [if_pos z]
      · have f4 : (sA (sF (sF s 139 4 2) 139 5 (Int32.ofNat (2 * n))) 181 F).1 139 4 = 2 := by simp (decide := true) only [ob_n, b2_n, tc_rn, tc_ln, F_sF, A_sF, R_sF, L_sF, F_sA, A_sA, R_sA, L_sA, F_sR, A_sR, R_sR, L_sR, F_sL, A_sL, R_sL, L_sL, and_true, true_and, and_false, false_and, and_self, reduceIte, sF_sF, sA_sA, false_or, or_false, true_or, or_true, not_false_eq_true, not_true_eq_false, decide_true, decide_false, Bool.true_or, Bool.or_true, Bool.false_and, Bool.true_and, Bool.false_or, Bool.or_false, Bool.and_true, Bool.and_false]
        rw [if_neg z, f139_4, f4, ob_n, if_pos (by decide)]
