-- needs: 97zzg
/-! ===== few: errors given on ===== -/
def adE (p : Bool) (E : Nat → Int32) (q : Nat) (v : Int32) : Nat → Int32 := if p then upd E q (E q + v) else E
def spN (A : Nat → Bool) (w h x y c : Nat) (e : Int32) (E : Nat → Int32) : Nat → Int32 :=
  adE (decide (x + 1 < w) && decide (y + 1 < h) && A ((y + 1) * w + (x + 1)))
    (adE (decide (y + 1 < h) && A ((y + 1) * w + x))
      (adE (decide (0 < x) && decide (y + 1 < h) && A ((y + 1) * w + (x - 1)))
        (adE (decide (x + 1 < w) && A (y * w + (x + 1))) E (3 * (y * w + (x + 1)) + c) (7 * e / 16))
        (3 * ((y + 1) * w + (x - 1)) + c) (3 * e / 16))
      (3 * ((y + 1) * w + x) + c) (5 * e / 16))
    (3 * ((y + 1) * w + (x + 1)) + c) (e / 16)
/-- errors alike where a pixel is -/
def Ee (A : Nat → Bool) (n : Nat) (E E' : Nat → Int32) : Prop := ∀ k, k < n → A k = true → ∀ c, c < 3 → E (3 * k + c) = E' (3 * k + c)
theorem ad_e {A : Nat → Bool} {n k c : Nat} {p : Bool} {v : Int32} {E E' : Nat → Int32} (hc : c < 3) (h : Ee A n E E') : Ee A n (adE p E (3 * k + c) v) (adE (p && A k) E' (3 * k + c) v) := by
  intro k' hk' hA c' hc'
  unfold adE
  cases p with
  | false => exact h k' hk' hA c' hc'
  | true =>
    rw [if_pos rfl, Bool.true_and]
    by_cases q : 3 * k' + c' = 3 * k + c
    · have e1 : k' = k := by omega
      have e2 : c' = c := by omega
      subst e1; subst e2
      rw [hA, if_pos rfl, upd_s, upd_s, h k' hk' hA c' hc']
    · rw [upd_n q]
      split
      · rw [upd_n q]; exact h k' hk' hA c' hc'
      · exact h k' hk' hA c' hc'
theorem sp_e {A : Nat → Bool} {n w h x y c : Nat} {e : Int32} {E E' : Nat → Int32} (hc : c < 3) (hE : Ee A n E E') : Ee A n (spN (fun _ => true) w h x y c e E) (spN A w h x y c e E') := by
  unfold spN
  simp only [Bool.and_true]
  exact ad_e hc (ad_e hc (ad_e hc (ad_e hc hE)))
theorem spread3 {s : e_S} {g : ps_G} {w h x y c : Nat} {e : Int32} {E : Nat → Int32} (hw : w ≤ 24) (hh : h ≤ 24) (hx : x < w) (hy : y < h) (hc : c < 3) : fX3_spread (e_g (sA s 120 E) g) 111 (Int32.ofNat x) (Int32.ofNat y) (Int32.ofNat w) (Int32.ofNat h) (Int32.ofNat c) e = some (e_g (sA s 120 (spN (fun _ => true) w h x y c e E)) g) := by
  have hlt := at_lt hx hy
  have hwh := wh_le hw hh
  have ad : ∀ (E : Nat → Int32) (q : Nat) (v : Int32), q < 1728 → q_aI (e_g (sA s 120 E) g) 120 (Int32.ofNat q) = some (E q) ∧ q_wI (e_g (sA s 120 E) g) 120 (Int32.ofNat q) v = some (e_g (sA s 120 (upd E q v)) g) := fun E q v hq => by
    rw [a120, u120, n_idx (by omega), if_neg (n_in2 hq (by decide)), if_neg (n_in2 hq (by decide)), A_sA, if_pos rfl, sA_sA]
    exact ⟨rfl, rfl⟩
  have n3 : ∀ q : Nat, (3 : Int32) * Int32.ofNat q = Int32.ofNat (3 * q) := fun q => n_mul (n := 3)
  have p3 : ∀ q : Nat, Int32.ofNat q + (3 : Int32) = Int32.ofNat (q + 3) := fun q => n_add (m := 3)
  have m3 : ∀ q : Nat, Int32.ofNat (q + 3) - (3 : Int32) = Int32.ofNat q := fun q => by rw [← p3, Int32.add_sub_cancel]
  have b1 : ∀ a b : Nat, a < 100 → b < 100 → (Int32.ofNat a ≤ Int32.ofNat b ↔ a ≤ b) := fun a b h1 h2 => n_le (by omega) (by omega)
  have key1 : ∀ E : Nat → Int32, (y + 1 < h) → jX3_spread_78 (e_g (sA s 120 E) g) 111 (Int32.ofNat x) (Int32.ofNat w) e (Int32.ofNat (3 * ((y + 1) * w + x) + c)) = some (e_g (sA s 120 (adE (decide (x + 1 < w)) (adE true E (3 * ((y + 1) * w + x) + c) (5 * e / 16)) (3 * ((y + 1) * w + (x + 1)) + c) (e / 16))) g) := fun E hy1 => by
    have l1 := at_lt hx hy1
    have a1 := ad E (3 * ((y + 1) * w + x) + c) (E (3 * ((y + 1) * w + x) + c) + 5 * e / 16) (by omega)
    unfold jX3_spread_78 jX3_spread_119
    rw [f111_11, ob_n, ob_n, a1.1, ob_n, a1.2, ob_n, n_suc]
    by_cases q : x + 1 < w
    · have l2 := at_lt q hy1
      have eq1 : 3 * ((y + 1) * w + x) + c + 3 = 3 * ((y + 1) * w + (x + 1)) + c := by omega
      have a2 := ad (upd E (3 * ((y + 1) * w + x) + c) (E (3 * ((y + 1) * w + x) + c) + 5 * e / 16)) (3 * ((y + 1) * w + (x + 1)) + c) (upd E (3 * ((y + 1) * w + x) + c) (E (3 * ((y + 1) * w + x) + c) + 5 * e / 16) (3 * ((y + 1) * w + (x + 1)) + c) + e / 16) (by omega)
      rw [if_neg (fun z => by have := (b1 w (x + 1) (by omega) (by omega)).mp z; omega), f111_11, ob_n, ob_n, p3, eq1, a2.1, ob_n, a2.2, ob_n]
      unfold adE
      rw [if_pos (decide_eq_true q), if_pos rfl]
    · rw [if_pos ((b1 w (x + 1) (by omega) (by omega)).mpr (by omega))]
      unfold adE
      rw [if_neg (fun z => q (of_decide_eq_true z)), if_pos rfl]
  have key2 : ∀ E : Nat → Int32, jX3_spread_39 (e_g (sA s 120 E) g) 111 (Int32.ofNat x) (Int32.ofNat y) (Int32.ofNat w) (Int32.ofNat h) e (Int32.ofNat (3 * (y * w + x) + c)) = some (e_g (sA s 120 (adE (decide (x + 1 < w) && decide (y + 1 < h)) (adE (decide (y + 1 < h)) (adE (decide (0 < x) && decide (y + 1 < h)) E (3 * ((y + 1) * w + (x - 1)) + c) (3 * e / 16)) (3 * ((y + 1) * w + x) + c) (5 * e / 16)) (3 * ((y + 1) * w + (x + 1)) + c) (e / 16))) g) := fun E => by
    have e1 : Int32.ofNat (3 * (y * w + x) + c) + 3 * Int32.ofNat w = Int32.ofNat (3 * ((y + 1) * w + x) + c) := by
      rw [n3, n_add, show 3 * (y * w + x) + c + 3 * w = 3 * ((y + 1) * w + x) + c by have e : (y + 1) * w = y * w + w := Nat.succ_mul y w; omega]
    unfold jX3_spread_39
    rw [n_suc]
    by_cases q : y + 1 < h
    · rw [if_neg (fun z => by have := (b1 h (y + 1) (by omega) (by omega)).mp z; omega), e1, decide_eq_true q, Bool.and_true, Bool.and_true]
      by_cases q2 : 0 < x
      · have nx0 : ¬ Int32.ofNat x ≤ 0 := show ¬ Int32.ofNat x ≤ Int32.ofNat 0 from nle q2 (by omega)
        have l1 := at_lt (show x - 1 < w by omega) q
        have eq1 : 3 * ((y + 1) * w + x) + c = 3 * ((y + 1) * w + (x - 1)) + c + 3 := by omega
        have em : Int32.ofNat (3 * ((y + 1) * w + x) + c) - 3 = Int32.ofNat (3 * ((y + 1) * w + (x - 1)) + c) := by rw [eq1, m3]
        have a1 := ad E (3 * ((y + 1) * w + (x - 1)) + c) (E (3 * ((y + 1) * w + (x - 1)) + c) + 3 * e / 16) (by omega)
        rw [if_neg nx0, f111_11, ob_n, ob_n, em, a1.1, ob_n, a1.2, ob_n, key1 _ q, decide_eq_true q2]
        have ea : adE true E (3 * ((y + 1) * w + (x - 1)) + c) (3 * e / 16) = upd E (3 * ((y + 1) * w + (x - 1)) + c) (E (3 * ((y + 1) * w + (x - 1)) + c) + 3 * e / 16) := if_pos rfl
        rw [ea]
      · have nx0 : Int32.ofNat x ≤ 0 := show Int32.ofNat x ≤ Int32.ofNat 0 from (n_le (by omega) (by omega)).mpr (by omega)
        have ea : adE (decide (0 < x)) E (3 * ((y + 1) * w + (x - 1)) + c) (3 * e / 16) = E := if_neg (fun z => q2 (of_decide_eq_true z))
        rw [if_pos nx0, key1 _ q, ea]
    · have dq : decide (y + 1 < h) = false := decide_eq_false q
      rw [if_pos ((b1 h (y + 1) (by omega) (by omega)).mpr (by omega)), dq, Bool.and_false, Bool.and_false]
      rfl
  unfold fX3_spread
  rw [n_suc, n_mul, n_add, n3, n_add]
  unfold spN
  simp only [Bool.and_true]
  by_cases q : x + 1 < w
  · have l1 := at_lt q hy
    have eq1 : 3 * (y * w + x) + c + 3 = 3 * (y * w + (x + 1)) + c := by omega
    have a1 := ad E (3 * (y * w + (x + 1)) + c) (E (3 * (y * w + (x + 1)) + c) + 7 * e / 16) (by omega)
    rw [if_neg (fun z => by have := (b1 w (x + 1) (by omega) (by omega)).mp z; omega), f111_11, ob_n, ob_n, p3, eq1, a1.1, ob_n, a1.2, ob_n, key2]
    have ea : adE (decide (x + 1 < w)) E (3 * (y * w + (x + 1)) + c) (7 * e / 16) = upd E (3 * (y * w + (x + 1)) + c) (E (3 * (y * w + (x + 1)) + c) + 7 * e / 16) := if_pos (decide_eq_true q)
    rw [ea]
  · have ea : adE (decide (x + 1 < w)) E (3 * (y * w + (x + 1)) + c) (7 * e / 16) = E := if_neg (fun z => q (of_decide_eq_true z))
    rw [if_pos ((b1 w (x + 1) (by omega) (by omega)).mpr (by omega)), key2, ea]
