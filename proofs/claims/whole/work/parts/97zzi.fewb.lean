-- needs: 97zzh
/-- is a pixel there -/
def alB (B : Nat → Int32) (k : Nat) : Bool := decide (¬ q_ush (B k) 24 = 0)
theorem al_le {c : Int32} : fX12_alpha c ≤ 0 ↔ q_ush c 24 = 0 := by
  unfold fX12_alpha
  have r := ush_24 (x := c)
  have e0 : (0 : Int32).toInt = 0 := by decide
  rw [i_le, i_eq, e0]
  omega
theorem give12 {s : e_S} {g : ps_G} {w h l c a b : Nat} {v : Int32} {E B : Nat → Int32} (hw : w ≤ 24) (hh : h ≤ 24) (hl : l < 30) (hc : c < 3) (e1 : s.1 139 13 = Int32.ofNat w) (e2 : s.1 139 14 = Int32.ofNat h) (hB : a < w → b < h → s.2.1 142 (1169 * l + 17 + (b * w + a)) = B (b * w + a)) (ha : a < 100) (hb : b < 100) : fX12_give (e_g (sA s 179 E) g) 139 (Int32.ofNat l) (Int32.ofNat a) (Int32.ofNat b) (Int32.ofNat c) v = some (e_g (sA s 179 (adE (decide (a < w) && decide (b < h) && alB B (b * w + a)) E (3 * (b * w + a) + c) v)) g) := by
  have hwh := wh_le hw hh
  have z1 : (sA s 179 E).1 139 13 = Int32.ofNat w := by rw [F_sA]; exact e1
  have z2 : (sA s 179 E).1 139 14 = Int32.ofNat h := by rw [F_sA]; exact e2
  have pl := place12 (s := sA s 179 E) (g := g) (x := Int32.ofNat a) (y := Int32.ofNat b) hw hh z1 z2
  by_cases q : a < w ∧ b < h
  · have pt := plc_o (w := w) (h := h) (by omega) (by omega) q.1 q.2
    have hlt := at_lt q.1 q.2
    have at1 := at12n (s := sA s 179 E) (g := g) (x := a) (y := b) z1
    have gt := get12n (s := sA s 179 E) (g := g) (l := l) (k := b * w + a) hl (by omega)
    rw [A_sA, if_neg (by decide), hB q.1 q.2] at gt
    rw [pt, if_pos rfl] at pl
    have ow : fX12_own (e_g (sA s 179 E) g) 139 (Int32.ofNat l) (Int32.ofNat a) (Int32.ofNat b) = some (B (b * w + a)) := by
      unfold fX12_own jX12_own_27
      rw [ob139, ob_n, pl, ob_n, if_neg (by decide), ob_n, at1, ob_n, ob_n, gt, ob_n]
    have n3 : (3 : Int32) * Int32.ofNat (b * w + a) = Int32.ofNat (3 * (b * w + a)) := n_mul (n := 3)
    unfold fX12_give jX12_give_43
    rw [ob139, ob_n, pl, ob_n, if_neg (by decide), ob_n, ow, ob_n, decide_eq_true q.1, decide_eq_true q.2, Bool.true_and, Bool.true_and]
    by_cases q2 : q_ush (B (b * w + a)) 24 = 0
    · have ea : alB B (b * w + a) = false := by unfold alB; rw [decide_eq_false (fun z => z q2)]
      rw [if_pos (al_le.mpr q2), ea]
      rfl
    · have ea : alB B (b * w + a) = true := decide_eq_true q2
      rw [if_neg (fun z => q2 (al_le.mp z)), f139_65, ob_n, ob_n, ob_n, at1, ob_n, n3, n_add, a179, n_idx (by omega), if_neg (n_in2 (show 3 * (b * w + a) + c < 1728 by omega) (by decide)), ob_n, u179, n_idx (by omega), if_neg (n_in2 (show 3 * (b * w + a) + c < 1728 by omega) (by decide)), ob_n, A_sA, if_pos rfl, sA_sA, ea]
      rfl
  · have pf : ¬ plc w h (Int32.ofNat a) (Int32.ofNat b) = true := fun z => by
      obtain ⟨a', b', h1, h2, h3, h4⟩ := plc_n z
      have := (n_eq (by omega) (by omega)).mp h1
      have := (n_eq (by omega) (by omega)).mp h2
      exact q ⟨by omega, by omega⟩
    have dd : (decide (a < w) && decide (b < h) && alB B (b * w + a)) = false := by
      by_cases q1 : a < w
      · have : ¬ b < h := fun z => q ⟨q1, z⟩
        rw [decide_eq_false this, Bool.and_false, Bool.false_and]
      · rw [decide_eq_false q1, Bool.false_and, Bool.false_and]
    rw [if_neg pf] at pl
    unfold fX12_give jX12_give_43
    rw [ob139, ob_n, pl, ob_n, if_pos rfl, dd]
    rfl
theorem spread12 {s : e_S} {g : ps_G} {w h l c x y : Nat} {e : Int32} {E B : Nat → Int32} (hw : w ≤ 24) (hh : h ≤ 24) (hl : l < 30) (hc : c < 3) (e1 : s.1 139 13 = Int32.ofNat w) (e2 : s.1 139 14 = Int32.ofNat h) (hx : x < w) (hy : y < h) (hB : ∀ k, y * w + x < k → k < w * h → s.2.1 142 (1169 * l + 17 + k) = B k) : fX12_spread (e_g (sA s 179 E) g) 139 (Int32.ofNat l) (Int32.ofNat (y * w + x)) (Int32.ofNat c) e = some (e_g (sA s 179 (spN (alB B) w h x y c e E)) g) := by
  have hwh := wh_le hw hh
  have hlt := at_lt hx hy
  have dm := md (w := w) (x := x) (y := y) hx
  have es : (y + 1) * w = y * w + w := Nat.succ_mul y w
  have wz : ¬ Int32.ofNat w = 0 := fun z => by
    have := (n_eq (a := w) (b := 0) (by omega) (by omega)).mp z
    omega
  have vm : q_mod (Int32.ofNat (y * w + x)) (Int32.ofNat w) = some (Int32.ofNat x) := by
    unfold q_mod; rw [if_neg wz, n_rem (by omega) (by omega), dm.1]
  have vd : q_div (Int32.ofNat (y * w + x)) (Int32.ofNat w) = some (Int32.ofNat y) := by
    unfold q_div; rw [if_neg wz, n_div (by omega) (by omega), dm.2]
  have bb : ∀ a b : Nat, a < w → b < h → y * w + x < b * w + a → s.2.1 142 (1169 * l + 17 + (b * w + a)) = B (b * w + a) := fun a b h1 h2 h3 => hB _ h3 (at_lt h1 h2)
  have gv := fun (E : Nat → Int32) (a b : Nat) (v : Int32) (hh' : a < w → b < h → y * w + x < b * w + a) (ha : a < 100) (hb : b < 100) => give12 (s := s) (g := g) (E := E) (B := B) (a := a) (b := b) (v := v) hw hh hl hc e1 e2 (fun h1 h2 => bb a b h1 h2 (hh' h1 h2)) ha hb
  have g1 := gv E (x + 1) y (7 * e / 16) (fun _ _ => by omega) (by omega) (by omega)
  rw [decide_eq_true hy, Bool.and_true] at g1
  have ob : ∀ E, q_ob 12 (e_g (sA s 179 E) g) 139 = some () := fun E => ob139
  unfold fX12_spread
  rw [f139_13, F_sA, e1, ob_n, vm, ob_n, ob_n, vd, ob_n, ob, ob_n, n_suc, g1, ob_n, ob, ob_n]
  unfold spN
  generalize adE (decide (x + 1 < w) && alB B (y * w + (x + 1))) E (3 * (y * w + (x + 1)) + c) (7 * e / 16) = E1
  have g2 : fX12_give (e_g (sA s 179 E1) g) 139 (Int32.ofNat l) (Int32.ofNat x - 1) (Int32.ofNat (y + 1)) (Int32.ofNat c) (3 * e / 16) = some (e_g (sA s 179 (adE (decide (0 < x) && decide (y + 1 < h) && alB B ((y + 1) * w + (x - 1))) E1 (3 * ((y + 1) * w + (x - 1)) + c) (3 * e / 16))) g) := by
    by_cases q : 0 < x
    · have em : Int32.ofNat x - 1 = Int32.ofNat (x - 1) := by
        have := (pm1 (p := x - 1)).1
        rw [show x - 1 + 1 = x by omega] at this
        exact this
      have := gv E1 (x - 1) (y + 1) (3 * e / 16) (fun _ _ => by omega) (by omega) (by omega)
      rw [decide_eq_true (show x - 1 < w by omega), Bool.true_and] at this
      rw [em, this, decide_eq_true q, Bool.true_and]
    · have x0 : x = 0 := by omega
      have pl := place12 (s := sA s 179 E1) (g := g) (x := Int32.ofNat x - 1) (y := Int32.ofNat (y + 1)) hw hh (by rw [F_sA]; exact e1) (by rw [F_sA]; exact e2)
      have pf : ¬ plc w h (Int32.ofNat x - 1) (Int32.ofNat (y + 1)) = true := fun z => by
        have := (of_decide_eq_true z).1
        rw [x0] at this
        exact absurd this (by decide)
      rw [if_neg pf] at pl
      unfold fX12_give jX12_give_43
      rw [ob139, ob_n, pl, ob_n, if_pos rfl, decide_eq_false q, Bool.false_and, Bool.false_and]
      rfl
  rw [n_suc, g2, ob_n, ob, ob_n]
  generalize adE (decide (0 < x) && decide (y + 1 < h) && alB B ((y + 1) * w + (x - 1))) E1 (3 * ((y + 1) * w + (x - 1)) + c) (3 * e / 16) = E2
  have g3 := gv E2 x (y + 1) (5 * e / 16) (fun _ _ => by omega) (by omega) (by omega)
  rw [decide_eq_true hx, Bool.true_and] at g3
  rw [g3, ob_n, ob, ob_n]
  generalize adE (decide (y + 1 < h) && alB B ((y + 1) * w + x)) E2 (3 * ((y + 1) * w + x) + c) (5 * e / 16) = E3
  have g4 := gv E3 (x + 1) (y + 1) (e / 16) (fun _ _ => by omega) (by omega) (by omega)
  rw [g4, ob_n]
