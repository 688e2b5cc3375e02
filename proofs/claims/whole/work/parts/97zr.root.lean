-- needs: 97zq
/-! ===== stroke: roots and dabs ===== -/
def rtN (x : Int32) : Nat → Int32 → Int32
  | 0, r => r
  | k + 1, r => rtN x k (if 0 < (lg_cmp ((Int32.toInt64 (r + Int32.ofNat (2 ^ k))) * (Int32.toInt64 (r + Int32.ofNat (2 ^ k)))) (Int32.toInt64 x)) then r else r + Int32.ofNat (2 ^ k))
def rt (x : Int32) : Int32 := rtN x 16 0
theorem p2_h : ∀ k, k < 15 → Int32.ofNat (2 ^ (k + 1)) / 2 = Int32.ofNat (2 ^ k) ∧ q_shr (Int32.ofNat (2 ^ (k + 1))) 1 = Int32.ofNat (2 ^ k) := by decide
theorem p2_n : ∀ k, k < 16 → ¬ Int32.ofNat (2 ^ k) ≤ 0 := by decide
theorem rootl12 {g : ps_G} {x : Int32} : ∀ k, k < 16 → ∀ r, q_lp (fun s => bX12_root_5 g x s.1 s.2) (r, Int32.ofNat (2 ^ k)) = some (rtN x (k + 1) r) := by
  intro k
  induction k with
  | zero =>
    intro _ r
    have e : bX12_root_5 g x r (Int32.ofNat (2 ^ 0)) = some (.inl ((if 0 < (lg_cmp ((Int32.toInt64 (r + Int32.ofNat (2 ^ 0))) * (Int32.toInt64 (r + Int32.ofNat (2 ^ 0)))) (Int32.toInt64 x)) then r else r + Int32.ofNat (2 ^ 0)), 0)) := by
      unfold bX12_root_5
      rw [if_neg (p2_n 0 (by omega))]
      rfl
    rw [lp_go (b := fun s => bX12_root_5 g x s.1 s.2) (s := (r, Int32.ofNat (2 ^ 0))) e]
    exact lp_end (b := fun s => bX12_root_5 g x s.1 s.2) (show bX12_root_5 g x _ 0 = _ from by unfold bX12_root_5; rw [if_pos (by decide)]; rfl)
  | succ k ih =>
    intro hk r
    have e : bX12_root_5 g x r (Int32.ofNat (2 ^ (k + 1))) = some (.inl ((if 0 < (lg_cmp ((Int32.toInt64 (r + Int32.ofNat (2 ^ (k + 1)))) * (Int32.toInt64 (r + Int32.ofNat (2 ^ (k + 1))))) (Int32.toInt64 x)) then r else r + Int32.ofNat (2 ^ (k + 1))), Int32.ofNat (2 ^ k))) := by
      unfold bX12_root_5
      rw [if_neg (p2_n _ hk), (p2_h k (by omega)).1]
    rw [lp_go (b := fun s => bX12_root_5 g x s.1 s.2) (s := (r, Int32.ofNat (2 ^ (k + 1)))) e, ih (by omega)]
    rfl
theorem root12 {g : ps_G} {x : Int32} : fX12_root g x = some (rt x) := by
  unfold fX12_root rt
  have e := rootl12 (g := g) (x := x) 15 (by omega) 0
  have e0 : Int32.ofNat (2 ^ 15) = 32768 := by decide
  rw [e0] at e
  rw [e, ob_n]
theorem rootl11 {g : ps_G} {x : Int32} : ∀ k, k < 16 → ∀ r, q_lp (fun s => bX11_root_6 g x s.1 s.2) (r, Int32.ofNat (2 ^ k)) = some (rtN x (k + 1) r) := by
  intro k
  induction k with
  | zero =>
    intro _ r
    have e : bX11_root_6 g x r (Int32.ofNat (2 ^ 0)) = some (.inl ((if 0 < (lg_cmp ((Int32.toInt64 (r + Int32.ofNat (2 ^ 0))) * (Int32.toInt64 (r + Int32.ofNat (2 ^ 0)))) (Int32.toInt64 x)) then r else r + Int32.ofNat (2 ^ 0)), 0)) := by
      unfold bX11_root_6
      rw [if_neg (p2_n 0 (by omega))]
      rfl
    rw [lp_go (b := fun s => bX11_root_6 g x s.1 s.2) (s := (r, Int32.ofNat (2 ^ 0))) e]
    exact lp_end (b := fun s => bX11_root_6 g x s.1 s.2) (show bX11_root_6 g x _ 0 = _ from by unfold bX11_root_6; rw [if_pos (by decide)]; rfl)
  | succ k ih =>
    intro hk r
    have e : bX11_root_6 g x r (Int32.ofNat (2 ^ (k + 1))) = some (.inl ((if 0 < (lg_cmp ((Int32.toInt64 (r + Int32.ofNat (2 ^ (k + 1)))) * (Int32.toInt64 (r + Int32.ofNat (2 ^ (k + 1))))) (Int32.toInt64 x)) then r else r + Int32.ofNat (2 ^ (k + 1))), Int32.ofNat (2 ^ k))) := by
      unfold bX11_root_6
      rw [if_neg (p2_n _ hk), (p2_h k (by omega)).2]
    rw [lp_go (b := fun s => bX11_root_6 g x s.1 s.2) (s := (r, Int32.ofNat (2 ^ (k + 1)))) e, ih (by omega)]
    rfl
theorem root11 {g : ps_G} {x : Int32} : fX11_root g x = some (rt x) := by
  unfold fX11_root rt
  have e := rootl11 (g := g) (x := x) 15 (by omega) 0
  have e0 : Int32.ofNat (2 ^ 15) = 32768 := by decide
  rw [e0] at e
  rw [e, ob_n]
theorem i64_mulb {a b : Int64} (h : (a.toInt * b.toInt).natAbs ≤ 4294967296) : (a * b).toInt = a.toInt * b.toInt := by
  rw [Int64.toInt_mul]
  apply Int.bmod_eq_of_le <;> omega
theorem rtN_s {x : Int32} : ∀ k R, R + 2 ^ k ≤ 65536 → x.toInt < ((R + 2 ^ k) * (R + 2 ^ k) : Nat) → ∃ R' : Nat, rtN x k (Int32.ofNat R) = Int32.ofNat R' ∧ R' < 65536 ∧ x.toInt < ((R' + 1) * (R' + 1) : Nat) := by
  intro k
  induction k with
  | zero =>
    intro R h1 h2
    exact ⟨R, rfl, by have : (2 : Nat) ^ 0 = 1 := rfl; omega, h2⟩
  | succ k ih =>
    intro R h1 h2
    have e2 : (2 : Nat) ^ (k + 1) = 2 ^ k + 2 ^ k := by rw [Nat.pow_succ]; omega
    rw [e2] at h1 h2
    have hp : 0 < (2 : Nat) ^ k := Nat.pow_pos (by omega)
    generalize hq : (2 : Nat) ^ k = q at *
    have ea : Int32.ofNat R + Int32.ofNat q = Int32.ofNat (R + q) := n_add
    have hb : (R + q) * (R + q) ≤ 65536 * 65536 := Nat.mul_le_mul (by omega) (by omega)
    have ei : (Int32.toInt64 (Int32.ofNat (R + q))).toInt = ((R + q : Nat) : Int) := by rw [i64_of, n_int (by omega)]
    have em : (Int32.toInt64 (Int32.ofNat (R + q)) * Int32.toInt64 (Int32.ofNat (R + q))).toInt = (((R + q) * (R + q) : Nat) : Int) := by
      rw [i64_mulb (by rw [ei, ← Int.natCast_mul]; omega), ei, Int.natCast_mul]
    show ∃ R' : Nat, rtN x k (if 0 < (lg_cmp ((Int32.toInt64 (Int32.ofNat R + Int32.ofNat (2 ^ k))) * (Int32.toInt64 (Int32.ofNat R + Int32.ofNat (2 ^ k)))) (Int32.toInt64 x)) then Int32.ofNat R else Int32.ofNat R + Int32.ofNat (2 ^ k)) = Int32.ofNat R' ∧ _
    rw [hq, ea]
    by_cases c : 0 < (lg_cmp ((Int32.toInt64 (Int32.ofNat (R + q))) * (Int32.toInt64 (Int32.ofNat (R + q)))) (Int32.toInt64 x))
    · rw [if_pos c]
      rw [lg_cmp_gt, i64_lt, em, i64_of] at c
      exact ih R (by omega) c
    · rw [if_neg c]
      exact ih (R + q) (by omega) (by rw [Nat.add_assoc]; exact h2)
theorem rt_s {x : Int32} : ∃ R : Nat, rt x = Int32.ofNat R ∧ R < 65536 ∧ x.toInt < ((R + 1) * (R + 1) : Nat) := by
  refine rtN_s 16 0 (by decide) ?_
  have := i_max (a := x)
  have e : ((0 + 2 ^ 16) * (0 + 2 ^ 16) : Nat) = 4294967296 := by decide
  rw [e]; omega
theorem rt_gt {x : Int32} {e : Nat} (h : (((e + 1) * (e + 1) : Nat) : Int) ≤ x.toInt) (he : e < 65536) : Int32.ofNat e < rt x := by
  obtain ⟨R, h1, h2, h3⟩ := rt_s (x := x)
  rw [h1, n_lt (by omega) (by omega)]
  refine Nat.lt_of_not_le fun z => ?_
  have : (R + 1) * (R + 1) ≤ (e + 1) * (e + 1) := Nat.mul_le_mul (by omega) (by omega)
  omega
/-- what a dab adds -/
def dfV (px py x y : Int32) : Int32 := rt (16 * ((4 * x + 2 - px) * (4 * x + 2 - px) + (4 * y + 2 - py) * (4 * y + 2 - py)))
def dvV (r i d : Int32) : Int32 := if d ≤ r then (if i < d then 255 * (r - d) / (r - i) else 255) else 0
def dbV (px py r i pr : Int32) (w : Nat) (f : Nat → Int32) (k : Nat) : Int32 := f k + fX11_mul (255 - f k) (fX11_mul (dvV r i (dfV px py (Int32.ofNat (k % w)) (Int32.ofNat (k / w)))) pr)
theorem mul_0 {a : Int32} : fX11_mul a 0 = 0 := by unfold fX11_mul; rw [Int32.mul_zero]; decide
theorem mul_0' {a : Int32} : fX11_mul 0 a = 0 := by unfold fX11_mul; rw [Int32.zero_mul]; decide
theorem dab12 {s : e_S} {g : ps_G} {w h : Nat} {px py p : Int32} (hw : w ≤ 24) (hh : h ≤ 24) (e1 : s.1 139 13 = Int32.ofNat w) (e2 : s.1 139 14 = Int32.ofNat h) : fX12_dab (e_g s g) 139 px py p = some (e_g (sA s 162 (cpT (s.2.1 162) (dbV px py (4 * s.1 139 36) (4 * s.1 139 36 * s.1 139 37 / 255) (fX11_mul p (s.1 139 39)) w (s.2.1 162)) 0 (h * w))) g) := by
  have hwh := wh_le hw hh
  generalize hr : 4 * s.1 139 36 = r
  generalize hi : r * s.1 139 37 / 255 = i
  generalize hpr : fX11_mul p (s.1 139 39) = pr
  have lp := fill1 (fun f => e_g (sA s 162 f) g) 0 w h (dbV px py r i pr w (s.2.1 162)) (s.2.1 162) (bI := fun y t => bX12_dab_46 139 px py r i pr y t.1 t.2) (bO := fun t => bX12_dab_34 139 px py r i pr t.1 t.2) (fun f y x hy hx hF => ?_) (fun f y hy => ?_) (fun f y hy => ?_) (fun f => ?_)
  · unfold fX12_dab
    rw [sA_id] at lp
    rw [f139_36, ob_n, f139_37, ob_n, f139_39, ob_n, mul12, hr, hi, hpr, lp, ob_n]
  · have hlt := at_lt hx hy
    have dm := md (w := w) (x := x) (y := y) hx
    have fv : f (y * w + x) = s.2.1 162 (y * w + x) := by rw [hF, cpT_out (by omega)]
    have z1 : (sA s 162 f).1 139 13 = Int32.ofNat w := by rw [F_sA]; exact e1
    have a1 := at12n (s := sA s 162 f) (g := g) (x := x) (y := y) z1
    have ev : dbV px py r i pr w (s.2.1 162) (y * w + x) = s.2.1 162 (y * w + x) + fX11_mul (255 - s.2.1 162 (y * w + x)) (fX11_mul (dvV r i (dfV px py (Int32.ofNat x) (Int32.ofNat y))) pr) := by
      unfold dbV; rw [dm.1, dm.2]
    have jn : ∀ v, jX12_dab_133_46 (e_g (sA s 162 f) g) 139 px py r i pr (Int32.ofNat y) (Int32.ofNat x) v = some (.inl (Int32.ofNat (x + 1), e_g (sA s 162 (upd f (0 + (y * w + x)) (s.2.1 162 (y * w + x) + fX11_mul (255 - s.2.1 162 (y * w + x)) (fX11_mul v pr)))) g)) := fun v => by
      have rd : q_aI (e_g (sA s 162 f) g) 162 (Int32.ofNat (y * w + x)) = some (s.2.1 162 (y * w + x)) := by
        rw [a162, n_idx (by omega), if_neg (n_in2 (show y * w + x < 576 by omega) (by decide)), A_sA, if_pos rfl, fv]
      unfold jX12_dab_133_46
      rw [f139_47, ob_n, ob_n, ob139, ob_n, a1, ob_n, rd, ob_n, ob_n, ob_n, ob_n, ob_n, rd, ob_n, u162, n_idx (by omega), if_neg (n_in2 (show y * w + x < 576 by omega) (by decide)), ob_n, n_suc, Nat.zero_add, A_sA, if_pos rfl, sA_sA]
      rfl
    show bX12_dab_46 _ _ _ _ _ _ _ _ _ = _
    unfold bX12_dab_46
    rw [f139_13, z1, ob_n, if_neg (nle hx (by omega)), root12, ob_n, ev]
    unfold dfV
    generalize rt (16 * ((4 * Int32.ofNat x + 2 - px) * (4 * Int32.ofNat x + 2 - px) + (4 * Int32.ofNat y + 2 - py) * (4 * Int32.ofNat y + 2 - py))) = d
    by_cases c1 : d ≤ r
    · rw [if_pos c1]
      by_cases c2 : i < d
      · have nz : ¬ r - i = 0 := fun z => by
          have := Int32.sub_eq_iff_eq_add.mp z
          rw [Int32.zero_add] at this
          rw [this] at c1
          rw [i_le] at c1
          rw [i_lt] at c2
          omega
        have ed : dvV r i d = 255 * (r - d) / (r - i) := by unfold dvV; rw [if_pos c1, if_pos c2]
        rw [if_pos c2, q_div, if_neg nz, ob_n, jn, ed]
      · have ed : dvV r i d = 255 := by unfold dvV; rw [if_pos c1, if_neg c2]
        rw [if_neg c2, jn, ed]
    · have ed : dvV r i d = 0 := by unfold dvV; rw [if_neg c1]
      rw [if_neg c1, jn, ed]
  · show bX12_dab_46 _ _ _ _ _ _ _ _ _ = _
    unfold bX12_dab_46
    rw [f139_13, F_sA, e1, ob_n, if_pos (nlr (by omega))]
  · show bX12_dab_34 _ _ _ _ _ _ _ _ = _
    unfold bX12_dab_34
    rw [f139_14, F_sA, e2, ob_n, if_neg (nle hy (by omega))]
  · show bX12_dab_34 _ _ _ _ _ _ _ _ = _
    unfold bX12_dab_34
    rw [f139_14, F_sA, e2, ob_n, if_pos (nlr (by omega))]
