-- needs: 07 10 13 14 20 21 22 23 24 25 26 27 32 38 41 43 46 47 48 50 52 53 54 55 57 60 61 70 71 72 73 74 80 81 82 83 84 85 86 87 88 89 90 91
/-! ===== reselect: windows ===== -/
def wI (op : Int32 → Int32 → Int32) (v : Int32 → Int32 → Int32) (j x0 z : Int32) : Nat → Int32
  | 0 => z
  | p + 1 => op (wI op v j x0 z p) (v (x0 + Int32.ofNat p) j)
def wO (op : Int32 → Int32 → Int32) (v : Int32 → Int32 → Int32) (y0 x0 : Int32) (m : Nat) (z : Int32) : Nat → Int32
  | 0 => z
  | q + 1 => wI op v (y0 + Int32.ofNat q) x0 (wO op v y0 x0 m z q) m
theorem wI_p {op : Int32 → Int32 → Int32} {v : Int32 → Int32 → Int32} {le : Int32 → Int32 → Prop} {j x0 z : Int32} (rf : ∀ a, le a a) (tr : ∀ a b c, le a b → le b c → le a c) (o1 : ∀ a b, le a (op a b) ∧ le b (op a b)) (o2 : ∀ a b, op a b = a ∨ op a b = b) : ∀ n, le z (wI op v j x0 z n) ∧ (∀ p, p < n → le (v (x0 + Int32.ofNat p) j) (wI op v j x0 z n)) ∧ (wI op v j x0 z n = z ∨ ∃ p, p < n ∧ wI op v j x0 z n = v (x0 + Int32.ofNat p) j)
  | 0 => ⟨rf _, fun p hp => absurd hp (by omega), Or.inl rfl⟩
  | n + 1 => by
    obtain ⟨h1, h2, h3⟩ := wI_p (v := v) (j := j) (x0 := x0) (z := z) rf tr o1 o2 n
    have a := o1 (wI op v j x0 z n) (v (x0 + Int32.ofNat n) j)
    refine ⟨tr _ _ _ h1 a.1, fun p hp => ?_, ?_⟩
    · by_cases q : p = n
      · subst q; exact a.2
      · exact tr _ _ _ (h2 p (by omega)) a.1
    · rcases o2 (wI op v j x0 z n) (v (x0 + Int32.ofNat n) j) with e | e
      · rcases h3 with e2 | ⟨p, hp, e2⟩
        · exact Or.inl (e.trans e2)
        · exact Or.inr ⟨p, by omega, e.trans e2⟩
      · exact Or.inr ⟨n, by omega, e⟩
theorem wO_p {op : Int32 → Int32 → Int32} {v : Int32 → Int32 → Int32} {le : Int32 → Int32 → Prop} {y0 x0 z : Int32} {m : Nat} (rf : ∀ a, le a a) (tr : ∀ a b c, le a b → le b c → le a c) (o1 : ∀ a b, le a (op a b) ∧ le b (op a b)) (o2 : ∀ a b, op a b = a ∨ op a b = b) : ∀ n, le z (wO op v y0 x0 m z n) ∧ (∀ p q, p < m → q < n → le (v (x0 + Int32.ofNat p) (y0 + Int32.ofNat q)) (wO op v y0 x0 m z n)) ∧ (wO op v y0 x0 m z n = z ∨ ∃ p q, p < m ∧ q < n ∧ wO op v y0 x0 m z n = v (x0 + Int32.ofNat p) (y0 + Int32.ofNat q))
  | 0 => ⟨rf _, fun p q _ hq => absurd hq (by omega), Or.inl rfl⟩
  | n + 1 => by
    obtain ⟨h1, h2, h3⟩ := wO_p (v := v) (y0 := y0) (x0 := x0) (z := z) (m := m) rf tr o1 o2 n
    obtain ⟨a1, a2, a3⟩ := wI_p (v := v) (j := y0 + Int32.ofNat n) (x0 := x0) (z := wO op v y0 x0 m z n) rf tr o1 o2 m
    refine ⟨tr _ _ _ h1 a1, fun p q hp hq => ?_, ?_⟩
    · by_cases e : q = n
      · subst e; exact a2 p hp
      · exact tr _ _ _ (h2 p q hp (by omega)) a1
    · rcases a3 with e | ⟨p, hp, e⟩
      · rcases h3 with e2 | ⟨p, q, hp, hq, e2⟩
        · exact Or.inl (e.trans e2)
        · exact Or.inr ⟨p, q, hp, by omega, e.trans e2⟩
      · exact Or.inr ⟨p, n, hp, by omega, e⟩
/-- from the centre or from the end of the range: the same -/
theorem wO_z {op : Int32 → Int32 → Int32} {v : Int32 → Int32 → Int32} {le : Int32 → Int32 → Prop} {y0 x0 z z' : Int32} {m n a b : Nat} (rf : ∀ a, le a a) (tr : ∀ a b c, le a b → le b c → le a c) (an : ∀ a b, le a b → le b a → a = b) (o1 : ∀ a b, le a (op a b) ∧ le b (op a b)) (o2 : ∀ a b, op a b = a ∨ op a b = b) (hz : le z' z) (ha : a < m) (hb : b < n) (hc : v (x0 + Int32.ofNat a) (y0 + Int32.ofNat b) = z) : wO op v y0 x0 m z n = wO op v y0 x0 m z' n := by
  obtain ⟨p1, p2, p3⟩ := wO_p (v := v) (y0 := y0) (x0 := x0) (z := z) (m := m) rf tr o1 o2 n
  obtain ⟨q1, q2, q3⟩ := wO_p (v := v) (y0 := y0) (x0 := x0) (z := z') (m := m) rf tr o1 o2 n
  refine an _ _ ?_ ?_
  · rcases p3 with e | ⟨p, q, hp, hq, e⟩
    · rw [e, ← hc]; exact q2 a b ha hb
    · rw [e]; exact q2 p q hp hq
  · rcases q3 with e | ⟨p, q, hp, hq, e⟩
    · rw [e]; exact tr _ _ _ hz p1
    · rw [e]; exact p2 p q hp hq
theorem mx_o {a b : Int32} : a.toInt ≤ (fJ9_max_7cf53 a b).toInt ∧ b.toInt ≤ (fJ9_max_7cf53 a b).toInt := by
  unfold fJ9_max_7cf53
  by_cases q : a < b
  · rw [if_pos q]; rw [i_lt] at q; omega
  · rw [if_neg q]; rw [i_lt] at q; omega
theorem mx_e {a b : Int32} : fJ9_max_7cf53 a b = a ∨ fJ9_max_7cf53 a b = b := by
  unfold fJ9_max_7cf53
  by_cases q : a < b
  · rw [if_pos q]; exact Or.inr rfl
  · rw [if_neg q]; exact Or.inl rfl
theorem mn_o {a b : Int32} : (fJ9_min_7cf53 a b).toInt ≤ a.toInt ∧ (fJ9_min_7cf53 a b).toInt ≤ b.toInt := by
  rw [← min_2]
  by_cases q : b ≤ a
  · rw [if_pos q]; rw [i_le] at q; omega
  · rw [if_neg q]; rw [i_le] at q; omega
theorem mn_e {a b : Int32} : fJ9_min_7cf53 a b = a ∨ fJ9_min_7cf53 a b = b := by
  rw [← min_2]
  by_cases q : b ≤ a
  · rw [if_pos q]; exact Or.inr rfl
  · rw [if_neg q]; exact Or.inl rfl
theorem wO_mx {v : Int32 → Int32 → Int32} {y0 x0 z : Int32} {m n a b : Nat} (hz : 0 ≤ z.toInt) (ha : a < m) (hb : b < n) (hc : v (x0 + Int32.ofNat a) (y0 + Int32.ofNat b) = z) : wO fJ9_max_7cf53 v y0 x0 m z n = wO fJ9_max_7cf53 v y0 x0 m 0 n :=
  wO_z (le := fun a b => a.toInt ≤ b.toInt) (fun _ => Int.le_refl _) (fun _ _ _ => Int.le_trans) (fun a b h1 h2 => i_eq.mpr (Int.le_antisymm h1 h2)) (fun _ _ => mx_o) (fun _ _ => mx_e) hz ha hb hc
theorem wO_mn {v : Int32 → Int32 → Int32} {y0 x0 z : Int32} {m n a b : Nat} (hz : z.toInt ≤ 255) (ha : a < m) (hb : b < n) (hc : v (x0 + Int32.ofNat a) (y0 + Int32.ofNat b) = z) : wO fJ9_min_7cf53 v y0 x0 m z n = wO fJ9_min_7cf53 v y0 x0 m 255 n :=
  wO_z (le := fun a b => b.toInt ≤ a.toInt) (fun _ => Int.le_refl _) (fun _ _ _ h1 h2 => Int.le_trans h2 h1) (fun a b h1 h2 => i_eq.mpr (Int.le_antisymm h2 h1)) (fun _ _ => mn_o) (fun _ _ => mn_e) hz ha hb hc
theorem at_w {X n p : Nat} (hX : X < 24) (hn : n ≤ 8) (hp : p ≤ 17) : (Int32.ofNat X - Int32.ofNat n + Int32.ofNat p).toInt = (X : Int) - n + p ∧ (Int32.ofNat X + Int32.ofNat n).toInt = (X : Int) + n := by
  have a : (Int32.ofNat X - Int32.ofNat n).toInt = (X : Int) - n := by
    rw [i_sub (by rw [n_int (by omega), n_int (by omega)]; omega) (by rw [n_int (by omega), n_int (by omega)]; omega), n_int (by omega), n_int (by omega)]
  refine ⟨?_, ?_⟩
  · rw [i_add (by rw [a, n_int (by omega)]; omega) (by rw [a, n_int (by omega)]; omega), a, n_int (by omega)]
  · rw [n_add, n_int (by omega)]; omega
theorem at_s {x0 : Int32} {p : Nat} : x0 + Int32.ofNat p + 1 = x0 + Int32.ofNat (p + 1) := by rw [Int32.add_assoc, n_suc]
theorem nr_bAt {B : Nat → Int32} {w h : Nat} {x y : Int32} (hw : w ≤ 24) (hh : h ≤ 24) (q : plc w h x y = true) : nr B w h x y = bAt w h B x y := by
  obtain ⟨a, b, rfl, rfl, ha, hb⟩ := plc_n q
  rw [nr_in hw hh ha hb, bAt_n hw hh ha hb]
/-- what comes to one place -/
noncomputable def arV (how : Int32) (n w h : Nat) (B : Nat → Int32) (X Y : Nat) : Int32 := if how = 1 then wO fJ9_max_7cf53 (bAt w h B) (Int32.ofNat Y - Int32.ofNat n) (Int32.ofNat X - Int32.ofNat n) (2 * n + 1) 0 (2 * n + 1) else if how = 2 then wO fJ9_min_7cf53 (bAt w h B) (Int32.ofNat Y - Int32.ofNat n) (Int32.ofNat X - Int32.ofNat n) (2 * n + 1) 255 (2 * n + 1) else (wO (fun a b => a + b) (nr B w h) (Int32.ofNat Y - Int32.ofNat n) (Int32.ofNat X - Int32.ofNat n) (2 * n + 1) 0 (2 * n + 1) + Int32.ofNat ((2 * n + 1) * (2 * n + 1)) / 2) / Int32.ofNat ((2 * n + 1) * (2 * n + 1))
theorem wid_73 {s : e_S} {g : ps_G} {w h : Nat} {gr nn X Y j f i : Int32} (hw : w ≤ 24) (hh : h ≤ 24) (e0 : s.1 89 0 = Int32.ofNat w) (e1 : s.1 89 1 = Int32.ofNat h) (hlt : ¬ X + nn < i) : bX0_widen_73 (e_g s g) 89 nn gr Y X j f i = some (.inl ((if gr = 0 then fJ9_min_7cf53 f (bAt w h (s.2.1 92) i j) else fJ9_max_7cf53 f (bAt w h (s.2.1 92) i j)), i + 1)) := by
  have hn := wh_le hw hh
  unfold bX0_widen_73 jX0_widen_110_73 jX0_widen_129_73 bAt
  rw [if_neg hlt]
  by_cases q : plc w h i j
  · obtain ⟨a, b, rfl, rfl, ha, hb⟩ := plc_n q
    have hlt2 := at_lt ha hb
    rw [if_neg (fun z => z.elim (n_neg (by omega)) (n_neg (by omega))), f89_0, e0, ob_n, if_neg (nle ha (by omega)), f89_1, e1, ob_n, if_pos ((n_lt (by omega) (by omega)).mpr hb), f89_4, ob_n, ob_n, ob_n, n_mul, n_add, rdI t92 (by omega), ob_n, if_pos q, n_int (by omega), n_int (by omega), Int.toNat_natCast, Int.toNat_natCast]
  · rw [if_neg q]
    by_cases q1 : i < 0 ∨ j < 0
    · rw [if_pos q1]
    rw [if_neg q1, f89_0, e0, ob_n]
    by_cases q2 : Int32.ofNat w ≤ i
    · rw [if_pos q2]
    rw [if_neg q2, f89_1, e1, ob_n]
    have q3 : ¬ j < Int32.ofNat h := fun q3 => q (decide_eq_true (by
      rw [not_or, i_lt, i_lt, show (0 : Int32).toInt = 0 from rfl] at q1
      rw [i_le, n_int (by omega)] at q2
      rw [i_lt, n_int (by omega)] at q3
      omega))
    rw [if_neg q3]
