-- needs: 07 10 13 14 20 21 22 23
/-! ===== the free cells put; division ===== -/
theorem d_sV {s : e_S} {g : ps_G} {a ci k : Nat} {fs : List Value} {v : Value} (ha : e_fr a) (hc : g.2.2 a = .inr (ci, fs)) (hk : k < fs.length) : q_sV ci k (e_g s g) a v = some (e_g s (ps_up g a (.inr (ci, fs.set k v)))) := by
  unfold q_sV
  rw [e_at ha, hc]
  show ((if ci = ci then some fs else none).bind _) = _
  rw [if_pos rfl]
  show (if fs.length ≤ k then none else some (ps_up (e_g s g) a (.inr (ci, fs.set k v)))) = _
  rw [if_neg (by omega), e_upF ha]
theorem d_sI {s : e_S} {g : ps_G} {a ci k : Nat} {fs : List Value} {v : Int32} (ha : e_fr a) (hc : g.2.2 a = .inr (ci, fs)) (hk : k < fs.length) : q_sI ci k (e_g s g) a v = some (e_g s (ps_up g a (.inr (ci, fs.set k (.int v))))) := d_sV ha hc hk
theorem d_sR {s : e_S} {g : ps_G} {a ci k : Nat} {fs : List Value} {v : Option Nat} (ha : e_fr a) (hc : g.2.2 a = .inr (ci, fs)) (hk : k < fs.length) : q_sR ci k (e_g s g) a v = some (e_g s (ps_up g a (.inr (ci, fs.set k (va_rf v))))) := d_sV ha hc hk
theorem d_sB {s : e_S} {g : ps_G} {a ci k : Nat} {fs : List Value} {v : Int32} (hv : v = 0 ∨ v = 1) (ha : e_fr a) (hc : g.2.2 a = .inr (ci, fs)) (hk : k < fs.length) : q_sB ci k (e_g s g) a v = some (e_g s (ps_up g a (.inr (ci, fs.set k (.int v))))) := by
  unfold q_sB
  rw [if_neg (not_not_intro hv)]
  exact d_sV ha hc hk
theorem d_wI {s : e_S} {g : ps_G} {a n : Nat} {f : Nat → Int32} {i v : Int32} (ha : e_fr a) (h8 : 8 ≤ a) (hc : g.2.2 a = .inl (0, (n, .inl f))) : q_wI (e_g s g) a i v = if i < 0 ∨ n ≤ i.toNatClampNeg then none else some (e_g s (ps_up g a (.inl (0, (n, .inl (upd f i.toNatClampNeg v)))))) := by
  unfold q_wI
  rw [e_at ha, hc]
  show (if i < 0 ∨ n ≤ i.toNatClampNeg ∨ a < 8 then none else some (ps_up (e_g s g) a (.inl (0, (n, .inl (upd f i.toNatClampNeg v)))))) = _
  by_cases h : i < 0 ∨ n ≤ i.toNatClampNeg
  · rw [if_pos h, if_pos (by rcases h with h | h; exact Or.inl h; exact Or.inr (Or.inl h))]
  · rw [if_neg h, if_neg (by rintro (q | q | q); exact h (Or.inl q); exact h (Or.inr q); omega), e_upF ha]
theorem d_wB {s : e_S} {g : ps_G} {a n : Nat} {f : Nat → Int32} {i v : Int32} (ha : e_fr a) (hc : g.2.2 a = .inl (2, (n, .inl f))) : q_wB (e_g s g) a i v = if i < 0 ∨ n ≤ i.toNatClampNeg then none else some (e_g s (ps_up g a (.inl (2, (n, .inl (upd f i.toNatClampNeg (vp_nar .boolean v))))))) := by
  unfold q_wB
  rw [e_at ha, hc]
  show (if i < 0 ∨ n ≤ i.toNatClampNeg then none else some (ps_up (e_g s g) a (.inl (2, (n, .inl (upd f i.toNatClampNeg (vp_nar .boolean v))))))) = _
  rw [e_upF ha]
theorem d_aB {s : e_S} {g : ps_G} {a n : Nat} {f : Nat → Int32} {i : Int32} (ha : e_fr a) (hc : g.2.2 a = .inl (2, (n, .inl f))) : q_aB (e_g s g) a i = if i < 0 ∨ n ≤ i.toNatClampNeg then none else some (f i.toNatClampNeg) := by
  unfold q_aB
  rw [e_at ha, hc]
  rfl
theorem va_up_rs {f : Nat → Option Nat} {i : Nat} {o : Option Nat} : va_up f i o = rs f i o := by
  funext k
  simp [va_up, rs]
/-- a STAND put into one of the two fixed rows -/
theorem e_wR {s : e_S} {g : ps_G} {j n b : Nat} {i : Int32} {fs : List Value} (h : e_tb[j]? = some (5, n, [4])) (hb : e_fr b) (hc : g.2.2 b = .inr (9, fs)) : q_wR (e_g s g) j i (some b) = if i < 0 ∨ n ≤ i.toNatClampNeg then none else some (e_g (sR s j i.toNatClampNeg (some b)) g) := by
  unfold q_wR
  show (q_R (e_c s j _)).bind _ = _
  rw [e_c_R h]
  show (if i < 0 ∨ n ≤ i.toNatClampNeg ∨ q_okR 4 (e_g s g) (some b) = false then none else some (ps_up (e_g s g) j (.inl (4, (n, .inr (.inr (.inr (.inr (va_up (s.2.2.1 j) i.toNatClampNeg (some b)))))))))) = _
  have hq : q_okR 4 (e_g s g) (some b) = true := by
    unfold q_okR
    dsimp only
    rw [e_at hb, hc]
    rfl
  rw [hq]
  by_cases hx : i < 0 ∨ n ≤ i.toNatClampNeg
  · rw [if_pos hx, if_pos (by rcases hx with h | h; exact Or.inl h; exact Or.inr (Or.inl h))]
  · rw [if_neg hx, if_neg (by rintro (q | q | q); exact hx (Or.inl q); exact hx (Or.inr q); cases q)]
    congr 1
    refine e_up ?_ (fun a ha => ⟨rfl, rfl, ?_, rfl⟩)
    · rw [e_c_R h]
      show Sum.inl (4, (n, Sum.inr (Sum.inr (Sum.inr (Sum.inr (rs s.2.2.1 j _ j)))))) = _
      rw [rs_s, va_up_rs]
    · show s.2.2.1 a = rs s.2.2.1 j _ a
      rw [rs_n ha]
theorem n_div {a b : Nat} (ha : a < 2147483648) (hb : b < 2147483648) : Int32.ofNat a / Int32.ofNat b = Int32.ofNat (a / b) := by
  have h1 : a / b ≤ a := Nat.div_le_self a b
  have h2 : ((a : Int).tdiv (b : Int)) = Int.ofNat (a / b) := rfl
  have h3 : (Int.ofNat (a / b)).bmod (2 ^ 32) = Int.ofNat (a / b) := by
    generalize a / b = q at h1
    show ((q : Nat) : Int).bmod (2 ^ 32) = (q : Int)
    exact i_bm (by omega) (by omega)
  rw [i_eq, Int32.toInt_div, n_int ha, n_int hb, n_int (by omega), h2, h3]
  rfl
theorem n_rem {a b : Nat} (ha : a < 2147483648) (hb : b < 2147483648) : q_rem (Int32.ofNat a) (Int32.ofNat b) = Int32.ofNat (a % b) := by
  unfold q_rem
  rw [n_div ha hb, n_mul]
  have h := Nat.div_add_mod a b
  have h3 : a / b * b ≤ a := Nat.div_mul_le_self a b
  have h4 : b * (a / b) = a / b * b := Nat.mul_comm _ _
  rw [i_eq, i_sub (by rw [n_int ha, n_int (by omega)]; omega) (by rw [n_int ha, n_int (by omega)]; omega), n_int ha, n_int (by omega), n_int (by omega)]
  omega
/-- the cells with a new STAND at the end -/
def nS (g : ps_G) (w h : Int32) : ps_G := (g.1 + 3, g.2.1 + 66, fun j => if j = g.1 then .inr (9, [.int w, .int h, .ref (g.1 + 1), .ref (g.1 + 2), .int 0, .int 0]) else if j = g.1 + 1 then .inl (3, (30, .inr (.inr (.inr (.inr fun _ => none))))) else if j = g.1 + 2 then .inl (0, (30, .inl fun _ => 0)) else g.2.2 j)
theorem fr_g {n a : Nat} (h : 195 ≤ n) (h2 : n ≤ a) : e_fr a := Or.inl (by omega)
theorem newStand {s : e_S} {g : ps_G} {w h : Int32} (hg : 195 ≤ g.1) : fX9_init (q_new 9 (e_g s g)) g.1 w h = some (e_g s (nS g w h)) := by
  have a0 : q_new 9 (e_g s g) = e_g s (ps_nw g 6 (.inr (9, [.int 0, .int 0, .null, .null, .int 0, .int 0]))) := e_nw hg
  unfold fX9_init
  rw [a0]
  generalize hg1 : ps_nw g 6 (.inr (9, [.int 0, .int 0, .null, .null, .int 0, .int 0])) = g1
  have p1 : g1.1 = g.1 + 1 := by rw [← hg1]; rfl
  have a1 : q_nR 3 (e_g s g1) (30 : Int32) = some (e_g s (ps_nw g1 30 (.inl (3, (30, .inr (.inr (.inr (.inr fun _ => none)))))))) := by
    unfold q_nR
    rw [if_neg (by decide)]
    exact congrArg some (e_nw (by omega))
  rw [a1, ob_s]
  generalize hg2 : ps_nw g1 30 (.inl (3, (30, .inr (.inr (.inr (.inr fun _ => none)))))) = g2
  have p2 : g2.1 = g.1 + 2 := by rw [← hg2]; show g1.1 + 1 = _; omega
  have c2 : g2.2.2 g.1 = .inr (9, [.int 0, .int 0, .null, .null, .int 0, .int 0]) := by
    rw [← hg2]
    show (if g.1 = g1.1 then _ else g1.2.2 g.1) = _
    rw [if_neg (by omega), ← hg1]
    exact if_pos rfl
  rw [d_sR (fr_g hg (Nat.le_refl _)) c2 (by decide), ob_s]
  generalize hg3 : ps_up g2 g.1 _ = g3
  have p3 : g3.1 = g.1 + 2 := by rw [← hg3]; exact p2
  have a3 : q_nA .int (e_g s g3) (30 : Int32) = some (e_g s (ps_nw g3 30 (.inl (0, (30, .inl fun _ => 0))))) := by
    unfold q_nA
    rw [if_neg (by decide)]
    exact congrArg some (e_nw (by omega))
  rw [a3, ob_s]
  generalize hg4 : ps_nw g3 30 (.inl (0, (30, .inl fun _ => 0))) = g4
  have c4 : g4.2.2 g.1 = .inr (9, [.int 0, .int 0, .ref (g.1 + 1), .null, .int 0, .int 0]) := by
    rw [← hg4]
    show (if g.1 = g3.1 then _ else g3.2.2 g.1) = _
    rw [if_neg (by omega), ← hg3]
    show (if g.1 = g.1 then _ else _) = _
    rw [if_pos rfl]
    show Sum.inr (9, [Value.int 0, .int 0, .ref g1.1, .null, .int 0, .int 0]) = _
    rw [p1]
  rw [d_sR (fr_g hg (Nat.le_refl _)) c4 (Nat.le_of_ble_eq_true rfl), ob_s]
  generalize hg5 : ps_up g4 g.1 _ = g5
  have c5 : g5.2.2 g.1 = .inr (9, [.int 0, .int 0, .ref (g.1 + 1), .ref (g.1 + 2), .int 0, .int 0]) := by
    rw [← hg5]
    show (if g.1 = g.1 then _ else _) = _
    rw [if_pos rfl]
    show Sum.inr (9, [Value.int 0, .int 0, .ref (g.1 + 1), .ref g3.1, .int 0, .int 0]) = _
    rw [p3]
  rw [d_sI (fr_g hg (Nat.le_refl _)) c5 (Nat.le_of_ble_eq_true rfl), ob_s]
  generalize hg6 : ps_up g5 g.1 _ = g6
  have c6 : g6.2.2 g.1 = .inr (9, [.int w, .int 0, .ref (g.1 + 1), .ref (g.1 + 2), .int 0, .int 0]) := by
    rw [← hg6]
    exact if_pos rfl
  rw [d_sI (fr_g hg (Nat.le_refl _)) c6 (Nat.le_of_ble_eq_true rfl), ob_s]
  congr 2
  rw [← hg6, ← hg5, ← hg4, ← hg3, ← hg2, ← hg1]
  unfold nS ps_up ps_nw
  dsimp only
  congr 2
  funext j
  by_cases j0 : j = g.1
  · simp [j0]
  · by_cases j1 : j = g.1 + 1
    · simp [j1]
    · by_cases j2 : j = g.1 + 2
      · simp [j2]
      · simp [j0, j1, j2]
theorem n_sub {a b : Nat} (h : b ≤ a) (ha : a < 2147483648) : Int32.ofNat a - Int32.ofNat b = Int32.ofNat (a - b) := by
  rw [i_eq, i_sub (by rw [n_int ha, n_int (by omega)]; omega) (by rw [n_int ha, n_int (by omega)]; omega), n_int ha, n_int (by omega), n_int (by omega)]
  omega
