-- needs: 07 10 13 14 20 21 22 23 24 25 26
/-! ===== a new STAND ===== -/
def mkS (g : ps_G) (w h : Int32) (ly : Nat → Option Nat) (od : Nat → Int32) (sz nx : Int32) : ps_G := (g.1 + 3, g.2.1 + 66, fun j => if j = g.1 then .inr (9, [.int w, .int h, .ref (g.1 + 1), .ref (g.1 + 2), .int sz, .int nx]) else if j = g.1 + 1 then .inl (3, (30, .inr (.inr (.inr (.inr ly))))) else if j = g.1 + 2 then .inl (0, (30, .inl od)) else g.2.2 j)
theorem mkS_0 {g : ps_G} {w h sz nx : Int32} {ly : Nat → Option Nat} {od : Nat → Int32} : (mkS g w h ly od sz nx).2.2 g.1 = .inr (9, [.int w, .int h, .ref (g.1 + 1), .ref (g.1 + 2), .int sz, .int nx]) := if_pos rfl
theorem mkS_1 {g : ps_G} {w h sz nx : Int32} {ly : Nat → Option Nat} {od : Nat → Int32} : (mkS g w h ly od sz nx).2.2 (g.1 + 1) = .inl (3, (30, .inr (.inr (.inr (.inr ly))))) := by
  show (if g.1 + 1 = g.1 then _ else if g.1 + 1 = g.1 + 1 then _ else _) = _
  rw [if_neg (by omega), if_pos rfl]
theorem mkS_2 {g : ps_G} {w h sz nx : Int32} {ly : Nat → Option Nat} {od : Nat → Int32} : (mkS g w h ly od sz nx).2.2 (g.1 + 2) = .inl (0, (30, .inl od)) := by
  show (if g.1 + 2 = g.1 then _ else if g.1 + 2 = g.1 + 1 then _ else if g.1 + 2 = g.1 + 2 then _ else _) = _
  rw [if_neg (by omega), if_neg (by omega), if_pos rfl]
theorem mkS_lo {g : ps_G} {w h sz nx : Int32} {ly : Nat → Option Nat} {od : Nat → Int32} {a : Nat} (ha : a < g.1) : (mkS g w h ly od sz nx).2.2 a = g.2.2 a := by
  show (if a = g.1 then _ else if a = g.1 + 1 then _ else if a = g.1 + 2 then _ else g.2.2 a) = _
  rw [if_neg (by omega), if_neg (by omega), if_neg (by omega)]
theorem ext_mkS {g : ps_G} {w h sz nx : Int32} {ly : Nat → Option Nat} {od : Nat → Int32} : Ext g (mkS g w h ly od sz nx) := by
  refine ⟨?_, ?_, ?_, ?_, fun a ha => mkS_lo ha⟩
  · show g.1 ≤ g.1 + 3; omega
  · show g.1 + 3 ≤ g.1 + 100; omega
  · show g.2.1 ≤ g.2.1 + 66; omega
  · show g.2.1 + 66 ≤ g.2.1 + 10000; omega
theorem mkS_u0 {g : ps_G} {w h sz nx sz' nx' : Int32} {ly : Nat → Option Nat} {od : Nat → Int32} : ps_up (mkS g w h ly od sz nx) g.1 (.inr (9, [.int w, .int h, .ref (g.1 + 1), .ref (g.1 + 2), .int sz', .int nx'])) = mkS g w h ly od sz' nx' := by
  unfold ps_up mkS
  congr 2
  funext j
  dsimp only
  by_cases h0 : j = g.1
  · rw [if_pos h0, if_pos h0]
  · rw [if_neg h0, if_neg h0, if_neg h0]
theorem mkS_u1 {g : ps_G} {w h sz nx : Int32} {ly ly' : Nat → Option Nat} {od : Nat → Int32} : ps_up (mkS g w h ly od sz nx) (g.1 + 1) (.inl (3, (30, .inr (.inr (.inr (.inr ly')))))) = mkS g w h ly' od sz nx := by
  unfold ps_up mkS
  congr 2
  funext j
  dsimp only
  by_cases h1 : j = g.1 + 1
  · rw [if_pos h1, if_neg (by omega), if_pos h1]
  · rw [if_neg h1, if_neg h1, if_neg h1]
theorem mkS_u2 {g : ps_G} {w h sz nx : Int32} {ly : Nat → Option Nat} {od od' : Nat → Int32} : ps_up (mkS g w h ly od sz nx) (g.1 + 2) (.inl (0, (30, .inl od'))) = mkS g w h ly od' sz nx := by
  unfold ps_up mkS
  congr 2
  funext j
  dsimp only
  by_cases h1 : j = g.1 + 2
  · rw [if_pos h1, if_neg (by omega), if_neg (by omega), if_pos h1]
  · rw [if_neg h1, if_neg h1, if_neg h1]
/-- an entry for a row of LAYERS: nothing, or a LAYER -/
def okL (g : ps_G) (o : Option Nat) : Prop := ∀ b, o = some b → e_fr b ∧ b < g.1 ∧ ∃ fs, g.2.2 b = .inr (4, fs)
theorem okL_q {s : e_S} {g : ps_G} {o : Option Nat} (h : okL g o) : q_okR 3 (e_g s g) o = true := by
  unfold q_okR
  cases o with
  | none => rfl
  | some b =>
    obtain ⟨h1, h2, fs, h3⟩ := h b rfl
    dsimp only
    rw [e_at h1, h3]
    rfl
theorem okL_ext {g g' : ps_G} {o : Option Nat} (hE : Ext g g') (h : okL g o) : okL g' o := by
  intro b hb
  obtain ⟨h1, h2, fs, h3⟩ := h b hb
  exact ⟨h1, Nat.lt_of_lt_of_le h2 hE.1, fs, by rw [hE.2.2.2.2 b h2]; exact h3⟩
theorem S_wR {s : e_S} {g : ps_G} {w h sz nx i : Int32} {ly : Nat → Option Nat} {od : Nat → Int32} {o : Option Nat} (hg : 195 ≤ g.1) (ho : okL (mkS g w h ly od sz nx) o) : q_wR (e_g s (mkS g w h ly od sz nx)) (g.1 + 1) i o = if i < 0 ∨ 30 ≤ i.toNatClampNeg then none else some (e_g s (mkS g w h (rs ly i.toNatClampNeg o) od sz nx)) := by
  unfold q_wR
  rw [e_at (Or.inl (by omega)), mkS_1]
  show (if i < 0 ∨ 30 ≤ i.toNatClampNeg ∨ q_okR 3 (e_g s (mkS g w h ly od sz nx)) o = false then none else some (ps_up (e_g s (mkS g w h ly od sz nx)) (g.1 + 1) (.inl (3, (30, .inr (.inr (.inr (.inr (va_up ly i.toNatClampNeg o))))))))) = _
  rw [okL_q ho, va_up_rs, e_upF (Or.inl (by omega)), mkS_u1]
  by_cases hx : i < 0 ∨ 30 ≤ i.toNatClampNeg
  · rw [if_pos hx, if_pos (by rcases hx with h | h; exact Or.inl h; exact Or.inr (Or.inl h))]
  · rw [if_neg hx, if_neg (by rintro (q | q | q); exact hx (Or.inl q); exact hx (Or.inr q); cases q)]
theorem S_wI {s : e_S} {g : ps_G} {w h sz nx i v : Int32} {ly : Nat → Option Nat} {od : Nat → Int32} (hg : 195 ≤ g.1) : q_wI (e_g s (mkS g w h ly od sz nx)) (g.1 + 2) i v = if i < 0 ∨ 30 ≤ i.toNatClampNeg then none else some (e_g s (mkS g w h ly (upd od i.toNatClampNeg v) sz nx)) := by
  rw [d_wI (Or.inl (by omega)) (by omega) mkS_2, mkS_u2]
theorem S_aI {s : e_S} {g : ps_G} {w h sz nx i : Int32} {ly : Nat → Option Nat} {od : Nat → Int32} (hg : 195 ≤ g.1) : q_aI (e_g s (mkS g w h ly od sz nx)) (g.1 + 2) i = if i < 0 ∨ 30 ≤ i.toNatClampNeg then none else some (od i.toNatClampNeg) := d_aI (Or.inl (by omega)) mkS_2
theorem S_aR {s : e_S} {g : ps_G} {w h sz nx i : Int32} {ly : Nat → Option Nat} {od : Nat → Int32} (hg : 195 ≤ g.1) : q_aR (e_g s (mkS g w h ly od sz nx)) (g.1 + 1) i = if i < 0 ∨ 30 ≤ i.toNatClampNeg then none else some (ly i.toNatClampNeg) := d_aR (Or.inl (by omega)) mkS_1 (by decide)
theorem S_s4 {s : e_S} {g : ps_G} {w h sz nx v : Int32} {ly : Nat → Option Nat} {od : Nat → Int32} (hg : 195 ≤ g.1) : q_sI 9 4 (e_g s (mkS g w h ly od sz nx)) g.1 v = some (e_g s (mkS g w h ly od v nx)) := by
  rw [d_sI (Or.inl hg) mkS_0 (Nat.le_of_ble_eq_true rfl)]
  exact congrArg some (congrArg (e_g s) mkS_u0)
theorem S_s5 {s : e_S} {g : ps_G} {w h sz nx v : Int32} {ly : Nat → Option Nat} {od : Nat → Int32} (hg : 195 ≤ g.1) : q_sI 9 5 (e_g s (mkS g w h ly od sz nx)) g.1 v = some (e_g s (mkS g w h ly od sz v)) := by
  rw [d_sI (Or.inl hg) mkS_0 (Nat.le_of_ble_eq_true rfl)]
  exact congrArg some (congrArg (e_g s) mkS_u0)
theorem S_f0 {s : e_S} {g : ps_G} {w h sz nx : Int32} {ly : Nat → Option Nat} {od : Nat → Int32} (hg : 195 ≤ g.1) : q_fI 9 0 (e_g s (mkS g w h ly od sz nx)) g.1 = some w := d_fI (Or.inl hg) mkS_0 rfl
theorem S_f1 {s : e_S} {g : ps_G} {w h sz nx : Int32} {ly : Nat → Option Nat} {od : Nat → Int32} (hg : 195 ≤ g.1) : q_fI 9 1 (e_g s (mkS g w h ly od sz nx)) g.1 = some h := d_fI (Or.inl hg) mkS_0 rfl
theorem S_f2 {s : e_S} {g : ps_G} {w h sz nx : Int32} {ly : Nat → Option Nat} {od : Nat → Int32} (hg : 195 ≤ g.1) : q_fR 9 2 (e_g s (mkS g w h ly od sz nx)) g.1 = some (some (g.1 + 1)) := d_fR (Or.inl hg) mkS_0 rfl
theorem S_f3 {s : e_S} {g : ps_G} {w h sz nx : Int32} {ly : Nat → Option Nat} {od : Nat → Int32} (hg : 195 ≤ g.1) : q_fR 9 3 (e_g s (mkS g w h ly od sz nx)) g.1 = some (some (g.1 + 2)) := d_fR (Or.inl hg) mkS_0 rfl
theorem S_f4 {s : e_S} {g : ps_G} {w h sz nx : Int32} {ly : Nat → Option Nat} {od : Nat → Int32} (hg : 195 ≤ g.1) : q_fI 9 4 (e_g s (mkS g w h ly od sz nx)) g.1 = some sz := d_fI (Or.inl hg) mkS_0 rfl
theorem S_f5 {s : e_S} {g : ps_G} {w h sz nx : Int32} {ly : Nat → Option Nat} {od : Nat → Int32} (hg : 195 ≤ g.1) : q_fI 9 5 (e_g s (mkS g w h ly od sz nx)) g.1 = some nx := d_fI (Or.inl hg) mkS_0 rfl
theorem S_ob {s : e_S} {g : ps_G} {w h sz nx : Int32} {ly : Nat → Option Nat} {od : Nat → Int32} (hg : 195 ≤ g.1) : q_ob 9 (e_g s (mkS g w h ly od sz nx)) g.1 = some () := d_ob (Or.inl hg) mkS_0
def cR (f : Nat → Option Nat) (n : Nat) : Nat → Option Nat := fun k => if k < n then f k else none
def cI (f : Nat → Int32) (n : Nat) : Nat → Int32 := fun k => if k < n then f k else 0
theorem cR_up {f : Nat → Option Nat} {n : Nat} : rs (cR f n) n (f n) = cR f (n + 1) := by
  funext k
  unfold rs cR
  by_cases h : k = n
  · rw [if_pos h, if_pos (by omega), h]
  · rw [if_neg h]
    by_cases h2 : k < n
    · rw [if_pos h2, if_pos (by omega)]
    · rw [if_neg h2, if_neg (by omega)]
theorem cI_up {f : Nat → Int32} {n : Nat} : upd (cI f n) n (f n) = cI f (n + 1) := upd_fill
theorem cR_lt {f : Nat → Option Nat} {n k : Nat} (h : k < n) : cR f n k = f k := if_pos h
theorem cI_lt {f : Nat → Int32} {n k : Nat} (h : k < n) : cI f n k = f k := if_pos h
theorem nS_mk {g : ps_G} {w h : Int32} : nS g w h = mkS g w h (cR (fun _ => none) 0) (cI (fun _ => 0) 0) 0 0 := by
  have e1 : (cR (fun _ => none) 0) = fun _ => none := by funext k; unfold cR; rw [if_neg (by omega)]
  have e2 : (cI (fun _ => 0) 0) = fun _ => 0 := by funext k; unfold cI; rw [if_neg (by omega)]
  rw [e1, e2]; rfl
theorem cR_0 {f f' : Nat → Option Nat} : cR f 0 = cR f' 0 := by funext k; unfold cR; rw [if_neg (by omega), if_neg (by omega)]
theorem cI_0 {f f' : Nat → Int32} : cI f 0 = cI f' 0 := by funext k; unfold cI; rw [if_neg (by omega), if_neg (by omega)]
theorem again9 {s : e_S} {g : ps_G} {a la oa : Nat} {w h sz nx : Int32} {ly : Nat → Option Nat} {od : Nat → Int32} (hg : 195 ≤ g.1) (ha : e_fr a) (ha2 : a < g.1) (hla : e_fr la) (hla2 : la < g.1) (hoa : e_fr oa) (hoa2 : oa < g.1) (c1 : g.2.2 a = .inr (9, [.int w, .int h, .ref la, .ref oa, .int sz, .int nx])) (c2 : g.2.2 la = .inl (3, (30, .inr (.inr (.inr (.inr ly)))))) (c3 : g.2.2 oa = .inl (0, (30, .inl od))) (ho : ∀ k, k < 30 → okL g (ly k)) : fX9_again (e_g s g) a = some (some g.1, e_g s (mkS g w h (cR ly 30) (cI od 30) sz nx)) := by
  have a0 : q_new 9 (e_g s g) = e_g s (ps_nw g 6 (.inr (9, [.int 0, .int 0, .null, .null, .int 0, .int 0]))) := e_nw hg
  have e : (e_g s g).1 = g.1 := rfl
  have r0 : q_fI 9 0 (e_g s (ps_nw g 6 (.inr (9, [.int 0, .int 0, .null, .null, .int 0, .int 0])))) a = some w := m_fI ha ha2 c1 rfl
  have r1 : q_fI 9 1 (e_g s (ps_nw g 6 (.inr (9, [.int 0, .int 0, .null, .null, .int 0, .int 0])))) a = some h := m_fI ha ha2 c1 rfl
  have nsd := newStand (s := s) (w := w) (h := h) hg
  rw [a0, nS_mk, cR_0 (f' := ly), cI_0 (f' := od)] at nsd
  have r2 : ∀ ly od sz' nx', q_fR 9 2 (e_g s (mkS g w h ly od sz' nx')) a = some (some la) := fun ly od sz' nx' => d_fR ha (by rw [mkS_lo ha2]; exact c1) rfl
  have r3 : ∀ ly od sz' nx', q_fR 9 3 (e_g s (mkS g w h ly od sz' nx')) a = some (some oa) := fun ly od sz' nx' => d_fR ha (by rw [mkS_lo ha2]; exact c1) rfl
  have r4 : ∀ ly od sz' nx', q_fI 9 4 (e_g s (mkS g w h ly od sz' nx')) a = some sz := fun ly od sz' nx' => d_fI ha (by rw [mkS_lo ha2]; exact c1) rfl
  have r5 : ∀ ly od sz' nx', q_fI 9 5 (e_g s (mkS g w h ly od sz' nx')) a = some nx := fun ly od sz' nx' => d_fI ha (by rw [mkS_lo ha2]; exact c1) rfl
  have r6 : ∀ ly' od sz' nx' i, q_aR (e_g s (mkS g w h ly' od sz' nx')) la i = if i < 0 ∨ 30 ≤ i.toNatClampNeg then none else some (ly i.toNatClampNeg) := fun ly' od sz' nx' i => d_aR hla (by rw [mkS_lo hla2]; exact c2) (by decide)
  have r7 : ∀ ly' od' sz' nx' i, q_aI (e_g s (mkS g w h ly' od' sz' nx')) oa i = if i < 0 ∨ 30 ≤ i.toNatClampNeg then none else some (od i.toNatClampNeg) := fun ly' od' sz' nx' i => d_aI hoa (by rw [mkS_lo hoa2]; exact c3)
  have hl : q_lp (fun t => bX9_again_34 a g.1 t.1 t.2) ((0 : Int32), e_g s (mkS g w h (cR ly 0) (cI od 0) sz nx)) = some (e_g s (mkS g w h (cR ly 30) (cI od 30) sz nx)) := by
    refine lp_0 (fun i => (Int32.ofNat i, e_g s (mkS g w h (cR ly i) (cI od i) sz nx))) 30 rfl (fun i hi => ?_) ?_
    · have c : ¬ (30 : Int32) ≤ Int32.ofNat i := by
        show ¬ Int32.ofNat 30 ≤ Int32.ofNat i
        rw [n_le (by omega) (by omega)]; omega
      have o := fun x y => okL_ext (ext_mkS (w := w) (h := h) (sz := sz) (nx := nx) (ly := x) (od := y)) (ho i hi)
      simp (decide := true) only [bX9_again_34, ob_s, c, S_f2 hg, r2, r6, n_in2 hi (by decide), n_idx (show i < 2147483648 by omega), S_wR hg (o _ _), S_f3 hg, r3, r7, S_wI hg, n_suc, cR_up, cI_up, reduceIte]
    · simp (decide := true) only [bX9_again_34, reduceIte]
  simp (decide := true) only [fX9_again, a0, e, r0, r1, ob_s, nsd, r4, S_s4 hg, r5, S_s5 hg, hl]
theorem exch9 {s : e_S} {g : ps_G} {w h sz nx : Int32} {ly : Nat → Option Nat} {od : Nat → Int32} {b l : Nat} {fs : List Value} (hg : 195 ≤ g.1) (hb : e_fr b) (hb2 : b < g.1) (hc : g.2.2 b = .inr (4, fs)) (h0 : fs[0]? = some (.int (Int32.ofNat l))) (hl : l < 30) : fX9_exchange (e_g s (mkS g w h ly od sz nx)) g.1 b = some (e_g s (mkS g w h (rs ly l (some b)) od sz nx)) := by
  have r : q_fI 4 0 (e_g s (mkS g w h ly od sz nx)) b = some (Int32.ofNat l) := d_fI hb (by rw [mkS_lo hb2]; exact hc) h0
  have c : ¬ (30 : Int32) ≤ Int32.ofNat l := by
    show ¬ Int32.ofNat 30 ≤ Int32.ofNat l
    rw [n_le (by omega) (by omega)]; omega
  have o : okL (mkS g w h ly od sz nx) (some b) := okL_ext ext_mkS (fun b' q => by cases q; exact ⟨hb, hb2, fs, hc⟩)
  simp (decide := true) only [fX9_exchange, jX9_exchange_26, r, ob_s, n_neg (show l < 2147483648 by omega), c, S_f2 hg, S_wR hg o, show ¬ 30 ≤ l by omega, false_or, n_idx (show l < 2147483648 by omega), reduceIte]
