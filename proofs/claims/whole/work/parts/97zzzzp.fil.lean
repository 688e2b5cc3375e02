-- needs: 97zzzzo
/-! ===== constructors: rows filled ===== -/
theorem st_id {as : List ps_E} {i : Nat} {e : ps_E} (h : as[i]? = some e) : as.set i e = as := by
  apply List.ext_getElem?
  intro j
  by_cases q : i = j
  · subst q
    rw [List.getElem?_set_self (List.getElem?_eq_some_iff.mp h).1, h]
  · rw [List.getElem?_set_ne q]
theorem o_len {g : ps_G} {ci W i n a : Nat} {fs : List Value} {as : List ps_E} {f : Nat → Int32} (h : as[i]? = some (.inl (0, (n, .inl f)))) (ha : a = g.1 + 1 + i) : q_len (oS g ci fs as W) a = some (Int32.ofNat n) := by
  unfold q_len
  rw [ha, o_at h]
  show (if (0 : Nat) < 6 then some (Int32.ofNat n) else none) = _
  exact if_pos (by decide)
theorem o_fill {g : ps_G} {ci W i n a : Nat} {fs : List Value} {as : List ps_E} {f : Nat → Int32} {v : Int32} (h : as[i]? = some (.inl (0, (n, .inl f)))) (h8 : 8 ≤ g.1) (hn : n < 100000) (ha : a = g.1 + 1 + i) : fJ7_fill_53178 (oS g ci fs as W) a v = some (oS g ci fs (as.set i (.inl (0, (n, .inl (cpT f (fun _ => v) 0 n))))) W) := by
  have hi : i < as.length := (List.getElem?_eq_some_iff.mp h).1
  have lp := fillN (fun F => oS g ci fs (as.set i (.inl (0, (n, .inl F)))) W) 0 n (fun _ => v) f (bO := fun t => bJ7_fill_53178_5 a v (Int32.ofNat n) t.1 t.2) (fun F k hk _ => by
    show bJ7_fill_53178_5 _ _ _ _ _ = _
    unfold bJ7_fill_53178_5
    dsimp only
    rw [if_neg (nle hk (by omega)), o_wI (i := i) (X := k) (List.getElem?_set_self hi) (n_idx (by omega)) (n_neg (by omega)) hk h8 ha, ob_n, n_suc, List.set_set, Nat.zero_add]) (fun F => by
    show bJ7_fill_53178_5 _ _ _ _ _ = _
    unfold bJ7_fill_53178_5
    dsimp only
    rw [if_pos (nlr (by omega))])
  rw [st_id h] at lp
  unfold fJ7_fill_53178
  rw [o_len h ha, ob_n, lp, ob_n]
theorem pr3 {g : ps_G} {W X : Nat} {fs : List Value} {as : List ps_E} {f : Nat → Int32} {x : Int32} (hf : fs[0]? = some (.ref (g.1 + 1))) (h : as[0]? = some (.inl (0, (40, .inl f)))) (c : ¬ (4 : Int32) ≤ x) (x0 : (x * 10).toNatClampNeg = X) (n0 : ¬ x * 10 < 0) (x4 : (x * 10 + 4).toNatClampNeg = X + 4) (n4 : ¬ x * 10 + 4 < 0) (x8 : (x * 10 + 8).toNatClampNeg = X + 8) (n8 : ¬ x * 10 + 8 < 0) (hX : X + 8 < 40) (h8 : 8 ≤ g.1) : bX3_init_108 g.1 x (oS g 3 fs as W) = some (.inl (x + 1, oS g 3 fs (as.set 0 (.inl (0, (40, .inl (upd (upd (upd f X 1024) (X + 4) 1024) (X + 8) 1024))))) W)) := by
  have hi : 0 < as.length := (List.getElem?_eq_some_iff.mp h).1
  have ha : g.1 + 1 = g.1 + 1 + 0 := rfl
  unfold bX3_init_108
  rw [if_neg c, o_fR hf, ob_n, ob_n, o_wI (i := 0) h x0 n0 (by omega) h8 ha, ob_n, o_fR hf, ob_n, ob_n, o_wI (i := 0) (List.getElem?_set_self hi) x4 n4 (by omega) h8 ha, ob_n, o_fR hf, ob_n, ob_n, List.set_set, o_wI (i := 0) (List.getElem?_set_self hi) x8 n8 hX h8 ha, ob_n, List.set_set]
theorem o_8 {g : ps_G} {ci W : Nat} {fs : List Value} {as : List ps_E} (h : 8 ≤ g.1) : 8 ≤ (oS g ci fs as W).1 := by
  show 8 ≤ g.1 + 1 + as.length
  omega
theorem o_fRn {g : ps_G} {ci W k a c : Nat} {fs : List Value} {as : List ps_E} (hk : fs[k]? = some (.ref a)) : q_fR ci k (q_new c (oS g ci fs as W)) g.1 = some (some a) := by
  rw [o_new, o_fl]
  exact o_fR hk
def q3 (f : Nat → Int32) (X : Nat) : Nat → Int32 := upd (upd (upd f X 1024) (X + 4) 1024) (X + 8) 1024
theorem lpr3 {g : ps_G} {W : Nat} {fs : List Value} {as : List ps_E} {f : Nat → Int32} (hf : fs[0]? = some (.ref (g.1 + 1))) (h : as[0]? = some (.inl (0, (40, .inl f)))) (h8 : 8 ≤ g.1) : q_lp (fun s => bX3_init_108 g.1 s.1 s.2) ((0 : Int32), oS g 3 fs as W) = some (oS g 3 fs (as.set 0 (.inl (0, (40, .inl (q3 (q3 (q3 (q3 f 0) 10) 20) 30))))) W) := by
  have hi : 0 < as.length := (List.getElem?_eq_some_iff.mp h).1
  have a0 : bX3_init_108 g.1 0 (oS g 3 fs as W) = some (.inl (0 + 1, oS g 3 fs (as.set 0 (.inl (0, (40, .inl (q3 f 0))))) W)) := pr3 (X := 0) hf h (by decide) (by decide) (by decide) (by decide) (by decide) (by decide) (by decide) (by decide) h8
  have st : ∀ (x : Int32) (X : Nat) (F : Nat → Int32), ¬ (4 : Int32) ≤ x → (x * 10).toNatClampNeg = X → ¬ x * 10 < 0 → (x * 10 + 4).toNatClampNeg = X + 4 → ¬ x * 10 + 4 < 0 → (x * 10 + 8).toNatClampNeg = X + 8 → ¬ x * 10 + 8 < 0 → X + 8 < 40 → q_lp (fun s => bX3_init_108 g.1 s.1 s.2) (x, oS g 3 fs (as.set 0 (.inl (0, (40, .inl F)))) W) = q_lp (fun s => bX3_init_108 g.1 s.1 s.2) (x + 1, oS g 3 fs (as.set 0 (.inl (0, (40, .inl (q3 F X))))) W) := fun x X F c1 c2 c3 c4 c5 c6 c7 c8 => by
    have z := pr3 (g := g) (W := W) (as := as.set 0 (.inl (0, (40, .inl F)))) hf (List.getElem?_set_self hi) c1 c2 c3 c4 c5 c6 c7 c8 h8
    rw [List.set_set] at z
    exact lp_go (b := fun s => bX3_init_108 g.1 s.1 s.2) (s := (x, oS g 3 fs (as.set 0 (.inl (0, (40, .inl F)))) W)) (s' := (x + 1, oS g 3 fs (as.set 0 (.inl (0, (40, .inl (q3 F X))))) W)) z
  have a1 := st (0 + 1) 10 (q3 f 0) (by decide) (by decide) (by decide) (by decide) (by decide) (by decide) (by decide) (by decide)
  have a2 := st (0 + 1 + 1) 20 (q3 (q3 f 0) 10) (by decide) (by decide) (by decide) (by decide) (by decide) (by decide) (by decide) (by decide)
  have a3 := st (0 + 1 + 1 + 1) 30 (q3 (q3 (q3 f 0) 10) 20) (by decide) (by decide) (by decide) (by decide) (by decide) (by decide) (by decide) (by decide)
  have c4 : (4 : Int32) ≤ 0 + 1 + 1 + 1 + 1 := by decide
  rw [lp_go (b := fun s => bX3_init_108 g.1 s.1 s.2) (s := ((0 : Int32), oS g 3 fs as W)) a0, a1, a2, a3]
  refine lp_end ?_
  show bX3_init_108 _ _ _ = _
  unfold bX3_init_108
  rw [if_pos c4]
theorem o_wI1 {g : ps_G} {ci W i n W0 : Nat} {fs fs0 : List Value} {as as0 : List ps_E} {f : Nat → Int32} {x v : Int32} {X : Nat} (h : as[i]? = some (.inl (0, (n, .inl f)))) (hx : x.toNatClampNeg = X) (h0 : ¬ x < 0) (hX : X < n) (h8 : 8 ≤ g.1) (hl : as0.length = i) : q_wI (oS g ci fs as W) (oS g ci fs0 as0 W0).1 x v = some (oS g ci fs (as.set i (.inl (0, (n, .inl (upd f X v))))) W) := o_wI h hx h0 hX h8 (by rw [oS_1, hl])
