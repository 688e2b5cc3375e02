-- needs: 97zzzzs
/-! ===== the reference's constructor: its loops ===== -/
theorem w1280 {g : ps_G} {W X : Nat} {fs : List Value} {as : List ps_E} {f : Nat → Int32} {x y : Int32} (hf : fs[59]? = some (.ref (g.1 + 1 + 33))) (h : as[33]? = some (.inl (0, (40, .inl f)))) (c : ¬ (9 : Int32) ≤ y) (e : (10 * x + y).toNatClampNeg = X) (n : ¬ 10 * x + y < 0) (hX : X < 40) (h8 : 8 ≤ g.1) : q_lp (fun s => bX12_init_1280 g.1 x s.1 s.2) (y, oS g 12 fs as W) = q_lp (fun s => bX12_init_1280 g.1 x s.1 s.2) (y + 4, oS g 12 fs (as.set 33 (.inl (0, (40, .inl (upd f X 1024))))) W) := by
  have z : bX12_init_1280 g.1 x y (oS g 12 fs as W) = some (.inl (y + 4, oS g 12 fs (as.set 33 (.inl (0, (40, .inl (upd f X 1024))))) W)) := by
    unfold bX12_init_1280
    rw [if_neg c, o_fR hf, ob_n, ob_n, o_wI (i := 33) h e n hX h8 rfl, ob_n]
  exact lp_go (b := fun s => bX12_init_1280 g.1 x s.1 s.2) (s := (y, oS g 12 fs as W)) (s' := (y + 4, oS g 12 fs (as.set 33 (.inl (0, (40, .inl (upd f X 1024))))) W)) z
theorem w1273 {g : ps_G} {W X : Nat} {fs : List Value} {as : List ps_E} {f : Nat → Int32} {x : Int32} (hf : fs[59]? = some (.ref (g.1 + 1 + 33))) (h : as[33]? = some (.inl (0, (40, .inl f)))) (c : ¬ (4 : Int32) ≤ x) (e0 : (10 * x + 0).toNatClampNeg = X) (n0 : ¬ 10 * x + 0 < 0) (e4 : (10 * x + (0 + 4)).toNatClampNeg = X + 4) (n4 : ¬ 10 * x + (0 + 4) < 0) (e8 : (10 * x + (0 + 4 + 4)).toNatClampNeg = X + 8) (n8 : ¬ 10 * x + (0 + 4 + 4) < 0) (hX : X + 8 < 40) (h8 : 8 ≤ g.1) : q_lp (fun s => bX12_init_1273 g.1 s.1 s.2) (x, oS g 12 fs as W) = q_lp (fun s => bX12_init_1273 g.1 s.1 s.2) (x + 1, oS g 12 fs (as.set 33 (.inl (0, (40, .inl (q3 f X))))) W) := by
  have hi : 33 < as.length := (List.getElem?_eq_some_iff.mp h).1
  have a0 := w1280 (W := W) (x := x) hf h (y := 0) (by decide) e0 n0 (by omega) h8
  have a1 := w1280 (W := W) (x := x) (as := as.set 33 (.inl (0, (40, .inl (upd f X 1024))))) hf (List.getElem?_set_self hi) (y := 0 + 4) (by decide) e4 n4 (by omega) h8
  rw [List.set_set] at a1
  have a2 := w1280 (W := W) (x := x) (as := as.set 33 (.inl (0, (40, .inl (upd (upd f X 1024) (X + 4) 1024))))) hf (List.getElem?_set_self hi) (y := 0 + 4 + 4) (by decide) e8 n8 (by omega) h8
  rw [List.set_set] at a2
  have c9 : (9 : Int32) ≤ 0 + 4 + 4 + 4 := by decide
  have z : bX12_init_1273 g.1 x (oS g 12 fs as W) = some (.inl (x + 1, oS g 12 fs (as.set 33 (.inl (0, (40, .inl (q3 f X))))) W)) := by
    unfold bX12_init_1273
    have l : q_lp (fun s => bX12_init_1280 g.1 x s.1 s.2) ((0 : Int32), oS g 12 fs as W) = some (oS g 12 fs (as.set 33 (.inl (0, (40, .inl (q3 f X))))) W) := by
      rw [a0, a1, a2]
      refine lp_end ?_
      show bX12_init_1280 _ _ _ _ = _
      unfold bX12_init_1280
      rw [if_pos c9]
      rfl
    rw [if_neg c, l, ob_n]
  exact lp_go (b := fun s => bX12_init_1273 g.1 s.1 s.2) (s := (x, oS g 12 fs as W)) (s' := (x + 1, oS g 12 fs (as.set 33 (.inl (0, (40, .inl (q3 f X))))) W)) z
theorem l1273 {g : ps_G} {W : Nat} {fs : List Value} {as : List ps_E} {f : Nat → Int32} (hf : fs[59]? = some (.ref (g.1 + 1 + 33))) (h : as[33]? = some (.inl (0, (40, .inl f)))) (h8 : 8 ≤ g.1) : q_lp (fun s => bX12_init_1273 g.1 s.1 s.2) ((0 : Int32), oS g 12 fs as W) = some (oS g 12 fs (as.set 33 (.inl (0, (40, .inl (q3 (q3 (q3 (q3 f 0) 10) 20) 30))))) W) := by
  have hi : 33 < as.length := (List.getElem?_eq_some_iff.mp h).1
  have gs : ∀ F : Nat → Int32, (as.set 33 (.inl (0, (40, .inl F))))[33]? = some (.inl (0, (40, .inl F))) := fun F => List.getElem?_set_self hi
  have a0 := w1273 (W := W) (X := 0) hf h (x := 0) (by decide) (by decide) (by decide) (by decide) (by decide) (by decide) (by decide) (by decide) h8
  have a1 := w1273 (W := W) (X := 10) (x := 0 + 1) hf (gs (q3 f 0)) (by decide) (by decide) (by decide) (by decide) (by decide) (by decide) (by decide) (by decide) h8
  have a2 := w1273 (W := W) (X := 20) (x := 0 + 1 + 1) hf (gs (q3 (q3 f 0) 10)) (by decide) (by decide) (by decide) (by decide) (by decide) (by decide) (by decide) (by decide) h8
  have a3 := w1273 (W := W) (X := 30) (x := 0 + 1 + 1 + 1) hf (gs (q3 (q3 (q3 f 0) 10) 20)) (by decide) (by decide) (by decide) (by decide) (by decide) (by decide) (by decide) (by decide) h8
  rw [List.set_set] at a1 a2 a3
  have c4 : (4 : Int32) ≤ 0 + 1 + 1 + 1 + 1 := by decide
  rw [a0, a1, a2, a3]
  refine lp_end ?_
  show bX12_init_1273 _ _ _ = _
  unfold bX12_init_1273
  rw [if_pos c4]
theorem l1335 {g : ps_G} {W : Nat} {fs : List Value} {as : List ps_E} {f : Nat → Int32} (hf : fs[57]? = some (.ref (g.1 + 1 + 31))) (h : as[31]? = some (.inl (0, (256, .inl f)))) (h8 : 8 ≤ g.1) : q_lp (fun s => bX12_init_1335 g.1 s.1 s.2) ((0 : Int32), oS g 12 fs as W) = some (oS g 12 fs (as.set 31 (.inl (0, (256, .inl (cpT f (fun _ => -1) 0 256))))) W) := by
  have hi : 31 < as.length := (List.getElem?_eq_some_iff.mp h).1
  have lp := fillN (fun F => oS g 12 fs (as.set 31 (.inl (0, (256, .inl F)))) W) 0 256 (fun _ => (-1 : Int32)) f (bO := fun t => bX12_init_1335 g.1 t.1 t.2) (fun F k hk _ => by
    have c : ¬ (256 : Int32) ≤ Int32.ofNat k := show ¬ Int32.ofNat 256 ≤ _ from nle hk (by omega)
    show bX12_init_1335 _ _ _ = _
    unfold bX12_init_1335
    dsimp only
    rw [if_neg c, o_fR hf, ob_n, ob_n, o_wI (i := 31) (X := k) (List.getElem?_set_self hi) (n_idx (by omega)) (n_neg (by omega)) hk h8 rfl, ob_n, n_suc, List.set_set, Nat.zero_add]) (fun F => by
    have c : (256 : Int32) ≤ Int32.ofNat 256 := by decide
    show bX12_init_1335 _ _ _ = _
    unfold bX12_init_1335
    dsimp only
    rw [if_pos c])
  rw [st_id h] at lp
  exact lp
theorem lf52 {g : ps_G} {W : Nat} {fs : List Value} {as : List ps_E} {f : Nat → Int32} (hf : fs[31]? = some (.ref (g.1 + 1 + 15))) (h : as[15]? = some (.inl (0, (576, .inl f)))) (h8 : 8 ≤ g.1) : q_lp (fun s => bX12_fresh_52 g.1 s.1 s.2) ((0 : Int32), oS g 12 fs as W) = some (oS g 12 fs (as.set 15 (.inl (0, (576, .inl (cpT f (fun _ => 255) 0 576))))) W) := by
  have hi : 15 < as.length := (List.getElem?_eq_some_iff.mp h).1
  have lp := fillN (fun F => oS g 12 fs (as.set 15 (.inl (0, (576, .inl F)))) W) 0 576 (fun _ => (255 : Int32)) f (bO := fun t => bX12_fresh_52 g.1 t.1 t.2) (fun F k hk _ => by
    have c : ¬ (576 : Int32) ≤ Int32.ofNat k := show ¬ Int32.ofNat 576 ≤ _ from nle hk (by omega)
    show bX12_fresh_52 _ _ _ = _
    unfold bX12_fresh_52
    dsimp only
    rw [if_neg c, o_fR hf, ob_n, ob_n, o_wI (i := 15) (X := k) (List.getElem?_set_self hi) (n_idx (by omega)) (n_neg (by omega)) hk h8 rfl, ob_n, n_suc, List.set_set, Nat.zero_add]) (fun F => by
    have c : (576 : Int32) ≤ Int32.ofNat 576 := by decide
    show bX12_fresh_52 _ _ _ = _
    unfold bX12_fresh_52
    dsimp only
    rw [if_pos c])
  rw [st_id h] at lp
  exact lp
