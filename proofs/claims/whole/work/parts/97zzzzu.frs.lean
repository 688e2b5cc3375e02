-- needs: 97zzzzt
/-! ===== the reference's constructor: its other loops, and fresh ===== -/
theorem o_fI {g : ps_G} {ci W k : Nat} {v : Int32} {fs : List Value} {as : List ps_E} (hk : fs[k]? = some (.int v)) : q_fI ci k (oS g ci fs as W) g.1 = some v := by
  unfold q_fI
  rw [o_g]
  have e : q_O ci (.inr (ci, fs)) = some fs := show (if ci = ci then some fs else none) = some fs from if_pos rfl
  rw [e, ob_n, hk]
theorem o_ob {g : ps_G} {ci W : Nat} {fs : List Value} {as : List ps_E} : q_ob ci (oS g ci fs as W) g.1 = some () := by
  unfold q_ob
  rw [o_g]
  have e : q_O ci (.inr (ci, fs)) = some fs := show (if ci = ci then some fs else none) = some fs from if_pos rfl
  rw [e, ob_n]
theorem o_aI {g : ps_G} {ci W i n : Nat} {fs : List Value} {as : List ps_E} {f : Nat → Int32} {x : Int32} {X : Nat} (h : as[i]? = some (.inl (0, (n, .inl f)))) (hx : x.toNatClampNeg = X) (h0 : ¬ x < 0) (hX : X < n) {a : Nat} (ha : a = g.1 + 1 + i) : q_aI (oS g ci fs as W) a x = some (f X) := by
  unfold q_aI
  have e : q_I 0 (.inl (0, (n, .inl f))) = some (n, f) := show (if (0 : Nat) = 0 then some (n, f) else none) = some (n, f) from if_pos rfl
  rw [ha, o_at h, e, ob_n, hx]
  have c : ¬ (x < 0 ∨ n ≤ X) := by
    rintro (z | z)
    · exact h0 z
    · omega
  rw [if_neg c]
theorem o_wB {g : ps_G} {ci W i n : Nat} {fs : List Value} {as : List ps_E} {f : Nat → Int32} {x : Int32} {X : Nat} (h : as[i]? = some (.inl (2, (n, .inl f)))) (hx : x.toNatClampNeg = X) (h0 : ¬ x < 0) (hX : X < n) {a : Nat} (ha : a = g.1 + 1 + i) : q_wB (oS g ci fs as W) a x 0 = some (oS g ci fs (as.set i (.inl (2, (n, .inl (upd f X 0))))) W) := by
  have hi : i < as.length := (List.getElem?_eq_some_iff.mp h).1
  unfold q_wB
  have e : q_I 2 (.inl (2, (n, .inl f))) = some (n, f) := show (if (2 : Nat) = 2 then some (n, f) else none) = some (n, f) from if_pos rfl
  have b : vp_nar .boolean (0 : Int32) = 0 := by decide
  rw [ha, o_at h, e, ob_n, hx, b]
  have c : ¬ (x < 0 ∨ n ≤ X) := by
    rintro (z | z)
    · exact h0 z
    · omega
  rw [if_neg c, o_set hi]
theorem w1314 {g : ps_G} {W X : Nat} {fs : List Value} {as : List ps_E} {f : Nat → Int32} {x : Int32} (hf : fs[66]? = some (.ref (g.1 + 1 + 40))) (h : as[40]? = some (.inl (0, (4, .inl f)))) (c : ¬ (4 : Int32) ≤ x) (e : x.toNatClampNeg = X) (n : ¬ x < 0) (hX : X < 4) (h8 : 8 ≤ g.1) : q_lp (fun s => bX12_init_1314 g.1 s.1 s.2) (x, oS g 12 fs as W) = q_lp (fun s => bX12_init_1314 g.1 s.1 s.2) (x + 1, oS g 12 fs (as.set 40 (.inl (0, (4, .inl (upd f X 64))))) W) := by
  have z : bX12_init_1314 g.1 x (oS g 12 fs as W) = some (.inl (x + 1, oS g 12 fs (as.set 40 (.inl (0, (4, .inl (upd f X 64))))) W)) := by
    unfold bX12_init_1314
    rw [if_neg c, o_fR hf, ob_n, ob_n, o_wI (i := 40) h e n hX h8 rfl, ob_n]
  exact lp_go (b := fun s => bX12_init_1314 g.1 s.1 s.2) (s := (x, oS g 12 fs as W)) (s' := (x + 1, oS g 12 fs (as.set 40 (.inl (0, (4, .inl (upd f X 64))))) W)) z
theorem l1314 {g : ps_G} {W : Nat} {fs : List Value} {as : List ps_E} {f : Nat → Int32} (hf : fs[66]? = some (.ref (g.1 + 1 + 40))) (h : as[40]? = some (.inl (0, (4, .inl f)))) (h8 : 8 ≤ g.1) : q_lp (fun s => bX12_init_1314 g.1 s.1 s.2) ((1 : Int32), oS g 12 fs as W) = some (oS g 12 fs (as.set 40 (.inl (0, (4, .inl (upd (upd (upd f 1 64) 2 64) 3 64))))) W) := by
  have hi : 40 < as.length := (List.getElem?_eq_some_iff.mp h).1
  have gs : ∀ F : Nat → Int32, (as.set 40 (.inl (0, (4, .inl F))))[40]? = some (.inl (0, (4, .inl F))) := fun F => List.getElem?_set_self hi
  have a0 := w1314 (W := W) (X := 1) hf h (x := 1) (by decide) (by decide) (by decide) (by decide) h8
  have a1 := w1314 (W := W) (X := 2) (x := 1 + 1) hf (gs (upd f 1 64)) (by decide) (by decide) (by decide) (by decide) h8
  have a2 := w1314 (W := W) (X := 3) (x := 1 + 1 + 1) hf (gs (upd (upd f 1 64) 2 64)) (by decide) (by decide) (by decide) (by decide) h8
  rw [List.set_set] at a1 a2
  have c4 : (4 : Int32) ≤ 1 + 1 + 1 + 1 := by decide
  rw [a0, a1, a2]
  refine lp_end ?_
  show bX12_init_1314 _ _ _ = _
  unfold bX12_init_1314
  rw [if_pos c4]
theorem lf12 {g : ps_G} {W : Nat} {fs : List Value} {as : List ps_E} {f : Nat → Int32} (hf : fs[8]? = some (.ref (g.1 + 1 + 2))) (h : as[2]? = some (.inl (0, (35071, .inl f)))) (h8 : 8 ≤ g.1) : q_lp (fun s => bX12_fresh_12 g.1 s.1 s.2) ((0 : Int32), oS g 12 fs as W) = some (oS g 12 fs (as.set 2 (.inl (0, (35071, .inl (cpT f (fun _ => 0) 0 35071))))) W) := by
  have hi : 2 < as.length := (List.getElem?_eq_some_iff.mp h).1
  have lp := fillN (fun F => oS g 12 fs (as.set 2 (.inl (0, (35071, .inl F)))) W) 0 35071 (fun _ => (0 : Int32)) f (bO := fun t => bX12_fresh_12 g.1 t.1 t.2) (fun F k hk _ => by
    have c : ¬ (35071 : Int32) ≤ Int32.ofNat k := show ¬ Int32.ofNat 35071 ≤ _ from nle hk (by omega)
    show bX12_fresh_12 _ _ _ = _
    unfold bX12_fresh_12
    dsimp only
    rw [if_neg c, o_fR hf, ob_n, ob_n, o_wI (i := 2) (X := k) (List.getElem?_set_self hi) (n_idx (by omega)) (n_neg (by omega)) hk h8 rfl, ob_n, n_suc, List.set_set, Nat.zero_add]) (fun F => by
    have c : (35071 : Int32) ≤ Int32.ofNat 35071 := by decide
    show bX12_fresh_12 _ _ _ = _
    unfold bX12_fresh_12
    dsimp only
    rw [if_pos c])
  rw [st_id h] at lp
  exact lp
theorem lkp {g : ps_G} {W : Nat} {fs : List Value} {as : List ps_E} {f N : Nat → Int32} (hf : fs[9]? = some (.ref (g.1 + 1 + 3))) (hn : fs[8]? = some (.ref (g.1 + 1 + 2))) (h10 : fs[10]? = some (.int 0)) (h11 : fs[11]? = some (.int 0)) (h : as[3]? = some (.inl (0, (876775, .inl f)))) (hN : as[2]? = some (.inl (0, (35071, .inl N)))) (h8 : 8 ≤ g.1) : fX12_keep (oS g 12 fs as W) g.1 = some (oS g 12 fs (as.set 3 (.inl (0, (876775, .inl (cpT f N 0 35071))))) W) := by
  have hi : 3 < as.length := (List.getElem?_eq_some_iff.mp h).1
  have r0 : q_rem ((0 : Int32) + 0) 25 = 0 := by decide
  have lp := fillN (fun F => oS g 12 fs (as.set 3 (.inl (0, (876775, .inl F)))) W) 0 35071 N f (bO := fun t => bX12_keep_2 g.1 t.1 t.2) (fun F k hk _ => by
    have c : ¬ (35071 : Int32) ≤ Int32.ofNat k := show ¬ Int32.ofNat 35071 ≤ _ from nle hk (by omega)
    have e : (35071 : Int32) * 0 + Int32.ofNat k = Int32.ofNat k := by
      rw [show (35071 : Int32) * 0 = 0 by decide, Int32.zero_add]
    have hn2 : (as.set 3 (.inl (0, (876775, .inl F))))[2]? = some (.inl (0, (35071, .inl N))) := by
      rw [List.getElem?_set_ne (by decide), hN]
    show bX12_keep_2 _ _ _ = _
    unfold bX12_keep_2
    dsimp only
    rw [if_neg c, o_fR hf, ob_n, ob_n, o_fI h10, ob_n, o_fI h11, ob_n, o_fR hn, ob_n, ob_n, o_aI (i := 2) (X := k) hn2 (n_idx (by omega)) (n_neg (by omega)) hk rfl, ob_n, r0, e, o_wI (i := 3) (X := k) (List.getElem?_set_self hi) (n_idx (by omega)) (n_neg (by omega)) (by omega) h8 rfl, ob_n, n_suc, List.set_set, Nat.zero_add]) (fun F => by
    have c : (35071 : Int32) ≤ Int32.ofNat 35071 := by decide
    show bX12_keep_2 _ _ _ = _
    unfold bX12_keep_2
    dsimp only
    rw [if_pos c])
  rw [st_id h] at lp
  unfold fX12_keep
  exact (congrArg (fun z => Option.bind z fun s13 => some s13) lp).trans ob_n
theorem lfg {g : ps_G} {W : Nat} {fs : List Value} {as : List ps_E} {f : Nat → Int32} (hf : fs[21]? = some (.ref (g.1 + 1 + 8))) (h : as[8]? = some (.inl (2, (9, .inl f)))) : fX12_forget (oS g 12 fs as W) g.1 = some (oS g 12 fs (as.set 8 (.inl (2, (9, .inl (cpT f (fun _ => 0) 0 9))))) W) := by
  have hi : 8 < as.length := (List.getElem?_eq_some_iff.mp h).1
  have lp := fillN (fun F => oS g 12 fs (as.set 8 (.inl (2, (9, .inl F)))) W) 0 9 (fun _ => (0 : Int32)) f (bO := fun t => bX12_forget_2 g.1 t.1 t.2) (fun F k hk _ => by
    have c : ¬ (9 : Int32) ≤ Int32.ofNat k := show ¬ Int32.ofNat 9 ≤ _ from nle hk (by omega)
    show bX12_forget_2 _ _ _ = _
    unfold bX12_forget_2
    dsimp only
    rw [if_neg c, o_fR hf, ob_n, ob_n, o_wB (i := 8) (X := k) (List.getElem?_set_self hi) (n_idx (by omega)) (n_neg (by omega)) hk rfl, ob_n, n_suc, List.set_set, Nat.zero_add]) (fun F => by
    have c : (9 : Int32) ≤ Int32.ofNat 9 := by decide
    show bX12_forget_2 _ _ _ = _
    unfold bX12_forget_2
    dsimp only
    rw [if_pos c])
  rw [st_id h] at lp
  unfold fX12_forget
  exact (congrArg (fun z => Option.bind z fun s8 => some s8) lp).trans ob_n
