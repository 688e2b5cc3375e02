-- needs: 97zh 95
/-! ===== select: joined to what was chosen ===== -/
def jnV (way old v : Int32) : Int32 := if ¬ way = 0 then (if ¬ way = 1 then (if ¬ way = 2 then fJ9_min_7cf53 old v else fJ9_max_7cf53 0 (old - v)) else fJ9_max_7cf53 old v) else v
theorem jnV_m {way old v : Int32} : (if ¬ way = 0 then (if ¬ way = (1 : Int32) then (if ¬ way = (2 : Int32) then fX12_least old v else (if 0 ≤ (old - v) then old - v else (0 : Int32))) else (if old ≤ v then v else old)) else v) = jnV way old v := by
  unfold jnV
  have e1 : fX12_least old v = fJ9_min_7cf53 old v := by
    unfold fX12_least fJ9_min_7cf53
    by_cases q : v ≤ old
    · by_cases q2 : v < old
      · rw [if_pos q, if_pos q2]
      · rw [if_pos q, if_neg q2, i_eq]
        rw [i_le] at q
        rw [i_lt] at q2
        omega
    · rw [if_neg q, if_neg (fun z => q (by rw [i_le]; rw [i_lt] at z; omega))]
  have e2 : (if 0 ≤ (old - v) then old - v else (0 : Int32)) = fJ9_max_7cf53 0 (old - v) := by
    unfold fJ9_max_7cf53
    by_cases q : 0 ≤ old - v
    · by_cases q2 : 0 < old - v
      · rw [if_pos q, if_pos q2]
      · rw [if_pos q, if_neg q2, i_eq]
        rw [i_le] at q
        rw [i_lt] at q2
        omega
    · rw [if_neg q, if_neg (fun z => q (by rw [i_le]; rw [i_lt] at z; omega))]
  have e3 : (if old ≤ v then v else old) = fJ9_max_7cf53 old v := by
    unfold fJ9_max_7cf53
    by_cases q : old ≤ v
    · by_cases q2 : old < v
      · rw [if_pos q, if_pos q2]
      · rw [if_pos q, if_neg q2, i_eq]
        rw [i_le] at q
        rw [i_lt] at q2
        omega
    · rw [if_neg q, if_neg (fun z => q (by rw [i_le]; rw [i_lt] at z; omega))]
  rw [e1, e2, e3]
theorem jnV_r {way old v : Int32} (h1 : rg old 0 255) (h2 : rg v 0 255) : rg (jnV way old v) 0 255 := by
  have z1 := rg_i.mp h1
  have z2 := rg_i.mp h2
  have e0 : (0 : Int32).toInt = 0 := rfl
  have e5 : (255 : Int32).toInt = 255 := by decide
  have sb := i_sub (a := old) (b := v) (by omega) (by omega)
  unfold jnV fJ9_min_7cf53 fJ9_max_7cf53
  rw [rg_i]
  split
  · split
    · split
      · split <;> omega
      · by_cases q : 0 < old - v
        · rw [if_pos q, sb]
          rw [i_lt, sb, e0] at q
          omega
        · rw [if_neg q]; omega
    · split <;> omega
  · omega
def jnR (way : Int32) (w h : Nat) (old v : Nat → Int32) : Nat → Int32 := cpT old (fun k => jnV way (old k) (v k)) 0 (h * w)
theorem join0 {s : e_S} {g : ps_G} {w h : Nat} {way : Int32} (hw : w ≤ 24) (hh : h ≤ 24) (e0 : s.1 89 0 = Int32.ofNat w) (e1 : s.1 89 1 = Int32.ofNat h) : jX11_select_216 (e_g s g) 8 way = some (.inr (Int32.ofNat (cnt (abC (jnR way w h (s.2.1 90) (s.2.1 91))) (w * h))), e_g (sA s 90 (jnR way w h (s.2.1 90) (s.2.1 91))) g) := by
  have hwh := wh_le hw hh
  have lp := fillN (fun F => e_g (sA s 90 F) g) 0 (w * h) (fun k => jnV way (s.2.1 90 k) (s.2.1 91 k)) (s.2.1 90) (bO := fun t => bX0_join_2 89 way t.1 t.2) (fun F i hi hF => ?_) (fun F => ?_)
  · rw [sA_id] at lp
    have eR : cpT (s.2.1 90) (fun k => jnV way (s.2.1 90 k) (s.2.1 91 k)) 0 (w * h) = jnR way w h (s.2.1 90) (s.2.1 91) := by unfold jnR; rw [Nat.mul_comm h w]
    rw [eR] at lp
    have ab := above11 (s := sA s 90 (jnR way w h (s.2.1 90) (s.2.1 91))) (g := g) hw hh (by rw [F_sA]; exact e0) (by rw [F_sA]; exact e1)
    rw [A_sA, if_pos rfl] at ab
    unfold jX11_select_216 fX0_join
    rw [f8_7, ob_n, ob_n, ob89, ob_n, lp, ob_n, ob_n, f8_7, ob_n, ob_n, ob89, ob_n, ab, ob_n]
  · rw [Nat.zero_add] at hF
    have v91 : (sA s 90 F).2.1 91 = s.2.1 91 := by rw [A_sA, if_neg (by decide)]
    have v90 : (sA s 90 F).2.1 90 = F := by rw [A_sA, if_pos rfl]
    show bX0_join_2 _ _ _ _ = _
    unfold bX0_join_2
    dsimp only
    rw [f89_0, F_sA, e0, ob_n, f89_1, F_sA, e1, ob_n, n_mul, if_neg (nle hi (by omega)), f89_3, ob_n, ob_n, rdI t91 (by omega), ob_n, f89_2, ob_n, ob_n, rdI t90 (by omega), ob_n, ob_n, ob_n, v91, v90, hF, wrI t90 (by omega) (by omega), ob_n, v90, sA_sA, n_suc, Nat.zero_add]
    rfl
  · show bX0_join_2 _ _ _ _ = _
    unfold bX0_join_2
    dsimp only
    rw [f89_0, F_sA, e0, ob_n, f89_1, F_sA, e1, ob_n, n_mul, if_pos (nlr (by omega))]
theorem join12 {s : e_S} {g : ps_G} {w h : Nat} {wh way a b c d : Int32} {V : Nat → Int32} (hw : w ≤ 24) (hh : h ≤ 24) (e0 : s.1 139 13 = Int32.ofNat w) (e1 : s.1 139 14 = Int32.ofNat h) (hV : ∀ F y x, y < h → x < w → bX12_select_141 139 wh way a b c d (Int32.ofNat y) (Int32.ofNat x) (e_g (sA s 155 F) g) = jX12_select_289_141 (e_g (sA s 155 F) g) 139 wh way a b c d (Int32.ofNat y) (Int32.ofNat x) (Int32.ofNat (y * w + x)) (V (y * w + x))) : jX12_select_126 (e_g s g) 139 wh way a b c d = some (Int32.ofNat (cnt (abC (jnR way w h (s.2.1 155) V)) (w * h)), e_g (sA s 155 (jnR way w h (s.2.1 155) V)) g) := by
  have hwh := wh_le hw hh
  have lp := fill1 (fun F => e_g (sA s 155 F) g) 0 w h (fun k => jnV way (s.2.1 155 k) (V k)) (s.2.1 155) (bI := fun y t => bX12_select_141 139 wh way a b c d y t.1 t.2) (bO := fun t => bX12_select_129 139 wh way a b c d t.1 t.2) (fun F y x hy hx hF => ?_) (fun F y hy => ?_) (fun F y hy => ?_) (fun F => ?_)
  · rw [sA_id] at lp
    have ab := above12 (s := sA s 155 (jnR way w h (s.2.1 155) V)) (g := g) hw hh (by rw [F_sA]; exact e0) (by rw [F_sA]; exact e1)
    rw [A_sA, if_pos rfl] at ab
    have lp' : q_lp (fun t => bX12_select_129 139 wh way a b c d t.1 t.2) ((0 : Int32), e_g s g) = some (e_g (sA s 155 (jnR way w h (s.2.1 155) V)) g) := lp
    unfold jX12_select_126
    rw [lp', ob_n, ob139, ob_n, ab, ob_n]
  · have hlt := at_lt hx hy
    have fv : F (y * w + x) = s.2.1 155 (y * w + x) := by rw [hF, cpT_out (by omega)]
    show bX12_select_141 _ _ _ _ _ _ _ _ _ _ = _
    rw [hV F y x hy hx]
    unfold jX12_select_289_141
    rw [f139_31, ob_n, ob_n, rdI t155 (by omega), ob_n, ob_n, ob_n, A_sA, if_pos rfl, fv, jnV_m, wrI t155 (by omega) (by omega), ob_n, A_sA, if_pos rfl, sA_sA, n_suc, Nat.zero_add]
  · show bX12_select_141 _ _ _ _ _ _ _ _ _ _ = _
    unfold bX12_select_141
    dsimp only
    rw [f139_13, F_sA, e0, ob_n, if_pos (nlr (by omega))]
  · show bX12_select_129 _ _ _ _ _ _ _ _ _ = _
    unfold bX12_select_129
    dsimp only
    rw [f139_14, F_sA, e1, ob_n, if_neg (nle hy (by omega))]
  · show bX12_select_129 _ _ _ _ _ _ _ _ _ = _
    unfold bX12_select_129
    dsimp only
    rw [f139_14, F_sA, e1, ob_n, if_pos (nlr (by omega))]
theorem jnR_c {way : Int32} {w h : Nat} {o o' v v' : Nat → Int32} (hwh : w * h ≤ 576) (h1 : ∀ k, k < 576 → o k = o' k ∧ rg (o' k) 0 255) (h2 : ∀ k, k < w * h → v k = v' k ∧ rg (v' k) 0 255) : ∀ k, k < 576 → jnR way w h o v k = jnR way w h o' v' k ∧ rg (jnR way w h o' v' k) 0 255 := by
  intro k hk
  unfold jnR
  by_cases q : k < h * w
  · have q' : k < w * h := by rw [Nat.mul_comm]; exact q
    have c1 := cpT_in (A := o) (N := fun k => jnV way (o k) (v k)) (b := 0) q
    have c2 := cpT_in (A := o') (N := fun k => jnV way (o' k) (v' k)) (b := 0) q
    rw [Nat.zero_add] at c1 c2
    rw [c1, c2, (h1 k hk).1, (h2 k q').1]
    exact ⟨rfl, jnV_r (h1 k hk).2 (h2 k q').2⟩
  · rw [cpT_out (by omega), cpT_out (by omega)]
    exact h1 k hk
/-- what is chosen anew is kept: T the class's state with its shape, Z the reference's -/
theorem sel_fin {hs : List ps_H} {c : Option ((String ⊕ Int32) × ps_G)} {m : ps_G → Option (Int32 × ps_G)} {s T : e_S} {g : ps_G} {w h : Nat} {way : Int32} {V : Nat → Int32} (hT : Rel T g) (h7 : G7 T w h) (hc : c = jX11_select_216 (e_g T g) 8 way) (hV : ∀ k, k < w * h → T.2.1 91 k = V k ∧ rg (V k) 0 255) (hm : ∀ S, (∀ j, ¬ j = 90 → S.2.1 j = T.2.1 j) → S.1 = T.1 → S.2.2.1 = T.2.2.1 → ∃ Z, m (e_g S g) = some (Int32.ofNat (cnt (abC (jnR way w h (T.2.1 155) V)) (w * h)), e_g (sA Z 155 (jnR way w h (T.2.1 155) V)) g) ∧ Sm S Z ∧ Z.1 139 0 = 0 ∧ Z.2.2.2 = S.2.2.2) : KI (Option.bind (q_ob 11 (e_g s g) 8) fun _ => q_wr hs c (fun v g1 => Option.bind (q_wL g1 194 (0 : Int32) (Int32.toInt64 v)) fun g2 => some ((0 : Int32), g2))) m g := by
  obtain ⟨d1, d2, d3, d4, d5, d6, d7, d8, d9⟩ := id h7
  have hwh := wh_le d2 d4
  have rc := jnR_c (way := way) (w := w) (h := h) hwh d9 hV
  have cc : cnt (abC (jnR way w h (T.2.1 90) (T.2.1 91))) (w * h) = cnt (abC (jnR way w h (T.2.1 155) V)) (w * h) := abC_c (fun k hk => (rc k (by omega)).1)
  rw [join0 d2 d4 d7 d8, cc] at hc
  obtain ⟨Z, m1, m2, m3, m4⟩ := hm (pO (sA T 90 (jnR way w h (T.2.1 90) (T.2.1 91))) (Int32.toInt64 (Int32.ofNat (cnt (abC (jnR way w h (T.2.1 155) V)) (w * h))))) (fun j hj => by unfold pO; rw [A_sL, A_sA, if_neg hj]) (by unfold pO; rw [F_sL, F_sA]) (by unfold pO; rw [R_sL, R_sA])
  refine KI_r hc m1 ?_ ?_ (rel_sm (rel_ch hT rc) (sm_A2 (sm_tr ?_ m2))) ext_rf
  · rw [F_sA]; exact m3
  · rw [L_sA]; exact m4
  · unfold pO
    exact sm_L sm_rf
