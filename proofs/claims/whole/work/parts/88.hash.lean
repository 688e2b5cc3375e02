-- needs: 07 10 13 14 20 21 22 23 24 25 26 27 32 38 41 43 46 47 48 50 52 53 54 57 60 61 70 71 72 73 74 80 81 82 83 84 85 86 87
theorem rel_fresh {s : e_S} {g : ps_G} {V : Nat → Int32} (hR : Rel s g) (hV : ∀ w h, G7 s w h → ∀ k, k < w * h → V k = CM (s.2.1 142) (s.2.1 150) (s.2.1 152) (s.2.1 153) (s.2.1 154) (s.1 139 25) (s.1 139 26) w h k) : Rel (sF (sA s 86 V) 20 5 1) g := by
  obtain ⟨h1, h2, h3, h4, h5, h6, ⟨w, h, h7, h8, h9⟩, h10, h11⟩ := hR
  refine ⟨?_, ?_, ?_, ?_, ?_, ?_, ⟨w, h, ?_, ?_, ?_⟩, ?_, ?_⟩
  · unfold G1 at h1 ⊢; simp (decide := true) only [ob_n, b2_n, tc_rn, tc_ln, F_sF, A_sF, R_sF, L_sF, F_sA, A_sA, R_sA, L_sA, F_sR, A_sR, R_sR, L_sR, F_sL, A_sL, R_sL, L_sL, and_true, true_and, and_false, false_and, and_self, reduceIte, sF_sF, sA_sA, false_or, or_false, true_or, or_true, not_false_eq_true, not_true_eq_false, decide_true, decide_false, Bool.true_or, Bool.or_true, Bool.false_and, Bool.true_and, Bool.false_or, Bool.or_false, Bool.and_true, Bool.and_false]; exact h1
  · unfold G2 at h2 ⊢; simp (decide := true) only [ob_n, b2_n, tc_rn, tc_ln, F_sF, A_sF, R_sF, L_sF, F_sA, A_sA, R_sA, L_sA, F_sR, A_sR, R_sR, L_sR, F_sL, A_sL, R_sL, L_sL, and_true, true_and, and_false, false_and, and_self, reduceIte, sF_sF, sA_sA, false_or, or_false, true_or, or_true, not_false_eq_true, not_true_eq_false, decide_true, decide_false, Bool.true_or, Bool.or_true, Bool.false_and, Bool.true_and, Bool.false_or, Bool.or_false, Bool.and_true, Bool.and_false]; exact h2
  · unfold G3 at h3 ⊢; simp (decide := true) only [ob_n, b2_n, tc_rn, tc_ln, F_sF, A_sF, R_sF, L_sF, F_sA, A_sA, R_sA, L_sA, F_sR, A_sR, R_sR, L_sR, F_sL, A_sL, R_sL, L_sL, and_true, true_and, and_false, false_and, and_self, reduceIte, sF_sF, sA_sA, false_or, or_false, true_or, or_true, not_false_eq_true, not_true_eq_false, decide_true, decide_false, Bool.true_or, Bool.or_true, Bool.false_and, Bool.true_and, Bool.false_or, Bool.or_false, Bool.and_true, Bool.and_false]; exact h3
  · unfold G4 at h4 ⊢; simp (decide := true) only [ob_n, b2_n, tc_rn, tc_ln, F_sF, A_sF, R_sF, L_sF, F_sA, A_sA, R_sA, L_sA, F_sR, A_sR, R_sR, L_sR, F_sL, A_sL, R_sL, L_sL, and_true, true_and, and_false, false_and, and_self, reduceIte, sF_sF, sA_sA, false_or, or_false, true_or, or_true, not_false_eq_true, not_true_eq_false, decide_true, decide_false, Bool.true_or, Bool.or_true, Bool.false_and, Bool.true_and, Bool.false_or, Bool.or_false, Bool.and_true, Bool.and_false]; exact h4
  · unfold G5 at h5 ⊢; simp (decide := true) only [ob_n, b2_n, tc_rn, tc_ln, F_sF, A_sF, R_sF, L_sF, F_sA, A_sA, R_sA, L_sA, F_sR, A_sR, R_sR, L_sR, F_sL, A_sL, R_sL, L_sL, and_true, true_and, and_false, false_and, and_self, reduceIte, sF_sF, sA_sA, false_or, or_false, true_or, or_true, not_false_eq_true, not_true_eq_false, decide_true, decide_false, Bool.true_or, Bool.or_true, Bool.false_and, Bool.true_and, Bool.false_or, Bool.or_false, Bool.and_true, Bool.and_false]; exact h5
  · unfold G6 at h6 ⊢; simp (decide := true) only [ob_n, b2_n, tc_rn, tc_ln, F_sF, A_sF, R_sF, L_sF, F_sA, A_sA, R_sA, L_sA, F_sR, A_sR, R_sR, L_sR, F_sL, A_sL, R_sL, L_sL, and_true, true_and, and_false, false_and, and_self, reduceIte, sF_sF, sA_sA, false_or, or_false, true_or, or_true, not_false_eq_true, not_true_eq_false, decide_true, decide_false, Bool.true_or, Bool.or_true, Bool.false_and, Bool.true_and, Bool.false_or, Bool.or_false, Bool.and_true, Bool.and_false]; exact h6
  · unfold G7 at h7 ⊢; simp (decide := true) only [ob_n, b2_n, tc_rn, tc_ln, F_sF, A_sF, R_sF, L_sF, F_sA, A_sA, R_sA, L_sA, F_sR, A_sR, R_sR, L_sR, F_sL, A_sL, R_sL, L_sL, and_true, true_and, and_false, false_and, and_self, reduceIte, sF_sF, sA_sA, false_or, or_false, true_or, or_true, not_false_eq_true, not_true_eq_false, decide_true, decide_false, Bool.true_or, Bool.or_true, Bool.false_and, Bool.true_and, Bool.false_or, Bool.or_false, Bool.and_true, Bool.and_false]; exact h7
  · have hv := hV w h h7
    unfold G8 at h8 ⊢
    simp (decide := true) only [ob_n, b2_n, tc_rn, tc_ln, F_sF, A_sF, R_sF, L_sF, F_sA, A_sA, R_sA, L_sA, F_sR, A_sR, R_sR, L_sR, F_sL, A_sL, R_sL, L_sL, and_true, true_and, and_false, false_and, and_self, reduceIte, sF_sF, sA_sA, false_or, or_false, true_or, or_true, not_false_eq_true, not_true_eq_false, decide_true, decide_false, Bool.true_or, Bool.or_true, Bool.false_and, Bool.true_and, Bool.false_or, Bool.or_false, Bool.and_true, Bool.and_false]
    exact ⟨h8.1, h8.2.1, h8.2.2.1, h8.2.2.2.1, h8.2.2.2.2.1, fun _ => hv⟩
  · unfold G10 at h9 ⊢; simp (decide := true) only [ob_n, b2_n, tc_rn, tc_ln, F_sF, A_sF, R_sF, L_sF, F_sA, A_sA, R_sA, L_sA, F_sR, A_sR, R_sR, L_sR, F_sL, A_sL, R_sL, L_sL, and_true, true_and, and_false, false_and, and_self, reduceIte, sF_sF, sA_sA, false_or, or_false, true_or, or_true, not_false_eq_true, not_true_eq_false, decide_true, decide_false, Bool.true_or, Bool.or_true, Bool.false_and, Bool.true_and, Bool.false_or, Bool.or_false, Bool.and_true, Bool.and_false]; exact h9
  · unfold G9 at h10 ⊢; simp (decide := true) only [ob_n, b2_n, tc_rn, tc_ln, F_sF, A_sF, R_sF, L_sF, F_sA, A_sA, R_sA, L_sA, F_sR, A_sR, R_sR, L_sR, F_sL, A_sL, R_sL, L_sL, and_true, true_and, and_false, false_and, and_self, reduceIte, sF_sF, sA_sA, false_or, or_false, true_or, or_true, not_false_eq_true, not_true_eq_false, decide_true, decide_false, Bool.true_or, Bool.or_true, Bool.false_and, Bool.true_and, Bool.false_or, Bool.or_false, Bool.and_true, Bool.and_false]; exact h10
  · unfold G11 at h11 ⊢; simp (decide := true) only [ob_n, b2_n, tc_rn, tc_ln, F_sF, A_sF, R_sF, L_sF, F_sA, A_sA, R_sA, L_sA, F_sR, A_sR, R_sR, L_sR, F_sL, A_sL, R_sL, L_sL, and_true, true_and, and_false, false_and, and_self, reduceIte, sF_sF, sA_sA, false_or, or_false, true_or, or_true, not_false_eq_true, not_true_eq_false, decide_true, decide_false, Bool.true_or, Bool.or_true, Bool.false_and, Bool.true_and, Bool.false_or, Bool.or_false, Bool.and_true, Bool.and_false]; exact h11
theorem sm_vw {d : Nat} {s s' : e_S} (h : Vw d s s') : Sm s s' := by
  refine ⟨fun j hj => ?_, fun p hp => ?_, fun j hj => ?_⟩
  · have nn : ∀ j, j ∈ reA → ¬ j = 19 ∧ ¬ j = 85 ∧ ¬ (22 ≤ j ∧ j < 53) ∧ ¬ (54 ≤ j ∧ j < 85) := by decide
    have n := nn j hj
    exact h.2.2.2 j n.1 n.2.1 (fun z => n.2.2.1 ⟨by omega, z.2⟩) (fun z => n.2.2.2 ⟨by omega, z.2⟩)
  · have nn : ∀ p, p ∈ reF → ¬ (p.1 = 14 ∧ (p.2 = 8 ∨ p.2 = 9)) := by decide
    exact h.2.2.1 p.1 p.2 (nn p hp)
  · funext k
    exact h.2.1 j k (by omega)
theorem sm_cs {s : e_S} {f e t u : Nat → Int32} : Sm s (cs s f e t u) := sm_A (sm_A (sm_A (sm_A sm_rf (by decide)) (by decide)) (by decide)) (by decide)
theorem cpOk_s {s s' : e_S} {w h sz : Nat} {od : Nat → Int32} {o : Nat → Nat} (hk : CpOk s w h sz od o) (q : Sm s s') : CpOk s' w h sz od o ∧ ∀ m P, vwF s' w h sz o m P = vwF s w h sz o m P := by
  have a1 : s'.2.1 142 = s.2.1 142 := q.1 142 (by decide)
  have a2 : s'.2.1 150 = s.2.1 150 := q.1 150 (by decide)
  have a3 : s'.2.1 152 = s.2.1 152 := q.1 152 (by decide)
  have a4 : s'.2.1 153 = s.2.1 153 := q.1 153 (by decide)
  have a5 : s'.2.1 154 = s.2.1 154 := q.1 154 (by decide)
  have b1 : s'.1 139 13 = s.1 139 13 := q.2.1 (139, 13) (by decide)
  have b2 : s'.1 139 14 = s.1 139 14 := q.2.1 (139, 14) (by decide)
  have b3 : s'.1 139 25 = s.1 139 25 := q.2.1 (139, 25) (by decide)
  have b4 : s'.1 139 26 = s.1 139 26 := q.2.1 (139, 26) (by decide)
  refine ⟨?_, fun m P => vwF_s a1 ?_ m P⟩
  · unfold CpOk at hk ⊢
    rw [a1, a3, a4, a5, b1, b2, b3]; exact hk
  · unfold aD
    rw [a2, a3, a4, a5, b3, b4]
theorem cpOk_r {s : e_S} {g : ps_G} {a w h : Nat} (hR : Rel s g) (h7 : G7 s w h) (f9 : StN g a w h (s.2.1 142)) : ∃ la oa sz ly od o, StD g a w h (s.2.1 142) la oa sz ly od o ∧ CpOk s w h sz od o := by
  obtain ⟨h1, h2, h3, h4, -⟩ := id hR
  obtain ⟨la, oa, sz, ly, od, o, hS⟩ := stN_d f9
  refine ⟨la, oa, sz, ly, od, o, hS, f9.1, hS.2.2.2.2.2.2.2.2.2.2.2.2.1, fun l hl h1 => ?_, h7.1, h7.2.2.1, h7.2.1, h7.2.2.2.1, h7.2.2.2.2.1, h7.2.2.2.2.2.1, ?_, cuN_4 h4⟩
  · obtain ⟨b, -, hL⟩ := hS.ly hl h1
    exact rwN_l hL
  · have := rg_i.mp h3.2.2.1
    rw [show (1 : Int32).toInt = 1 from rfl] at this
    omega
theorem aC_r {s : e_S} {g : ps_G} {w h : Nat} (hR : Rel s g) : Kc s ∧ ∀ r V k, RwN r → 3 < r 1 → aC s w h r V k = aD s w h r V k := by
  obtain ⟨h1, h2, h3, h4, -⟩ := hR
  refine ⟨⟨cuN_5 h4, ?_⟩, fun r V k hr h3' => ?_⟩
  · rw [h3.2.1]
    have := rg_i.mp h3.2.2.1
    rw [show (1 : Int32).toInt = 1 from rfl] at this
    omega
  · unfold aC aD AD
    by_cases q : r 1 = 4
    · obtain ⟨p, ep, hp⟩ := rg_cases (n := 7) (hr.2.2.2.2.2.2.1 q) (by omega)
      rw [if_pos q, if_pos q, ep, n_int (by omega), Int.toNat_natCast, cuV_4 h4 (by omega)]
    · rw [if_neg q, if_neg q, h3.2.1, h3.2.2.2.1]
      exact flV_c (fun k hk => (h3.1 k hk).1)
/-- what seeing leaves as it was -/
def Sf (s s' : e_S) : Prop := s'.2.2.2 = s.2.2.2 ∧ (∀ j, ¬ j = 14 → s'.2.2.1 j = s.2.2.1 j) ∧ (∀ i j, ¬ i = 14 → ¬ (i = 20 ∧ j = 5) → s'.1 i j = s.1 i j) ∧ ∀ j, 87 ≤ j → s'.2.1 j = s.2.1 j
theorem seen11 {s : e_S} {g : ps_G} {a w h : Nat} (hR : Rel s g) (h7 : G7 s w h) (h8 : G8 s w h) (f9 : StN g a w h (s.2.1 142)) : ∃ s' sz od o, CpOk s w h sz od o ∧ fX10_seen (e_g s g) 20 a = some (some 86, e_g s' g) ∧ (∀ k, k < w * h → s'.2.1 86 k = vwF s w h sz o 31 (-1) k) ∧ Sf s s' ∧ Rel s' g ∧ CpOk s' w h sz od o ∧ (∀ k, k < w * h → vwF s' w h sz o 31 (-1) k = vwF s w h sz o 31 (-1) k) := by
  have hn := wh_le h7.2.1 h7.2.2.2.1
  obtain ⟨la, oa, sz, ly, od, o, hS, hk⟩ := cpOk_r hR h7 f9
  have h11 := hR.2.2.2.2.2.2.2.2
  have cm := fun {k} (hkk : k < w * h) => CM_v hk hkk
  unfold fX10_seen
  rw [f20_5, ob_n]
  by_cases q : s.1 20 5 = 0
  · have e0 : ∀ s', q_len (e_g s' g) 0 = some 0 := fun s' => d_len (n := 0) (Or.inr (Or.inl (by omega))) (h11.2.2.2.1 0 (by omega))
    have st := fun s' => stW (s := s') f9
    obtain ⟨kc, hA⟩ := aC_r (w := w) (h := h) hR
    obtain ⟨s1, v1, v2, v3⟩ := view11 hS hk e0 (fun s' => (st s').1) (fun s' => (st s').2.1) 30 (-1) 0 (by omega) (by omega) (fun l hl h1 h2 => Nat.zero_le _) s kc hA
    rw [show 22 + 0 = 22 from rfl] at v3
    have sm := sm_vw v2
    have e86 : s1.2.1 86 = s.2.1 86 := sm.1 86 (by decide)
    have cp : q_cp (e_g s1 g) 22 0 86 0 576 = some (e_g (sA s1 86 (cpT (s1.2.1 86) (s1.2.1 22) 0 576)) g) := e_cp t22 t86 (by omega) (by omega)
    have v1' : fX10_viewOf 31 (e_g s g) 20 a (-1) 0 = some (e_g s1 g) := v1
    have r0 : ∀ s', q_aR (e_g s' g) 21 0 = some (some 22) := fun s' => rV (d := 0) (by omega)
    have k86 : ∀ k, k < w * h → cpT (s1.2.1 86) (s1.2.1 22) 0 576 k = vwF s w h sz o 31 (-1) k := fun k hkk => by
      have := cpT_in (A := s1.2.1 86) (N := s1.2.1 22) (b := 0) (n := 576) (k := k) (by omega)
      rw [Nat.zero_add] at this
      rw [this]; exact v3 k hkk
    have R1 := rel_sm hR sm
    have ck := cpOk_s hk sm
    have R2 : Rel (sF (sA s1 86 (cpT (s1.2.1 86) (s1.2.1 22) 0 576)) 20 5 1) g := rel_fresh R1 (fun w' h' q7 k hkk => by
      have e13 : s1.1 139 13 = s.1 139 13 := sm.2.1 (139, 13) (by decide)
      have e14 : s1.1 139 14 = s.1 139 14 := sm.2.1 (139, 14) (by decide)
      have ew : w' = w := by
        have := q7.2.2.2.2.1
        rw [e13, h7.2.2.2.2.1] at this
        have a1 := q7.2.1
        have a2 := h7.2.1
        exact ((n_eq (by omega) (by omega)).mp this).symm
      have eh : h' = h := by
        have := q7.2.2.2.2.2.1
        rw [e14, h7.2.2.2.2.2.1] at this
        have a1 := q7.2.2.2.1
        have a2 := h7.2.2.2.1
        exact ((n_eq (by omega) (by omega)).mp this).symm
      subst ew eh
      rw [k86 k hkk, CM_v ck.1 hkk, ck.2])
    have sf : Sf s (sF (sA s1 86 (cpT (s1.2.1 86) (s1.2.1 22) 0 576)) 20 5 1) := by
      refine ⟨by simp (decide := true) only [ob_n, b2_n, tc_rn, tc_ln, F_sF, A_sF, R_sF, L_sF, F_sA, A_sA, R_sA, L_sA, F_sR, A_sR, R_sR, L_sR, F_sL, A_sL, R_sL, L_sL, and_true, true_and, and_false, false_and, and_self, reduceIte, sF_sF, sA_sA, false_or, or_false, true_or, or_true, not_false_eq_true, not_true_eq_false, decide_true, decide_false, Bool.true_or, Bool.or_true, Bool.false_and, Bool.true_and, Bool.false_or, Bool.or_false, Bool.and_true, Bool.and_false]; exact v2.1, fun j hj => ?_, fun i j h1 h2 => ?_, fun j hj => ?_⟩
      · rw [R_sF, R_sA]
        funext k
        exact v2.2.1 j k (fun z => hj z.1)
      · rw [F_sF, if_neg h2, F_sA]
        exact v2.2.2.1 i j (fun z => h1 z.1)
      · rw [A_sF, A_sA, if_neg (by omega)]
        exact v2.2.2.2 j (by omega) (by omega) (by omega) (by omega)
    have sm2 : ∀ j, j ∈ [142, 150, 152, 153, 154] → (sF (sA s1 86 (cpT (s1.2.1 86) (s1.2.1 22) 0 576)) 20 5 1).2.1 j = s.2.1 j := fun j hj => sf.2.2.2 j (by
      have : ∀ j, j ∈ [142, 150, 152, 153, 154] → 87 ≤ j := by decide
      exact this j hj)
    refine ⟨sF (sA s1 86 (cpT (s1.2.1 86) (s1.2.1 22) 0 576)) 20 5 1, sz, od, o, hk, ?_, fun k hkk => ?_, sf, R2, ?_, fun k hkk => ?_⟩
    · rw [if_neg (fun z => z q), ob20, ob_n, v1', ob_n, f20_1, ob_n, ob_n, r0, ob_n, ob_n, f20_4, ob_n, ob_n, cp, ob_n, w20_5 (Or.inr rfl), ob_n]
      unfold jX10_seen_37
      rw [f20_4, ob_n]
    · rw [A_sF, A_sA, if_pos rfl]; exact k86 k hkk
    · unfold CpOk at hk ⊢
      rw [sm2 142 (by decide), sm2 152 (by decide), sm2 153 (by decide), sm2 154 (by decide), sf.2.2.1 139 13 (by omega) (by omega), sf.2.2.1 139 14 (by omega) (by omega), sf.2.2.1 139 25 (by omega) (by omega)]
      exact hk
    · refine congrFun (vwF_s (sm2 142 (by decide)) ?_ 31 (-1)) k
      unfold aD
      rw [sm2 152 (by decide), sm2 153 (by decide), sm2 154 (by decide), sm2 150 (by decide), sf.2.2.1 139 25 (by omega) (by omega), sf.2.2.1 139 26 (by omega) (by omega)]
  · have q1 : s.1 20 5 = 1 := h8.2.2.2.2.2.1.resolve_left q
    refine ⟨s, sz, od, o, hk, ?_, fun k hkk => ?_, ⟨rfl, fun _ _ => rfl, fun _ _ _ _ => rfl, fun _ _ => rfl⟩, hR, hk, fun _ _ => rfl⟩
    · rw [if_pos q]
      unfold jX10_seen_37
      rw [f20_4, ob_n]
    · rw [h8.2.2.2.2.2.2 q1 k hkk]; exact cm hkk
def hsV (V : Nat → Int32) : Nat → Int32
  | 0 => 0
  | i + 1 => 31 * hsV V i + V i
theorem hsV_c {V V' : Nat → Int32} : ∀ n, (∀ k, k < n → V k = V' k) → hsV V n = hsV V' n
  | 0, _ => rfl
  | n + 1, h => by
    show 31 * hsV V n + V n = 31 * hsV V' n + V' n
    rw [hsV_c n (fun k hk => h k (by omega)), h n (by omega)]
theorem K_hash {s : e_S} {g : ps_G} (hR : Rel s g) : ∃ v s1 s2, fX11_hash (e_g s g) 8 = some (v, e_g s1 g) ∧ fX12_hash (e_g s1 g) 139 = some (v, e_g s2 g) ∧ Rel s2 g ∧ s2.2.2.2 = s.2.2.2 := by
  obtain ⟨h1, h2, h3, h4, h5, h6, ⟨w, h, h7, h8, h9⟩, h10, h11⟩ := id hR
  obtain ⟨a, st, pc, uc, f1, f2, f3, f4, f5, f6, f7, f8, f9, f10, f11, f12⟩ := h9
  obtain ⟨d1, d2, d3, d4, d5, d6, d7, d8, d9⟩ := id h7
  have hn := wh_le d2 d4
  obtain ⟨s1, sz, od, o, hk, c1, c2, c3, c4, c5, c6⟩ := seen11 hR h7 h8 f9
  have sm : Sm s1 (sF s1 139 0 0) := sm_F sm_rf (by decide)
  have ck := cpOk_s c5 sm
  obtain ⟨F, E, T, U, m1, m2⟩ := composeAll12 (g := g) ck.1
  have e3 : s1.2.2.1 8 0 = some a := by rw [c3.2.1 8 (by omega)]; exact f3
  obtain ⟨sw, sh, -, -⟩ := stW (s := s1) f9
  refine ⟨hsV (s1.2.1 86) (w * h), s1, cs (sF s1 139 0 0) F E T U, ?_, ?_, rel_sm (rel_thrown c4) sm_cs, ?_⟩
  · have loop : q_lp (fun x => bX11_hash_16 (e_g s1 g) 8 (some 86) x.1 x.2) ((0 : Int32), (0 : Int32)) = some (hsV (s1.2.1 86) (w * h)) := by
      refine lp_0 (fun i => (hsV (s1.2.1 86) i, Int32.ofNat i)) (w * h) rfl (fun i hi => ?_) ?_
      · show bX11_hash_16 _ _ _ _ _ = _
        unfold bX11_hash_16
        rw [f8_0, e3, ob_n, ob_n, sw, ob_n, ob_n, ob_n, sh, ob_n, n_mul, if_neg (nle hi (by omega)), ob_n, rdI t86 (by omega), ob_n, n_suc]
        rfl
      · show bX11_hash_16 _ _ _ _ _ = _
        unfold bX11_hash_16
        rw [f8_0, e3, ob_n, ob_n, sw, ob_n, ob_n, ob_n, sh, ob_n, n_mul, if_pos (nlr (by omega))]
    unfold fX11_hash jX11_hash_14
    rw [f8_6, ob_n, ob_n, f8_0, f3, ob_n, ob_n, ob20, ob_n, c1, b2_n, loop, ob_n]
  · have loop : q_lp (fun x => bX12_hash_13 (e_g (cs (sF s1 139 0 0) F E T U) g) 139 x.1 x.2) ((0 : Int32), (0 : Int32)) = some (hsV F (w * h)) := by
      refine lp_0 (fun i => (hsV F i, Int32.ofNat i)) (w * h) rfl (fun i hi => ?_) ?_
      · show bX12_hash_13 _ _ _ _ = _
        unfold bX12_hash_13
        rw [f139_13, cs_F, ck.1.2.2.2.2.2.2.2.1, ob_n, f139_14, cs_F, ck.1.2.2.2.2.2.2.2.2.1, ob_n, n_mul, if_neg (nle hi (by omega)), f139_16, ob_n, ob_n, cs_r145 (by omega), ob_n, n_suc]
        rfl
      · show bX12_hash_13 _ _ _ _ = _
        unfold bX12_hash_13
        rw [f139_13, cs_F, ck.1.2.2.2.2.2.2.2.1, ob_n, f139_14, cs_F, ck.1.2.2.2.2.2.2.2.2.1, ob_n, n_mul, if_pos (nlr (by omega))]
    unfold fX12_hash
    rw [w139_0, ob_n, ob139, ob_n, m1, ob_n, loop, ob_n]
    rw [hsV_c (V := F) (V' := s1.2.1 86) (w * h) (fun k hkk => by rw [m2 k hkk, ck.2, c6 k hkk, c2 k hkk])]
  · unfold cs
    simp (decide := true) only [ob_n, b2_n, tc_rn, tc_ln, F_sF, A_sF, R_sF, L_sF, F_sA, A_sA, R_sA, L_sA, F_sR, A_sR, R_sR, L_sR, F_sL, A_sL, R_sL, L_sL, and_true, true_and, and_false, false_and, and_self, reduceIte, sF_sF, sA_sA, false_or, or_false, true_or, or_true, not_false_eq_true, not_true_eq_false, decide_true, decide_false, Bool.true_or, Bool.or_true, Bool.false_and, Bool.true_and, Bool.false_or, Bool.or_false, Bool.and_true, Bool.and_false]
    exact c3.1
