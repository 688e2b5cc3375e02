-- needs: 07 10 13 14 20 21 22 23 24 25 26 27 32 33 34 38 39 40 41
/-! ===== set ===== -/
theorem rg01 {v : Int32} (h : rg v 0 1 = true) : v = 0 ∨ v = 1 := by
  have q := rg_i.mp h
  have q1 : 0 ≤ v.toInt := q.1
  have q2 : v.toInt ≤ 1 := q.2
  by_cases z : v.toInt = 0
  · exact Or.inl (i_eq.mpr z)
  · exact Or.inr (i_eq.mpr (show v.toInt = 1 by omega))
/-- what the numbers of one LAYER may be -/
def okW (k : Nat) (v : Int32) : Bool := match k with
  | 3 => rg v 0 255
  | 4 => rg v 0 15
  | 5 => rg v 0 1
  | 6 => rg v 0 1
  | _ => rg v (-64) 64
theorem lyN_set {g : ps_G} {b w h l k : Nat} {r : Nat → Int32} {v : Int32} (hg : 195 ≤ g.1) (hwh : w * h ≤ 576) (hk : k = 3 ∨ k = 4 ∨ k = 5 ∨ k = 6 ∨ k = 7 ∨ k = 8) (hv : okW k v = true) (hl : LyN g b w h l r) : ∀ fs, g.2.2 b = .inr (4, fs) → LyN (mkL g (fs.set k (.int v))) g.1 w h l (upd r (k + 1) v) := by
  intro fs hfs
  obtain ⟨h1, h2, p, q, x0, y0, x1, y1, pa, ma, h3, c1, c2, c3, c4, c5, c6, c7, c8, c9, c10, c11, c12, c13, c14⟩ := hl
  rw [h3] at hfs
  cases hfs
  have up : ∀ j, ¬ j = k + 1 → upd r (k + 1) v j = r j := fun j hj => upd_n hj
  have us : upd r (k + 1) v (k + 1) = v := upd_s
  have u1 := up 1 (by omega)
  have u2 := up 2 (by omega)
  have u10 := up 10 (by omega)
  have u11 := up 11 (by omega)
  have u12 := up 12 (by omega)
  have u13 := up 13 (by omega)
  have u14 := up 14 (by omega)
  have u15 := up 15 (by omega)
  have u16 := up 16 (by omega)
  refine ⟨Or.inl hg, Nat.lt_succ_self _, p, q, x0, y0, x1, y1, pa, ma, ?_, by rw [u1]; exact c1, ?_, ?_, ?_, ?_, ?_, ?_, by rw [u1, u11, u12]; exact c8, by rw [u1, u13, u14, u15, u16]; exact c9, by rw [u1]; exact c10, by rw [u1]; exact c11, ?_, by rw [u1]; exact ⟨c13.1, Nat.le_trans (by decide) hg⟩, ?_⟩
  · rw [u1, u2]
    unfold mkL
    rw [nw_at]
    rcases hk with rfl | rfl | rfl | rfl | rfl | rfl
    · rw [us, up 5 (by decide), up 6 (by decide), up 7 (by decide), up 8 (by decide), up 9 (by decide)]; rfl
    · rw [us, up 4 (by decide), up 6 (by decide), up 7 (by decide), up 8 (by decide), up 9 (by decide)]; rfl
    · rw [us, up 4 (by decide), up 5 (by decide), up 7 (by decide), up 8 (by decide), up 9 (by decide)]; rfl
    · rw [us, up 4 (by decide), up 5 (by decide), up 6 (by decide), up 8 (by decide), up 9 (by decide)]; rfl
    · rw [us, up 4 (by decide), up 5 (by decide), up 6 (by decide), up 7 (by decide), up 9 (by decide)]; rfl
    · rw [us, up 4 (by decide), up 5 (by decide), up 6 (by decide), up 7 (by decide), up 8 (by decide)]; rfl
  · by_cases z : k = 3
    · subst z; rw [us]; exact hv
    · rw [up 4 (by omega)]; exact c2
  · by_cases z : k = 4
    · subst z; rw [us]; exact hv
    · rw [up 5 (by omega)]; exact c3
  · by_cases z : k = 5
    · subst z; rw [us]; exact hv
    · rw [up 6 (by omega)]; exact c4
  · by_cases z : k = 6
    · subst z; rw [us]; exact hv
    · rw [up 7 (by omega)]; exact c5
  · by_cases z : k = 7
    · subst z; rw [us]; exact hv
    · rw [up 8 (by omega)]; exact c6
  · by_cases z : k = 8
    · subst z; rw [us]; exact hv
    · rw [up 9 (by omega)]; exact c7
  · rw [u1]
    intro z
    obtain ⟨d1, d0, d2, f, d3, d4⟩ := c12 z
    refine ⟨d1, d0, Nat.lt_succ_of_lt d2, f, by unfold mkL; rw [nw_lo d2]; exact d3, fun i hi => by rw [up _ (by omega)]; exact d4 i hi⟩
  · rw [u10]
    rcases c14 with c | ⟨d1, d2, d0, d3, f, d4, d5⟩
    · exact Or.inl c
    · exact Or.inr ⟨d1, d2, d0, Nat.lt_succ_of_lt d3, f, by unfold mkL; rw [nw_lo d3]; exact d4, fun i hi => by rw [up _ (by omega)]; exact d5 i hi⟩
/-- a value for set -/
def sOk (what v : Int32) : Bool := if what = 0 then rg v 0 255 else if what = 1 then rg v 0 15 else if what = 2 ∨ what = 3 then rg v 0 1 else if what = 4 ∨ what = 5 then rg v (-64) 64 else false
theorem set12 {s : e_S} {g : ps_G} {x what v : Int32} {st pc : Nat} (h1 : st < 25) (h2 : pc ≤ 24) (e1 : s.1 139 10 = Int32.ofNat st) (e2 : s.1 139 11 = Int32.ofNat pc) : fX12_set (e_g s g) 139 x what v = if sOk what v then (if isL (s.2.1 142) x then some (e_g (fg12 (edM (sA (sF s 139 0 0) 142 (upd (s.2.1 142) (1169 * x.toInt.toNat + (4 + what.toInt.toNat)) v)) st pc)) g) else some (e_g (sF s 139 0 2) g)) else some (e_g (sF s 139 0 1) g) := by
  have key : sOk what v = true → fX12_set (e_g s g) 139 x what v = jX12_set_75 (e_g s g) 139 x what v 1 := by
    intro q
    unfold sOk at q
    by_cases w0 : what = 0
    · rw [if_pos w0] at q
      simp (decide := true) only [fX12_set, w0, rin, q, ob_s, b2_s, tc_r, tc_l, F_sF, A_sF, R_sF, L_sF, F_sA, A_sA, R_sA, L_sA, F_sR, A_sR, R_sR, L_sR, F_sL, A_sL, R_sL, L_sL, and_true, true_and, and_false, false_and, and_self, reduceIte, sF_sF, sA_sA, false_or, or_false, true_or, or_true, not_false_eq_true, not_true_eq_false, decide_true, decide_false, Bool.true_or, Bool.or_true, Bool.false_and, Bool.true_and, Bool.false_or, Bool.or_false, Bool.and_true, Bool.and_false]
    · rw [if_neg w0] at q
      by_cases w1 : what = 1
      · rw [if_pos w1] at q
        simp (decide := true) only [fX12_set, w1, rin, q, ob_s, b2_s, tc_r, tc_l, F_sF, A_sF, R_sF, L_sF, F_sA, A_sA, R_sA, L_sA, F_sR, A_sR, R_sR, L_sR, F_sL, A_sL, R_sL, L_sL, and_true, true_and, and_false, false_and, and_self, reduceIte, sF_sF, sA_sA, false_or, or_false, true_or, or_true, not_false_eq_true, not_true_eq_false, decide_true, decide_false, Bool.true_or, Bool.or_true, Bool.false_and, Bool.true_and, Bool.false_or, Bool.or_false, Bool.and_true, Bool.and_false]
      · rw [if_neg w1] at q
        by_cases w2 : what = 2 ∨ what = 3
        · rw [if_pos w2] at q
          have z : ¬ (¬ what = 2 ∧ ¬ what = 3) := by
            rintro ⟨a, b⟩; rcases w2 with c | c
            · exact a c
            · exact b c
          simp (decide := true) only [fX12_set, w0, w1, z, rin, q, ob_s, b2_s, tc_r, tc_l, F_sF, A_sF, R_sF, L_sF, F_sA, A_sA, R_sA, L_sA, F_sR, A_sR, R_sR, L_sR, F_sL, A_sL, R_sL, L_sL, and_true, true_and, and_false, false_and, and_self, reduceIte, sF_sF, sA_sA, false_or, or_false, true_or, or_true, not_false_eq_true, not_true_eq_false, decide_true, decide_false, Bool.true_or, Bool.or_true, Bool.false_and, Bool.true_and, Bool.false_or, Bool.or_false, Bool.and_true, Bool.and_false]
        · rw [if_neg w2] at q
          by_cases w4 : what = 4 ∨ what = 5
          · rw [if_pos w4] at q
            have z : ¬ what = 2 ∧ ¬ what = 3 := ⟨fun a => w2 (Or.inl a), fun a => w2 (Or.inr a)⟩
            have z2 : ¬ (¬ what = 4 ∧ ¬ what = 5) := by
              rintro ⟨a, b⟩; rcases w4 with c | c
              · exact a c
              · exact b c
            simp (decide := true) only [fX12_set, w0, w1, z, z2, rin, q, ob_s, b2_s, tc_r, tc_l, F_sF, A_sF, R_sF, L_sF, F_sA, A_sA, R_sA, L_sA, F_sR, A_sR, R_sR, L_sR, F_sL, A_sL, R_sL, L_sL, and_true, true_and, and_false, false_and, and_self, reduceIte, sF_sF, sA_sA, false_or, or_false, true_or, or_true, not_false_eq_true, not_true_eq_false, decide_true, decide_false, Bool.true_or, Bool.or_true, Bool.false_and, Bool.true_and, Bool.false_or, Bool.or_false, Bool.and_true, Bool.and_false]
          · rw [if_neg w4] at q; cases q
  by_cases q : sOk what v
  · rw [key q, if_pos q]
    have hw : ∃ k : Nat, what = Int32.ofNat k ∧ k ≤ 5 := by
      unfold sOk at q
      by_cases w0 : what = 0
      · exact ⟨0, w0, by omega⟩
      · rw [if_neg w0] at q
        by_cases w1 : what = 1
        · exact ⟨1, w1, by omega⟩
        · rw [if_neg w1] at q
          by_cases w2 : what = 2 ∨ what = 3
          · rcases w2 with c | c
            · exact ⟨2, c, by omega⟩
            · exact ⟨3, c, by omega⟩
          · rw [if_neg w2] at q
            by_cases w4 : what = 4 ∨ what = 5
            · rcases w4 with c | c
              · exact ⟨4, c, by omega⟩
              · exact ⟨5, c, by omega⟩
            · rw [if_neg w4] at q; cases q
    obtain ⟨k, rfl, hk⟩ := hw
    by_cases hx : isL (s.2.1 142) x
    · obtain ⟨l, rfl, hl, hl1⟩ := isL_n hx
      have e4 : (4 : Int32) + Int32.ofNat k = Int32.ofNat (4 + k) := n_add (n := 4)
      have e5 : ∀ (s' : e_S), fX12_put (e_g s' g) 139 (Int32.ofNat l) (Int32.ofNat (4 + k)) v = some (e_g (sA s' 142 (upd (s'.2.1 142) (1169 * l + (4 + k)) v)) g) := fun s' => put12 (n := 4 + k) hl (by omega)
      have ed := fun s' q1 q2 => edited12 (s := s') (g := g) h1 h2 q1 q2
      rw [if_pos hx, n_int (by omega), n_int (by omega), Int.toNat_natCast, Int.toNat_natCast]
      simp (decide := true) only [jX12_set_75, jX12_set_100, ob139, isLayer12, hx, ob_s, b2_s, tc_r, tc_l, F_sF, A_sF, R_sF, L_sF, F_sA, A_sA, R_sA, L_sA, F_sR, A_sR, R_sR, L_sR, F_sL, A_sL, R_sL, L_sL, and_true, true_and, and_false, false_and, and_self, reduceIte, sF_sF, sA_sA, false_or, or_false, true_or, or_true, not_false_eq_true, not_true_eq_false, decide_true, decide_false, Bool.true_or, Bool.or_true, Bool.false_and, Bool.true_and, Bool.false_or, Bool.or_false, Bool.and_true, Bool.and_false, w139_0, f139_0, e4, e5]
      rw [ed _ (by simp (decide := true) only [ob_s, b2_s, tc_r, tc_l, F_sF, A_sF, R_sF, L_sF, F_sA, A_sA, R_sA, L_sA, F_sR, A_sR, R_sR, L_sR, F_sL, A_sL, R_sL, L_sL, and_true, true_and, and_false, false_and, and_self, reduceIte, sF_sF, sA_sA, false_or, or_false, true_or, or_true, not_false_eq_true, not_true_eq_false, decide_true, decide_false, Bool.true_or, Bool.or_true, Bool.false_and, Bool.true_and, Bool.false_or, Bool.or_false, Bool.and_true, Bool.and_false, e1]) (by simp (decide := true) only [ob_s, b2_s, tc_r, tc_l, F_sF, A_sF, R_sF, L_sF, F_sA, A_sA, R_sA, L_sA, F_sR, A_sR, R_sR, L_sR, F_sL, A_sL, R_sL, L_sL, and_true, true_and, and_false, false_and, and_self, reduceIte, sF_sF, sA_sA, false_or, or_false, true_or, or_true, not_false_eq_true, not_true_eq_false, decide_true, decide_false, Bool.true_or, Bool.or_true, Bool.false_and, Bool.true_and, Bool.false_or, Bool.or_false, Bool.and_true, Bool.and_false, e2])]
      simp (decide := true) only [ob_s, b2_s, tc_r, tc_l, F_sF, A_sF, R_sF, L_sF, F_sA, A_sA, R_sA, L_sA, F_sR, A_sR, R_sR, L_sR, F_sL, A_sL, R_sL, L_sL, and_true, true_and, and_false, false_and, and_self, reduceIte, sF_sF, sA_sA, false_or, or_false, true_or, or_true, not_false_eq_true, not_true_eq_false, decide_true, decide_false, Bool.true_or, Bool.or_true, Bool.false_and, Bool.true_and, Bool.false_or, Bool.or_false, Bool.and_true, Bool.and_false, ob139, forget12, fg12]
    · rw [if_neg hx]
      simp (decide := true) only [jX12_set_75, jX12_set_100, ob139, isLayer12, hx, ob_s, b2_s, tc_r, tc_l, F_sF, A_sF, R_sF, L_sF, F_sA, A_sA, R_sA, L_sA, F_sR, A_sR, R_sR, L_sR, F_sL, A_sL, R_sL, L_sL, and_true, true_and, and_false, false_and, and_self, reduceIte, sF_sF, sA_sA, false_or, or_false, true_or, or_true, not_false_eq_true, not_true_eq_false, decide_true, decide_false, Bool.true_or, Bool.or_true, Bool.false_and, Bool.true_and, Bool.false_or, Bool.or_false, Bool.and_true, Bool.and_false, w139_0, f139_0]
  · rw [if_neg q]
    have j1 : ∀ k0 : Int32, k0 = 0 → jX12_set_75 (e_g s g) 139 x what v k0 = some (e_g (sF s 139 0 1) g) := by
      intro k0 hk
      simp (decide := true) only [jX12_set_75, jX12_set_100, hk, ob_s, b2_s, tc_r, tc_l, F_sF, A_sF, R_sF, L_sF, F_sA, A_sA, R_sA, L_sA, F_sR, A_sR, R_sR, L_sR, F_sL, A_sL, R_sL, L_sL, and_true, true_and, and_false, false_and, and_self, reduceIte, sF_sF, sA_sA, false_or, or_false, true_or, or_true, not_false_eq_true, not_true_eq_false, decide_true, decide_false, Bool.true_or, Bool.or_true, Bool.false_and, Bool.true_and, Bool.false_or, Bool.or_false, Bool.and_true, Bool.and_false, w139_0, f139_0]
    unfold sOk at q
    by_cases w0 : what = 0
    · rw [if_pos w0] at q
      simp (decide := true) only [fX12_set, w0, rin, q, ob_s, b2_s, tc_r, tc_l, F_sF, A_sF, R_sF, L_sF, F_sA, A_sA, R_sA, L_sA, F_sR, A_sR, R_sR, L_sR, F_sL, A_sL, R_sL, L_sL, and_true, true_and, and_false, false_and, and_self, reduceIte, sF_sF, sA_sA, false_or, or_false, true_or, or_true, not_false_eq_true, not_true_eq_false, decide_true, decide_false, Bool.true_or, Bool.or_true, Bool.false_and, Bool.true_and, Bool.false_or, Bool.or_false, Bool.and_true, Bool.and_false]
      subst w0; exact j1 0 rfl
    · rw [if_neg w0] at q
      by_cases w1 : what = 1
      · rw [if_pos w1] at q
        simp (decide := true) only [fX12_set, w1, rin, q, ob_s, b2_s, tc_r, tc_l, F_sF, A_sF, R_sF, L_sF, F_sA, A_sA, R_sA, L_sA, F_sR, A_sR, R_sR, L_sR, F_sL, A_sL, R_sL, L_sL, and_true, true_and, and_false, false_and, and_self, reduceIte, sF_sF, sA_sA, false_or, or_false, true_or, or_true, not_false_eq_true, not_true_eq_false, decide_true, decide_false, Bool.true_or, Bool.or_true, Bool.false_and, Bool.true_and, Bool.false_or, Bool.or_false, Bool.and_true, Bool.and_false]
        subst w1; exact j1 0 rfl
      · rw [if_neg w1] at q
        by_cases w2 : what = 2 ∨ what = 3
        · rw [if_pos w2] at q
          have z : ¬ (¬ what = 2 ∧ ¬ what = 3) := by
            rintro ⟨a, b⟩; rcases w2 with c | c
            · exact a c
            · exact b c
          simp (decide := true) only [fX12_set, w0, w1, z, rin, q, ob_s, b2_s, tc_r, tc_l, F_sF, A_sF, R_sF, L_sF, F_sA, A_sA, R_sA, L_sA, F_sR, A_sR, R_sR, L_sR, F_sL, A_sL, R_sL, L_sL, and_true, true_and, and_false, false_and, and_self, reduceIte, sF_sF, sA_sA, false_or, or_false, true_or, or_true, not_false_eq_true, not_true_eq_false, decide_true, decide_false, Bool.true_or, Bool.or_true, Bool.false_and, Bool.true_and, Bool.false_or, Bool.or_false, Bool.and_true, Bool.and_false]
          exact j1 0 rfl
        · rw [if_neg w2] at q
          have z : ¬ what = 2 ∧ ¬ what = 3 := ⟨fun a => w2 (Or.inl a), fun a => w2 (Or.inr a)⟩
          by_cases w4 : what = 4 ∨ what = 5
          · rw [if_pos w4] at q
            have z2 : ¬ (¬ what = 4 ∧ ¬ what = 5) := by
              rintro ⟨a, b⟩; rcases w4 with c | c
              · exact a c
              · exact b c
            simp (decide := true) only [fX12_set, jX12_set_74, w0, w1, z, z2, rin, q, ob_s, b2_s, tc_r, tc_l, F_sF, A_sF, R_sF, L_sF, F_sA, A_sA, R_sA, L_sA, F_sR, A_sR, R_sR, L_sR, F_sL, A_sL, R_sL, L_sL, and_true, true_and, and_false, false_and, and_self, reduceIte, sF_sF, sA_sA, false_or, or_false, true_or, or_true, not_false_eq_true, not_true_eq_false, decide_true, decide_false, Bool.true_or, Bool.or_true, Bool.false_and, Bool.true_and, Bool.false_or, Bool.or_false, Bool.and_true, Bool.and_false]
            exact j1 0 rfl
          · have z2 : ¬ what = 4 ∧ ¬ what = 5 := ⟨fun a => w4 (Or.inl a), fun a => w4 (Or.inr a)⟩
            simp (decide := true) only [fX12_set, jX12_set_74, w0, w1, z, z2, ob_s, b2_s, tc_r, tc_l, F_sF, A_sF, R_sF, L_sF, F_sA, A_sA, R_sA, L_sA, F_sR, A_sR, R_sR, L_sR, F_sL, A_sL, R_sL, L_sL, and_true, true_and, and_false, false_and, and_self, reduceIte, sF_sF, sA_sA, false_or, or_false, true_or, or_true, not_false_eq_true, not_true_eq_false, decide_true, decide_false, Bool.true_or, Bool.or_true, Bool.false_and, Bool.true_and, Bool.false_or, Bool.or_false, Bool.and_true, Bool.and_false]
            exact j1 0 rfl
theorem sOk_n {what v : Int32} (q : sOk what v = true) : ∃ k : Nat, what = Int32.ofNat k ∧ k ≤ 5 ∧ okW (k + 3) v = true := by
  unfold sOk at q
  by_cases w0 : what = 0
  · rw [if_pos w0] at q; exact ⟨0, w0, by omega, q⟩
  · rw [if_neg w0] at q
    by_cases w1 : what = 1
    · rw [if_pos w1] at q; exact ⟨1, w1, by omega, q⟩
    · rw [if_neg w1] at q
      by_cases w2 : what = 2 ∨ what = 3
      · rw [if_pos w2] at q
        rcases w2 with c | c
        · exact ⟨2, c, by omega, q⟩
        · exact ⟨3, c, by omega, q⟩
      · rw [if_neg w2] at q
        by_cases w4 : what = 4 ∨ what = 5
        · rw [if_pos w4] at q
          rcases w4 with c | c
          · exact ⟨4, c, by omega, q⟩
          · exact ⟨5, c, by omega, q⟩
        · rw [if_neg w4] at q; cases q
theorem set11a {s : e_S} {g : ps_G} {x what v : Int32} (hg : 195 ≤ g.1) : fX11_set (e_g s g) 8 x what v = if sOk what v then jX11_set_74 (e_g s g) 8 x what v else some (.inl "java/lang/IllegalArgumentException", e_g s (nx g)) := by
  unfold sOk
  by_cases w0 : what = 0
  · have z : rg 0 0 5 = true := by decide
    by_cases q : rg v 0 255 <;> simp (decide := true) only [fX11_set, rng hg, w0, z, q, ob_s, b2_s, tc_r, tc_l, F_sF, A_sF, R_sF, L_sF, F_sA, A_sA, R_sA, L_sA, F_sR, A_sR, R_sR, L_sR, F_sL, A_sL, R_sL, L_sL, and_true, true_and, and_false, false_and, and_self, reduceIte, sF_sF, sA_sA, false_or, or_false, true_or, or_true, not_false_eq_true, not_true_eq_false, decide_true, decide_false, Bool.true_or, Bool.or_true, Bool.false_and, Bool.true_and, Bool.false_or, Bool.or_false, Bool.and_true, Bool.and_false]
  · by_cases w1 : what = 1
    · have z : rg 1 0 5 = true := by decide
      by_cases q : rg v 0 15 <;> simp (decide := true) only [fX11_set, rng hg, w1, z, q, ob_s, b2_s, tc_r, tc_l, F_sF, A_sF, R_sF, L_sF, F_sA, A_sA, R_sA, L_sA, F_sR, A_sR, R_sR, L_sR, F_sL, A_sL, R_sL, L_sL, and_true, true_and, and_false, false_and, and_self, reduceIte, sF_sF, sA_sA, false_or, or_false, true_or, or_true, not_false_eq_true, not_true_eq_false, decide_true, decide_false, Bool.true_or, Bool.or_true, Bool.false_and, Bool.true_and, Bool.false_or, Bool.or_false, Bool.and_true, Bool.and_false]
    · by_cases w2 : what = 2 ∨ what = 3
      · have z : rg what 0 5 = true := by rcases w2 with c | c <;> rw [c] <;> decide
        by_cases q : rg v 0 1 <;> simp (decide := true) only [fX11_set, rng hg, w0, w1, w2, z, q, ob_s, b2_s, tc_r, tc_l, F_sF, A_sF, R_sF, L_sF, F_sA, A_sA, R_sA, L_sA, F_sR, A_sR, R_sR, L_sR, F_sL, A_sL, R_sL, L_sL, and_true, true_and, and_false, false_and, and_self, reduceIte, sF_sF, sA_sA, false_or, or_false, true_or, or_true, not_false_eq_true, not_true_eq_false, decide_true, decide_false, Bool.true_or, Bool.or_true, Bool.false_and, Bool.true_and, Bool.false_or, Bool.or_false, Bool.and_true, Bool.and_false]
      · by_cases w4 : what = 4 ∨ what = 5
        · have z : rg what 0 5 = true := by rcases w4 with c | c <;> rw [c] <;> decide
          by_cases q : rg v (-64) 64 <;> simp (decide := true) only [fX11_set, rng hg, w0, w1, w2, w4, z, q, ob_s, b2_s, tc_r, tc_l, F_sF, A_sF, R_sF, L_sF, F_sA, A_sA, R_sA, L_sA, F_sR, A_sR, R_sR, L_sR, F_sL, A_sL, R_sL, L_sL, and_true, true_and, and_false, false_and, and_self, reduceIte, sF_sF, sA_sA, false_or, or_false, true_or, or_true, not_false_eq_true, not_true_eq_false, decide_true, decide_false, Bool.true_or, Bool.or_true, Bool.false_and, Bool.true_and, Bool.false_or, Bool.or_false, Bool.and_true, Bool.and_false]
        · have z : rg what 0 5 = false := by
            cases hz : rg what 0 5 with
            | false => rfl
            | true =>
              exfalso
              have y := rg_i.mp hz
              have y1 : 0 ≤ what.toInt := y.1
              have y2 : what.toInt ≤ 5 := y.2
              have d : ∀ n : Nat, n < 6 → what.toInt = n → what = Int32.ofNat n := fun n hn e => by rw [i_eq, n_int (by omega), e]
              have : what.toInt = 0 ∨ what.toInt = 1 ∨ what.toInt = 2 ∨ what.toInt = 3 ∨ what.toInt = 4 ∨ what.toInt = 5 := by omega
              rcases this with e | e | e | e | e | e
              · exact w0 (d 0 (by omega) e)
              · exact w1 (d 1 (by omega) e)
              · exact w2 (Or.inl (d 2 (by omega) e))
              · exact w2 (Or.inr (d 3 (by omega) e))
              · exact w4 (Or.inl (d 4 (by omega) e))
              · exact w4 (Or.inr (d 5 (by omega) e))
          simp (decide := true) only [fX11_set, rng hg, w0, w1, w2, w4, z, ob_s, b2_s, tc_r, tc_l, F_sF, A_sF, R_sF, L_sF, F_sA, A_sA, R_sA, L_sA, F_sR, A_sR, R_sR, L_sR, F_sL, A_sL, R_sL, L_sL, and_true, true_and, and_false, false_and, and_self, reduceIte, sF_sF, sA_sA, false_or, or_false, true_or, or_true, not_false_eq_true, not_true_eq_false, decide_true, decide_false, Bool.true_or, Bool.or_true, Bool.false_and, Bool.true_and, Bool.false_or, Bool.or_false, Bool.and_true, Bool.and_false]
/-- the row of l, one number put anew -/
theorem lR_upd {N : Nat → Int32} {l k : Nat} {v : Int32} : lR (upd N (1169 * l + k) v) l = upd (lR N l) k v := by
  funext j
  show upd N (1169 * l + k) v (1169 * l + j) = upd (lR N l) k v j
  rw [upd_r, upd_r]
  by_cases h : j = k
  · rw [if_pos h, if_pos (by omega)]
  · rw [if_neg h, if_neg (by omega)]; rfl
theorem K_set {s : e_S} {g : ps_G} {x what v : Int32} (hR : Rel s g) : KV (fL_set (e_g s g) 8 x what v) (fun G => fX12_set G 139 x what v) g := by
  have hg := rel_g hR
  obtain ⟨h1, h2, h3, h4, h5, h6, ⟨w, h, h7, h8, h9⟩, h10, h11⟩ := id hR
  obtain ⟨a, st, pc, uc, f1, f2, f3, f4, f5, f6, f7, f8, f9, f10, f11, f12⟩ := h9
  obtain ⟨d1, d2, d3, d4, d5, d6, d7, d8, d9⟩ := id h7
  have hk8 := h8.1
  have hwh := wh_le d2 d4
  by_cases q : sOk what v
  · have hc := (set11a (s := s) (x := x) (what := what) (v := v) hg).trans (if_pos q)
    rcases known11 (x := x) hg f3 f9 with ⟨k1, k2⟩ | ⟨l, b, rfl, hl, k1, k3, k2, hLy⟩
    · refine KV_no (E := "java/util/NoSuchElementException") (y := 2) hR ?_ (by decide +kernel) ((set12 f1 (by omega) f6 f7).trans ((if_pos q).trans (if_neg (by rw [k1]; decide))))
      rw [hc]
      simp (decide := true) only [jX11_set_74, ob8, k2, ob_s, b2_s, tc_r, tc_l, F_sF, A_sF, R_sF, L_sF, F_sA, A_sA, R_sA, L_sA, F_sR, A_sR, R_sR, L_sR, F_sL, A_sL, R_sL, L_sL, and_true, true_and, and_false, false_and, and_self, reduceIte, sF_sF, sA_sA, false_or, or_false, true_or, or_true, not_false_eq_true, not_true_eq_false, decide_true, decide_false, Bool.true_or, Bool.or_true, Bool.false_and, Bool.true_and, Bool.false_or, Bool.or_false, Bool.and_true, Bool.and_false]
    · obtain ⟨k, rfl, hk, hw⟩ := sOk_n q
      have hset := lyN_set (k := k + 3) hg hwh (by omega) hw hLy
      obtain ⟨y1, y2, p, q', x0, y0, x1, yy1, pa, ma, y3, z1, z2, z3, z4, z5, -⟩ := id hLy
      have hset := hset _ y3
      have ag := again4 (s := s) hg y1 y2 (rg01 z4) (rg01 z5) y3
      have ob4 : q_ob 4 (e_g s g) b = some () := d_ob y1 y3
      obtain ⟨g2, w1, w2, w3⟩ := replace11 (s := s) (N' := upd (s.2.1 142) (1169 * l + (4 + k)) v) hwh hg (ext_mkL (fs := _)) ⟨by show g.1 + 1 + 3 ≤ _; omega, by show g.2.1 + 17 + 66 ≤ _; omega⟩ f3 f4 (by omega) (fun i hi => by obtain ⟨b, z1, z2⟩ := f11 i hi; exact ⟨b, _, z1, z2⟩) f9 hl k3 (by rw [lR_upd, show 4 + k = k + 3 + 1 by omega]; exact hset) (fun j hj hj2 => by rw [upd_n (by omega)]) (fun i hi => by rw [upd_n (by omega)])
      have hx : isL (s.2.1 142) (Int32.ofNat l) = true := k1
      have hcc : jX11_set_74 (e_g s g) 8 (Int32.ofNat l) (Int32.ofNat k) v = some (.inr (), e_g (fgC (rmC s a (g.1 + 1) pc)) g2) := by
        have fin : ∀ fs, fX11_replaceLayer (e_g s (mkL g fs)) 8 g.1 = some (e_g (fgC (rmC s a (g.1 + 1) pc)) g2) → jX11_set_189 (e_g s (mkL g fs)) 8 (some g.1) = some (.inr (), e_g (fgC (rmC s a (g.1 + 1) pc)) g2) := by
          intro fs hfs
          simp (decide := true) only [jX11_set_189, ob8, hfs, ob_s, b2_s, tc_r, tc_l, F_sF, A_sF, R_sF, L_sF, F_sA, A_sA, R_sA, L_sA, F_sR, A_sR, R_sR, L_sR, F_sL, A_sL, R_sL, L_sL, and_true, true_and, and_false, false_and, and_self, reduceIte, sF_sF, sA_sA, false_or, or_false, true_or, or_true, not_false_eq_true, not_true_eq_false, decide_true, decide_false, Bool.true_or, Bool.or_true, Bool.false_and, Bool.true_and, Bool.false_or, Bool.or_false, Bool.and_true, Bool.and_false]
        have w1' := fin _ w1
        have mS : ∀ k', k' < 17 → ∀ i0 i1 i2 i3 i4 i5 i6 i7 i8 i9 i10 i11 i12 i13 i14 : Value, q_sI 4 k' (e_g s (mkL g [i0, i1, i2, i3, i4, i5, i6, i7, i8, i9, i10, i11, i12, i13, i14, .ref pa, .ref ma])) g.1 v = some (e_g s (mkL g ([i0, i1, i2, i3, i4, i5, i6, i7, i8, i9, i10, i11, i12, i13, i14, .ref pa, .ref ma].set k' (.int v)))) := fun k' hk' i0 i1 i2 i3 i4 i5 i6 i7 i8 i9 i10 i11 i12 i13 i14 => m_sI hg hk'
        have mB : ∀ k', k' < 17 → (v = 0 ∨ v = 1) → ∀ i0 i1 i2 i3 i4 i5 i6 i7 i8 i9 i10 i11 i12 i13 i14 : Value, q_sB 4 k' (e_g s (mkL g [i0, i1, i2, i3, i4, i5, i6, i7, i8, i9, i10, i11, i12, i13, i14, .ref pa, .ref ma])) g.1 v = some (e_g s (mkL g ([i0, i1, i2, i3, i4, i5, i6, i7, i8, i9, i10, i11, i12, i13, i14, .ref pa, .ref ma].set k' (.int v)))) := fun k' hk' hv i0 i1 i2 i3 i4 i5 i6 i7 i8 i9 i10 i11 i12 i13 i14 => m_sB hg hv hk'
        have v01 : (v = 0 ∨ v = 1) → (if ¬ v = 1 then (0 : Int32) else 1) = v := by
          rintro (e | e) <;> rw [e] <;> decide
        have hk5 : k = 0 ∨ k = 1 ∨ k = 2 ∨ k = 3 ∨ k = 4 ∨ k = 5 := by omega
        rcases hk5 with rfl | rfl | rfl | rfl | rfl | rfl
        · show jX11_set_74 (e_g s g) 8 (Int32.ofNat l) 0 v = _
          simp (decide := true) only [jX11_set_74, ob8, k2, ob4, ag, mS 3 (by decide), ob_s, b2_s, tc_r, tc_l, F_sF, A_sF, R_sF, L_sF, F_sA, A_sA, R_sA, L_sA, F_sR, A_sR, R_sR, L_sR, F_sL, A_sL, R_sL, L_sL, and_true, true_and, and_false, false_and, and_self, reduceIte, sF_sF, sA_sA, false_or, or_false, true_or, or_true, not_false_eq_true, not_true_eq_false, decide_true, decide_false, Bool.true_or, Bool.or_true, Bool.false_and, Bool.true_and, Bool.false_or, Bool.or_false, Bool.and_true, Bool.and_false]
          exact w1'
        · show jX11_set_74 (e_g s g) 8 (Int32.ofNat l) 1 v = _
          simp (decide := true) only [jX11_set_74, ob8, k2, ob4, ag, mS 4 (by decide), ob_s, b2_s, tc_r, tc_l, F_sF, A_sF, R_sF, L_sF, F_sA, A_sA, R_sA, L_sA, F_sR, A_sR, R_sR, L_sR, F_sL, A_sL, R_sL, L_sL, and_true, true_and, and_false, false_and, and_self, reduceIte, sF_sF, sA_sA, false_or, or_false, true_or, or_true, not_false_eq_true, not_true_eq_false, decide_true, decide_false, Bool.true_or, Bool.or_true, Bool.false_and, Bool.true_and, Bool.false_or, Bool.or_false, Bool.and_true, Bool.and_false]
          exact w1'
        · show jX11_set_74 (e_g s g) 8 (Int32.ofNat l) 2 v = _
          simp (decide := true) only [jX11_set_74, ob8, k2, ob4, ag, v01 (rg01 hw), mB 5 (by decide) (rg01 hw), ob_s, b2_s, tc_r, tc_l, F_sF, A_sF, R_sF, L_sF, F_sA, A_sA, R_sA, L_sA, F_sR, A_sR, R_sR, L_sR, F_sL, A_sL, R_sL, L_sL, and_true, true_and, and_false, false_and, and_self, reduceIte, sF_sF, sA_sA, false_or, or_false, true_or, or_true, not_false_eq_true, not_true_eq_false, decide_true, decide_false, Bool.true_or, Bool.or_true, Bool.false_and, Bool.true_and, Bool.false_or, Bool.or_false, Bool.and_true, Bool.and_false]
          exact w1'
        · show jX11_set_74 (e_g s g) 8 (Int32.ofNat l) 3 v = _
          simp (decide := true) only [jX11_set_74, ob8, k2, ob4, ag, v01 (rg01 hw), mB 6 (by decide) (rg01 hw), ob_s, b2_s, tc_r, tc_l, F_sF, A_sF, R_sF, L_sF, F_sA, A_sA, R_sA, L_sA, F_sR, A_sR, R_sR, L_sR, F_sL, A_sL, R_sL, L_sL, and_true, true_and, and_false, false_and, and_self, reduceIte, sF_sF, sA_sA, false_or, or_false, true_or, or_true, not_false_eq_true, not_true_eq_false, decide_true, decide_false, Bool.true_or, Bool.or_true, Bool.false_and, Bool.true_and, Bool.false_or, Bool.or_false, Bool.and_true, Bool.and_false]
          exact w1'
        · show jX11_set_74 (e_g s g) 8 (Int32.ofNat l) 4 v = _
          simp (decide := true) only [jX11_set_74, ob8, k2, ob4, ag, mS 7 (by decide), ob_s, b2_s, tc_r, tc_l, F_sF, A_sF, R_sF, L_sF, F_sA, A_sA, R_sA, L_sA, F_sR, A_sR, R_sR, L_sR, F_sL, A_sL, R_sL, L_sL, and_true, true_and, and_false, false_and, and_self, reduceIte, sF_sF, sA_sA, false_or, or_false, true_or, or_true, not_false_eq_true, not_true_eq_false, decide_true, decide_false, Bool.true_or, Bool.or_true, Bool.false_and, Bool.true_and, Bool.false_or, Bool.or_false, Bool.and_true, Bool.and_false]
          exact w1'
        · show jX11_set_74 (e_g s g) 8 (Int32.ofNat l) 5 v = _
          simp (decide := true) only [jX11_set_74, ob8, k2, ob4, ag, mS 8 (by decide), ob_s, b2_s, tc_r, tc_l, F_sF, A_sF, R_sF, L_sF, F_sA, A_sA, R_sA, L_sA, F_sR, A_sR, R_sR, L_sR, F_sL, A_sL, R_sL, L_sL, and_true, true_and, and_false, false_and, and_self, reduceIte, sF_sF, sA_sA, false_or, or_false, true_or, or_true, not_false_eq_true, not_true_eq_false, decide_true, decide_false, Bool.true_or, Bool.or_true, Bool.false_and, Bool.true_and, Bool.false_or, Bool.or_false, Bool.and_true, Bool.and_false]
          exact w1'
      have hm := set12 (s := fgC (rmC s a (g.1 + 1) pc)) (g := g2) (x := Int32.ofNat l) (what := Int32.ofNat k) (v := v) f1 (show pc ≤ 24 by omega) (by simp (decide := true) only [ob_s, b2_s, tc_r, tc_l, F_sF, A_sF, R_sF, L_sF, F_sA, A_sA, R_sA, L_sA, F_sR, A_sR, R_sR, L_sR, F_sL, A_sL, R_sL, L_sL, and_true, true_and, and_false, false_and, and_self, reduceIte, sF_sF, sA_sA, false_or, or_false, true_or, or_true, not_false_eq_true, not_true_eq_false, decide_true, decide_false, Bool.true_or, Bool.or_true, Bool.false_and, Bool.true_and, Bool.false_or, Bool.or_false, Bool.and_true, Bool.and_false, fgC, rmC, F_sRr, f6]) (by simp (decide := true) only [ob_s, b2_s, tc_r, tc_l, F_sF, A_sF, R_sF, L_sF, F_sA, A_sA, R_sA, L_sA, F_sR, A_sR, R_sR, L_sR, F_sL, A_sL, R_sL, L_sL, and_true, true_and, and_false, false_and, and_self, reduceIte, sF_sF, sA_sA, false_or, or_false, true_or, or_true, not_false_eq_true, not_true_eq_false, decide_true, decide_false, Bool.true_or, Bool.or_true, Bool.false_and, Bool.true_and, Bool.false_or, Bool.or_false, Bool.and_true, Bool.and_false, fgC, rmC, F_sRr, f7])
      have hN0 : (fgC (rmC s a (g.1 + 1) pc)).2.1 142 = s.2.1 142 := by simp (decide := true) only [ob_s, b2_s, tc_r, tc_l, F_sF, A_sF, R_sF, L_sF, F_sA, A_sA, R_sA, L_sA, F_sR, A_sR, R_sR, L_sR, F_sL, A_sL, R_sL, L_sL, and_true, true_and, and_false, false_and, and_self, reduceIte, sF_sF, sA_sA, false_or, or_false, true_or, or_true, not_false_eq_true, not_true_eq_false, decide_true, decide_false, Bool.true_or, Bool.or_true, Bool.false_and, Bool.true_and, Bool.false_or, Bool.or_false, Bool.and_true, Bool.and_false, fgC, rmC, A_sRr]
      rw [hN0, if_pos q, if_pos hx, n_int (by omega), n_int (by omega), Int.toNat_natCast, Int.toNat_natCast] at hm
      refine KV_r (hc.trans hcc) hm (by simp (decide := true) only [ob_s, b2_s, tc_r, tc_l, F_sF, A_sF, R_sF, L_sF, F_sA, A_sA, R_sA, L_sA, F_sR, A_sR, R_sR, L_sR, F_sL, A_sL, R_sL, L_sL, and_true, true_and, and_false, false_and, and_self, reduceIte, sF_sF, sA_sA, false_or, or_false, true_or, or_true, not_false_eq_true, not_true_eq_false, decide_true, decide_false, Bool.true_or, Bool.or_true, Bool.false_and, Bool.true_and, Bool.false_or, Bool.or_false, Bool.and_true, Bool.and_false, fg12, edM]) ?_ w2
      have h12 := G11_ext w2 h11
      unfold fg12 edM fgC rmC
      refine ⟨?_, ?_, ?_, ?_, ?_, ?_, ⟨w, h, ?_, G8_forget d2 d4 ?_ ?_ ?_ ?_, G10_edit hwh w2 f1 f2 f9 f10 f11 (b := g.1 + 1) ?_ ?_ ?_ ?_ ?_ ?_ ?_ ?_ ?_⟩, ?_, ?_⟩
      · unfold G1 at h1 ⊢; simp (decide := true) only [ob_s, b2_s, tc_r, tc_l, F_sF, A_sF, R_sF, L_sF, F_sA, A_sA, R_sA, L_sA, F_sR, A_sR, R_sR, L_sR, F_sL, A_sL, R_sL, L_sL, and_true, true_and, and_false, false_and, and_self, reduceIte, sF_sF, sA_sA, false_or, or_false, true_or, or_true, not_false_eq_true, not_true_eq_false, decide_true, decide_false, Bool.true_or, Bool.or_true, Bool.false_and, Bool.true_and, Bool.false_or, Bool.or_false, Bool.and_true, Bool.and_false, F_sRr, A_sRr]; exact h1
      · unfold G2 at h2 ⊢; simp (decide := true) only [ob_s, b2_s, tc_r, tc_l, F_sF, A_sF, R_sF, L_sF, F_sA, A_sA, R_sA, L_sA, F_sR, A_sR, R_sR, L_sR, F_sL, A_sL, R_sL, L_sL, and_true, true_and, and_false, false_and, and_self, reduceIte, sF_sF, sA_sA, false_or, or_false, true_or, or_true, not_false_eq_true, not_true_eq_false, decide_true, decide_false, Bool.true_or, Bool.or_true, Bool.false_and, Bool.true_and, Bool.false_or, Bool.or_false, Bool.and_true, Bool.and_false, F_sRr, A_sRr]; exact h2
      · unfold G3 at h3 ⊢; simp (decide := true) only [ob_s, b2_s, tc_r, tc_l, F_sF, A_sF, R_sF, L_sF, F_sA, A_sA, R_sA, L_sA, F_sR, A_sR, R_sR, L_sR, F_sL, A_sL, R_sL, L_sL, and_true, true_and, and_false, false_and, and_self, reduceIte, sF_sF, sA_sA, false_or, or_false, true_or, or_true, not_false_eq_true, not_true_eq_false, decide_true, decide_false, Bool.true_or, Bool.or_true, Bool.false_and, Bool.true_and, Bool.false_or, Bool.or_false, Bool.and_true, Bool.and_false, F_sRr, A_sRr]; exact h3
      · unfold G4 at h4 ⊢; simp (decide := true) only [ob_s, b2_s, tc_r, tc_l, F_sF, A_sF, R_sF, L_sF, F_sA, A_sA, R_sA, L_sA, F_sR, A_sR, R_sR, L_sR, F_sL, A_sL, R_sL, L_sL, and_true, true_and, and_false, false_and, and_self, reduceIte, sF_sF, sA_sA, false_or, or_false, true_or, or_true, not_false_eq_true, not_true_eq_false, decide_true, decide_false, Bool.true_or, Bool.or_true, Bool.false_and, Bool.true_and, Bool.false_or, Bool.or_false, Bool.and_true, Bool.and_false, F_sRr, A_sRr]; exact h4
      · unfold G5 at h5 ⊢; simp (decide := true) only [ob_s, b2_s, tc_r, tc_l, F_sF, A_sF, R_sF, L_sF, F_sA, A_sA, R_sA, L_sA, F_sR, A_sR, R_sR, L_sR, F_sL, A_sL, R_sL, L_sL, and_true, true_and, and_false, false_and, and_self, reduceIte, sF_sF, sA_sA, false_or, or_false, true_or, or_true, not_false_eq_true, not_true_eq_false, decide_true, decide_false, Bool.true_or, Bool.or_true, Bool.false_and, Bool.true_and, Bool.false_or, Bool.or_false, Bool.and_true, Bool.and_false, F_sRr, A_sRr]; exact h5
      · unfold G6 at h6 ⊢; simp (decide := true) only [ob_s, b2_s, tc_r, tc_l, F_sF, A_sF, R_sF, L_sF, F_sA, A_sA, R_sA, L_sA, F_sR, A_sR, R_sR, L_sR, F_sL, A_sL, R_sL, L_sL, and_true, true_and, and_false, false_and, and_self, reduceIte, sF_sF, sA_sA, false_or, or_false, true_or, or_true, not_false_eq_true, not_true_eq_false, decide_true, decide_false, Bool.true_or, Bool.or_true, Bool.false_and, Bool.true_and, Bool.false_or, Bool.or_false, Bool.and_true, Bool.and_false, F_sRr, A_sRr]; exact h6
      · unfold G7 at h7 ⊢; simp (decide := true) only [ob_s, b2_s, tc_r, tc_l, F_sF, A_sF, R_sF, L_sF, F_sA, A_sA, R_sA, L_sA, F_sR, A_sR, R_sR, L_sR, F_sL, A_sL, R_sL, L_sL, and_true, true_and, and_false, false_and, and_self, reduceIte, sF_sF, sA_sA, false_or, or_false, true_or, or_true, not_false_eq_true, not_true_eq_false, decide_true, decide_false, Bool.true_or, Bool.or_true, Bool.false_and, Bool.true_and, Bool.false_or, Bool.or_false, Bool.and_true, Bool.and_false, F_sRr, A_sRr]; exact h7
      · simp (decide := true) only [ob_s, b2_s, tc_r, tc_l, F_sF, A_sF, R_sF, L_sF, F_sA, A_sA, R_sA, L_sA, F_sR, A_sR, R_sR, L_sR, F_sL, A_sL, R_sL, L_sL, and_true, true_and, and_false, false_and, and_self, reduceIte, sF_sF, sA_sA, false_or, or_false, true_or, or_true, not_false_eq_true, not_true_eq_false, decide_true, decide_false, Bool.true_or, Bool.or_true, Bool.false_and, Bool.true_and, Bool.false_or, Bool.or_false, Bool.and_true, Bool.and_false, F_sRr, A_sRr]; exact hk8
      · intro t ht; simp (decide := true) only [ob_s, b2_s, tc_r, tc_l, F_sF, A_sF, R_sF, L_sF, F_sA, A_sA, R_sA, L_sA, F_sR, A_sR, R_sR, L_sR, F_sL, A_sL, R_sL, L_sL, and_true, true_and, and_false, false_and, and_self, reduceIte, sF_sF, sA_sA, false_or, or_false, true_or, or_true, not_false_eq_true, not_true_eq_false, decide_true, decide_false, Bool.true_or, Bool.or_true, Bool.false_and, Bool.true_and, Bool.false_or, Bool.or_false, Bool.and_true, Bool.and_false, F_sRr, A_sRr]; exact fl_lt ht
      · intro t ht; simp (decide := true) only [ob_s, b2_s, tc_r, tc_l, F_sF, A_sF, R_sF, L_sF, F_sA, A_sA, R_sA, L_sA, F_sR, A_sR, R_sR, L_sR, F_sL, A_sL, R_sL, L_sL, and_true, true_and, and_false, false_and, and_self, reduceIte, sF_sF, sA_sA, false_or, or_false, true_or, or_true, not_false_eq_true, not_true_eq_false, decide_true, decide_false, Bool.true_or, Bool.or_true, Bool.false_and, Bool.true_and, Bool.false_or, Bool.or_false, Bool.and_true, Bool.and_false, F_sRr, A_sRr]; exact fl_lt ht
      · simp (decide := true) only [ob_s, b2_s, tc_r, tc_l, F_sF, A_sF, R_sF, L_sF, F_sA, A_sA, R_sA, L_sA, F_sR, A_sR, R_sR, L_sR, F_sL, A_sL, R_sL, L_sL, and_true, true_and, and_false, false_and, and_self, reduceIte, sF_sF, sA_sA, false_or, or_false, true_or, or_true, not_false_eq_true, not_true_eq_false, decide_true, decide_false, Bool.true_or, Bool.or_true, Bool.false_and, Bool.true_and, Bool.false_or, Bool.or_false, Bool.and_true, Bool.and_false, F_sRr, A_sRr]
      · simp (decide := true) only [ob_s, b2_s, tc_r, tc_l, F_sF, A_sF, R_sF, L_sF, F_sA, A_sA, R_sA, L_sA, F_sR, A_sR, R_sR, L_sR, F_sL, A_sL, R_sL, L_sL, and_true, true_and, and_false, false_and, and_self, reduceIte, sF_sF, sA_sA, false_or, or_false, true_or, or_true, not_false_eq_true, not_true_eq_false, decide_true, decide_false, Bool.true_or, Bool.or_true, Bool.false_and, Bool.true_and, Bool.false_or, Bool.or_false, Bool.and_true, Bool.and_false, F_sRr, A_sRr]; exact w3
      · simp (decide := true) only [ob_s, b2_s, tc_r, tc_l, F_sF, A_sF, R_sF, L_sF, F_sA, A_sA, R_sA, L_sA, F_sR, A_sR, R_sR, L_sR, F_sL, A_sL, R_sL, L_sL, and_true, true_and, and_false, false_and, and_self, reduceIte, sF_sF, sA_sA, false_or, or_false, true_or, or_true, not_false_eq_true, not_true_eq_false, decide_true, decide_false, Bool.true_or, Bool.or_true, Bool.false_and, Bool.true_and, Bool.false_or, Bool.or_false, Bool.and_true, Bool.and_false, R_sRr]
      · funext i; simp (decide := true) only [ob_s, b2_s, tc_r, tc_l, F_sF, A_sF, R_sF, L_sF, F_sA, A_sA, R_sA, L_sA, F_sR, A_sR, R_sR, L_sR, F_sL, A_sL, R_sL, L_sL, and_true, true_and, and_false, false_and, and_self, reduceIte, sF_sF, sA_sA, false_or, or_false, true_or, or_true, not_false_eq_true, not_true_eq_false, decide_true, decide_false, Bool.true_or, Bool.or_true, Bool.false_and, Bool.true_and, Bool.false_or, Bool.or_false, Bool.and_true, Bool.and_false, R_sRr]
      · simp (decide := true) only [ob_s, b2_s, tc_r, tc_l, F_sF, A_sF, R_sF, L_sF, F_sA, A_sA, R_sA, L_sA, F_sR, A_sR, R_sR, L_sR, F_sL, A_sL, R_sL, L_sL, and_true, true_and, and_false, false_and, and_self, reduceIte, sF_sF, sA_sA, false_or, or_false, true_or, or_true, not_false_eq_true, not_true_eq_false, decide_true, decide_false, Bool.true_or, Bool.or_true, Bool.false_and, Bool.true_and, Bool.false_or, Bool.or_false, Bool.and_true, Bool.and_false, F_sRr]
      · simp (decide := true) only [ob_s, b2_s, tc_r, tc_l, F_sF, A_sF, R_sF, L_sF, F_sA, A_sA, R_sA, L_sA, F_sR, A_sR, R_sR, L_sR, F_sL, A_sL, R_sL, L_sL, and_true, true_and, and_false, false_and, and_self, reduceIte, sF_sF, sA_sA, false_or, or_false, true_or, or_true, not_false_eq_true, not_true_eq_false, decide_true, decide_false, Bool.true_or, Bool.or_true, Bool.false_and, Bool.true_and, Bool.false_or, Bool.or_false, Bool.and_true, Bool.and_false, F_sRr]
      · simp (decide := true) only [ob_s, b2_s, tc_r, tc_l, F_sF, A_sF, R_sF, L_sF, F_sA, A_sA, R_sA, L_sA, F_sR, A_sR, R_sR, L_sR, F_sL, A_sL, R_sL, L_sL, and_true, true_and, and_false, false_and, and_self, reduceIte, sF_sF, sA_sA, false_or, or_false, true_or, or_true, not_false_eq_true, not_true_eq_false, decide_true, decide_false, Bool.true_or, Bool.or_true, Bool.false_and, Bool.true_and, Bool.false_or, Bool.or_false, Bool.and_true, Bool.and_false, F_sRr]
      · simp (decide := true) only [ob_s, b2_s, tc_r, tc_l, F_sF, A_sF, R_sF, L_sF, F_sA, A_sA, R_sA, L_sA, F_sR, A_sR, R_sR, L_sR, F_sL, A_sL, R_sL, L_sL, and_true, true_and, and_false, false_and, and_self, reduceIte, sF_sF, sA_sA, false_or, or_false, true_or, or_true, not_false_eq_true, not_true_eq_false, decide_true, decide_false, Bool.true_or, Bool.or_true, Bool.false_and, Bool.true_and, Bool.false_or, Bool.or_false, Bool.and_true, Bool.and_false, F_sRr]
      · simp (decide := true) only [ob_s, b2_s, tc_r, tc_l, F_sF, A_sF, R_sF, L_sF, F_sA, A_sA, R_sA, L_sA, F_sR, A_sR, R_sR, L_sR, F_sL, A_sL, R_sL, L_sL, and_true, true_and, and_false, false_and, and_self, reduceIte, sF_sF, sA_sA, false_or, or_false, true_or, or_true, not_false_eq_true, not_true_eq_false, decide_true, decide_false, Bool.true_or, Bool.or_true, Bool.false_and, Bool.true_and, Bool.false_or, Bool.or_false, Bool.and_true, Bool.and_false, F_sRr]
      · simp (decide := true) only [ob_s, b2_s, tc_r, tc_l, F_sF, A_sF, R_sF, L_sF, F_sA, A_sA, R_sA, L_sA, F_sR, A_sR, R_sR, L_sR, F_sL, A_sL, R_sL, L_sL, and_true, true_and, and_false, false_and, and_self, reduceIte, sF_sF, sA_sA, false_or, or_false, true_or, or_true, not_false_eq_true, not_true_eq_false, decide_true, decide_false, Bool.true_or, Bool.or_true, Bool.false_and, Bool.true_and, Bool.false_or, Bool.or_false, Bool.and_true, Bool.and_false, A_sRr]
      · unfold G9 at h10 ⊢; simp (decide := true) only [ob_s, b2_s, tc_r, tc_l, F_sF, A_sF, R_sF, L_sF, F_sA, A_sA, R_sA, L_sA, F_sR, A_sR, R_sR, L_sR, F_sL, A_sL, R_sL, L_sL, and_true, true_and, and_false, false_and, and_self, reduceIte, sF_sF, sA_sA, false_or, or_false, true_or, or_true, not_false_eq_true, not_true_eq_false, decide_true, decide_false, Bool.true_or, Bool.or_true, Bool.false_and, Bool.true_and, Bool.false_or, Bool.or_false, Bool.and_true, Bool.and_false, F_sRr, A_sRr]; exact h10
      · unfold G11 at h12 ⊢; simp (decide := true) only [ob_s, b2_s, tc_r, tc_l, F_sF, A_sF, R_sF, L_sF, F_sA, A_sA, R_sA, L_sA, F_sR, A_sR, R_sR, L_sR, F_sL, A_sL, R_sL, L_sL, and_true, true_and, and_false, false_and, and_self, reduceIte, sF_sF, sA_sA, false_or, or_false, true_or, or_true, not_false_eq_true, not_true_eq_false, decide_true, decide_false, Bool.true_or, Bool.or_true, Bool.false_and, Bool.true_and, Bool.false_or, Bool.or_false, Bool.and_true, Bool.and_false, F_sRr, A_sRr]; exact h12
  · exact KV_no hR ((set11a hg).trans (if_neg q)) (by decide +kernel) ((set12 f1 (by omega) f6 f7).trans (if_neg q))
