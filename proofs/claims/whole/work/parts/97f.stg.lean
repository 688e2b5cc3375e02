-- needs: 07 10 13 14 20 21 22 23 24 25 26 27 32 33 34 36 38 39 40 41 42 43 44 46 47 48 49 53 54 60 61 62 63 64 65 97c 97d 97e
/-! ===== a new STAND of which LAYERS go ===== -/
theorem lyN_fr {g g' : ps_G} {b w h l : Nat} {r : Nat → Int32} (hE1 : g.1 ≤ g'.1) (hE5 : ∀ j, j < g.1 → g'.2.2 j = g.2.2 j) (hl : LyN g b w h l r) : LyN g' b w h l r := by
  obtain ⟨h1, h2, p, q, x0, y0, x1, y1, pa, ma, h3, c1, c2, c3, c4, c5, c6, c7, c8, c9, c10, c11, c12, c13, c14⟩ := hl
  refine ⟨h1, Nat.lt_of_lt_of_le h2 hE1, p, q, x0, y0, x1, y1, pa, ma, by rw [hE5 b h2]; exact h3, c1, c2, c3, c4, c5, c6, c7, c8, c9, c10, c11, fun hk => ?_, c13, ?_⟩
  · obtain ⟨d1, d0, d2, f, d3, d4⟩ := c12 hk
    exact ⟨d1, d0, Nat.lt_of_lt_of_le d2 hE1, f, by rw [hE5 pa d2]; exact d3, d4⟩
  · rcases c14 with c | ⟨d1, d2, d0, d3, f, d4, d5⟩
    · exact Or.inl c
    · exact Or.inr ⟨d1, d2, d0, Nat.lt_of_lt_of_le d3 hE1, f, by rw [hE5 ma d3]; exact d4, d5⟩
def StG (g G : ps_G) (a la oa w h : Nat) (N : Nat → Int32) (sz : Nat) (ly : Nat → Option Nat) (od : Nat → Int32) (o : Nat → Nat) : Prop := TrN N ∧ 195 ≤ g.1 ∧ (∀ j, j < g.1 → G.2.2 j = g.2.2 j) ∧ g.1 ≤ a ∧ a < G.1 ∧ g.1 ≤ la ∧ la < G.1 ∧ g.1 ≤ oa ∧ oa < G.1 ∧ ¬ la = a ∧ ¬ oa = a ∧ ¬ oa = la ∧ G.2.2 a = .inr (9, [.int (Int32.ofNat w), .int (Int32.ofNat h), .ref la, .ref oa, .int (Int32.ofNat sz), .int (N 35070)]) ∧ G.2.2 la = .inl (3, (30, .inr (.inr (.inr (.inr ly))))) ∧ G.2.2 oa = .inl (0, (30, .inl od)) ∧ OrD N sz od o ∧ ∀ l, l < 30 → if N (1169 * l) = 1 then ∃ b, ly l = some b ∧ LyN g b w h l (lR N l) else ly l = none
theorem stG_again {s : e_S} {g : ps_G} {a la oa w h sz : Nat} {N : Nat → Int32} {ly : Nat → Option Nat} {od : Nat → Int32} {o : Nat → Nat} (hg : 195 ≤ g.1) (hD : StD g a w h N la oa sz ly od o) : ∃ ly' od', fX9_again (e_g s g) a = some (some g.1, e_g s (mkS g (Int32.ofNat w) (Int32.ofNat h) ly' od' (Int32.ofNat sz) (N 35070))) ∧ StG g (mkS g (Int32.ofNat w) (Int32.ofNat h) ly' od' (Int32.ofNat sz) (N 35070)) g.1 (g.1 + 1) (g.1 + 2) w h N sz ly' od' o ∧ ∀ l, l < 30 → ly' l = ly l := by
  obtain ⟨t, h1', h2', c1, c0, c2, c3, c9, c4, c5, c6, c7, ho, c10⟩ := id hD
  have ag := again9 (s := s) hg h1' h2' c1 c2 c3 c4 c5 c6 c7 (okL_st c10)
  refine ⟨cR ly 30, cI od 30, ag, ⟨t, hg, fun j hj => mkS_lo hj, by omega, by show g.1 < g.1 + 3; omega, by omega, by show g.1 + 1 < g.1 + 3; omega, by omega, by show g.1 + 2 < g.1 + 3; omega, by omega, by omega, by omega, mkS_0, mkS_1, mkS_2, ⟨ho.1, fun i hi => ⟨by rw [cI_lt (by have := ho.1; omega)]; exact (ho.2.1 i hi).1, (ho.2.1 i hi).2⟩, ho.2.2.1, ho.2.2.2.1, ho.2.2.2.2⟩, fun m hm => ?_⟩, fun l hl => cR_lt hl⟩
  have hc := c10 m hm
  rw [cR_lt hm]
  exact hc
theorem stG_E {g G : ps_G} {a la oa w h sz : Nat} {N : Nat → Int32} {ly : Nat → Option Nat} {od : Nat → Int32} {o : Nat → Nat} (hSt : StG g G a la oa w h N sz ly od o) : StE G a w h N la oa sz ly od o := by
  obtain ⟨t, hg, fr, a1, a2, a3, a4, a5, a6, a7, a8, a9, c1, c2, c3, ho, c10⟩ := hSt
  refine ⟨Or.inl (by omega), a2, Or.inl (by omega), by omega, a4, Or.inl (by omega), by omega, a6, c1, c2, c3, ho, fun m hm => ?_⟩
  have hc := c10 m hm
  by_cases z : N (1169 * m) = 1
  · rw [if_pos z] at hc ⊢
    obtain ⟨b, b1, b2⟩ := hc
    exact ⟨b, b1, lyN_fr (by omega) fr b2⟩
  · rw [if_neg z] at hc ⊢; exact hc
/-- l goes, and who stands in it -/
theorem stG_drop {s : e_S} {g G : ps_G} {a la oa w h sz l : Nat} {N : Nat → Int32} {ly : Nat → Option Nat} {od : Nat → Int32} {o : Nat → Nat} (hwh : w * h ≤ 576) (hS : StG g G a la oa w h N sz ly od o) (hl : l < 30) (k3 : N (1169 * l) = 1) : ∃ G1 G2, fX9_removeInside (e_g s G) a (Int32.ofNat l) = some (e_g s G1) ∧ q_ob 9 (e_g s G1) a = some () ∧ (∀ j, j < g.1 → G1.2.2 j = g.2.2 j) ∧ fX9_remove (e_g s G1) a (Int32.ofNat l) = some (e_g s G2) ∧ G2.1 = G.1 + 1 ∧ G2.2.1 = G.2.1 + 30 ∧ ∃ sz' ly' od' o', StG g G2 a la oa w h (rmN N (dpD N l) l) sz' ly' od' o' ∧ ∀ m, m < 30 → dpD N l m = false → ly' m = ly m := by
  have hSE := stG_E hS
  obtain ⟨t, hg, fr, a1, a2, a3, a4, a5, a6, a7, a8, a9, c1, c2, c3, ho, c10⟩ := hS
  obtain ⟨L, L1, L2, L3, L4, L5, L6⟩ := orD_L ho
  obtain ⟨G1, od1, ly1, w1, w2, w3, w4, w5, w6, w7⟩ := removeInside9 (s := s) (l := l) t (show 195 ≤ G.1 by omega) hSE hl L1 L2 (fun m q => (L3 m q).1)
  obtain ⟨G2, od2, v1, v2, v3, v4⟩ := remove9 (s := s) (l := l) w5 (Nat.le_trans (List.length_filter_le _ _) (by rw [L1]; exact ho.1)) w6 (fun m q => (L3 m (List.mem_filter.mp q).1).1) hl
  have fl : (L.filter (fun x => !inB N l x)).filter (fun x => !decide (x = l)) = L.filter (fun x => !dpD N l x) := by
    rw [List.filter_filter]
    apply List.filter_congr
    intro x _
    unfold dpD
    rw [Bool.not_or]
  rw [fl] at v3 v4
  have hor := rem_or t.2.2.2.2 ho (dpD_ok t hl k3) (by rw [L1]; exact ho.1) L3 L4 L5 L6 v4
  obtain ⟨o1, o', o2⟩ := hor
  obtain ⟨x1, x2, x3, x4, x5, x6, x7, x8, x9, x10, x11⟩ := v3
  have fr1 : ∀ j, j < g.1 → G1.2.2 j = g.2.2 j := fun j hj => by rw [w4 j (by omega) (by omega) (by omega) (by omega), fr j hj]
  refine ⟨G1, G2, w1, w5.ob, fr1, v1, by rw [v2.1, w2], by rw [v2.2.1, w3], (L.filter (fun x => !dpD N l x)).length, rs ly1 l none, od2, o', ⟨trN_rm t ho hl k3, hg, fun j hj => by rw [v2.2.2 j (by omega) (by omega) (by omega), fr1 j hj], a1, by rw [v2.1, w2]; omega, a3, by rw [v2.1, w2]; omega, a5, by rw [v2.1, w2]; omega, a7, a8, a9, by rw [rmN_70]; exact x9, x10, x11, ⟨o1, o2⟩, fun m hm => ?_⟩, fun m hm hD => ?_⟩
  · have hc := c10 m hm
    by_cases z : rmN N (dpD N l) l (1169 * m) = 1
    · obtain ⟨z1, z2⟩ := (rmN_1 hm).mp z
      rw [if_pos z]
      rw [if_pos z1] at hc
      obtain ⟨b, b1, b2⟩ := hc
      have ml : ¬ m = l := fun e => by
        unfold dpD at z2
        rw [decide_eq_true e] at z2
        cases z2
      have mi : inB N l m = false := by
        unfold dpD at z2
        rw [Bool.or_eq_false_iff] at z2
        exact z2.2
      refine ⟨b, ?_, lyN_03 hwh (fun j hj j0 j3 => rmN_i hj j0 j3) b2⟩
      rw [rs_n ml, w7 m hm, mi, if_neg (by decide)]
      exact b1
    · rw [if_neg z]
      by_cases ml : m = l
      · rw [ml, rs_s]
      · rw [rs_n ml, w7 m hm]
        by_cases mi : inB N l m = true
        · rw [if_pos mi]
        · rw [if_neg mi]
          have z1 : ¬ N (1169 * m) = 1 := fun y => z ((rmN_1 hm).mpr ⟨y, by
            unfold dpD
            rw [decide_eq_false ml, Bool.false_or]
            simpa using mi⟩)
          rw [if_neg z1] at hc
          exact hc
  · unfold dpD at hD
    rw [Bool.or_eq_false_iff] at hD
    rw [rs_n (of_decide_eq_false hD.1), w7 m hm, hD.2, if_neg (by decide)]
theorem inB_lt {N : Nat → Int32} {d : Nat → Nat} {l : Nat} (ht : TrN N) (hl : l < 30) (hd : ∀ l, l < 30 → N (1169 * l) = 1 → ∀ p : Nat, p < 30 → N (1169 * l + 2) = Int32.ofNat p → d p < d l) : ∀ n k, d k ≤ n → k < 30 → N (1169 * k) = 1 → inB N l k = true → d l < d k
  | n, k, hn, hk, h1, hi => by
    rcases trN_p ht hk h1 with z | ⟨p, z1, z2, z3, z4⟩
    · rw [inB_n z] at hi; cases hi
    · have q := hd k hk h1 p z1 z2
      rw [inB_p ht hl hk h1 z1 z2] at hi
      by_cases e : p = l
      · rw [← e]; exact q
      · rw [decide_eq_false e, Bool.false_or] at hi
        cases n with
        | zero => omega
        | succ n => 
          have := inB_lt ht hl hd n p (by omega) z1 z3 hi
          omega
theorem inB_s {N : Nat → Int32} {l : Nat} (ht : TrN N) (hl : l < 30) (h1 : N (1169 * l) = 1) : inB N l l = false := by
  obtain ⟨d, -, hd⟩ := trN_rk ht
  by_cases z : inB N l l = true
  · have := inB_lt ht hl hd (d l) l (Nat.le_refl _) hl h1 z
    omega
  · simpa using z
theorem nsD_m {N : Nat → Int32} {l m : Nat} (ht : TrN N) (hl : l < 30) (hm : m < 30) (h1 : N (1169 * m) = 1) : nsD N l m = inB N l m := by
  unfold nsD
  by_cases e : m = l
  · rw [e, inB_s ht hl (by rw [← e]; exact h1)]; rfl
  · rw [decide_eq_false e]; simp
theorem bpN_1z {N : Nat → Int32} {l m : Nat} {V : Nat → Int32} (ht : TrN N) (hl : l < 30) (hm : m < 30) : bpN N l V (1169 * m) = 1 ↔ N (1169 * m) = 1 ∧ inB N l m = false := by
  rw [bpN_z hm]
  by_cases h1 : N (1169 * m) = 1
  · rw [nsD_m ht hl hm h1]
    by_cases z : inB N l m = true
    · rw [if_pos z, z]
      exact ⟨fun y => absurd y (by decide), fun y => by cases y.2⟩
    · rw [if_neg z]
      exact ⟨fun y => ⟨y, by simpa using z⟩, fun y => y.1⟩
  · have : nsD N l m = false := by unfold nsD inB; rw [decide_eq_false h1]; rfl
    rw [this, if_neg (by decide)]
    exact ⟨fun y => absurd y h1, fun y => absurd y.1 h1⟩
theorem trN_bp {N : Nat → Int32} {l : Nat} {V : Nat → Int32} (ht : TrN N) (hl : l < 30) (h1 : N (1169 * l) = 1) : TrN (bpN N l V) := by
  obtain ⟨⟨n, ta1, ta2, ta3⟩, tb, tc, ⟨d, td⟩, te⟩ := id ht
  have r2 : ∀ m, bpN N l V (1169 * m + 2) = N (1169 * m + 2) := fun m => by
    by_cases e : m = l
    · rw [e]; exact bpN_l (by omega)
    · exact bpN_m e (by omega) (by omega)
  have r3 : ∀ m, bpN N l V (1169 * m + 3) = N (1169 * m + 3) := fun m => by
    by_cases e : m = l
    · rw [e]; exact bpN_l (by omega)
    · exact bpN_m e (by omega) (by omega)
  refine ⟨⟨n, ta1, by rw [bpN_70 hl]; exact ta2, fun m h1 h2 => ?_⟩, fun m hm => ?_, fun m hm hm1 => ?_, ⟨d, fun m hm hm1 p hp hq => ?_⟩, fun m hm hm1 => ?_⟩
  · rw [bpN_z h2]
    split
    · rfl
    · exact ta3 m h1 h2
  · rw [bpN_z hm]
    split
    · exact Or.inl rfl
    · exact tb m hm
  · obtain ⟨q1, q2⟩ := (bpN_1z ht hl hm).mp hm1
    rw [r2]
    rcases tc m hm q1 with y | ⟨p, p1, p2, p3, p4⟩
    · exact Or.inl y
    · rw [inB_p ht hl hm q1 p1 p2, Bool.or_eq_false_iff] at q2
      exact Or.inr ⟨p, p1, p2, (bpN_1z ht hl p1).mpr ⟨p3, q2.2⟩, by rw [bpN_m (of_decide_eq_false q2.1) (by omega) (by omega)]; exact p4⟩
  · obtain ⟨q1, q2⟩ := (bpN_1z ht hl hm).mp hm1
    rw [r2] at hq
    exact td m hm q1 p hp hq
  · obtain ⟨q1, q2⟩ := (bpN_1z ht hl hm).mp hm1
    obtain ⟨p, p1, p2, p3⟩ := te m hm q1
    refine ⟨p, p1, by rw [r3]; exact p2, fun q hq => ?_⟩
    obtain ⟨m', m1, m2, m3, m4⟩ := p3 q hq
    refine ⟨m', m1, (bpN_1z ht hl m1).mpr ⟨m2, ?_⟩, by rw [r2, r2]; exact m3, by rw [r3]; exact m4⟩
    rcases trN_p ht hm q1 with z | ⟨p', z1, z2, z3, z4⟩
    · exact inB_n (by rw [m3]; exact z)
    · rw [inB_p ht hl hm q1 z1 z2] at q2
      rw [inB_p ht hl m1 m2 z1 (by rw [m3]; exact z2)]
      exact q2
