-- needs: 07 10 13 14 20 21 22 23 24 25 26 27 32 33 34 36 38 39 40 41 42 43 44 46 47 48 49 53 54 60 61 62 63
/-! ===== LAYERS taken out of the order ===== -/
theorem orD_L {N : Nat → Int32} {sz : Nat} {od : Nat → Int32} {o : Nat → Nat} (h : OrD N sz od o) : ∃ L : List Nat, L.length = sz ∧ OdL od L ∧ (∀ m, m ∈ L → m < 30 ∧ N (1169 * m) = 1) ∧ L.Nodup ∧ (∀ l, l < 30 → N (1169 * l) = 1 → l ∈ L) ∧ L.Pairwise (fun a b => N (1169 * a + 2) = N (1169 * b + 2) → N (1169 * a + 3) < N (1169 * b + 3)) := by
  obtain ⟨a1, a2, a3, a4, a5⟩ := h
  refine ⟨(List.range sz).map o, by simp, fun t m q => ?_, fun m hm => ?_, ?_, fun l hl h1 => ?_, ?_⟩
  · rw [List.getElem?_map] at q
    by_cases ht : t < sz
    · rw [List.getElem?_range ht] at q
      have : o t = m := by simpa using q
      rw [← this]; exact (a2 t ht).1
    · rw [List.getElem?_eq_none (by simp; omega)] at q
      cases q
  · obtain ⟨i, i1, rfl⟩ := List.mem_map.mp hm
    exact (a2 i (List.mem_range.mp i1)).2
  · show List.Pairwise _ _
    rw [List.pairwise_map]
    exact List.pairwise_lt_range.imp_of_mem (fun hi hj hlt => a3 _ _ hlt (List.mem_range.mp hj))
  · obtain ⟨i, i1, rfl⟩ := a4 l hl h1
    exact List.mem_map.mpr ⟨i, List.mem_range.mpr i1, rfl⟩
  · rw [List.pairwise_map]
    exact List.pairwise_lt_range.imp_of_mem (fun hi hj hlt => a5 _ _ hlt (List.mem_range.mp hj))
theorem L_orN {N : Nat → Int32} {od : Nat → Int32} {L : List Nat} (hn : L.length ≤ 30) (ho : OdL od L) (hm : ∀ m, m ∈ L → m < 30 ∧ N (1169 * m) = 1) (nd : L.Nodup) (ha : ∀ l, l < 30 → N (1169 * l) = 1 → l ∈ L) (pw : L.Pairwise (fun a b => N (1169 * a + 2) = N (1169 * b + 2) → N (1169 * a + 3) < N (1169 * b + 3))) : OrN N L.length od := by
  have e : ∀ i (h : i < L.length), (L[i]?).getD 0 = L[i] := fun i h => by rw [List.getElem?_eq_getElem h]; rfl
  refine ⟨hn, fun i => (L[i]?).getD 0, fun i hi => ?_, fun i j hij hj => ?_, fun l hl h1 => ?_, fun i j hij hj q => ?_⟩
  · dsimp only
    rw [e i hi]
    exact ⟨ho i _ (List.getElem?_eq_getElem hi), hm _ (List.getElem_mem hi)⟩
  · dsimp only
    rw [e i (by omega), e j hj]
    exact (List.pairwise_iff_getElem.mp nd) i j (by omega) hj hij
  · obtain ⟨i, hi, rfl⟩ := List.getElem_of_mem (ha l hl h1)
    exact ⟨i, hi, e i hi⟩
  · dsimp only at q ⊢
    rw [e i (by omega), e j hj] at q ⊢
    exact (List.pairwise_iff_getElem.mp pw) i j (by omega) hj hij q
/-- lives put out -/
def lvN (N : Nat → Int32) (D : Nat → Bool) (n : Nat) : Nat → Int32 := fun k => if k < 1169 * n ∧ k % 1169 = 0 ∧ D (k / 1169) = true then 0 else N k
theorem lvN_0 {N : Nat → Int32} {D : Nat → Bool} : lvN N D 0 = N := by
  funext k; unfold lvN; rw [if_neg (fun z => by omega)]
theorem lvN_z {N : Nat → Int32} {D : Nat → Bool} {n m : Nat} (h : m < n) : lvN N D n (1169 * m) = if D m then 0 else N (1169 * m) := by
  unfold lvN
  rw [show 1169 * m / 1169 = m by omega]
  by_cases z : D m = true
  · rw [if_pos ⟨by omega, by omega, z⟩, if_pos z]
  · rw [if_neg (fun y => z y.2.2), if_neg z]
theorem lvN_i {N : Nat → Int32} {D : Nat → Bool} {n m i : Nat} (hi : i < 1169) (h0 : ¬ i = 0) : lvN N D n (1169 * m + i) = N (1169 * m + i) := by
  unfold lvN; rw [if_neg (fun z => by omega)]
theorem lvN_hi {N : Nat → Int32} {D : Nat → Bool} {n k : Nat} (h : 1169 * n ≤ k) : lvN N D n k = N k := by
  unfold lvN; rw [if_neg (fun z => by omega)]
theorem lvN_t {N : Nat → Int32} {D : Nat → Bool} {n : Nat} (z : D n = true) : upd (lvN N D n) (1169 * n) 0 = lvN N D (n + 1) := by
  funext k
  rw [upd_r]
  by_cases e : k = 1169 * n
  · rw [if_pos e, e, lvN_z (by omega), if_pos z]
  · rw [if_neg e]
    unfold lvN
    by_cases q : k < 1169 * n ∧ k % 1169 = 0 ∧ D (k / 1169) = true
    · rw [if_pos q, if_pos ⟨by omega, q.2⟩]
    · rw [if_neg q, if_neg (fun y => q ⟨by omega, y.2⟩)]
theorem lvN_f {N : Nat → Int32} {D : Nat → Bool} {n : Nat} (z : ¬ D n = true) : lvN N D n = lvN N D (n + 1) := by
  funext k
  unfold lvN
  by_cases q : k < 1169 * n ∧ k % 1169 = 0 ∧ D (k / 1169) = true
  · rw [if_pos q, if_pos ⟨by omega, q.2⟩]
  · rw [if_neg q, if_neg]
    intro y
    apply q
    refine ⟨?_, y.2⟩
    apply Nat.lt_of_not_le
    intro h
    have e : k = 1169 * n := by omega
    apply z
    have y2 := y.2.2
    rw [e, show 1169 * n / 1169 = n by omega] at y2
    exact y2
/-- the reference's row without the LAYERS of D, of which l is the uppermost -/
def rmN (N : Nat → Int32) (D : Nat → Bool) (l : Nat) : Nat → Int32 := shN (lvN N D 30) (N (1169 * l + 2)) (N (1169 * l + 3) + 1) (-1) 30
theorem rmN_z {N : Nat → Int32} {D : Nat → Bool} {l m : Nat} (hm : m < 30) : rmN N D l (1169 * m) = if D m then 0 else N (1169 * m) := by
  unfold rmN; rw [shN_z, lvN_z hm]
theorem rmN_1 {N : Nat → Int32} {D : Nat → Bool} {l m : Nat} (hm : m < 30) : rmN N D l (1169 * m) = 1 ↔ N (1169 * m) = 1 ∧ D m = false := by
  rw [rmN_z hm]
  by_cases z : D m = true
  · rw [if_pos z]
    exact ⟨fun y => absurd y (by decide), fun y => by rw [z] at y; cases y.2⟩
  · rw [if_neg z]
    exact ⟨fun y => ⟨y, by simpa using z⟩, fun y => y.1⟩
theorem rmN_i {N : Nat → Int32} {D : Nat → Bool} {l m i : Nat} (hi : i < 1169) (h0 : ¬ i = 0) (h3 : ¬ i = 3) : rmN N D l (1169 * m + i) = N (1169 * m + i) := by
  unfold rmN; rw [shN_i hi h3, lvN_i hi h0]
theorem rmN_3 {N : Nat → Int32} {D : Nat → Bool} {l m : Nat} (hm : m < 30) (h1 : N (1169 * m) = 1) (hD : D m = false) : rmN N D l (1169 * m + 3) = if N (1169 * m + 2) = N (1169 * l + 2) ∧ ¬ N (1169 * m + 3) < N (1169 * l + 3) + 1 then N (1169 * m + 3) + -1 else N (1169 * m + 3) := by
  unfold rmN
  have e0 : lvN N D 30 (1169 * m) = 1 := by
    rw [lvN_z hm, if_neg (by rw [hD]; decide)]; exact h1
  rw [shN_3 hm, lvN_i (by omega) (by omega), lvN_i (by omega) (by omega), e0]
  by_cases z : N (1169 * m + 2) = N (1169 * l + 2) ∧ ¬ N (1169 * m + 3) < N (1169 * l + 3) + 1
  · rw [if_pos z, if_pos ⟨rfl, z⟩]
  · rw [if_neg z, if_neg (fun y => z y.2)]
theorem rmN_70 {N : Nat → Int32} {D : Nat → Bool} {l : Nat} : rmN N D l 35070 = N 35070 := by
  unfold rmN; rw [shN_hi (by omega), lvN_hi (by omega)]
/-- D is taken away whole: of those with one parent all, or l alone -/
def DOk (N : Nat → Int32) (D : Nat → Bool) (l : Nat) : Prop := l < 30 ∧ N (1169 * l) = 1 ∧ D l = true ∧ ∀ m x, m < 30 → x < 30 → N (1169 * m) = 1 → N (1169 * x) = 1 → D m = false → D x = true → N (1169 * m + 2) = N (1169 * x + 2) → x = l
/-- a place among those that stay -/
theorem rem_v {N : Nat → Int32} {D : Nat → Bool} {l m p f : Nat} (hm : m < 30) (h1 : N (1169 * m) = 1) (hD : D m = false) (hp : N (1169 * m + 3) = Int32.ofNat p) (hp2 : p < 30) (hf : N (1169 * l + 3) = Int32.ofNat f) (hf2 : f < 30) : rmN N D l (1169 * m + 3) = Int32.ofNat (if N (1169 * m + 2) = N (1169 * l + 2) ∧ f < p then p - 1 else p) := by
  rw [rmN_3 hm h1 hD, hp, hf, n_suc]
  have lt : Int32.ofNat p < Int32.ofNat (f + 1) ↔ p < f + 1 := n_lt (by omega) (by omega)
  by_cases z : N (1169 * m + 2) = N (1169 * l + 2) ∧ f < p
  · rw [if_pos z, if_pos ⟨z.1, fun y => by have := lt.mp y; omega⟩, Int32.add_neg_eq_sub]
    exact n_sub (b := 1) (by omega) (by omega)
  · rw [if_neg z, if_neg (fun y => z ⟨y.1, Nat.lt_of_not_le fun q => y.2 (lt.mpr (by omega))⟩)]
/-- two of one parent have two places -/
theorem or_ne {N : Nat → Int32} {sz : Nat} {od : Nat → Int32} {o : Nat → Nat} (h : OrD N sz od o) {l m : Nat} (hl : l < 30) (hm : m < 30) (h1 : N (1169 * l) = 1) (h2 : N (1169 * m) = 1) (hne : ¬ l = m) (hq : N (1169 * l + 2) = N (1169 * m + 2)) : ¬ N (1169 * l + 3) = N (1169 * m + 3) := by
  obtain ⟨a1, a2, a3, a4, a5⟩ := h
  obtain ⟨i, i1, i2⟩ := a4 l hl h1
  obtain ⟨j, j1, j2⟩ := a4 m hm h2
  have hij : ¬ i = j := fun e => hne (by rw [← i2, ← j2, e])
  intro e
  by_cases z : i < j
  · have := a5 i j z j1 (by rw [i2, j2]; exact hq)
    rw [i2, j2, e, i_lt] at this; omega
  · have := a5 j i (by omega) i1 (by rw [i2, j2]; exact hq.symm)
    rw [i2, j2, e, i_lt] at this; omega
theorem rem_pl {N : Nat → Int32} {sz : Nat} {od : Nat → Int32} {o : Nat → Nat} {D : Nat → Bool} {l : Nat} (hp : PlN N) (h : OrD N sz od o) (hd : DOk N D l) : PlN (rmN N D l) := by
  obtain ⟨hl, hl1, hDl, hDm⟩ := hd
  obtain ⟨f, f1, f2, f3⟩ := hp l hl hl1
  intro m hm hm1
  obtain ⟨h1, hD⟩ := (rmN_1 hm).mp hm1
  obtain ⟨p, p1, p2, p3⟩ := hp m hm h1
  rw [rem_v hm h1 hD p2 p1 f2 f1, rmN_i (i := 2) (by omega) (by omega) (by omega)]
  have nf : ∀ x q, x < 30 → N (1169 * x) = 1 → ¬ x = l → N (1169 * x + 2) = N (1169 * l + 2) → q < 30 → N (1169 * x + 3) = Int32.ofNat q → ¬ q = f := by
    intro x q hx hx1 hne hq hq2 hx3 e
    exact or_ne h hx hl hx1 hl1 hne hq (by rw [hx3, f2, e])
  have st : ∀ x q, x < 30 → N (1169 * x) = 1 → N (1169 * x + 2) = N (1169 * m + 2) → N (1169 * x + 3) = Int32.ofNat q → q < 30 → ¬ x = l → rmN N D l (1169 * x) = 1 ∧ rmN N D l (1169 * x + 2) = N (1169 * m + 2) ∧ rmN N D l (1169 * x + 3) = Int32.ofNat (if N (1169 * m + 2) = N (1169 * l + 2) ∧ f < q then q - 1 else q) := by
    intro x q hx hx1 hx2 hx3 hq hne
    have hDx : D x = false := by
      cases e : D x with
      | false => rfl
      | true => exact absurd (hDm m x hm hx h1 hx1 hD e hx2.symm) hne
    refine ⟨(rmN_1 hx).mpr ⟨hx1, hDx⟩, by rw [rmN_i (by omega) (by omega) (by omega)]; exact hx2, ?_⟩
    rw [rem_v hx hx1 hDx hx3 hq f2 f1, hx2]
  by_cases z : N (1169 * m + 2) = N (1169 * l + 2) ∧ f < p
  · rw [if_pos z]
    refine ⟨p - 1, by omega, rfl, fun q hq => ?_⟩
    by_cases y : q < f
    · obtain ⟨x, x1, x2, x3, x4⟩ := p3 q (by omega)
      have xl : ¬ x = l := by
        intro e; rw [e, f2] at x4
        have := (n_eq (by omega) (by omega)).mp x4
        omega
      obtain ⟨v1, v2, v3⟩ := st x q x1 x2 x3 x4 (by omega) xl
      exact ⟨x, x1, v1, v2, by rw [v3, if_neg (by omega)]⟩
    · obtain ⟨x, x1, x2, x3, x4⟩ := p3 (q + 1) (by omega)
      have xl : ¬ x = l := by
        intro e; rw [e, f2] at x4
        have := (n_eq (by omega) (by omega)).mp x4
        omega
      obtain ⟨v1, v2, v3⟩ := st x (q + 1) x1 x2 x3 x4 (by omega) xl
      exact ⟨x, x1, v1, v2, by rw [v3, if_pos ⟨z.1, by omega⟩, Nat.add_sub_cancel]⟩
  · rw [if_neg z]
    refine ⟨p, p1, rfl, fun q hq => ?_⟩
    obtain ⟨x, x1, x2, x3, x4⟩ := p3 q hq
    have xl : ¬ x = l := by
      intro e
      rw [e] at x3 x4
      rw [f2] at x4
      have := (n_eq (by omega) (by omega)).mp x4
      exact z ⟨x3.symm, by omega⟩
    obtain ⟨v1, v2, v3⟩ := st x q x1 x2 x3 x4 (by omega) xl
    exact ⟨x, x1, v1, v2, by rw [v3, if_neg (fun y => z ⟨y.1, by omega⟩)]⟩
theorem rem_or {N : Nat → Int32} {sz : Nat} {od od' : Nat → Int32} {o : Nat → Nat} {D : Nat → Bool} {l : Nat} {L : List Nat} (hp : PlN N) (h : OrD N sz od o) (hd : DOk N D l) (hn : L.length ≤ 30) (hm : ∀ m, m ∈ L → m < 30 ∧ N (1169 * m) = 1) (nd : L.Nodup) (ha : ∀ l, l < 30 → N (1169 * l) = 1 → l ∈ L) (pw : L.Pairwise (fun a b => N (1169 * a + 2) = N (1169 * b + 2) → N (1169 * a + 3) < N (1169 * b + 3))) (ho : OdL od' (L.filter (fun x => !D x))) : OrN (rmN N D l) (L.filter (fun x => !D x)).length od' := by
  obtain ⟨hl, hl1, hDl, hDm⟩ := id hd
  obtain ⟨f, f1, f2, f3⟩ := hp l hl hl1
  have mem : ∀ m, m ∈ L.filter (fun x => !D x) → m ∈ L ∧ D m = false := by
    intro m hm
    rw [List.mem_filter] at hm
    exact ⟨hm.1, by simpa using hm.2⟩
  refine L_orN (Nat.le_trans (List.length_filter_le _ _) hn) ho (fun m q => ?_) (nd.sublist List.filter_sublist) (fun m hm1 hm2 => ?_) ?_
  · obtain ⟨q1, q2⟩ := mem m q
    exact ⟨(hm m q1).1, (rmN_1 (hm m q1).1).mpr ⟨(hm m q1).2, q2⟩⟩
  · obtain ⟨q1, q2⟩ := (rmN_1 hm1).mp hm2
    rw [List.mem_filter]
    exact ⟨ha m hm1 q1, by rw [q2]; rfl⟩
  · refine (pw.sublist List.filter_sublist).imp_of_mem (fun {a b} qa qb hR hq => ?_)
    obtain ⟨a1, a2⟩ := mem a qa
    obtain ⟨b1, b2⟩ := mem b qb
    obtain ⟨ha30, ha1⟩ := hm a a1
    obtain ⟨hb30, hb1⟩ := hm b b1
    rw [rmN_i (by omega) (by omega) (by omega), rmN_i (by omega) (by omega) (by omega)] at hq
    have hlt := hR hq
    obtain ⟨p, p1, p2, -⟩ := hp a ha30 ha1
    obtain ⟨r, r1, r2, -⟩ := hp b hb30 hb1
    rw [p2, r2, n_lt (by omega) (by omega)] at hlt
    rw [rem_v ha30 ha1 a2 p2 p1 f2 f1, rem_v hb30 hb1 b2 r2 r1 f2 f1, n_lt (by split <;> omega) (by split <;> omega), hq]
    by_cases z : N (1169 * b + 2) = N (1169 * l + 2)
    · have al : ¬ a = l := fun e => by rw [e, hDl] at a2; cases a2
      have bl : ¬ b = l := fun e => by rw [e, hDl] at b2; cases b2
      have n1 : ¬ p = f := fun e => or_ne h ha30 hl ha1 hl1 al (by rw [hq]; exact z) (by rw [p2, f2, e])
      have n2 : ¬ r = f := fun e => or_ne h hb30 hl hb1 hl1 bl z (by rw [r2, f2, e])
      by_cases z1 : f < p
      · rw [if_pos ⟨z, z1⟩, if_pos ⟨z, by omega⟩]; omega
      · rw [if_neg (fun y => z1 y.2)]
        split <;> omega
    · rw [if_neg (fun y => z y.1), if_neg (fun y => z y.1)]; exact hlt
theorem stE_ext {g g' : ps_G} {a w h la oa sz : Nat} {N : Nat → Int32} {ly : Nat → Option Nat} {od : Nat → Int32} {o : Nat → Nat} (hE : Ext g g') (hS : StE g a w h N la oa sz ly od o) : StE g' a w h N la oa sz ly od o := by
  obtain ⟨h1, h2, c1, c0, c2, c3, c9, c4, c5, c6, c7, ho, c10⟩ := hS
  have hE5 := hE.2.2.2.2
  have hE1 := hE.1
  refine ⟨h1, by omega, c1, c0, by omega, c3, c9, by omega, by rw [hE5 _ h2]; exact c5, by rw [hE5 _ c2]; exact c6, by rw [hE5 _ c4]; exact c7, ho, fun l hl => ?_⟩
  have := c10 l hl
  by_cases hc : N (1169 * l) = 1
  · rw [if_pos hc] at this ⊢
    obtain ⟨b, d1, d2⟩ := this
    exact ⟨b, d1, lyN_ext hE d2⟩
  · rw [if_neg hc] at this ⊢
    exact this
/-- the LAYERS of a set, one by one, taken out -/
theorem removeAll9 {s : e_S} {G : ps_G} {a la oa ba : Nat} {w h nx : Int32} {ly : Nat → Option Nat} {od : Nat → Int32} {L : List Nat} {D : Nat → Bool} {B : Nat → Int32} (c : SC G a la oa w h ly od (Int32.ofNat L.length) nx) (hn : L.length ≤ 30) (ho : OdL od L) (hm : ∀ m, m ∈ L → m < 30) (hb : e_fr ba) (hbc : G.2.2 ba = .inl (2, (30, .inl B))) (hB : ∀ k, k < 30 → B k = if D k then 1 else 0) : ∃ G' od' ly', q_lp (fun t => bX9_removeInside_30 a ba t.1 t.2) ((0 : Int32), e_g s G) = some (e_g s G') ∧ Fx G G' a la oa ∧ SC G' a la oa w h ly' od' (Int32.ofNat (L.filter (fun x => !D x)).length) nx ∧ OdL od' (L.filter (fun x => !D x)) ∧ ∀ k, k < 30 → ly' k = if D k then none else ly k := by
  obtain ⟨c1, c2, c3, c4, c5, c6, c7, c8, c9, c10, c11⟩ := id c
  have ba1 : ¬ ba = a := fun e => by rw [e, c9] at hbc; cases hbc
  have ba2 : ¬ ba = la := fun e => by rw [e, c10] at hbc; cases hbc
  have ba3 : ¬ ba = oa := fun e => by rw [e, c11] at hbc; cases hbc
  have fl : ∀ k, k < 30 → D k = true → (L.filter (fun x => !(decide (x < k) && D x))).filter (fun x => !decide (x = k)) = L.filter (fun x => !(decide (x < k + 1) && D x)) := by
    intro k hk hD
    rw [List.filter_filter]
    apply List.filter_congr
    intro x _
    by_cases e : x = k
    · subst e
      rw [decide_eq_true rfl, decide_eq_true (show x < x + 1 by omega), hD]; simp
    · by_cases e2 : x < k
      · rw [decide_eq_false e, decide_eq_true e2, decide_eq_true (show x < k + 1 by omega)]; simp
      · rw [decide_eq_false e, decide_eq_false e2, decide_eq_false (show ¬ x < k + 1 by omega)]; simp
  have flf : ∀ k, D k = false → L.filter (fun x => !(decide (x < k) && D x)) = L.filter (fun x => !(decide (x < k + 1) && D x)) := by
    intro k hD
    apply List.filter_congr
    intro x _
    by_cases e : x = k
    · subst e; rw [hD]; simp
    · by_cases e2 : x < k
      · rw [decide_eq_true e2, decide_eq_true (show x < k + 1 by omega)]
      · rw [decide_eq_false e2, decide_eq_false (show ¬ x < k + 1 by omega)]
  have lp := lp_n (b := fun t : Int32 × ps_G => bX9_removeInside_30 a ba t.1 t.2) (fun k t => ∃ G' od' ly', t = (Int32.ofNat k, e_g s G') ∧ Fx G G' a la oa ∧ SC G' a la oa w h ly' od' (Int32.ofNat (L.filter (fun x => !(decide (x < k) && D x))).length) nx ∧ OdL od' (L.filter (fun x => !(decide (x < k) && D x))) ∧ ∀ m, m < 30 → ly' m = if (decide (m < k) && D m) = true then none else ly m) (fun r => ∃ G' od' ly', r = e_g s G' ∧ Fx G G' a la oa ∧ SC G' a la oa w h ly' od' (Int32.ofNat (L.filter (fun x => !D x)).length) nx ∧ OdL od' (L.filter (fun x => !D x)) ∧ ∀ k, k < 30 → ly' k = if D k then none else ly k) 30 (fun k t hk hp => ?_) (fun t hp => ?_) (s := ((0 : Int32), e_g s G)) ?_
  · obtain ⟨r, r1, G', od', ly', rfl, r2, r3, r4, r5⟩ := lp
    exact ⟨G', od', ly', r1, r2, r3, r4, r5⟩
  · obtain ⟨G', od', ly', rfl, r2, r3, r4, r5⟩ := hp
    have q1 : ¬ (30 : Int32) ≤ Int32.ofNat k := nle (b := 30) hk (by decide)
    have ab : q_aB (e_g s G') ba (Int32.ofNat k) = some (if D k then 1 else 0) := by
      unfold q_aB
      rw [e_at hb, r2.2.2 ba ba1 ba2 ba3, hbc]
      show (if Int32.ofNat k < 0 ∨ 30 ≤ (Int32.ofNat k).toNatClampNeg then none else some (B (Int32.ofNat k).toNatClampNeg)) = _
      rw [if_neg (n_in hk (by decide)), n_idx (by omega), hB k hk]
    by_cases hD : D k = true
    · obtain ⟨G2, od2, v1, v2, v3, v4⟩ := remove9 (s := s) (l := k) r3 (Nat.le_trans (List.length_filter_le _ _) hn) r4 (fun m q => hm m (List.mem_filter.mp q).1) hk
      rw [fl k hk hD] at v3 v4
      refine ⟨(Int32.ofNat (k + 1), e_g s G2), ?_, G2, od2, _, rfl, fx_tr r2 v2, v3, v4, fun m hm => ?_⟩
      · simp (decide := true) only [bX9_removeInside_30, jX9_removeInside_47_30, q1, ab, hD, r3.ob, v1, n_suc, ob_n, b2_n, tc_rn, tc_ln, F_sF, A_sF, R_sF, L_sF, F_sA, A_sA, R_sA, L_sA, F_sR, A_sR, R_sR, L_sR, F_sL, A_sL, R_sL, L_sL, and_true, true_and, and_false, false_and, and_self, reduceIte, sF_sF, sA_sA, false_or, or_false, true_or, or_true, not_false_eq_true, not_true_eq_false, decide_true, decide_false, Bool.true_or, Bool.or_true, Bool.false_and, Bool.true_and, Bool.false_or, Bool.or_false, Bool.and_true, Bool.and_false]
      · by_cases e : m = k
        · rw [e, rs_s, if_pos]
          rw [decide_eq_true (show k < k + 1 by omega), hD]; rfl
        · rw [rs_n e, r5 m hm]
          by_cases e2 : m < k
          · rw [decide_eq_true e2, decide_eq_true (show m < k + 1 by omega)]
          · rw [decide_eq_false e2, decide_eq_false (show ¬ m < k + 1 by omega)]
    · have hD' : D k = false := by simpa using hD
      rw [flf k hD'] at r3 r4
      refine ⟨(Int32.ofNat (k + 1), e_g s G'), ?_, G', od', ly', rfl, r2, r3, r4, fun m hm => ?_⟩
      · simp (decide := true) only [bX9_removeInside_30, jX9_removeInside_47_30, q1, ab, hD', n_suc, ob_n, b2_n, tc_rn, tc_ln, F_sF, A_sF, R_sF, L_sF, F_sA, A_sA, R_sA, L_sA, F_sR, A_sR, R_sR, L_sR, F_sL, A_sL, R_sL, L_sL, and_true, true_and, and_false, false_and, and_self, reduceIte, sF_sF, sA_sA, false_or, or_false, true_or, or_true, not_false_eq_true, not_true_eq_false, decide_true, decide_false, Bool.true_or, Bool.or_true, Bool.false_and, Bool.true_and, Bool.false_or, Bool.or_false, Bool.and_true, Bool.and_false]
      · rw [r5 m hm]
        by_cases e : m = k
        · rw [e, hD']; simp
        · by_cases e2 : m < k
          · rw [decide_eq_true e2, decide_eq_true (show m < k + 1 by omega)]
          · rw [decide_eq_false e2, decide_eq_false (show ¬ m < k + 1 by omega)]
  · obtain ⟨G', od', ly', rfl, r2, r3, r4, r5⟩ := hp
    have e : L.filter (fun x => !(decide (x < 30) && D x)) = L.filter (fun x => !D x) := by
      apply List.filter_congr
      intro x hx
      rw [decide_eq_true (hm x hx)]; rfl
    rw [e] at r3 r4
    refine ⟨e_g s G', ?_, G', od', ly', rfl, r2, r3, r4, fun k hk => ?_⟩
    · simp (decide := true) only [bX9_removeInside_30, ob_n, b2_n, tc_rn, tc_ln, F_sF, A_sF, R_sF, L_sF, F_sA, A_sA, R_sA, L_sA, F_sR, A_sR, R_sR, L_sR, F_sL, A_sL, R_sL, L_sL, and_true, true_and, and_false, false_and, and_self, reduceIte, sF_sF, sA_sA, false_or, or_false, true_or, or_true, not_false_eq_true, not_true_eq_false, decide_true, decide_false, Bool.true_or, Bool.or_true, Bool.false_and, Bool.true_and, Bool.false_or, Bool.or_false, Bool.and_true, Bool.and_false]
    · rw [r5 k hk, decide_eq_true hk]; simp
  · have e : L.filter (fun x => !(decide (x < 0) && D x)) = L := by
      rw [List.filter_eq_self]
      intro x _
      rw [decide_eq_false (Nat.not_lt_zero x)]; rfl
    refine ⟨G, od, ly, rfl, fx_rf, by rw [e]; exact c, by rw [e]; exact ho, fun m _ => ?_⟩
    rw [decide_eq_false (Nat.not_lt_zero m)]; rfl
