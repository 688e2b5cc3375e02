/-! ===== cells: reading, writing, making ===== -/
def ps_up (g : ps_G) (a : Nat) (e : ps_E) : ps_G := (g.1, g.2.1, fun j => if j = a then e else g.2.2 j)
def ps_nw (g : ps_G) (N : Nat) (e : ps_E) : ps_G := (g.1 + 1, g.2.1 + N, fun j => if j = g.1 then e else g.2.2 j)
theorem ps_ad_inj {X : ps_X} {i j : Nat} (hi : 8 ≤ i) (hj : 8 ≤ j) (h : ps_ad X i = ps_ad X j) : i = j := by
  unfold ps_ad at h
  rw [if_neg (by omega), if_neg (by omega)] at h
  omega
theorem ps_ad_ge {X : ps_X} {i : Nat} (hi : 8 ≤ i) : X.1 ≤ ps_ad X i := by
  unfold ps_ad
  rw [if_neg (by omega)]
  omega
theorem ps_ad_eq {X : ps_X} {i : Nat} (hi : 8 ≤ i) : ps_ad X i = X.1 + (i - 8) := by
  unfold ps_ad
  rw [if_neg (by omega)]
theorem ps_ad_lo {X : ps_X} {i : Nat} (hi : i < 8) : ps_ad X i = X.2.1 i := by
  unfold ps_ad
  rw [if_pos hi]
theorem ps_at.kept {X : ps_X} {i : Nat} {e : ps_E} {H H1 : Heap} (h : ps_at X i e H) (hq : H1[ps_ad X i]? = H[ps_ad X i]?) : ps_at X i e H1 := by
  cases e with
  | inl x => exact fun hk => va_at.kept (h hk) hq
  | inr o => exact va_at.kept (q := (ps_ad X i, .inr (o.1, o.2.map (ps_v X)))) h hq
theorem ps_ar.kept {U : State} {H H1 : Heap} {a N : Nat} {f : Nat → Int32} (h : ps_ar U H a N f) (hq : H1[a]? = H[a]?) : ps_ar U H1 a N f := by
  obtain ⟨cell, h1, h2⟩ := h
  exact ⟨cell, by rw [hq]; exact h1, h2⟩
theorem ps_Z.kept {X : ps_X} {s : State} {H H1 : Heap} (h : ps_Z X s H) (hq : ∀ q : Nat, q < H.size → ¬ ps_A X q → H1[q]? = H[q]?) : ps_Z X s H1 :=
  ⟨fun k hk => (h.1 k hk).kept hq, h.2.1.kept hq, h.2.2.kept hq⟩
theorem ps_lt {X : ps_X} {g : ps_G} {s : State} {H : Heap} (hR : ps_R X g s H) {a : Nat} {e : ps_E} (he : g.2.2 a = e) (hne : e ≠ ps_e0) : a < g.1 := by
  rcases Nat.lt_or_ge a g.1 with h | h
  · exact h
  · exact absurd ((he.symm.trans (hR.2.1 a h))) hne
theorem ps_ne_k {k : Nat} {x : vp_A} (hk : k < 6) : (Sum.inl (k, x) : ps_E) ≠ ps_e0 := by
  intro h
  have := (Prod.mk.inj (Sum.inl.inj h)).1
  omega
theorem ps_ne_o {o : Nat × List Value} : (Sum.inr o : ps_E) ≠ ps_e0 := fun h => nomatch h
theorem ps_ge8 {X : ps_X} {g : ps_G} {s : State} {H : Heap} (hR : ps_R X g s H) {a k : Nat} {x : vp_A} (he : g.2.2 a = .inl (k, x)) (hk : k ≠ 0) : 8 ≤ a := by
  rcases Nat.lt_or_ge a 8 with h | h
  · obtain ⟨-, N, f, h1, -⟩ := hR.2.2.2.2.1 a h
    rw [h1] at he
    exact absurd (Prod.mk.inj (Sum.inl.inj he)).1.symm hk
  · exact h
theorem ps_ge8o {X : ps_X} {g : ps_G} {s : State} {H : Heap} (hR : ps_R X g s H) {a : Nat} {o : Nat × List Value} (he : g.2.2 a = .inr o) : 8 ≤ a := by
  rcases Nat.lt_or_ge a 8 with h | h
  · obtain ⟨-, N, f, h1, -⟩ := hR.2.2.2.2.1 a h
    rw [h1] at he
    exact nomatch he
  · exact h
theorem ps_R_cell {X : ps_X} {g : ps_G} {s : State} {H : Heap} (hR : ps_R X g s H) {a k : Nat} {x : vp_A} (he : g.2.2 a = .inl (k, x)) (hk : k < 6) (h8 : 8 ≤ a) : H[ps_ad X a]? = some (vp_cell (X.2.2.2 k) (ps_a X x)) := by
  have h := hR.2.2.2.1 a h8 (ps_lt hR he (ps_ne_k hk))
  rw [he] at h
  exact h hk
theorem ps_R_obj {X : ps_X} {g : ps_G} {s : State} {H : Heap} (hR : ps_R X g s H) {a : Nat} {o : Nat × List Value} (he : g.2.2 a = .inr o) : va_at X.2.2.1 vwCl (ps_ad X a, .inr (o.1, o.2.map (ps_v X))) H := by
  have h := hR.2.2.2.1 a (ps_ge8o hR he) (ps_lt hR he ps_ne_o)
  rw [he] at h
  exact h
theorem ps_ar_of {X : ps_X} {g : ps_G} {s : State} {H : Heap} (hC : ps_C X s) (hR : ps_R X g s H) {a N : Nat} {f : Nat → Int32} (he : g.2.2 a = .inl (0, (N, .inl f))) : ps_ar s H (ps_ad X a) N f := by
  rcases Nat.lt_or_ge a 8 with h | h
  · obtain ⟨-, N', f', h1, h2⟩ := hR.2.2.2.2.1 a h
    rw [h1] at he
    have e1 := (Prod.mk.inj (Prod.mk.inj (Sum.inl.inj he)).2)
    have e2 : f' = f := Sum.inl.inj e1.2
    rw [ps_ad_lo h, ← e1.1, ← e2]
    exact h2
  · have h1 := ps_R_cell hR he (by decide) h
    refine ⟨_, h1, ((hC.1.2 0 _ rfl).1 N (fun j => .int (f j))), (fun q => by cases q), ?_, ?_, fun j hj => ?_⟩
    · show N ≤ (arrV _ _ _).slots.size
      rw [arrV_size]
      exact Nat.le_refl _
    · show ((arrV _ _ _).slots.size).toInt32 = _
      rw [arrV_size]
      rfl
    · show (arrV _ _ _).slots[j]? = _
      simp [arrV, Array.getElem?_ofFn, hj]
      exact hj
theorem ps_R_up {X : ps_X} {g : ps_G} {s : State} {H H1 : Heap} (hR : ps_R X g s H) {a : Nat} {e : ps_E} (h8 : 8 ≤ a) (hlt : a < g.1) (e1 : ps_at X a e H1) (e2 : H1.size = H.size) (e3 : ∀ q : Nat, q ≠ ps_ad X a → H1[q]? = H[q]?) : ps_R X (ps_up g a e) s H1 := by
  refine ⟨hR.1, fun i hi => ?_, by rw [e2]; exact hR.2.2.1, fun i hi hl => ?_, fun i hi => ?_, hR.2.2.2.2.2.kept (fun q _ hq => e3 q (fun h => hq (by rw [h]; exact ps_ad_ge h8)))⟩
  · show (if i = a then e else g.2.2 i) = _
    have hi : g.1 ≤ i := hi
    rw [if_neg (by omega)]
    exact hR.2.1 i hi
  · show ps_at X i (if i = a then e else g.2.2 i) H1
    by_cases h : i = a
    · rw [if_pos h, h]; exact e1
    · rw [if_neg h]
      exact (hR.2.2.2.1 i hi hl).kept (e3 _ (fun h9 => h (ps_ad_inj hi h8 h9)))
  · obtain ⟨h1, N, f, h2, h3⟩ := hR.2.2.2.2.1 i hi
    refine ⟨h1, N, f, ?_, h3.kept (e3 _ (fun h9 => ?_))⟩
    · show (if i = a then e else g.2.2 i) = _
      rw [if_neg (by omega)]
      exact h2
    · have := ps_ad_ge (X := X) h8
      omega
theorem ps_R_nw {X : ps_X} {g : ps_G} {s : State} {H H1 : Heap} (hR : ps_R X g s H) {N : Nat} {e : ps_E} (e1 : ps_at X g.1 e H1) (e2 : H1.size = H.size + 1) (e3 : ∀ q : Nat, q < H.size → H1[q]? = H[q]?) : ps_R X (ps_nw g N e) s H1 := by
  have hz := hR.2.2.1
  have h80 := hR.1
  refine ⟨Nat.le_trans hR.1 (Nat.le_succ _), fun i hi => ?_, ?_, fun i hi hl => ?_, fun i hi => ?_, hR.2.2.2.2.2.kept (fun q hq _ => e3 q hq)⟩
  · show (if i = g.1 then e else g.2.2 i) = _
    have hi : g.1 + 1 ≤ i := hi
    rw [if_neg (by omega)]
    exact hR.2.1 i (by omega)
  · show H1.size = X.1 + (g.1 + 1 - 8)
    omega
  · show ps_at X i (if i = g.1 then e else g.2.2 i) H1
    have hl : i < g.1 + 1 := hl
    by_cases h : i = g.1
    · rw [if_pos h, h]; exact e1
    · rw [if_neg h]
      refine (hR.2.2.2.1 i hi (by omega)).kept (e3 _ ?_)
      rw [ps_ad_eq hi]
      omega
  · obtain ⟨h1, N', f, h2, h3⟩ := hR.2.2.2.2.1 i hi
    refine ⟨h1, N', f, ?_, h3.kept (e3 _ (by omega))⟩
    show (if i = g.1 then e else g.2.2 i) = _
    rw [if_neg (by omega)]
    exact h2
/-- the next number is the next cell -/
theorem ps_R_sz {X : ps_X} {g : ps_G} {s : State} {H : Heap} (hR : ps_R X g s H) : ps_ad X g.1 = H.size := by
  rw [ps_ad_eq hR.1]
  exact hR.2.2.1.symm
/-- a step that writes a cell -/
theorem ps_write {M : ps_M} {d pc pc' : Nat} {lv : ps_LV} {st st' : List Value} {g : ps_G} {a : Nat} {e0 : ps_E} {Q : ps_Rs → ps_G → Prop}
    (h : ∀ (X : ps_X) (p : Program) (l : Launch) (e : Env) (R : Room) (s : State) (m : MethodId) (args : Array Value) (below : List Frame) (meth : Method) (c : Code) (H : Heap) (locs : List Loc) (ls : Array Slot) (cells slots : Nat) (Qm : State → Prop), ps_K M X p l s m meth c → ps_R X g s H → d ≤ R.frames → 60 * d ≤ R.locals → lv_has ls M.2.2.1 (ps_lv X lv) →
      (∀ (H1 : Heap) (k : Nat), ps_at X a e0 H1 → H1.size = H.size → (∀ q : Nat, q ≠ ps_ad X a → H1[q]? = H[q]?) → W p l e R s m args below meth c H1 (locs ++ [⟨ps_ad X a, k⟩]) cells slots Qm (F0 m pc' ls (st'.map (ps_v X)))) → W p l e R s m args below meth c H locs cells slots Qm (F0 m pc ls (st.map (ps_v X))))
    (h8 : ∀ (X : ps_X) (s : State) (H : Heap), ps_R X g s H → 8 ≤ a) (hl : g.2.2 a ≠ ps_e0) (k : ps_At M d pc' lv st' (ps_up g a e0) Q) : ps_At M d pc lv st g Q := by
  obtain ⟨r, g', hQ, h1, h2, h3⟩ := k
  refine ⟨r, g', hQ, h1, h2, fun X p l e R s m args below meth c H locs ls n0 s0 hK hR hS hb hl1 a1 a2 a3 a4 a5 a6 => h X p l e R s m args below meth c H locs ls _ _ _ hK hR a3 a4 hl1 (fun H1 k e1 e2 e3 => ?_)⟩
  exact h3 X p l e R s m args below meth c H1 _ ls n0 s0 hK (ps_R_up hR (h8 X s H hR) (ps_lt hR rfl hl) e1 e2 e3) (hS.put e2 e3 (ps_ad_ge (h8 X s H hR))) hb hl1 a1 a2 a3 a4 a5 a6
/-- a step that makes a cell -/
theorem ps_make {M : ps_M} {d pc pc' N : Nat} {lv : ps_LV} {st st' : List Value} {g : ps_G} {e0 : ps_E} {Q : ps_Rs → ps_G → Prop}
    (h : ∀ (X : ps_X) (p : Program) (l : Launch) (e : Env) (R : Room) (s : State) (m : MethodId) (args : Array Value) (below : List Frame) (meth : Method) (c : Code) (H : Heap) (locs : List Loc) (ls : Array Slot) (cells slots : Nat) (Qm : State → Prop), ps_K M X p l s m meth c → ps_R X g s H → d ≤ R.frames → 60 * d ≤ R.locals → lv_has ls M.2.2.1 (ps_lv X lv) → cells + 1 ≤ R.cells → slots + N ≤ R.slots →
      (∀ H1 : Heap, ps_at X g.1 e0 H1 → H1.size = H.size + 1 → (∀ q : Nat, q < H.size → H1[q]? = H[q]?) → W p l e R s m args below meth c H1 locs (cells + 1) (slots + N) Qm (F0 m pc' ls (.ref H.size :: st'.map (ps_v X)))) → W p l e R s m args below meth c H locs cells slots Qm (F0 m pc ls (st.map (ps_v X))))
    (k : ps_At M d pc' lv (.ref g.1 :: st') (ps_nw g N e0) Q) : ps_At M d pc lv st g Q := by
  obtain ⟨r, g', hQ, h1, h2, h3⟩ := k
  have h1 : g.1 + 1 ≤ g'.1 := h1
  have h2 : g.2.1 + N ≤ g'.2.1 := h2
  refine ⟨r, g', hQ, by omega, by omega, fun X p l e R s m args below meth c H locs ls n0 s0 hK hR hS hb hl1 a1 a2 a3 a4 a5 a6 => h X p l e R s m args below meth c H locs ls _ _ _ hK hR a3 a4 hl1 (by omega) (by omega) (fun H1 e1 e2 e3 => ?_)⟩
  have k3 := h3 X p l e R s m args below meth c H1 locs ls n0 s0 hK (ps_R_nw hR e1 e2 e3) ⟨by have := hS.1; omega, fun q q1 q2 => (e3 q (Nat.lt_of_lt_of_le q1 hS.1)).trans (hS.2.1 q q1 q2), hS.2.2⟩ hb hl1 (show n0 ≤ g.1 + 1 by omega) (show s0 ≤ g.2.1 + N by omega) a3 a4 a5 a6
  rw [show (ps_nw g N e0).1 - n0 = g.1 - n0 + 1 from by show g.1 + 1 - n0 = _; omega, show (ps_nw g N e0).2.1 - s0 = g.2.1 - s0 + N from by show g.2.1 + N - s0 = _; omega, List.map_cons, show ps_v X (.ref g.1) = .ref H.size from by show Value.ref (ps_ad X g.1) = _; rw [ps_R_sz hR]] at k3
  exact k3
