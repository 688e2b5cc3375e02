/-! THE CLAIM OUT OF ONE WALK OF THE LAW'S BODY. Your part is whole_start (and what it stands on); all else here is the same for every law, but numbers. -/
def R_law : String := "PictureStudioLaw"
def lw_P (b : Addr) (xs : List Int32) (args : Array Value) (s : State) : Prop := args = #[.ref b] ∧ s.IntsAt b xs ∧ xs.length ≤ 448 ∧ (Jvm.Cond.and given_1 narrow_1).before args s = true
def lw_Q (_ : Array Value) (s : State) (o : Outcome) (t : State) : Prop := o = .returned (some (.int 1)) ∧ Framed s o t [] 600128 7301098
def lw_Z (below : List Frame) (a : Array Value) (s : State) : State → Prop := fun t => ∃ o, t.status = .running ∧ Ended t below o ∧ lw_Q a s o t
/-- the law's own end, with 1 on the stack, nothing written that was there before, its room as the claim has it -/
theorem lw_ret {p : Program} {l : Launch} {e : Env} {s : State} {m : MethodId} {below : List Frame} {meth : Method} {c : Code} {b : Nat} (hx : p.tables.exec = Jvm.exec) (hb : c.code = code) (hr : meth.sig.returnType = ret) (hlocks : meth.locks = false) {pc : Nat} {H : Heap} {ls : Array Slot} (hdg : decode code pc = .ok (.ireturn, 1)) : W p l e room_1 s m #[Value.ref b] below meth c H [] 600128 7301098 (lw_Z below #[Value.ref b] s) (F0 m pc ls [.int 1]) := by
  intro T hT X
  obtain ⟨fs, hret, hrun, hended, hW, hframe⟩ := X.leave (v := some (.int 1)) (hlocks := hlocks) (fun h => by rw [hr] at h; cases h)
  have hmeth' : T.vm.method? m = some meth := X.method'
  refine ⟨T.setFrames fs, ?_, .returned (some (.int 1)), hrun, hended, rfl, ⟨_, rfl⟩, hW, hframe⟩
  jvm_step X.here [X.here.top, hx, hb, hdg, hmeth', hr, ret, narrow_b1]
  (try refine ⟨rfl, ?_⟩); (try refine ⟨rfl, ?_⟩)
  first | (intro acts; rw [hret _ acts rfl rfl rfl]) | rw [hret _ _ rfl rfl rfl]
  exact Steps.refl _
/-- what holds at the law's entry: the machine, the code, the tables' words (any of lw_tbl by 'hts w (by decide +kernel)'), the script of L ints xs at the cell b, what the Statement gives of the start (any of its parts by flat_of_before) -/
def lw_At (p : Program) (s : State) (m : MethodId) (meth : Method) (c : Code) (b L : Nat) (xs : Nat → Int32) : Prop :=
  p.tables.exec = Jvm.exec ∧ c.code = code ∧ meth.sig.returnType = ret ∧ c.maxLocals = 8 ∧ s.vm.findClass R_law = some m.cls ∧ (∀ w ∈ lw_tbl, w.before #[Value.ref b] s = true) ∧ va_X b L xs s s.heap ∧ b < s.heap.size ∧ meth.locks = false ∧ (Jvm.Cond.and given_1 narrow_1).before #[Value.ref b] s = true
-- ===== YOUR PART BEGINS =====
theorem ps_drop {s t : State} {L : List Loc} {k n k' n' : Nat} (h : s.sameButNew t L k n) (hL : ∀ x ∈ L, s.heap.size ≤ x.base) (hk : k ≤ k') (hn : n ≤ n') : s.sameButNew t [] k' n' := by
  obtain ⟨h1, h2, h3, h4, h5, h6⟩ := h
  refine ⟨h1, h2, Nat.le_trans h3 (Nat.add_le_add_left hk _), h4, Nat.le_trans h5 hn, fun a c ha => ?_⟩
  obtain ⟨c', q1, q2, q3, q4⟩ := h6 a c ha
  refine ⟨c', q1, q2, q3, fun i _ => q4 i (fun hm => ?_)⟩
  have := hL _ hm
  have h9 : a < s.heap.size := (Array.getElem?_eq_some_iff.mp ha).1
  exact absurd (show s.heap.size ≤ a from this) (Nat.not_le.mpr h9)
/-- the claim's walk out of the law's row -/
theorem ps_walk (hlaw : ∀ (L : Nat) (xs : Nat → Int32), L ≤ 448 → ps_Ok mL_law 400 [.ref 7] (ps_g0 L xs) (fun r g => r = .inl (some (.int 1)) ∧ g.1 - 8 ≤ 600128 ∧ g.2.1 ≤ 7301098)) {p : Program} {e : Env} {s : State} {m : MethodId} {below : List Frame} {meth : Method} {c : Code} (l : Launch) (hl : l.stackTraces = false) {b L : Nat} {xs : Nat → Int32} (hL : L ≤ 448) (C0 : lw_At p s m meth c b L xs) (hname : meth.name = "law") (htab : c.exceptionTable.toList = []) :
    W p l e room_1 s m #[Value.ref b] below meth c s.heap [] 0 0 (lw_Z below #[Value.ref b] s) (entryFrame m ([Value.ref b] : List Value).toArray 8) := by
  obtain ⟨hx, hb, hr, hml, hown, hts, hX, hbl, hlocks, hgv⟩ := C0
  obtain ⟨X, x1, x2, hC, hR⟩ := ps_top (p := p) (m := m) (meth := meth) (c := c) hts hX hbl hgv
  obtain ⟨r, g', ⟨rfl, hg1, hg2⟩, h1, h2, h3⟩ := hlaw L xs hL
  have h1 : 8 ≤ g'.1 := h1
  have hent := lv_entry ([Value.ref b]) (n := 8) (Nat.le_of_ble_eq_true rfl)
  rw [lg_entry_eq]
  generalize (lg_sl ([Value.ref b]) ++ List.replicate (8 - (lg_sl ([Value.ref b])).length) Slot.unset).toArray = ls at hent ⊢
  have hent : lv_has ls 8 (ps_lv X (lv_args 0 [.ref 7])) := by
    have e7 : ps_ad X 7 = b := by rw [ps_ad_lo (by decide)]; exact x2
    show lv_has ls 8 [(0, .ref (ps_ad X 7))]
    rw [e7]
    exact hent
  have k := h3 X p l e room_1 s m #[Value.ref b] below meth c s.heap [] ls 8 0 ⟨hl, hx, hb, hr, hml, hown, hlocks, hname, by rw [htab]; rfl, hC⟩ hR va_S.rf (by rw [x1]; exact Nat.le_refl _) hent (Nat.le_refl _) (Nat.le_refl _) (by decide) (by decide) hg1 hg2
  have k : W p l e room_1 s m #[Value.ref b] below meth c s.heap [] 0 0 (vx_MQ below (ps_Qc X (.inl (some (.int 1))) g') (ps_XC X (.inl (some (.int 1))) g') #[Value.ref b] s (g'.1 - 8) (g'.2.1 - 0) (ps_A X)) (F0 m 0 ls []) := k
  intro T hT XT
  obtain ⟨t, a1, o, q1, q2, q3⟩ := k T hT XT
  refine ⟨t, a1, o, q1, q2, ?_⟩
  rcases q3 with ⟨⟨⟨v, hv1, hv2⟩, -, -⟩, L9, ⟨hF1, hF2, hF3⟩, hfree⟩ | ⟨q, -, E, ce, L9, ⟨hx9, -⟩, -⟩
  · cases hv1
    refine ⟨hv2, hF1, hF2, ps_drop hF3 (fun x hx9 => by rw [← x1]; exact hfree x hx9) hg1 hg2⟩
  · cases hx9
-- ===== YOUR PART ENDS =====
