/-! ===== methods with a table of their own: the law's wrappers ===== -/
/-- a handler: the class, its row of the table, the instruction that stores, its length, the answer -/
abbrev ps_H : Type := String × (Nat × Nat × Nat × Nat) × Instr × Nat × Int
def ps_hf (hs : List ps_H) (E : String) : Option Int32 := (hs.find? fun h => h.1 == E).map fun h => Int32.ofInt h.2.2.2.2
def ps_hk (M : ps_M) (pc : Nat) (h : ps_H) : Prop := h.1 ∈ ps_xs ∧ Cond.classLink M.1.cls h.2.1.2.2.2 h.1 ∈ ps_W ∧ h.2.1.2.2.2 ≠ 0 ∧ Cond.castable h.1 h.1 ∈ ps_N ∧ h.2.1.1 ≤ pc ∧ pc < h.2.1.2.1 ∧ ((∃ k, h.2.2.1 = .astore k ∧ k < M.2.2.1 ∧ h.2.2.2.1 = 2) ∨ (∃ k : Fin 4, h.2.2.1 = .astore_n k ∧ k.val < M.2.2.1 ∧ h.2.2.2.1 = 1)) ∧ ps_D M.2.1 h.2.1.2.2.1 [(h.2.2.1, h.2.2.2.1), (.iconst h.2.2.2.2, 1), (.ireturn, 1)]
theorem ps_hend {M : ps_M} {pc : Nat} {h : ps_H} {g : ps_G} (hk : ps_hk M pc h) (hr : M.2.2.2.1 = some .int) {X : ps_X} {p : Program} {l : Launch} {e : Env} {R : Room} {s : State} {m : MethodId} {args : Array Value} {below : List Frame} {meth : Method} {c : Code} {H : Heap} {locs : List Loc} {ls : Array Slot} {cells slots q : Nat}
    (hK : ps_K M X p l s m meth c) (hR : ps_R X g s H) (hS : va_S (ps_A X) s.heap H locs) {lv : List (Nat × Value)} (hl : lv_has ls M.2.2.1 lv) :
    W p l e R s m args below meth c H locs cells slots (vx_MQ below (ps_Qc X (.inl (some (.int (Int32.ofInt h.2.2.2.2)))) g) (ps_XC X (.inl (some (.int (Int32.ofInt h.2.2.2.2)))) g) args s cells slots (ps_A X)) (F0 m h.2.1.2.2.1 ls [.ref q]) := by
  obtain ⟨-, -, -, -, -, -, h7, hD⟩ := hk
  have d0 := ps_D_hd hD
  have D1 := ps_D_tl hD
  have d1 := ps_D_hd D1
  have d2 := ps_D_hd (ps_D_tl D1)
  have fin : ∀ ls' : Array Slot, W p l e R s m args below meth c H locs cells slots (vx_MQ below (ps_Qc X (.inl (some (.int (Int32.ofInt h.2.2.2.2)))) g) (ps_XC X (.inl (some (.int (Int32.ofInt h.2.2.2.2)))) g) args s cells slots (ps_A X)) (F0 m (h.2.1.2.2.1 + h.2.2.2.1) ls' []) := by
    intro ls'
    refine lv_iconst hK.2.1 hK.2.2.1 d1 rfl ?_
    exact vx_ret (W.zret hK.2.1 hK.2.2.1 (hK.2.2.2.1.trans hr) rfl (fun t ht hW => ps_end (v := some (.int _)) hR hS rfl ht hW) hS.2.2 d2 hK.2.2.2.2.2.2.1)
  rcases h7 with ⟨k, e1, e2, e3⟩ | ⟨k, e1, e2, e3⟩
  · rw [e1, e3] at d0
    rw [e3] at fin
    exact lv_astore hK.2.1 hK.2.2.1 d0 hl e2 rfl (fun ls' _ => fin ls')
  · rw [e1, e3] at d0
    rw [e3] at fin
    exact lv_astore_n hK.2.1 hK.2.2.1 d0 rfl hl e2 rfl (fun ls' _ => fin ls')
theorem ps_invvH {M M' : ps_M} {d n pc idx a ci : Nat} {lv : ps_LV} {av rest fs : List Value} {g : ps_G} {Q : ps_Rs → ps_G → Prop} (hs : List ps_H) (hd : decode M.2.1 pc = .ok (.invokevirtual idx, 3)) (hM : ps_Lm M' n) (hL : Cond.methodLink M.1.cls idx M'.1 ∈ ps_W) (hi : Cond.instanceMethod M'.1 ∈ ps_W) (hse : Cond.selects M'.1.cls M'.1 M'.1 ∈ ps_W) (hc : ∃ T N, vwCl[ci]? = some (M'.1.cls, T, N)) (he : g.2.2 a = .inr (ci, fs)) (hn : av.length = n) (hlen : ps_wd2 (.ref a :: av) ≤ M'.2.2.1) (h8 : ps_wd2 rest ≤ 8)
    (hh : M.2.2.2.2 = hs.map fun h => h.2.1) (hks : ∀ h ∈ hs, ps_hk M pc h) (hret : M.2.2.2.1 = some .int)
    (k : ps_Ok M' d (.ref a :: av) g (fun r g1 => match r with
      | .inl v => ps_At M (d + 1) (pc + 3) lv (v.toList ++ rest) g1 Q
      | .inr E => E ∈ ps_xs ∧ ∃ x, ps_hf hs E = some x ∧ Q (.inl (some (.int x))) g1)) : ps_At M (d + 1) pc lv (av.reverse ++ .ref a :: rest) g Q := by
  obtain ⟨T, N, hc⟩ := hc
  have hrun : ∀ (X : ps_X) (p : Program) (l : Launch) (e : Env) (R : Room) (s : State) (m : MethodId) (args : Array Value) (below : List Frame) (meth : Method) (c : Code) (H : Heap) (locs : List Loc) (ls : Array Slot) (cells slots : Nat) (g' : ps_G) (Qc : Array Value → State → Outcome → State → Prop) (XC : String → State → State → Prop), ps_K M X p l s m meth c → ps_R X g s H → lv_has ls M.2.2.1 (ps_lv X lv) → d + 1 ≤ R.frames → 60 * (d + 1) ≤ R.locals → cells + (g'.1 - g.1) ≤ R.cells → slots + (g'.2.1 - g.2.1) ≤ R.slots → X.1 ≤ H.size →
      vx_Met l M'.1 (ps_ws M') (ps_rm d g g') (ps_Pc X (.ref a :: av) g) Qc XC (g'.1 - g.1) (g'.2.1 - g.2.1) (ps_A X) → vx_Run p l e R s m args below meth c H locs cells slots (g'.1 - g.1) (g'.2.1 - g.2.1) (F0 m pc ls ((av.reverse ++ .ref a :: rest).map (ps_v X))) (rest.map (ps_v X)) (Qc ((.ref a :: av : List Value).map (ps_v X)).toArray) XC (ps_A X) := by
    intro X p l e R s m args below meth c H locs ls cells slots g' Qc XC hK hR hl a3 a4 a5 a6 hb hMet
    have hrec := va_recv hK.C.1 (ps_P1 (ps_R_obj hR he)) (ci := ci) (q0 := 0) hc rfl
    exact vx_runV (ps_fix hK args) hMet ⟨ps_callB hK hM hL a3 a4 args, ps_wd hK.C hi args, ps_wd hK.C hse args⟩ ⟨ps_blind X _ g, hrec, ps_preU hK.C hR hb⟩ rfl (by rw [List.length_map]; exact hn) hl.1 (ps_rev X av (.ref a :: rest)) (lv_room (ps_sum8 X h8)) hd ⟨a5, a6⟩
  obtain ⟨r1, g1, hQ, hW1⟩ := k
  have hm1 := hW1.1
  have hm2 := hW1.2.1
  cases r1 with
  | inl v =>
    obtain ⟨r, g', hQ', h1, h2, h3⟩ := hQ
    refine ⟨r, g', hQ', Nat.le_trans hm1 h1, Nat.le_trans hm2 h2, fun X p l e R s m args below meth c H locs ls n0 s0 hK hR hS hb hl a1 a2 a3 a4 a5 a6 => ?_⟩
    have hrr := hrun X p l e R s m args below meth c H locs ls (g.1 - n0) (g.2.1 - s0) g1 _ _ hK hR hl a3 a4 (by omega) (by omega) (Nat.le_trans hb hS.1) (ps_met hM hlen hW1 X l hK.1)
    intro T hT XT
    rcases hrr T hT XT with ⟨v', st₀, t, T', L, h0, X', hL, e1, e2, ⟨⟨v9, hv1, hv2⟩, hR1, hF⟩, stp⟩ | ⟨q, st₀, t, T', L, E, ce, h0, X', hL, e1, e2, ⟨hr, -⟩, -⟩
    · cases hv1
      cases hv2
      obtain ⟨k1, k2, k3⟩ := vx_keep h0 e1 hS (fun q _ hq => hq) (fun q hq => hq) hL hF
      have e9 : g.1 - n0 + (g1.1 - g.1) = g1.1 - n0 := by omega
      have e8 : g.2.1 - s0 + (g1.2.1 - g.2.1) = g1.2.1 - s0 := by omega
      rw [e9, e8] at X'
      have hal : s.vm.Alike T'.vm := X'.warmed.alike
      obtain ⟨t2, b1, b2⟩ := h3 X p l e R s m args below meth c T'.heap (locs ++ L) ls n0 s0 hK (by rw [e1]; exact ps_R.moved (by rw [← e2]; exact hal.symm) hR1) k3 hb hl (Nat.le_trans a1 hm1) (Nat.le_trans a2 hm2) a3 a4 a5 a6 T' rfl X'
      refine ⟨t2, stp t2 ?_, b2⟩
      rw [List.map_append] at b1
      cases v <;> exact b1
    · cases hr
  | inr E0 =>
    obtain ⟨hE, x, hx, hQ⟩ := hQ
    obtain ⟨hd0, hfind, rfl⟩ : ∃ h0, hs.find? (fun h => h.1 == E0) = some h0 ∧ Int32.ofInt h0.2.2.2.2 = x := by
      unfold ps_hf at hx
      cases e9 : hs.find? (fun h => h.1 == E0) with
      | none => rw [e9] at hx; cases hx
      | some h0 => rw [e9] at hx; exact ⟨h0, rfl, Option.some.inj hx⟩
    obtain ⟨hq1, pre, suf, hsp, hpre⟩ := List.find?_eq_some_iff_append.mp hfind
    have hq1 : hd0.1 = E0 := by simpa using hq1
    have hmem : hd0 ∈ hs := List.mem_of_find?_eq_some hfind
    have hkh := hks hd0 hmem
    refine ⟨.inl (some (.int _)), g1, hQ, hm1, hm2, fun X p l e R s m args below meth c H locs ls n0 s0 hK hR hS hb hl a1 a2 a3 a4 a5 a6 => ?_⟩
    have hrr := hrun X p l e R s m args below meth c H locs ls (g.1 - n0) (g.2.1 - s0) g1 _ _ hK hR hl a3 a4 (by omega) (by omega) (Nat.le_trans hb hS.1) (ps_met hM hlen hW1 X l hK.1)
    intro T hT XT
    rcases hrr T hT XT with ⟨v', st₀, t, T', L, h0, X', hL, e1, e2, ⟨⟨v9, hv1, hv2⟩, -⟩, -⟩ | ⟨q, st₀, t, T', L, E, ce, h0, X', hL, e1, e2, ⟨hr, hR1, hF⟩, hce, hcv, hcl, stp⟩
    · cases hv1
    · cases hr
      obtain ⟨k1, k2, k3⟩ := vx_keep h0 e1 hS (fun q _ hq => hq) (fun q hq => hq) hL hF
      have e9 : g.1 - n0 + (g1.1 - g.1) = g1.1 - n0 := by omega
      have e8 : g.2.1 - s0 + (g1.2.1 - g.2.1) = g1.2.1 - s0 := by omega
      rw [e9, e8] at X'
      have hal : s.vm.Alike T'.vm := X'.warmed.alike
      have hR2 : ps_R X g1 s T'.heap := by rw [e1]; exact ps_R.moved (by rw [← e2]; exact hal.symm) hR1
      have hC := hK.C
      have htab : c.exceptionTable.toList = tableOf (hs.map fun h => h.2.1) := by
        have h9 := hK.2.2.2.2.2.2.2.2.1
        rw [hh] at h9
        rw [← h9, table_eq]
      have hend := ps_hend (e := e) (R := R) (args := args) (below := below) (cells := g1.1 - n0) (slots := g1.2.1 - s0) (q := q) hkh hret hK hR2 k3 hl
      rw [hsp, List.map_append, List.map_cons] at htab
      have hsplit : c.exceptionTable.toList = tableOf (pre.map fun h => h.2.1) ++ { startPc := hd0.2.1.1, endPc := hd0.2.1.2.1, handlerPc := hd0.2.1.2.2.1, catchType := hd0.2.1.2.2.2 } :: tableOf (suf.map fun h => h.2.1) := by
        rw [htab]
        simp [tableOf]
      have hcat := vx_catch (p := p) (l := l) (e := e) (R := R) (s := s) (m := m) (args := args) (below := below) (meth := meth) (c := c) (H := T'.heap) (locs := locs ++ L) (cells := g1.1 - n0) (slots := g1.2.1 - s0) (ls := ls) (rest := rest.map (ps_v X)) (pc := pc) (own := M.1.cls) (name := hd0.1) (E := E0) (ce := ce) (q := q)
        hK.own _ _ _ hsplit (fun z hz => ?_) ?_ ?_ ?_ ?_ (by rw [e1]; exact hce) hcv hcl hend
      · obtain ⟨t2, b1, b2⟩ := hcat T' rfl X'
        exact ⟨t2, stp.trans b1, b2⟩
      · obtain ⟨y, hy, rfl⟩ : ∃ y ∈ pre, ({ startPc := y.2.1.1, endPc := y.2.1.2.1, handlerPc := y.2.1.2.2.1, catchType := y.2.1.2.2.2 } : ExceptionTableEntry) = z := by simpa [tableOf] using hz
        have hy1 := hks y (by rw [hsp]; exact List.mem_append_left _ hy)
        have hy2 : y.1 ≠ E0 := by simpa using hpre y hy
        exact Or.inr ⟨hy1.2.2.1, y.1, ps_wd hC hy1.2.1 args, hC.2.2.2.2.2.2.2 E0 hE y.1 hy1.1 (fun e7 => hy2 e7.symm)⟩
      · have b1 := hkh.2.2.2.2.1
        have b2 := hkh.2.2.2.2.2.1
        simp [covers, b1, b2]
      · exact hkh.2.2.1
      · exact ps_wd hC hkh.2.1 args
      · have b1 := hC.2.2.2.1 _ hkh.2.2.2.1
        rw [hq1] at b1 ⊢
        exact b1.use rfl
