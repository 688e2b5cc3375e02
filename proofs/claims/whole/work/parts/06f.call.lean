/-! ===== calls ===== -/
/-- the method, called with av over the cells g, ends so that Q -/
def ps_Ok (M : ps_M) (d : Nat) (av : List Value) (g : ps_G) (Q : ps_Rs → ps_G → Prop) : Prop := ps_At M d 0 (lv_args 0 av) [] g Q
theorem ps_AOA_moved {t : FieldType} {u U : State} (hW : u.WarmedH U.vm) (h : va_AOA t u) : va_AOA t U := by
  have hvm := hW.alike
  obtain ⟨comp, c, k, h1, h2, h3, h4, h5⟩ := arrayOverA_spec h
  obtain ⟨k', hk', he⟩ := hvm.2.2 _ _ h3
  have hbare : U.vm.bare = u.vm.bare := by first | exact hvm.bare_eq | exact hvm.bare_eq.symm
  have hi0 := (va_idx_bare U.vm comp).symm
  rw [hbare, va_idx_bare u.vm comp] at hi0
  have hi := hi0.trans h2
  have hkind : k'.kind = .array comp (.array t) := by rw [he]; exact h4
  have f1 : U.vm.findClass (FieldType.array t).toString = some comp := by rw [hvm.findClass]; exact h1
  have f2 : U.vm.findClass ("[" ++ (FieldType.array t).toString) = some c := by rw [hvm.findClass]; exact h5
  unfold va_AOA Cond.before Cond.holds
  simp only [Cond.value]
  rw [f1, Option.bind_some]
  refine (congrArg (fun o : Option Nat => (o.bind (fun c => (U.vm.classes[c]?).map fun (k : Class) => match k.kind with | .array _ ty => decide (ty = FieldType.array t) && decide (U.vm.findClass ("[" ++ (FieldType.array t).toString) = some c) | _ => false) == some true)) hi).trans ?_
  simp [hk', hkind, f2]
theorem ps_C.warm {X : ps_X} {s U : State} (hW : s.WarmedH U.vm) (h : ps_C X s) : ps_C X U := by
  refine ⟨h.1.moved hW.alike, fun w hw => word_at hW (good_of_word (List.mem_filter.mp hw).2) (h.2.1 w hw), fun q hq => ?_, fun w hw => ?_, h.2.2.2.2.1.moved hW.alike, h.2.2.2.2.2.1.moved hW.alike, ps_AOA_moved hW h.2.2.2.2.2.2.1, fun a ha b hb hab => (h.2.2.2.2.2.2.2 a ha b hb hab).moved hW.alike⟩
  · obtain ⟨sa, h1⟩ := h.2.2.1 q hq
    exact ⟨sa, vk_R.warm hW h1⟩
  · have h1 := h.2.2.2.1 w hw
    have h2 := (List.mem_filter.mp hw).2
    cases w with
    | fieldLinkNest => exact h1.warmF hW
    | methodLinkNest => exact h1.warmM hW
    | castable => exact h1.warmC hW
    | declares => exact h1.warmD hW
    | _ => exact absurd h2 (by simp [ps_isN])
theorem ps_ar.moved {u U : State} {H : Heap} {a N : Nat} {f : Nat → Int32} (hvm : u.vm.Alike U.vm) (h : ps_ar u H a N f) : ps_ar U H a N f := by
  obtain ⟨cell, h1, h2, h3⟩ := h
  exact ⟨cell, h1, State.isArrayOf_alike hvm h2, h3⟩
theorem ps_R.moved {X : ps_X} {g : ps_G} {s U : State} {H : Heap} (hvm : s.vm.Alike U.vm) (h : ps_R X g s H) : ps_R X g U H :=
  ⟨h.1, h.2.1, h.2.2.1, h.2.2.2.1, fun i hi => by
    obtain ⟨h1, N, f, h2, h3⟩ := h.2.2.2.2.1 i hi
    exact ⟨h1, N, f, h2, h3.moved hvm⟩, fun k hk => (h.2.2.2.2.2.1 k hk).moved hvm, h.2.2.2.2.2.2.1.moved hvm, h.2.2.2.2.2.2.2.moved hvm⟩
def ps_rm (d : Nat) (g g' : ps_G) : Room := { frames := d, cells := g'.1 - g.1, slots := g'.2.1 - g.2.1, locals := 60 * d }
def ps_Pc (X : ps_X) (av : List Value) (g : ps_G) : Array Value → State → Prop := va_Pc (av.map (ps_v X)) (fun U => ps_C X U ∧ ps_R X g U U.heap ∧ X.1 ≤ U.heap.size)
def ps_ws (M : ps_M) : List Cond := Cond.code M.1 M.2.1 M.2.2.1 M.2.2.2.1 :: ps_W
theorem ps_args (X : ps_X) (av : List Value) : ∀ i, lv_args i (av.map (ps_v X)) = ps_lv X (lv_args i av) := by
  induction av with
  | nil => intro i; rfl
  | cons v t ih =>
    intro i
    show (i, ps_v X v) :: lv_args (if (ps_v X v).category = 2 then i + 2 else i + 1) (t.map (ps_v X)) = (i, ps_v X v) :: ps_lv X (lv_args (if v.category = 2 then i + 2 else i + 1) t)
    rw [ps_cat, ih]
def ps_wd2 (av : List Value) : Nat := (av.map fun v => v.category).sum
theorem ps_sl_len (X : ps_X) (av : List Value) : (lg_sl (av.map (ps_v X))).length = ps_wd2 av := by
  induction av with
  | nil => rfl
  | cons v t ih =>
    unfold lg_sl ps_wd2 at *
    rw [List.map_cons, List.flatMap_cons, List.length_append, ih, List.map_cons, List.sum_cons, ps_cat]
    rcases lv_cat v with h | h <;> rw [h] <;> rfl
/-- what is known of a method that is called: its words, its descriptor -/
def ps_Lm (M : ps_M) (n : Nat) : Prop := Cond.code M.1 M.2.1 M.2.2.1 M.2.2.2.1 ∈ ps_W ∧ Cond.initialized M.1.cls ∈ ps_W ∧ (M.1.cls ≠ "java/lang/invoke/MethodHandle" ∧ M.1.cls ≠ "java/lang/invoke/VarHandle" ∧ (parseMethodDescriptor M.1.desc).map (fun d => d.parameters.length) = some n) ∧ plainFor M.1 = true ∧ M.2.2.1 ≤ 41 ∧ M.2.2.2.2 = []
theorem ps_met {M : ps_M} {d n : Nat} {av : List Value} {g g' : ps_G} {r : ps_Rs} (hM : ps_Lm M n) (hlen : ps_wd2 av ≤ M.2.2.1) (hW : ps_Wk M d 0 (lv_args 0 av) [] g r g') (X : ps_X) (l : Launch) (hl : l.stackTraces = false) :
    vx_Met l M.1 (ps_ws M) (ps_rm d g g') (ps_Pc X av g) (ps_Qc X r g') (ps_XC X r g') (g'.1 - g.1) (g'.2.1 - g.2.1) (ps_A X) := by
  refine vx_ofW (cc := M.2.1) (maxL := M.2.2.1) (ret := M.2.2.2.1) hM.2.2.2.1 rfl ?_
  intro p e s m args below meth c s₁ B hml ht hv
  obtain ⟨rfl, hC, hR, hb⟩ := hv
  have hent := lv_entry (av.map (ps_v X)) (n := M.2.2.1) (by rw [ps_sl_len]; exact hlen)
  rw [ps_args] at hent
  rw [lg_entry_eq]
  generalize (lg_sl (av.map (ps_v X)) ++ List.replicate (M.2.2.1 - (lg_sl (av.map (ps_v X))).length) Slot.unset).toArray = ls at hent ⊢
  have htab : c.exceptionTable.toList.map (fun h => (h.startPc, h.endPc, h.handlerPc, h.catchType)) = M.2.2.2.2 := by
    rw [hM.2.2.2.2.2]
    cases e9 : c.exceptionTable.toList with
    | nil => rfl
    | cons x t => exact (ht x (by rw [e9]; exact List.mem_cons_self)).elim
  have k := hW.2.2 X p l e (headSpec (ps_ws M) (ps_rm d g g')).room s m (av.map (ps_v X)).toArray below meth c s.heap [] ls g.1 g.2.1
    ⟨hl, B.exec, B.bytes, B.returns, hml, findClass_of_methodNamed B.named, B.notSynchronized, (name_of_methodNamed B.named B.method).1, htab, hC⟩ hR va_S.rf hb hent (Nat.le_refl _) (Nat.le_refl _) (Nat.le_refl _) (Nat.le_refl _) (Nat.le_refl _) (Nat.le_refl _)
  rw [Nat.sub_self, Nat.sub_self] at k
  exact k
theorem ps_callB {M M' : ps_M} {n idx d : Nat} {X : ps_X} {p : Program} {l : Launch} {s : State} {m : MethodId} {meth : Method} {c : Code} {R : Room} {g g' : ps_G} (hK : ps_K M X p l s m meth c) (hM : ps_Lm M' n) (hlink : Cond.methodLink M.1.cls idx M'.1 ∈ ps_W) (hf : d + 1 ≤ R.frames) (hlo : 60 * (d + 1) ≤ R.locals) (args : Array Value) :
    CallB R s args M.1.cls idx M'.1 M'.2.1 M'.2.2.1 M'.2.2.2.1 (ps_ws M') (ps_rm d g g') (g'.1 - g.1) (g'.2.1 - g.2.1) n := by
  have hC := hK.C
  have h41 := hM.2.2.2.2.1
  refine ⟨rfl, rfl, hf, by show 8 + (M'.2.2.1 + 11) + 60 * d ≤ R.locals; omega, fun w hw a' U hW => ?_, List.mem_cons_self, ps_wd hC hM.1 args, ps_wd hC hM.2.1 args, ⟨hM.2.2.1.1, hM.2.2.1.2.1⟩, fun sig h => ?_, ps_wd hC hlink args⟩
  · have hw' : w ∈ ps_W := by
      rcases List.mem_cons.mp hw with h | h
      · rw [h]; exact hM.1
      · exact h
    exact word_at hW (good_of_word (List.mem_filter.mp hw').2) (hC.2.1 w hw')
  · have h2 := hM.2.2.1.2.2
    rw [h] at h2
    exact (Option.some.inj h2).symm
theorem ps_blind (X : ps_X) (av : List Value) (g : ps_G) : FrameBlind (ps_Pc X av g) := fun a U g9 mk h => ⟨h.1, h.2.1.warm (State.WarmedH.refl U), ps_R.moved (Vm.Alike.refl U.vm) h.2.2.1, h.2.2.2⟩
/-- behind a call: back here, or thrown on -/
theorem ps_call {M M' : ps_M} {d n pc : Nat} {lv : ps_LV} {av st rest : List Value} {g : ps_G} {Q : ps_Rs → ps_G → Prop} (hM : ps_Lm M' n) (hlen : ps_wd2 av ≤ M'.2.2.1) (hh : M.2.2.2.2 = [])
    (hrun : ∀ (X : ps_X) (p : Program) (l : Launch) (e : Env) (R : Room) (s : State) (m : MethodId) (args : Array Value) (below : List Frame) (meth : Method) (c : Code) (H : Heap) (locs : List Loc) (ls : Array Slot) (cells slots : Nat) (g' : ps_G) (Qc : Array Value → State → Outcome → State → Prop) (XC : String → State → State → Prop), ps_K M X p l s m meth c → ps_R X g s H → lv_has ls M.2.2.1 (ps_lv X lv) → d + 1 ≤ R.frames → 60 * (d + 1) ≤ R.locals → cells + (g'.1 - g.1) ≤ R.cells → slots + (g'.2.1 - g.2.1) ≤ R.slots → X.1 ≤ H.size →
      vx_Met l M'.1 (ps_ws M') (ps_rm d g g') (ps_Pc X av g) Qc XC (g'.1 - g.1) (g'.2.1 - g.2.1) (ps_A X) → vx_Run p l e R s m args below meth c H locs cells slots (g'.1 - g.1) (g'.2.1 - g.2.1) (F0 m pc ls (st.map (ps_v X))) (rest.map (ps_v X)) (Qc (av.map (ps_v X)).toArray) XC (ps_A X))
    (k : ps_Ok M' d av g (fun r g1 => match r with
      | .inl v => ps_At M (d + 1) (pc + 3) lv (v.toList ++ rest) g1 Q
      | .inr E => Q (.inr E) g1)) : ps_At M (d + 1) pc lv st g Q := by
  obtain ⟨r1, g1, hQ, hW1⟩ := k
  have hm1 := hW1.1
  have hm2 := hW1.2.1
  cases r1 with
  | inl v =>
    obtain ⟨r, g', hQ', h1, h2, h3⟩ := hQ
    refine ⟨r, g', hQ', Nat.le_trans hm1 h1, Nat.le_trans hm2 h2, fun X p l e R s m args below meth c H locs ls n0 s0 hK hR hS hb hl a1 a2 a3 a4 a5 a6 => ?_⟩
    have hrr := hrun X p l e R s m args below meth c H locs ls (g.1 - n0) (g.2.1 - s0) g1 _ _ hK hR hl a3 a4 (by omega) (by omega) (Nat.le_trans hb hS.1) (ps_met hM hlen hW1 X l hK.1)
    intro T hT XT
    rcases hrr T hT XT with ⟨v', st₀, t, T', L, h0, X', hL, e1, e2, ⟨⟨v9, hv1, hv2⟩, hR1, hF⟩, stp⟩ | ⟨q, st₀, t, T', L, E, ce, h0, X', hL, e1, e2, ⟨hr, -⟩, -⟩
    · cases hv1
      cases hv2
      obtain ⟨k1, k2, k3⟩ := vx_keep h0 e1 hS (fun q _ hq => hq) (fun q hq => hq) hL hF
      have e9 : g.1 - n0 + (g1.1 - g.1) = g1.1 - n0 := by omega
      have e8 : g.2.1 - s0 + (g1.2.1 - g.2.1) = g1.2.1 - s0 := by omega
      rw [e9, e8] at X'
      have hal : s.vm.Alike T'.vm := X'.warmed.alike
      obtain ⟨t2, b1, b2⟩ := h3 X p l e R s m args below meth c T'.heap (locs ++ L) ls n0 s0 hK (by rw [e1]; exact ps_R.moved (by rw [← e2]; exact hal.symm) hR1) k3 hb hl (Nat.le_trans a1 hm1) (Nat.le_trans a2 hm2) a3 a4 a5 a6 T' rfl X'
      refine ⟨t2, stp t2 ?_, b2⟩
      rw [List.map_append] at b1
      cases v <;> exact b1
    · cases hr
  | inr E0 =>
    refine ⟨.inr E0, g1, hQ, hm1, hm2, fun X p l e R s m args below meth c H locs ls n0 s0 hK hR hS hb hl a1 a2 a3 a4 a5 a6 => ?_⟩
    have hrr := hrun X p l e R s m args below meth c H locs ls (g.1 - n0) (g.2.1 - s0) g1 _ _ hK hR hl a3 a4 (by omega) (by omega) (Nat.le_trans hb hS.1) (ps_met hM hlen hW1 X l hK.1)
    intro T hT XT
    rcases hrr T hT XT with ⟨v', st₀, t, T', L, h0, X', hL, e1, e2, ⟨⟨v9, hv1, hv2⟩, -⟩, -⟩ | ⟨q, st₀, t, T', L, E, ce, h0, X', hL, e1, e2, ⟨hr, hR1, hF⟩, hce, hcv, hcl, stp⟩
    · cases hv1
    · cases hr
      obtain ⟨k1, k2, k3⟩ := vx_keep h0 e1 hS (fun q _ hq => hq) (fun q hq => hq) hL hF
      have e9 : g.1 - n0 + (g1.1 - g.1) = g1.1 - n0 := by omega
      have e8 : g.2.1 - s0 + (g1.2.1 - g.2.1) = g1.2.1 - s0 := by omega
      rw [e9, e8] at X'
      have hout : ∀ x ∈ c.exceptionTable.toList, covers x pc = false := by
        have h9 := hK.2.2.2.2.2.2.2.2.1
        rw [hh] at h9
        rw [List.map_eq_nil_iff] at h9
        intro x hx
        rw [h9] at hx
        cases hx
      have hxx := vx_out (p := p) (l := l) (e := e) (R := R) (s := s) (m := m) (args := args) (below := below) (meth := meth) (c := c) (H := T'.heap) (locs := locs ++ L) (cells := g1.1 - n0) (slots := g1.2.1 - s0) (ls := ls) (rest := rest.map (ps_v X)) (free := ps_A X) (Qc := ps_Qc X (.inr E0) g1) (XC := ps_XC X (.inr E0) g1) (pc := pc) (E := E0) (ce := ce) (q := q) (mc := g1.1 - n0) (ms := g1.2.1 - s0)
        hout hK.2.2.2.2.2.2.1 (by rw [e1]; exact hce) hcv hcl (fun t9 ht9 hal9 => ⟨rfl, by
          rw [ht9, e1]
          exact ps_R.moved ((by rw [← e2]; exact X'.warmed.alike.symm : t.vm.Alike s.vm).trans hal9) hR1, ⟨by rw [ht9]; exact k3.1, fun q q1 q2 => by rw [ht9]; exact k3.2.1 q q1 q2⟩⟩) k3.2.2 (Nat.le_refl _) (Nat.le_refl _)
      obtain ⟨t2, b1, b2⟩ := hxx T' rfl X'
      exact ⟨t2, stp.trans b1, b2⟩
