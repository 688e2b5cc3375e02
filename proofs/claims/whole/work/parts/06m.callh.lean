/-! ===== a static call of a method with a table of its own (the law's wrappers) ===== -/
def ps_wsH (M : ps_M) : List Cond := Cond.codeWith M.1 M.2.1 M.2.2.1 M.2.2.2.1 M.2.2.2.2 :: ps_W
def ps_LmH (M : ps_M) (n : Nat) : Prop := Cond.codeWith M.1 M.2.1 M.2.2.1 M.2.2.2.1 M.2.2.2.2 ∈ ps_W ∧ Cond.initialized M.1.cls ∈ ps_W ∧ (M.1.cls ≠ "java/lang/invoke/MethodHandle" ∧ M.1.cls ≠ "java/lang/invoke/VarHandle" ∧ (parseMethodDescriptor M.1.desc).map (fun d => d.parameters.length) = some n) ∧ plainFor M.1 = true ∧ M.2.2.1 ≤ 41
theorem ps_metH {M : ps_M} {d n : Nat} {av : List Value} {g g' : ps_G} {r : ps_Rs} (hM : ps_LmH M n) (hlen : ps_wd2 av ≤ M.2.2.1) (hW : ps_Wk M d 0 (lv_args 0 av) [] g r g') (X : ps_X) (l : Launch) (hl : l.stackTraces = false) :
    vx_Met l M.1 (ps_wsH M) (ps_rm d g g') (ps_Pc X av g) (ps_Qc X r g') (ps_XC X r g') (g'.1 - g.1) (g'.2.1 - g.2.1) (ps_A X) := by
  refine vx_ofWH (cc := M.2.1) (maxL := M.2.2.1) (ret := M.2.2.2.1) hM.2.2.2.1 rfl ?_
  intro p e s m args below meth c s₁ B hml hv
  obtain ⟨rfl, hC, hR, hb⟩ := hv
  have hent := lv_entry (av.map (ps_v X)) (n := M.2.2.1) (by rw [ps_sl_len]; exact hlen)
  rw [ps_args] at hent
  rw [lg_entry_eq]
  generalize (lg_sl (av.map (ps_v X)) ++ List.replicate (M.2.2.1 - (lg_sl (av.map (ps_v X))).length) Slot.unset).toArray = ls at hent ⊢
  have htab : c.exceptionTable.toList.map (fun h => (h.startPc, h.endPc, h.handlerPc, h.catchType)) = M.2.2.2.2 := by
    have h9 := vx_table (x := M.1) (y := M.1) B (ps_wd hC hM.1 (av.map (ps_v X)).toArray)
    rw [h9]
    unfold tableOf
    rw [List.map_map]
    exact List.map_id _
  have k := hW.2.2 X p l e (headSpec (ps_wsH M) (ps_rm d g g')).room s m (av.map (ps_v X)).toArray below meth c s.heap [] ls g.1 g.2.1
    ⟨hl, B.exec, B.bytes, B.returns, hml, findClass_of_methodNamed B.named, B.notSynchronized, (name_of_methodNamed B.named B.method).1, htab, hC⟩ hR va_S.rf hb hent (Nat.le_refl _) (Nat.le_refl _) (Nat.le_refl _) (Nat.le_refl _) (Nat.le_refl _) (Nat.le_refl _)
  rw [Nat.sub_self, Nat.sub_self] at k
  exact k
theorem ps_invsH {M M' : ps_M} {d n pc idx : Nat} {lv : ps_LV} {av rest : List Value} {g : ps_G} {Q : ps_Rs → ps_G → Prop} (hd : decode M.2.1 pc = .ok (.invokestatic idx, 3)) (hM : ps_LmH M' n) (hL : Cond.methodLink M.1.cls idx M'.1 ∈ ps_W) (hs : Cond.static M'.1 ∈ ps_W) (hn : av.length = n) (hlen : ps_wd2 av ≤ M'.2.2.1) (h8 : ps_wd2 rest ≤ 8)
    (k : ps_Ok M' d av g (fun r g1 => match r with
      | .inl v => ps_At M (d + 1) (pc + 3) lv (v.toList ++ rest) g1 Q
      | .inr _ => False)) : ps_At M (d + 1) pc lv (av.reverse ++ rest) g Q := by
  obtain ⟨r1, g1, hQ, hW1⟩ := k
  have hm1 := hW1.1
  have hm2 := hW1.2.1
  cases r1 with
  | inl v =>
    obtain ⟨r, g', hQ', h1, h2, h3⟩ := hQ
    refine ⟨r, g', hQ', Nat.le_trans hm1 h1, Nat.le_trans hm2 h2, fun X p l e R s m args below meth c H locs ls n0 s0 hK hR hS hb hl a1 a2 a3 a4 a5 a6 => ?_⟩
    have hC := hK.C
    have h41 := hM.2.2.2.2
    have hcw : vx_CSW R s args M.1.cls idx M'.1 M'.2.1 M'.2.2.1 M'.2.2.2.1 M'.2.2.2.2 (ps_wsH M') (ps_rm d g g1) (g1.1 - g.1) (g1.2.1 - g.2.1) n := by
      refine ⟨⟨rfl, rfl, a3, by show 8 + (M'.2.2.1 + 11) + 60 * d ≤ R.locals; omega, fun w hw a' U hW => ?_, List.mem_cons_self⟩, ps_wd hC hM.1 args, ps_wd hC hM.2.1 args, ⟨hM.2.2.1.1, hM.2.2.1.2.1⟩, fun sig h => ?_, ps_wd hC hL args, ps_wd hC hs args⟩
      · have hw' : w ∈ ps_W := by
          rcases List.mem_cons.mp hw with h | h
          · rw [h]; exact hM.1
          · exact h
        exact word_at hW (good_of_word (List.mem_filter.mp hw').2) (hC.2.1 w hw')
      · have h2 := hM.2.2.1.2.2
        rw [h] at h2
        exact (Option.some.inj h2).symm
    have hrr := vx_runSX (e := e) (below := below) (meth := meth) (locs := locs) (cells := g.1 - n0) (slots := g.2.1 - s0) (g := F0 m pc ls ((av.reverse ++ rest).map (ps_v X))) (rest := rest.map (ps_v X)) (As := av.map (ps_v X)) (ps_fix hK args) (ps_metH hM hlen hW1 X l hK.1) hcw ⟨ps_blind X av g, ps_preU hC hR (Nat.le_trans hb hS.1)⟩ rfl (by rw [List.length_map]; exact hn) hl.1 (ps_rev X av rest) (lv_room (ps_sum8 X h8)) hd ⟨by omega, by omega⟩
    intro T hT XT
    rcases hrr T hT XT with ⟨v', st₀, t, T', L, h0, X', hL, e1, e2, ⟨⟨v9, hv1, hv2⟩, hR1, hF⟩, stp⟩ | ⟨q, st₀, t, T', L, E, ce, h0, X', hL, e1, e2, ⟨hr, -⟩, -⟩
    · cases hv1
      cases hv2
      obtain ⟨k1, k2, k3⟩ := vx_keep h0 e1 hS (fun q _ hq => hq) (fun q hq => hq) hL hF
      have e9 : g.1 - n0 + (g1.1 - g.1) = g1.1 - n0 := by omega
      have e8 : g.2.1 - s0 + (g1.2.1 - g.2.1) = g1.2.1 - s0 := by omega
      rw [e9, e8] at X'
      have hal : s.vm.Alike T'.vm := X'.warmed.alike
      obtain ⟨t2, b1, b2⟩ := h3 X p l e R s m args below meth c T'.heap (locs ++ L) ls n0 s0 hK (by rw [e1]; exact ps_R.moved (by rw [← e2]; exact hal.symm) hR1) k3 hb hl (Nat.le_trans a1 hm1) (Nat.le_trans a2 hm2) a3 a4 a5 a6 T' rfl X'
      refine ⟨t2, stp t2 ?_, b2⟩
      rw [List.map_append] at b1
      cases v <;> exact b1
    · cases hr
  | inr E0 => exact hQ.elim
