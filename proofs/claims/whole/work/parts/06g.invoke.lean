/-! ===== the invoking instructions ===== -/
theorem ps_metR {l : Launch} {y : MethodName} {ws : List Cond} {rm : Room} {Pc : Array Value → State → Prop} {Qc : Array Value → State → Outcome → State → Prop} {XC : String → State → State → Prop} {mc ms : Nat} {free : Addr → Prop} (h : vx_Met l y ws rm Pc Qc XC mc ms free) (hx : ∀ E st t, ¬ XC E st t) : Met l y ws rm Pc Qc mc ms free := by
  intro p e h1 h2 h3 s m args below h4 h5 h6 h7
  obtain ⟨n, o, q1, q2, q3, q4⟩ := h p e h1 h2 h3 s m args below h4 h5 h6 h7
  refine ⟨n, o, q1, q2, q3, ?_⟩
  rcases q4 with q4 | ⟨q, -, E, ce, L, q5, -⟩
  · exact q4
  · exact absurd q5 (hx E _ _)
theorem ps_callN {M M' : ps_M} {d n pc : Nat} {lv : ps_LV} {av st rest : List Value} {g : ps_G} {Q : ps_Rs → ps_G → Prop} (hM : ps_Lm M' n) (hlen : ps_wd2 av ≤ M'.2.2.1)
    (hrun : ∀ (X : ps_X) (p : Program) (l : Launch) (e : Env) (R : Room) (s : State) (m : MethodId) (args : Array Value) (below : List Frame) (meth : Method) (c : Code) (H : Heap) (locs : List Loc) (ls : Array Slot) (cells slots : Nat) (g' : ps_G) (Qc : Array Value → State → Outcome → State → Prop), ps_K M X p l s m meth c → ps_R X g s H → lv_has ls M.2.2.1 (ps_lv X lv) → d + 1 ≤ R.frames → 60 * (d + 1) ≤ R.locals → cells + (g'.1 - g.1) ≤ R.cells → slots + (g'.2.1 - g.2.1) ≤ R.slots → X.1 ≤ H.size →
      Met l M'.1 (ps_ws M') (ps_rm d g g') (ps_Pc X av g) Qc (g'.1 - g.1) (g'.2.1 - g.2.1) (ps_A X) → va_Run p l e R s m args below meth c H locs cells slots (g'.1 - g.1) (g'.2.1 - g.2.1) (F0 m pc ls (st.map (ps_v X))) (rest.map (ps_v X)) (Qc (av.map (ps_v X)).toArray) (ps_A X))
    (k : ps_Ok M' d av g (fun r g1 => match r with
      | .inl v => ps_At M (d + 1) (pc + 3) lv (v.toList ++ rest) g1 Q
      | .inr _ => False)) : ps_At M (d + 1) pc lv st g Q := by
  obtain ⟨r1, g1, hQ, hW1⟩ := k
  have hm1 := hW1.1
  have hm2 := hW1.2.1
  cases r1 with
  | inl v =>
    obtain ⟨r, g', hQ', h1, h2, h3⟩ := hQ
    refine ⟨r, g', hQ', Nat.le_trans hm1 h1, Nat.le_trans hm2 h2, fun X p l e R s m args below meth c H locs ls n0 s0 hK hR hS hb hl a1 a2 a3 a4 a5 a6 => ?_⟩
    have hrr := hrun X p l e R s m args below meth c H locs ls (g.1 - n0) (g.2.1 - s0) g1 _ hK hR hl a3 a4 (by omega) (by omega) (Nat.le_trans hb hS.1) (ps_metR (ps_met hM hlen hW1 X l hK.1) (fun E st t h => nomatch h.1))
    intro T hT XT
    obtain ⟨v', st₀, t, T', L, h0, X', hL, e1, e2, ⟨⟨v9, hv1, hv2⟩, hR1, hF⟩, stp⟩ := hrr T hT XT
    cases hv1
    cases hv2
    obtain ⟨k1, k2, k3⟩ := vx_keep h0 e1 hS (fun q _ hq => hq) (fun q hq => hq) hL hF
    have e9 : g.1 - n0 + (g1.1 - g.1) = g1.1 - n0 := by omega
    have e8 : g.2.1 - s0 + (g1.2.1 - g.2.1) = g1.2.1 - s0 := by omega
    rw [e9, e8] at X'
    have hal : s.vm.Alike T'.vm := X'.warmed.alike
    obtain ⟨t2, b1, b2⟩ := h3 X p l e R s m args below meth c T'.heap (locs ++ L) ls n0 s0 hK (by rw [e1]; exact ps_R.moved (by rw [← e2]; exact hal.symm) hR1) k3 hb hl (Nat.le_trans a1 hm1) (Nat.le_trans a2 hm2) a3 a4 a5 a6 T' rfl X'
    refine ⟨t2, stp t2 ?_, b2⟩
    rw [List.map_append] at b1
    cases v <;> exact b1
  | inr E0 => exact hQ.elim
theorem ps_fix {M : ps_M} {X : ps_X} {p : Program} {l : Launch} {s : State} {m : MethodId} {meth : Method} {c : Code} (hK : ps_K M X p l s m meth c) (args : Array Value) : CallFix p m c M.2.1 M.2.2.1 s args ps_W M.1.cls := ⟨hK.2.1, hK.2.2.1, hK.2.2.2.2.1, hK.own, fun w h => ps_wd hK.C h args⟩
theorem ps_preU {X : ps_X} {s : State} {H : Heap} {g : ps_G} {av : List Value} (hC : ps_C X s) (hR : ps_R X g s H) (hb : X.1 ≤ H.size) : ∀ U : State, U.heap = H → s.WarmedH U.vm → ps_Pc X av g (av.map (ps_v X)).toArray U := fun U hU hW => ⟨rfl, hC.warm hW, by rw [hU]; exact hR.moved hW.alike, by rw [hU]; exact hb⟩
theorem ps_sum8 (X : ps_X) {rest : List Value} (h : ps_wd2 rest ≤ 8) : ((rest.map (ps_v X)).map fun v => v.category).sum ≤ 8 := by
  have e : (rest.map (ps_v X)).map (fun v => v.category) = rest.map fun v => v.category := by
    rw [List.map_map]
    exact List.map_congr_left (fun v _ => ps_cat X v)
  rw [e]
  exact h
theorem ps_rev (X : ps_X) (av rest : List Value) : (av.reverse ++ rest).map (ps_v X) = (av.map (ps_v X)).reverse ++ rest.map (ps_v X) := by
  rw [List.map_append, List.map_reverse]
theorem ps_invs {M M' : ps_M} {d n pc idx : Nat} {lv : ps_LV} {av rest : List Value} {g : ps_G} {Q : ps_Rs → ps_G → Prop} (hd : decode M.2.1 pc = .ok (.invokestatic idx, 3)) (hM : ps_Lm M' n) (hL : Cond.methodLink M.1.cls idx M'.1 ∈ ps_W) (hs : Cond.static M'.1 ∈ ps_W) (hn : av.length = n) (hlen : ps_wd2 av ≤ M'.2.2.1) (h8 : ps_wd2 rest ≤ 8) (hh : M.2.2.2.2 = [])
    (k : ps_Ok M' d av g (fun r g1 => match r with
      | .inl v => ps_At M (d + 1) (pc + 3) lv (v.toList ++ rest) g1 Q
      | .inr E => Q (.inr E) g1)) : ps_At M (d + 1) pc lv (av.reverse ++ rest) g Q := by
  refine ps_call hM hlen hh (fun X p l e R s m args below meth c H locs ls cells slots g' Qc XC hK hR hl a3 a4 a5 a6 hb hMet => ?_) k
  exact vx_runS (ps_fix hK args) hMet ⟨ps_callB hK hM hL a3 a4 args, ps_wd hK.C hs args⟩ ⟨ps_blind X av g, ps_preU hK.C hR hb⟩ rfl (by rw [List.length_map]; exact hn) hl.1 (ps_rev X av rest) (lv_room (ps_sum8 X h8)) hd ⟨a5, a6⟩
theorem ps_cn {M M' : ps_M} {n idx d : Nat} {X : ps_X} {p : Program} {l : Launch} {s : State} {m : MethodId} {meth : Method} {c : Code} {R : Room} {g g' : ps_G} {host : String} (hK : ps_K M X p l s m meth c) (hM : ps_Lm M' n) (hlink : Cond.methodLinkNest M.1.cls idx M'.1 host ∈ ps_N) (hf : d + 1 ≤ R.frames) (hlo : 60 * (d + 1) ≤ R.locals) (args : Array Value) :
    va_CN R s args M.1.cls idx M'.1 host M'.2.1 M'.2.2.1 M'.2.2.2.1 (ps_ws M') (ps_rm d g g') (g'.1 - g.1) (g'.2.1 - g.2.1) n := by
  have hC := hK.C
  have h41 := hM.2.2.2.2.1
  refine ⟨⟨rfl, rfl, hf, by show 8 + (M'.2.2.1 + 11) + 60 * d ≤ R.locals; omega, fun w hw a' U hW => ?_, List.mem_cons_self⟩, ps_wd hC hM.1 args, ps_wd hC hM.2.1 args, ⟨hM.2.2.1.1, hM.2.2.1.2.1⟩, fun sig h => ?_, (hC.2.2.2.1 _ hlink).use rfl⟩
  · have hw' : w ∈ ps_W := by
      rcases List.mem_cons.mp hw with h | h
      · rw [h]; exact hM.1
      · exact h
    exact word_at hW (good_of_word (List.mem_filter.mp hw').2) (hC.2.1 w hw')
  · have h2 := hM.2.2.1.2.2
    rw [h] at h2
    exact (Option.some.inj h2).symm
theorem ps_invsN {M M' : ps_M} {d n pc idx : Nat} {lv : ps_LV} {av rest : List Value} {g : ps_G} {Q : ps_Rs → ps_G → Prop} {host : String} (hd : decode M.2.1 pc = .ok (.invokestatic idx, 3)) (hM : ps_Lm M' n) (hL : Cond.methodLinkNest M.1.cls idx M'.1 host ∈ ps_N) (hs : Cond.static M'.1 ∈ ps_W) (hn : av.length = n) (hlen : ps_wd2 av ≤ M'.2.2.1) (h8 : ps_wd2 rest ≤ 8)
    (k : ps_Ok M' d av g (fun r g1 => match r with
      | .inl v => ps_At M (d + 1) (pc + 3) lv (v.toList ++ rest) g1 Q
      | .inr _ => False)) : ps_At M (d + 1) pc lv (av.reverse ++ rest) g Q := by
  refine ps_callN hM hlen (fun X p l e R s m args below meth c H locs ls cells slots g' Qc hK hR hl a3 a4 a5 a6 hb hMet => ?_) k
  exact va_runSN (ps_fix hK args) hMet ⟨ps_cn hK hM hL a3 a4 args, ps_wd hK.C hs args, trivial⟩ ⟨ps_blind X av g, ps_preU hK.C hR hb⟩ rfl (by rw [List.length_map]; exact hn) hl.1 (ps_rev X av rest) (lv_room (ps_sum8 X h8)) hd ⟨a5, a6⟩
theorem ps_invv {M M' : ps_M} {d n pc idx a ci : Nat} {lv : ps_LV} {av rest fs : List Value} {g : ps_G} {Q : ps_Rs → ps_G → Prop} (hd : decode M.2.1 pc = .ok (.invokevirtual idx, 3)) (hM : ps_Lm M' n) (hL : Cond.methodLink M.1.cls idx M'.1 ∈ ps_W) (hi : Cond.instanceMethod M'.1 ∈ ps_W) (hse : Cond.selects M'.1.cls M'.1 M'.1 ∈ ps_W) (hc : ∃ T N, vwCl[ci]? = some (M'.1.cls, T, N)) (he : g.2.2 a = .inr (ci, fs)) (hn : av.length = n) (hlen : ps_wd2 (.ref a :: av) ≤ M'.2.2.1) (h8 : ps_wd2 rest ≤ 8) (hh : M.2.2.2.2 = [])
    (k : ps_Ok M' d (.ref a :: av) g (fun r g1 => match r with
      | .inl v => ps_At M (d + 1) (pc + 3) lv (v.toList ++ rest) g1 Q
      | .inr E => Q (.inr E) g1)) : ps_At M (d + 1) pc lv (av.reverse ++ .ref a :: rest) g Q := by
  obtain ⟨T, N, hc⟩ := hc
  refine ps_call hM hlen hh (fun X p l e R s m args below meth c H locs ls cells slots g' Qc XC hK hR hl a3 a4 a5 a6 hb hMet => ?_) k
  have hrec := va_recv hK.C.1 (ps_P1 (ps_R_obj hR he)) (ci := ci) (q0 := 0) hc rfl
  exact vx_runV (ps_fix hK args) hMet ⟨ps_callB hK hM hL a3 a4 args, ps_wd hK.C hi args, ps_wd hK.C hse args⟩ ⟨ps_blind X _ g, hrec, ps_preU hK.C hR hb⟩ rfl (by rw [List.length_map]; exact hn) hl.1 (ps_rev X av (.ref a :: rest)) (lv_room (ps_sum8 X h8)) hd ⟨a5, a6⟩
theorem ps_invi {M M' : ps_M} {d n pc idx a : Nat} {lv : ps_LV} {av rest : List Value} {g : ps_G} {Q : ps_Rs → ps_G → Prop} (hd : decode M.2.1 pc = .ok (.invokespecial idx, 3)) (hM : ps_Lm M' n) (hL : Cond.methodLink M.1.cls idx M'.1 ∈ ps_W ∨ ∃ host, Cond.methodLinkNest M.1.cls idx M'.1 host ∈ ps_N) (hi : Cond.instanceMethod M'.1 ∈ ps_W) (hy : M'.1.name = "<init>") (hr : M'.2.2.2.1 = none) (hn : av.length = n) (hlen : ps_wd2 (.ref a :: av) ≤ M'.2.2.1) (h8 : ps_wd2 rest ≤ 8)
    (k : ps_Ok M' d (.ref a :: av) g (fun r g1 => match r with
      | .inl v => ps_At M (d + 1) (pc + 3) lv (v.toList ++ rest) g1 Q
      | .inr _ => False)) : ps_At M (d + 1) pc lv (av.reverse ++ .ref a :: rest) g Q := by
  refine ps_callN hM hlen (fun X p l e R s m args below meth c H locs ls cells slots g' Qc hK hR hl a3 a4 a5 a6 hb hMet => ?_) k
  rcases hL with hL | ⟨host, hL⟩
  · have hB := ps_callB (g := g) (g' := g') hK hM hL a3 a4 args
    rw [hr] at hB
    exact va_runI (ps_fix hK args) hMet ⟨hB, hy, ps_wd hK.C hi args⟩ ⟨ps_blind X _ g, ps_preU hK.C hR hb⟩ rfl (by rw [List.length_map]; exact hn) hl.1 (ps_rev X av (.ref a :: rest)) (lv_room (ps_sum8 X h8)) hd ⟨a5, a6⟩
  · have hB := ps_cn (g := g) (g' := g') hK hM hL a3 a4 args
    rw [hr] at hB
    exact va_runIN (ps_fix hK args) hMet ⟨hB, hy, ps_wd hK.C hi args⟩ ⟨ps_blind X _ g, ps_preU hK.C hR hb⟩ rfl (by rw [List.length_map]; exact hn) hl.1 (ps_rev X av (.ref a :: rest)) (lv_room (ps_sum8 X h8)) hd ⟨a5, a6⟩
theorem ps_oini {M : ps_M} {d pc idx a : Nat} {lv : ps_LV} {rest : List Value} {g : ps_G} {Q : ps_Rs → ps_G → Prop} (hd : decode M.2.1 pc = .ok (.invokespecial idx, 3)) (hL : Cond.methodLink M.1.cls idx Lib.objectInit ∈ ps_W) (hi : Cond.instanceMethod Lib.objectInit ∈ ps_W) (hc : Cond.code Lib.objectInit ⟨#[0xb1]⟩ 1 none ∈ ps_W) (h8 : ps_wd2 rest ≤ 8) (kk : ps_At M (d + 1) (pc + 3) lv rest g Q) : ps_At M (d + 1) pc lv (.ref a :: rest) g Q := by
  refine ps_pass (fun X p l e R s m args below meth c H locs ls cells slots Qm hK hR _ hl a3 a4 k2 => ?_) kk
  have hC := hK.C
  have h9 := lv_room (m := m) (pc := pc) (ls := ls) (rest := rest.map (ps_v X)) (ps_sum8 X h8)
  exact W.objInit hK.2.1 hK.2.2.1 hK.own (ps_wd hC hL args) (ps_wd hC hi args) (ps_wd hC hc args) rfl (hl.1.trans hK.2.2.2.2.1.symm) rfl hd (by omega) (by
    have := h9
    simp only [List.map_cons] at *
    omega) k2
