/-! ===== new int[n][k] ===== -/
def ps_gr (g : ps_G) (N K : Nat) : ps_G := (g.1 + 1 + N, g.2.1 + N + N * K, fun j => if j = g.1 then .inl (5, (N, .inr (.inr (.inr (.inr fun i => if i < N then some (g.1 + 1 + i) else none))))) else if g.1 < j ∧ j < g.1 + 1 + N then .inl (0, (K, .inl fun _ => 0)) else g.2.2 j)
theorem ps_mna {M : ps_M} {d pc idx : Nat} {lv : ps_LV} {r : List Value} {g : ps_G} {Q : ps_Rs → ps_G → Prop} {n k : Int32} (hd : decode M.2.1 pc = .ok (.multianewarray idx 2, 4)) (hL : Cond.classLink M.1.cls idx "[[I" ∈ ps_W) (hn : ¬ n < 0) (hk : ¬ k < 0) (hn1 : n.toNatClampNeg ≤ 1000) (hk1 : k.toNatClampNeg ≤ 100000)
    (kk : ps_At M d (pc + 4) lv (.ref g.1 :: r) (ps_gr g n.toNatClampNeg k.toNatClampNeg) Q) : ps_At M d pc lv (.int k :: .int n :: r) g Q := by
  obtain ⟨r9, g', hQ, h1, h2, h3⟩ := kk
  have h1 : g.1 + 1 + n.toNatClampNeg ≤ g'.1 := h1
  have h2 : g.2.1 + n.toNatClampNeg + n.toNatClampNeg * k.toNatClampNeg ≤ g'.2.1 := h2
  refine ⟨r9, g', hQ, by omega, by omega, fun X p l e R s m args below meth c H locs ls n0 s0 hK hR hS hb hl a1 a2 a3 a4 a5 a6 => ?_⟩
  have hC := hK.C
  have hz := hR.2.2.1
  have h80 := hR.1
  intro T hT XT
  obtain ⟨vm₁, cA, comp, -, fA, fC, hO, -, X', step⟩ := XT.multianewarray2F (ty := .int) hK.2.1 hK.own (ps_wd hC hL args) (va_AOA.use hC.2.2.2.2.2.2.1) (ps_wd hC ps_wA_int args) (g := F0 m pc ls (.int k :: .int n :: r.map (ps_v X))) rfl (by rw [hK.2.2.1]; exact hd) rfl hn hk (by omega) (by show _ * 4 ≤ _; omega) (by omega) rfl rfl (by omega) (by omega)
  have ecA : cA = X.2.2.2 5 := Option.some.inj (fA.symm.trans (hC.1.2 5 _ rfl).2)
  have ecy : comp = X.2.2.2 0 := Option.some.inj (fC.symm.trans (hC.1.2 0 _ rfl).2)
  subst ecA
  subst ecy
  generalize hF : Jvm.Free.Multi.fill (T.setVm vm₁) (X.2.2.2 5) (X.2.2.2 0) n.toNatClampNeg k.toNatClampNeg (defaultValue .int) n.toNatClampNeg = F at X' step
  have hTh : (T.setVm vm₁).heap = H := hT
  obtain ⟨f1, f2, -, -⟩ := Jvm.Free.Multi.fill_facts (T.setVm vm₁) (X.2.2.2 5) (X.2.2.2 0) n.toNatClampNeg k.toNatClampNeg (defaultValue .int) n.toNatClampNeg
  rw [hF, hTh] at f1 f2
  have hold : ∀ x : Nat, x < H.size → F.heap[x]? = H[x]? := fun x hx => by
    have := Jvm.Free.Multi.fill_old (T.setVm vm₁) (X.2.2.2 5) (X.2.2.2 0) n.toNatClampNeg k.toNatClampNeg (defaultValue .int) (a := x) (by rw [hTh]; exact hx) n.toNatClampNeg
    rw [hF, hTh] at this
    exact this
  have hrow : ∀ j : Nat, j < n.toNatClampNeg → F.heap[H.size + 1 + j]? = some (vp_cell (X.2.2.2 0) (k.toNatClampNeg, .inl fun _ => 0)) := fun j hj => by
    have := Jvm.Free.Multi.fill_inner (T.setVm vm₁) (X.2.2.2 5) (X.2.2.2 0) n.toNatClampNeg k.toNatClampNeg (defaultValue .int) n.toNatClampNeg j hj
    rw [hF, hTh] at this
    rw [this]
    show some ({ cls := _, slots := Array.replicate k.toNatClampNeg (Value.int 0), vm := .none } : Cell) = _
    rw [arrV_new]
    rfl
  rw [vr_outer] at f2
  have hR1 : ps_R X (ps_gr g n.toNatClampNeg k.toNatClampNeg) s F.heap := by
    refine ⟨by show 8 ≤ g.1 + 1 + _; omega, fun i hi => ?_, ?_, fun i hi hlt => ?_, fun i hi => ?_, hR.2.2.2.2.2.kept (fun q hq _ => hold q hq)⟩
    · have hi : g.1 + 1 + n.toNatClampNeg ≤ i := hi
      show (if i = g.1 then _ else if g.1 < i ∧ i < g.1 + 1 + n.toNatClampNeg then _ else g.2.2 i) = _
      rw [if_neg (by omega), if_neg (by omega)]
      exact hR.2.1 i (by omega)
    · show F.heap.size = X.1 + (g.1 + 1 + n.toNatClampNeg - 8)
      omega
    · have hlt : i < g.1 + 1 + n.toNatClampNeg := hlt
      show ps_at X i (if i = g.1 then _ else if g.1 < i ∧ i < g.1 + 1 + n.toNatClampNeg then _ else g.2.2 i) F.heap
      by_cases q1 : i = g.1
      · rw [if_pos q1, q1]
        intro _
        show F.heap[ps_ad X g.1]? = some (vp_cell (X.2.2.2 5) (n.toNatClampNeg, .inr (.inr (.inr (.inr fun j => (if j < n.toNatClampNeg then some (g.1 + 1 + j) else none : Option Nat).map (ps_ad X))))))
        rw [ps_R_sz hR, f2, vp_cell_q]
        congr 2
        funext j
        by_cases q2 : j < n.toNatClampNeg
        · rw [if_pos q2, if_pos q2]
          show Value.ref (H.size + 1 + j) = Value.ref (ps_ad X (g.1 + 1 + j))
          rw [ps_ad_eq (by omega)]
          have q3 : H.size + 1 + j = X.1 + (g.1 + 1 + j - 8) := by omega
          rw [q3]
        · rw [if_neg q2, if_neg q2]
          rfl
      · rw [if_neg q1]
        by_cases q2 : g.1 < i ∧ i < g.1 + 1 + n.toNatClampNeg
        · rw [if_pos q2]
          intro _
          show F.heap[ps_ad X i]? = _
          rw [ps_ad_eq hi]
          have := hrow (i - g.1 - 1) (by omega)
          rw [show H.size + 1 + (i - g.1 - 1) = X.1 + (i - 8) by omega] at this
          exact this
        · rw [if_neg q2]
          refine (hR.2.2.2.1 i hi (by omega)).kept (hold _ ?_)
          rw [ps_ad_eq hi]
          omega
    · obtain ⟨q1, N', f, q2, q3⟩ := hR.2.2.2.2.1 i hi
      refine ⟨q1, N', f, ?_, q3.kept (hold _ (by omega))⟩
      show (if i = g.1 then _ else if g.1 < i ∧ i < g.1 + 1 + n.toNatClampNeg then _ else g.2.2 i) = _
      rw [if_neg (by omega), if_neg (by omega)]
      exact q2
  have e9 : g.1 - n0 + 1 + n.toNatClampNeg = (ps_gr g n.toNatClampNeg k.toNatClampNeg).1 - n0 := by show _ = g.1 + 1 + n.toNatClampNeg - n0; omega
  have e8 : g.2.1 - s0 + n.toNatClampNeg + n.toNatClampNeg * k.toNatClampNeg = (ps_gr g n.toNatClampNeg k.toNatClampNeg).2.1 - s0 := by show _ = g.2.1 + n.toNatClampNeg + n.toNatClampNeg * k.toNatClampNeg - s0; omega
  rw [e9, e8] at X'
  obtain ⟨t, b1, b2⟩ := h3 X p l e R s m args below meth c F.heap locs ls n0 s0 hK hR1 ⟨by have := hS.1; omega, fun q z1 z2 => (hold q (Nat.lt_of_lt_of_le z1 hS.1)).trans (hS.2.1 q z1 z2), hS.2.2⟩ hb hl (by show n0 ≤ g.1 + 1 + _; omega) (by show s0 ≤ g.2.1 + _ + _; omega) a3 a4 a5 a6 F rfl X'
  refine ⟨t, step t ?_, b2⟩
  rw [List.map_cons, show ps_v X (.ref g.1) = .ref H.size from by show Value.ref (ps_ad X g.1) = _; rw [ps_R_sz hR]] at b1
  first | exact b1 | (rw [hTh]; exact b1) | (rw [hT]; exact b1)
