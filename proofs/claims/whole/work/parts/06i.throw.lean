/-! ===== throw new E("text") ===== -/
def ps_nm : List String := ["java/lang/RuntimeException", "java/lang/Exception"]
def ps_xc (cls : String) (ik ic : Nat) : Prop := Jvm.Bundle.fit cls = true ∧ Cond.classLink "PictureStudio" ik cls ∈ ps_W ∧ Cond.initialized cls ∈ ps_W ∧ (∀ w ∈ vx_atS "PictureStudio" ic cls ps_nm, w ∈ tables_1) ∧ ((vx_atS "PictureStudio" ic cls ps_nm).all (fun w => (goodWord w || ps_isN w) && vx_ot w) = true)
theorem ps_xw {X : ps_X} {s : State} (hC : ps_C X s) {w : Cond} (h : w ∈ tables_1) (hg : (goodWord w || ps_isN w) = true) (ho : vx_ot w = true) (args : Array Value) : w.before args s = true := by
  cases e : goodWord w with
  | true => exact ps_wd hC (ps_inT h e) args
  | false =>
    rw [e, Bool.false_or] at hg
    have hN := hC.2.2.2.1 w (List.mem_filter.mpr ⟨h, hg⟩)
    have hot : w.onTables = true := by
      have h1 := ho
      unfold vx_ot at h1
      rw [e, Bool.or_false] at h1
      exact h1
    exact hN.use hot
theorem ps_thr0 {M : ps_M} {d pc : Nat} {lv : ps_LV} {st : List Value} {g : ps_G} {Q : ps_Rs → ps_G → Prop} {cls text : String} {ik is ic : Nat} (wide : Bool) (hown : M.1.cls = "PictureStudio") (hx : ps_xc cls ik ic) (ht : ("PictureStudio", is, text) ∈ ps_txt)
    (hD : ps_D M.2.1 pc (if wide then [(.new ik, 3), (.dup, 1), (.ldc_w is, 3), (.invokespecial ic, 3), (.athrow, 1)] else [(.new ik, 3), (.dup, 1), (.ldc is, 2), (.invokespecial ic, 3), (.athrow, 1)])) (h8 : ps_wd2 st ≤ 8) (hh : M.2.2.2.2 = []) (h : Q (.inr cls) (ps_nw g 6 ps_e0)) : ps_At M (d + 6) pc lv st g Q := by
  obtain ⟨x1, x2, x3, x4, x5⟩ := hx
  refine ⟨.inr cls, ps_nw g 6 ps_e0, h, Nat.le_succ _, Nat.le_add_right _ _, fun X p l e R s m args below meth c H locs ls n0 s0 hK hR hS hb hl a1 a2 a3 a4 a5 a6 => ?_⟩
  have hC := hK.C
  have b5 : g.1 + 1 - n0 ≤ R.cells := a5
  have b6 : g.2.1 + 6 - s0 ≤ R.slots := a6
  have ho : s.vm.findClass "PictureStudio" = some m.cls := by rw [← hown]; exact hK.own
  obtain ⟨sa, hsa⟩ := hC.2.2.1 _ ht
  have hall : ∀ w ∈ vx_atS "PictureStudio" ic cls ps_nm, (goodWord w || ps_isN w) = true ∧ vx_ot w = true := fun w hw => by
    have := List.all_eq_true.mp x5 w hw
    rw [Bool.and_eq_true] at this
    exact this
  have hback : ∀ q : Nat, q < H.size → ¬ ps_A X q → s.heap[q]? = H[q]? := fun q q1 q2 => by
    rcases Nat.lt_or_ge q s.heap.size with h9 | h9
    · exact (hS.2.1 q h9 q2).symm
    · exact absurd (show X.1 ≤ q by omega) q2
  have hout : ∀ (x : ExceptionTableEntry), x ∈ c.exceptionTable.toList → ∀ pc, covers x pc = false := by
    have h9 := hK.2.2.2.2.2.2.2.2.1
    rw [hh, List.map_eq_nil_iff] at h9
    intro x hx
    rw [h9] at hx
    cases hx
  have hgd : ∀ w ∈ Cond.classLink "PictureStudio" ik cls :: Cond.initialized cls :: vx_atS "PictureStudio" ic cls ps_nm, vx_ot w = true := fun w hw => by
    rcases List.mem_cons.mp hw with rfl | hw
    · rfl
    · rcases List.mem_cons.mp hw with rfl | hw
      · rfl
      · exact (hall w hw).2
  have hXC : ∀ t : State, s.vm.Alike t.vm → t.heap.size = H.size + 1 → (∀ q : Nat, q < H.size → t.heap[q]? = H[q]?) → ps_XC X (.inr cls) (ps_nw g 6 ps_e0) cls s t := fun t q1 q2 q3 =>
    ⟨rfl, ps_R.moved q1 (ps_R_nw hR (fun hk => absurd hk (by decide)) q2 q3), ⟨by rw [q2]; have := hS.1; omega, fun q z1 z2 => (q3 q (Nat.lt_of_lt_of_le z1 hS.1)).trans (hS.2.1 q z1 z2)⟩⟩
  have hsum : ((st.map (ps_v X)).map fun v => v.category).sum ≤ 8 := ps_sum8 X h8
  cases wide with
  | false =>
    have d0 := ps_D_hd hD
    have D1 := ps_D_tl hD
    have d3 := ps_D_hd D1
    have D2 := ps_D_tl D1
    have d4 := ps_D_hd D2
    have D3 := ps_D_tl D2
    have d6 := ps_D_hd D3
    have d9 := ps_D_hd (ps_D_tl D3)
    exact vx_throwS (own := "PictureStudio") (cls := cls) (text := text) (names := ps_nm) (ik := ik) (is := is) (ic := ic) (sa := sa) (A := ps_A X) hK.2.1 hK.2.2.1 hK.1 ho x1 (by decide +kernel) (ps_wd hC x2 args) (ps_wd hC x3 args) hsa (fun w hw => ps_xw hC (x4 w hw) (hall w hw).1 (hall w hw).2 args) hgd (hR.2.2.2.2.2.2.1.kept hback) (hR.2.2.2.2.2.2.2.kept hback) hS (hl.1.trans hK.2.2.2.2.1.symm) d0 d3 d4 d6 d9 (fun x hx => hout x hx _)
      (by show 2 + 3 < R.frames; omega) (by show _ + (13 * (2 + 1) + 43) ≤ R.locals; omega) (by omega) (by omega) hK.2.2.2.2.2.2.1 hXC hS.2.2 (by show _ ≤ g.1 + 1 - n0; omega) (by show _ ≤ g.2.1 + 6 - s0; omega)
  | true =>
    have d0 := ps_D_hd hD
    have D1 := ps_D_tl hD
    have d3 := ps_D_hd D1
    have D2 := ps_D_tl D1
    have d4 := ps_D_hd D2
    have D3 := ps_D_tl D2
    have d6 := ps_D_hd D3
    have d9 := ps_D_hd (ps_D_tl D3)
    exact vx_throwSW (own := "PictureStudio") (cls := cls) (text := text) (names := ps_nm) (ik := ik) (is := is) (ic := ic) (sa := sa) (A := ps_A X) hK.2.1 hK.2.2.1 hK.1 ho x1 (by decide +kernel) (ps_wd hC x2 args) (ps_wd hC x3 args) hsa (fun w hw => ps_xw hC (x4 w hw) (hall w hw).1 (hall w hw).2 args) hgd (hR.2.2.2.2.2.2.1.kept hback) (hR.2.2.2.2.2.2.2.kept hback) hS (hl.1.trans hK.2.2.2.2.1.symm) d0 d3 d4 d6 d9 (fun x hx => hout x hx _)
      (by show 2 + 3 < R.frames; omega) (by show _ + (13 * (2 + 1) + 43) ≤ R.locals; omega) (by omega) (by omega) hK.2.2.2.2.2.2.1 hXC hS.2.2 (by show _ ≤ g.1 + 1 - n0; omega) (by show _ ≤ g.2.1 + 6 - s0; omega)
/-! the same for NoSuchElementException -/
def ps_xcN (cls : String) (ik ic : Nat) : Prop := Jvm.Bundle.fit cls = true ∧ Cond.classLink "PictureStudio" ik cls ∈ ps_W ∧ Cond.initialized cls ∈ ps_W ∧ (∀ w ∈ ps_atN "PictureStudio" ic cls ps_nm, w ∈ tables_1) ∧ ((ps_atN "PictureStudio" ic cls ps_nm).all (fun w => (goodWord w || ps_isN w) && vx_ot w) = true)
theorem ps_thrN {M : ps_M} {d pc : Nat} {lv : ps_LV} {st : List Value} {g : ps_G} {Q : ps_Rs → ps_G → Prop} {cls text : String} {ik is ic : Nat} (wide : Bool) (hown : M.1.cls = "PictureStudio") (hx : ps_xcN cls ik ic) (ht : ("PictureStudio", is, text) ∈ ps_txt)
    (hD : ps_D M.2.1 pc (if wide then [(.new ik, 3), (.dup, 1), (.ldc_w is, 3), (.invokespecial ic, 3), (.athrow, 1)] else [(.new ik, 3), (.dup, 1), (.ldc is, 2), (.invokespecial ic, 3), (.athrow, 1)])) (h8 : ps_wd2 st ≤ 8) (hh : M.2.2.2.2 = []) (h : Q (.inr cls) (ps_nw g 6 ps_e0)) : ps_At M (d + 6) pc lv st g Q := by
  obtain ⟨x1, x2, x3, x4, x5⟩ := hx
  refine ⟨.inr cls, ps_nw g 6 ps_e0, h, Nat.le_succ _, Nat.le_add_right _ _, fun X p l e R s m args below meth c H locs ls n0 s0 hK hR hS hb hl a1 a2 a3 a4 a5 a6 => ?_⟩
  have hC := hK.C
  have b5 : g.1 + 1 - n0 ≤ R.cells := a5
  have b6 : g.2.1 + 6 - s0 ≤ R.slots := a6
  have ho : s.vm.findClass "PictureStudio" = some m.cls := by rw [← hown]; exact hK.own
  obtain ⟨sa, hsa⟩ := hC.2.2.1 _ ht
  have hall : ∀ w ∈ ps_atN "PictureStudio" ic cls ps_nm, (goodWord w || ps_isN w) = true ∧ vx_ot w = true := fun w hw => by
    have := List.all_eq_true.mp x5 w hw
    rw [Bool.and_eq_true] at this
    exact this
  have hback : ∀ q : Nat, q < H.size → ¬ ps_A X q → s.heap[q]? = H[q]? := fun q q1 q2 => by
    rcases Nat.lt_or_ge q s.heap.size with h9 | h9
    · exact (hS.2.1 q h9 q2).symm
    · exact absurd (show X.1 ≤ q by omega) q2
  have hout : ∀ (x : ExceptionTableEntry), x ∈ c.exceptionTable.toList → ∀ pc, covers x pc = false := by
    have h9 := hK.2.2.2.2.2.2.2.2.1
    rw [hh, List.map_eq_nil_iff] at h9
    intro x hx
    rw [h9] at hx
    cases hx
  have hgd : ∀ w ∈ Cond.classLink "PictureStudio" ik cls :: Cond.initialized cls :: ps_atN "PictureStudio" ic cls ps_nm, vx_ot w = true := fun w hw => by
    rcases List.mem_cons.mp hw with rfl | hw
    · rfl
    · rcases List.mem_cons.mp hw with rfl | hw
      · rfl
      · exact (hall w hw).2
  have hXC : ∀ t : State, s.vm.Alike t.vm → t.heap.size = H.size + 1 → (∀ q : Nat, q < H.size → t.heap[q]? = H[q]?) → ps_XC X (.inr cls) (ps_nw g 6 ps_e0) cls s t := fun t q1 q2 q3 =>
    ⟨rfl, ps_R.moved q1 (ps_R_nw hR (fun hk => absurd hk (by decide)) q2 q3), ⟨by rw [q2]; have := hS.1; omega, fun q z1 z2 => (q3 q (Nat.lt_of_lt_of_le z1 hS.1)).trans (hS.2.1 q z1 z2)⟩⟩
  have hsum : ((st.map (ps_v X)).map fun v => v.category).sum ≤ 8 := ps_sum8 X h8
  cases wide with
  | false =>
    have d0 := ps_D_hd hD
    have D1 := ps_D_tl hD
    have d3 := ps_D_hd D1
    have D2 := ps_D_tl D1
    have d4 := ps_D_hd D2
    have D3 := ps_D_tl D2
    have d6 := ps_D_hd D3
    have d9 := ps_D_hd (ps_D_tl D3)
    exact ps_throwN (own := "PictureStudio") (cls := cls) (text := text) (names := ps_nm) (ik := ik) (is := is) (ic := ic) (sa := sa) (A := ps_A X) hK.2.1 hK.2.2.1 hK.1 ho x1 (by decide +kernel) (ps_wd hC x2 args) (ps_wd hC x3 args) hsa (fun w hw => ps_xw hC (x4 w hw) (hall w hw).1 (hall w hw).2 args) hgd (hR.2.2.2.2.2.2.1.kept hback) (hR.2.2.2.2.2.2.2.kept hback) hS (hl.1.trans hK.2.2.2.2.1.symm) d0 d3 d4 d6 d9 (fun x hx => hout x hx _)
      (by show 2 + 3 < R.frames; omega) (by show _ + (13 * (2 + 1) + 43) ≤ R.locals; omega) (by omega) (by omega) hK.2.2.2.2.2.2.1 hXC hS.2.2 (by show _ ≤ g.1 + 1 - n0; omega) (by show _ ≤ g.2.1 + 6 - s0; omega)
  | true =>
    have d0 := ps_D_hd hD
    have D1 := ps_D_tl hD
    have d3 := ps_D_hd D1
    have D2 := ps_D_tl D1
    have d4 := ps_D_hd D2
    have D3 := ps_D_tl D2
    have d6 := ps_D_hd D3
    have d9 := ps_D_hd (ps_D_tl D3)
    exact ps_throwNW (own := "PictureStudio") (cls := cls) (text := text) (names := ps_nm) (ik := ik) (is := is) (ic := ic) (sa := sa) (A := ps_A X) hK.2.1 hK.2.2.1 hK.1 ho x1 (by decide +kernel) (ps_wd hC x2 args) (ps_wd hC x3 args) hsa (fun w hw => ps_xw hC (x4 w hw) (hall w hw).1 (hall w hw).2 args) hgd (hR.2.2.2.2.2.2.1.kept hback) (hR.2.2.2.2.2.2.2.kept hback) hS (hl.1.trans hK.2.2.2.2.1.symm) d0 d3 d4 d6 d9 (fun x hx => hout x hx _)
      (by show 2 + 3 < R.frames; omega) (by show _ + (13 * (2 + 1) + 43) ≤ R.locals; omega) (by omega) (by omega) hK.2.2.2.2.2.2.1 hXC hS.2.2 (by show _ ≤ g.1 + 1 - n0; omega) (by show _ ≤ g.2.1 + 6 - s0; omega)
