/-! ===== where the law begins (by tools/top.py) ===== -/
def ps_sv (k : Nat) : List Int32 := match k with
  | 0 => []
  | 1 => [137, 80, 78, 71, 13, 10, 26, 10]
  | 2 => [3, 4, 5, 6, 7, 8, 9, 10, 11, 13, 15, 17, 19, 23, 27, 31, 35, 43, 51, 59, 67, 83, 99, 115, 131, 163, 195, 227, 258]
  | 3 => [0, 0, 0, 0, 0, 0, 0, 0, 1, 1, 1, 1, 2, 2, 2, 2, 3, 3, 3, 3, 4, 4, 4, 4, 5, 5, 5, 5, 0]
  | 4 => [1, 2, 3, 4, 5, 7, 9, 13, 17, 25, 33, 49, 65, 97, 129, 193, 257, 385, 513, 769, 1025, 1537, 2049, 3073, 4097, 6145, 8193, 12289, 16385, 24577]
  | 5 => [0, 0, 0, 0, 1, 1, 2, 2, 3, 3, 4, 4, 5, 5, 6, 6, 7, 7, 8, 8, 9, 9, 10, 10, 11, 11, 12, 12, 13, 13]
  | _ => [16, 17, 18, 0, 8, 7, 9, 6, 10, 5, 11, 4, 12, 3, 13, 2, 14, 1, 15]
def ps_g0 (L : Nat) (xs : Nat → Int32) : ps_G := (8, 0, fun j => if j < 7 then .inl (0, ((ps_sv j).length, .inl fun i => (ps_sv j).getD i 0)) else if j = 7 then .inl (0, (L, .inl xs)) else ps_e0)
theorem ps_inst {ci : Nat} {C : String} {T : u_T} {N : Nat} (h : vwCl[ci]? = some (C, T, N)) : ∃ n, Cond.instantiable C n ∈ ps_W := by
  match ci, h with
  | 0, h => cases h; exact ⟨_, ps_w1_150⟩
  | 1, h => cases h; exact ⟨_, ps_w1_176⟩
  | 2, h => cases h; exact ⟨_, ps_w2_136⟩
  | 3, h => cases h; exact ⟨_, ps_w2_54⟩
  | 4, h => cases h; exact ⟨_, ps_w4_157⟩
  | 5, h => cases h; exact ⟨_, ps_w1_70⟩
  | 6, h => cases h; exact ⟨_, ps_w1_237⟩
  | 7, h => cases h; exact ⟨_, ps_w2_103⟩
  | 8, h => cases h; exact ⟨_, ps_w2_129⟩
  | 9, h => cases h; exact ⟨_, ps_w1_34⟩
  | 10, h => cases h; exact ⟨_, ps_w1_112⟩
  | 11, h => cases h; exact ⟨_, ps_w1_26⟩
  | 12, h => cases h; exact ⟨_, ps_w9_19⟩
theorem ps_stat {args : Array Value} {s : State} (h : (Jvm.Cond.and given_1 narrow_1).before args s = true) (hA : Nat → Prop) (hA2 : ∀ a : Nat, a < s.heap.size → ¬ hA a) (nm : String) (vs : List Int32) (hlen : vs.length < 1000)
    (h1 : Cond.arrayOf (.static "PictureStudio" nm "[I") .int ∈ flatC (Jvm.Cond.and given_1 narrow_1)) (h2 : Cond.eq (.length (.static "PictureStudio" nm "[I")) (.int (Int32.ofNat vs.length)) ∈ flatC (Jvm.Cond.and given_1 narrow_1))
    (h3 : ((List.range vs.length).all fun j => decide (Cond.eq (.elem (.static "PictureStudio" nm "[I") (.int (Int32.ofNat j))) (.int (vs.getD j 0)) ∈ flatC (Jvm.Cond.and given_1 narrow_1))) = true)
    (w1 : (Cond.laysStatic "PictureStudio" nm "[I").before args s = true) (w2 : (Cond.initialized "PictureStudio").before args s = true) :
    ∃ t : Nat, va_Z "PictureStudio" nm "[I" (.ref t) hA s s.heap ∧ ps_ar s s.heap t vs.length (fun i => vs.getD i 0) ∧ ¬ hA t := by
  have hs := flat_of_before _ h
  obtain ⟨t, ht, hT⟩ := va_Tof (tm := .static "PictureStudio" nm "[I") (ty := .int) (N := vs.length) (f := fun i => .int (vs.getD i 0)) (A := hA) (by omega) (hs _ h1) (va_eqt (hs _ h2)) (fun j hj => va_eqt (hs _ (of_decide_eq_true (List.all_eq_true.mp h3 j (List.mem_range.mpr hj))))) hA2
  obtain ⟨cell, q1, q2, q3, q4, q5, q6, q7⟩ := hT
  exact ⟨t, va_Zref w1 w2 ht hA2, ⟨cell, q1, q2, q3, q4, q5, q6⟩, q7⟩
theorem ps_arK {s : State} {args : Array Value} {ty : FieldType} (ho : ∀ C, ty ≠ .object C) (h : (Cond.arrayClass ty).before args s = true) : ∃ c : ClassId, ArrOfT s c ty ∧ va_RA s c ty := by
  obtain ⟨c, k, comp, h1, h2, h3⟩ := Cond.arrayClass_spec h
  refine ⟨c, fun N z => ⟨(fun q hq => by cases hq), k, h2, comp, h3⟩, ?_⟩
  cases ty <;> first | exact h1 | exact absurd rfl (ho _)
theorem ps_arO {s : State} {args : Array Value} {C : String} (h : (Cond.arrayOver (.object C)).before args s = true) : ∃ c : ClassId, ArrOfT s c (.object C) ∧ va_RA s c (.object C) := by
  obtain ⟨comp, c, k, h1, h2, h3, h4, h5⟩ := Cond.arrayOver_spec h
  exact ⟨c, fun N z => ⟨(fun q hq => by cases hq), k, h3, comp, h4⟩, k, comp, h3, h4, h1, h5⟩
theorem ps_arA {s : State} {args : Array Value} (h : (Cond.arrayOver (.array .int)).before args s = true) : ∃ c : ClassId, ArrOfT s c (.array .int) ∧ va_RA s c (.array .int) := by
  obtain ⟨comp, c, k, h1, h2, h3, h4, h5⟩ := arrayOverA_spec h
  exact ⟨c, fun N z => ⟨(fun q hq => by cases hq), k, h3, comp, h4⟩, h5⟩
theorem ps_sx0 : ((List.range (ps_sv 0).length).all fun j => decide (Cond.eq (.elem (.static "PictureStudio" "NONE" "[I") (.int (Int32.ofNat j))) (.int ((ps_sv 0).getD j 0)) ∈ flatC (Jvm.Cond.and given_1 narrow_1))) = true := by decide +kernel
theorem ps_sa0 : Cond.arrayOf (.static "PictureStudio" "NONE" "[I") .int ∈ flatC (Jvm.Cond.and given_1 narrow_1) := by decide +kernel
theorem ps_se0 : Cond.eq (.length (.static "PictureStudio" "NONE" "[I")) (.int (Int32.ofNat (ps_sv 0).length)) ∈ flatC (Jvm.Cond.and given_1 narrow_1) := by decide +kernel
theorem ps_sx1 : ((List.range (ps_sv 1).length).all fun j => decide (Cond.eq (.elem (.static "PictureStudio" "SIGNATURE" "[I") (.int (Int32.ofNat j))) (.int ((ps_sv 1).getD j 0)) ∈ flatC (Jvm.Cond.and given_1 narrow_1))) = true := by decide +kernel
theorem ps_sa1 : Cond.arrayOf (.static "PictureStudio" "SIGNATURE" "[I") .int ∈ flatC (Jvm.Cond.and given_1 narrow_1) := by decide +kernel
theorem ps_se1 : Cond.eq (.length (.static "PictureStudio" "SIGNATURE" "[I")) (.int (Int32.ofNat (ps_sv 1).length)) ∈ flatC (Jvm.Cond.and given_1 narrow_1) := by decide +kernel
theorem ps_sx2 : ((List.range (ps_sv 2).length).all fun j => decide (Cond.eq (.elem (.static "PictureStudio" "LENGTH_BASE" "[I") (.int (Int32.ofNat j))) (.int ((ps_sv 2).getD j 0)) ∈ flatC (Jvm.Cond.and given_1 narrow_1))) = true := by decide +kernel
theorem ps_sa2 : Cond.arrayOf (.static "PictureStudio" "LENGTH_BASE" "[I") .int ∈ flatC (Jvm.Cond.and given_1 narrow_1) := by decide +kernel
theorem ps_se2 : Cond.eq (.length (.static "PictureStudio" "LENGTH_BASE" "[I")) (.int (Int32.ofNat (ps_sv 2).length)) ∈ flatC (Jvm.Cond.and given_1 narrow_1) := by decide +kernel
theorem ps_sx3 : ((List.range (ps_sv 3).length).all fun j => decide (Cond.eq (.elem (.static "PictureStudio" "LENGTH_EXTRA" "[I") (.int (Int32.ofNat j))) (.int ((ps_sv 3).getD j 0)) ∈ flatC (Jvm.Cond.and given_1 narrow_1))) = true := by decide +kernel
theorem ps_sa3 : Cond.arrayOf (.static "PictureStudio" "LENGTH_EXTRA" "[I") .int ∈ flatC (Jvm.Cond.and given_1 narrow_1) := by decide +kernel
theorem ps_se3 : Cond.eq (.length (.static "PictureStudio" "LENGTH_EXTRA" "[I")) (.int (Int32.ofNat (ps_sv 3).length)) ∈ flatC (Jvm.Cond.and given_1 narrow_1) := by decide +kernel
theorem ps_sx4 : ((List.range (ps_sv 4).length).all fun j => decide (Cond.eq (.elem (.static "PictureStudio" "DISTANCE_BASE" "[I") (.int (Int32.ofNat j))) (.int ((ps_sv 4).getD j 0)) ∈ flatC (Jvm.Cond.and given_1 narrow_1))) = true := by decide +kernel
theorem ps_sa4 : Cond.arrayOf (.static "PictureStudio" "DISTANCE_BASE" "[I") .int ∈ flatC (Jvm.Cond.and given_1 narrow_1) := by decide +kernel
theorem ps_se4 : Cond.eq (.length (.static "PictureStudio" "DISTANCE_BASE" "[I")) (.int (Int32.ofNat (ps_sv 4).length)) ∈ flatC (Jvm.Cond.and given_1 narrow_1) := by decide +kernel
theorem ps_sx5 : ((List.range (ps_sv 5).length).all fun j => decide (Cond.eq (.elem (.static "PictureStudio" "DISTANCE_EXTRA" "[I") (.int (Int32.ofNat j))) (.int ((ps_sv 5).getD j 0)) ∈ flatC (Jvm.Cond.and given_1 narrow_1))) = true := by decide +kernel
theorem ps_sa5 : Cond.arrayOf (.static "PictureStudio" "DISTANCE_EXTRA" "[I") .int ∈ flatC (Jvm.Cond.and given_1 narrow_1) := by decide +kernel
theorem ps_se5 : Cond.eq (.length (.static "PictureStudio" "DISTANCE_EXTRA" "[I")) (.int (Int32.ofNat (ps_sv 5).length)) ∈ flatC (Jvm.Cond.and given_1 narrow_1) := by decide +kernel
theorem ps_sx6 : ((List.range (ps_sv 6).length).all fun j => decide (Cond.eq (.elem (.static "PictureStudio" "LENGTH_ORDER" "[I") (.int (Int32.ofNat j))) (.int ((ps_sv 6).getD j 0)) ∈ flatC (Jvm.Cond.and given_1 narrow_1))) = true := by decide +kernel
theorem ps_sa6 : Cond.arrayOf (.static "PictureStudio" "LENGTH_ORDER" "[I") .int ∈ flatC (Jvm.Cond.and given_1 narrow_1) := by decide +kernel
theorem ps_se6 : Cond.eq (.length (.static "PictureStudio" "LENGTH_ORDER" "[I")) (.int (Int32.ofNat (ps_sv 6).length)) ∈ flatC (Jvm.Cond.and given_1 narrow_1) := by decide +kernel
theorem ps_iu : Cond.isRef (.static Jvm.Bundle.tN "UNASSIGNED_STACK" Jvm.Bundle.steD) ∈ flatC (Jvm.Cond.and given_1 narrow_1) := by decide +kernel
theorem ps_is : Cond.isRef (.static Jvm.Bundle.tN "SUPPRESSED_SENTINEL" Jvm.Bundle.listD) ∈ flatC (Jvm.Cond.and given_1 narrow_1) := by decide +kernel
theorem ps_ncs : (ps_xs.all fun a => ps_xs.all fun b => (a == b) || decide (Cond.not (.castable a b) ∈ flatC (Jvm.Cond.and given_1 narrow_1))) = true := by decide +kernel
theorem ps_txt_in : (ps_txt.all fun q => decide (Cond.stringRef q.1 q.2.1 q.2.2 ∈ tables_1) && (q.1 == "PictureStudio")) = true := by decide +kernel
theorem ps_top {p : Program} {s : State} {m : MethodId} {meth : Method} {c : Code} {b L : Nat} {xs : Nat → Int32}
    (hts : ∀ w ∈ lw_tbl, w.before #[Value.ref b] s = true) (hX : va_X b L xs s s.heap) (hb : b < s.heap.size) (hg : (Jvm.Cond.and given_1 narrow_1).before #[Value.ref b] s = true) :
    ∃ X : ps_X, X.1 = s.heap.size ∧ X.2.1 7 = b ∧ ps_C X s ∧ ps_R X (ps_g0 L xs) s s.heap := by
  have hT : ∀ w ∈ tables_1, w.before #[Value.ref b] s = true := fun w h => hts w (List.mem_append_right _ h)
  have hW : ∀ w ∈ ps_W, w.before #[] s = true := fun w h => word_at (State.WarmedH.refl s) (good_of_word (List.mem_filter.mp h).2) (hts w (List.mem_filter.mp h).1)
  have hWb : ∀ w ∈ ps_W, w.before #[Value.ref b] s = true := fun w h => hts w (List.mem_filter.mp h).1
  have hA2 : ∀ a : Nat, a < s.heap.size → ¬ (fun q : Nat => s.heap.size ≤ q) a := fun a h1 h2 => by have h2 : s.heap.size ≤ a := h2; omega
  have hini := hWb _ ps_w1_1
  obtain ⟨t0, z0, r0, n0⟩ := ps_stat hg (fun q : Nat => s.heap.size ≤ q) hA2 "NONE" (ps_sv 0) (by decide) ps_sa0 ps_se0 ps_sx0 (hT _ (show (Jvm.Cond.laysStatic "PictureStudio" "NONE" "[I") ∈ tables_1 from by unfold tables_1; exact List.mem_append_left _ (List.mem_of_getElem? (i := 76) rfl))) hini
  obtain ⟨t1, z1, r1, n1⟩ := ps_stat hg (fun q : Nat => s.heap.size ≤ q) hA2 "SIGNATURE" (ps_sv 1) (by decide) ps_sa1 ps_se1 ps_sx1 (hT _ (show (Jvm.Cond.laysStatic "PictureStudio" "SIGNATURE" "[I") ∈ tables_1 from by unfold tables_1; exact List.mem_append_right _ (List.mem_append_right _ (List.mem_append_right _ (List.mem_append_right _ (List.mem_append_right _ (List.mem_append_left _ (List.mem_of_getElem? (i := 238) rfl)))))))) hini
  obtain ⟨t2, z2, r2, n2⟩ := ps_stat hg (fun q : Nat => s.heap.size ≤ q) hA2 "LENGTH_BASE" (ps_sv 2) (by decide) ps_sa2 ps_se2 ps_sx2 (hT _ (show (Jvm.Cond.laysStatic "PictureStudio" "LENGTH_BASE" "[I") ∈ tables_1 from by unfold tables_1; exact List.mem_append_right _ (List.mem_append_right _ (List.mem_append_right _ (List.mem_append_right _ (List.mem_append_right _ (List.mem_append_right _ (List.mem_append_left _ (List.mem_of_getElem? (i := 94) rfl))))))))) hini
  obtain ⟨t3, z3, r3, n3⟩ := ps_stat hg (fun q : Nat => s.heap.size ≤ q) hA2 "LENGTH_EXTRA" (ps_sv 3) (by decide) ps_sa3 ps_se3 ps_sx3 (hT _ (show (Jvm.Cond.laysStatic "PictureStudio" "LENGTH_EXTRA" "[I") ∈ tables_1 from by unfold tables_1; exact List.mem_append_right _ (List.mem_append_right _ (List.mem_append_right _ (List.mem_append_right _ (List.mem_append_right _ (List.mem_append_right _ (List.mem_append_left _ (List.mem_of_getElem? (i := 96) rfl))))))))) hini
  obtain ⟨t4, z4, r4, n4⟩ := ps_stat hg (fun q : Nat => s.heap.size ≤ q) hA2 "DISTANCE_BASE" (ps_sv 4) (by decide) ps_sa4 ps_se4 ps_sx4 (hT _ (show (Jvm.Cond.laysStatic "PictureStudio" "DISTANCE_BASE" "[I") ∈ tables_1 from by unfold tables_1; exact List.mem_append_right _ (List.mem_append_right _ (List.mem_append_right _ (List.mem_append_right _ (List.mem_append_right _ (List.mem_append_right _ (List.mem_append_left _ (List.mem_of_getElem? (i := 98) rfl))))))))) hini
  obtain ⟨t5, z5, r5, n5⟩ := ps_stat hg (fun q : Nat => s.heap.size ≤ q) hA2 "DISTANCE_EXTRA" (ps_sv 5) (by decide) ps_sa5 ps_se5 ps_sx5 (hT _ (show (Jvm.Cond.laysStatic "PictureStudio" "DISTANCE_EXTRA" "[I") ∈ tables_1 from by unfold tables_1; exact List.mem_append_right _ (List.mem_append_right _ (List.mem_append_right _ (List.mem_append_right _ (List.mem_append_right _ (List.mem_append_right _ (List.mem_append_left _ (List.mem_of_getElem? (i := 100) rfl))))))))) hini
  obtain ⟨t6, z6, r6, n6⟩ := ps_stat hg (fun q : Nat => s.heap.size ≤ q) hA2 "LENGTH_ORDER" (ps_sv 6) (by decide) ps_sa6 ps_se6 ps_sx6 (hT _ (show (Jvm.Cond.laysStatic "PictureStudio" "LENGTH_ORDER" "[I") ∈ tables_1 from by unfold tables_1; exact List.mem_append_right _ (List.mem_append_right _ (List.mem_append_right _ (List.mem_append_right _ (List.mem_append_right _ (List.mem_append_right _ (List.mem_append_left _ (List.mem_of_getElem? (i := 110) rfl))))))))) hini
  have zu := vx_Zqof (A := fun q : Nat => s.heap.size ≤ q) (hT _ (show (Jvm.Cond.laysStatic "java/lang/Throwable" "UNASSIGNED_STACK" "[Ljava/lang/StackTraceElement;") ∈ tables_1 from by unfold tables_1; exact List.mem_append_right _ (List.mem_append_right _ (List.mem_append_right _ (List.mem_append_left _ (List.mem_of_getElem? (i := 24) rfl)))))) (hWb _ ps_w1_14) (flat_of_before _ hg _ ps_iu) hA2
  have zs := vx_Zqof (A := fun q : Nat => s.heap.size ≤ q) (hT _ (show (Jvm.Cond.laysStatic "java/lang/Throwable" "SUPPRESSED_SENTINEL" "Ljava/util/List;") ∈ tables_1 from by unfold tables_1; exact List.mem_append_right _ (List.mem_append_right _ (List.mem_append_right _ (List.mem_append_left _ (List.mem_of_getElem? (i := 26) rfl)))))) (hWb _ ps_w1_14) (flat_of_before _ hg _ ps_is) hA2
  have hkn : ∀ ci : Nat, ∃ q : ClassId × (Nat → Nat), ∀ r : vw_C, vwCl[ci]? = some r → u_Kn s r.1 r.2.1 r.2.2 q.1 q.2 := by
    intro ci
    cases e : vwCl[ci]? with
    | none => exact ⟨(0, fun _ => 0), fun r h => nomatch h⟩
    | some r =>
      obtain ⟨C, T, N⟩ := r
      obtain ⟨n, hn⟩ := ps_inst e
      obtain ⟨cC, iS, hk⟩ := u_known hWb (ps_lay e).1 (hWb _ hn)
      exact ⟨(cC, iS), fun r h => by cases h; exact hk⟩
  have hkn2 := Classical.axiomOfChoice hkn
  obtain ⟨D, hD⟩ := hkn2
  have hL0 : (Cond.arrayOver (.object "PictureStudio$Layer")).before #[Value.ref b] s = true := hT _ (show (Jvm.Cond.arrayOver (Jvm.ClassFile.FieldType.object "PictureStudio$Layer")) ∈ tables_1 from by unfold tables_1; exact List.mem_append_left _ (List.mem_of_getElem? (i := 40) rfl))
  have hS0 : (Cond.arrayOver (.object "PictureStudio$Stand")).before #[Value.ref b] s = true := hT _ (show (Jvm.Cond.arrayOver (Jvm.ClassFile.FieldType.object "PictureStudio$Stand")) ∈ tables_1 from by unfold tables_1; exact List.mem_append_left _ (List.mem_of_getElem? (i := 68) rfl))
  have hG0 : (Cond.arrayOver (.array .int)).before #[Value.ref b] s = true := hT _ (show (Jvm.Cond.arrayOver (Jvm.ClassFile.FieldType.array Jvm.ClassFile.FieldType.int)) ∈ tables_1 from by unfold tables_1; exact List.mem_append_left _ (List.mem_of_getElem? (i := 118) rfl))
  obtain ⟨c0, a0⟩ := ps_arK (ty := .int) (fun C h => nomatch h) (hWb _ ps_wA_int)
  obtain ⟨c1, a1⟩ := ps_arK (ty := .long) (fun C h => nomatch h) (hWb _ ps_wA_long)
  obtain ⟨c2, a2⟩ := ps_arK (ty := .boolean) (fun C h => nomatch h) (hWb _ ps_wA_boolean)
  obtain ⟨c3, a3⟩ := ps_arO hL0
  obtain ⟨c4, a4⟩ := ps_arO hS0
  obtain ⟨c5, a5⟩ := ps_arA hG0
  have hpc := hD 11 _ rfl
  refine ⟨(s.heap.size, (fun i => match i with | 0 => t0 | 1 => t1 | 2 => t2 | 3 => t3 | 4 => t4 | 5 => t5 | 6 => t6 | _ => b), ((fun c => (D c).1), (fun c => (D c).2)), (fun k => match k with | 0 => c0 | 1 => c1 | 2 => c2 | 3 => c3 | 4 => c4 | _ => c5)), rfl, rfl, ⟨⟨fun ci q h => hD ci q h, fun k q hk => ?_⟩, hW, fun q hq => ?_, fun w hw => ?_, hL0, hS0, hG0, fun a ha b9 hb9 hab => ?_⟩, ?_⟩
  · match k, hk with
    | 0, hk => cases hk; exact a0
    | 1, hk => cases hk; exact a1
    | 2, hk => cases hk; exact a2
    | 3, hk => cases hk; exact a3
    | 4, hk => cases hk; exact a4
    | 5, hk => cases hk; exact a5
  · have h1 := List.all_eq_true.mp ps_txt_in q hq
    rw [Bool.and_eq_true] at h1
    have h2 : (Cond.stringRef q.1 q.2.1 q.2.2).before #[Value.ref b] s = true := hT _ (of_decide_eq_true h1.1)
    have h3 : q.1 = "PictureStudio" := by simpa using h1.2
    obtain ⟨k, cf, i, a, -, -, -, -, -, h4⟩ := Cond.stringRef_spec (cur := (D 11).1) (by rw [h3]; exact hpc.2.1) h2
    exact ⟨a, vk_R.of h2 h4⟩
  · have h1 := List.mem_filter.mp hw
    have hot : w.onTables = true := by
      have h2 := h1.2
      cases w with
      | fieldLinkNest => rfl
      | methodLinkNest => rfl
      | castable => rfl
      | declares => rfl
      | _ => exact absurd h2 (by simp [ps_isN])
    exact va_Nw.of hot (hT w h1.1)
  · have h1 := List.all_eq_true.mp (List.all_eq_true.mp ps_ncs a ha) b9 hb9
    rw [Bool.or_eq_true] at h1
    rcases h1 with h1 | h1
    · exact absurd (by simpa using h1) hab
    · exact va_Nc.of (flat_of_before _ hg _ (of_decide_eq_true h1))
  · refine ⟨Nat.le_refl _, fun i hi => ?_, by show s.heap.size = s.heap.size + (8 - 8); omega, fun i h1 h2 => ?_, fun i hi => ?_, fun k hk => ?_, zu, zs⟩
    · show (if i < 7 then _ else if i = 7 then _ else ps_e0) = ps_e0
      have hi : 8 ≤ i := hi
      rw [if_neg (by omega), if_neg (by omega)]
    · have h2 : i < 8 := h2
      omega
    · obtain ⟨scr, x1, x2, x3, x4, x5⟩ := hX
      match i, hi with
      | 0, _ => exact ⟨by show t0 < s.heap.size; exact Nat.lt_of_not_le n0, _, _, rfl, r0⟩
      | 1, _ => exact ⟨by show t1 < s.heap.size; exact Nat.lt_of_not_le n1, _, _, rfl, r1⟩
      | 2, _ => exact ⟨by show t2 < s.heap.size; exact Nat.lt_of_not_le n2, _, _, rfl, r2⟩
      | 3, _ => exact ⟨by show t3 < s.heap.size; exact Nat.lt_of_not_le n3, _, _, rfl, r3⟩
      | 4, _ => exact ⟨by show t4 < s.heap.size; exact Nat.lt_of_not_le n4, _, _, rfl, r4⟩
      | 5, _ => exact ⟨by show t5 < s.heap.size; exact Nat.lt_of_not_le n5, _, _, rfl, r5⟩
      | 6, _ => exact ⟨by show t6 < s.heap.size; exact Nat.lt_of_not_le n6, _, _, rfl, r6⟩
      | 7, _ => exact ⟨hb, L, xs, rfl, scr, x1, x2, x3, by rw [x4]; exact Nat.le_refl _, by rw [x4], x5⟩
    · match k, hk with
      | 0, _ => exact z0
      | 1, _ => exact z1
      | 2, _ => exact z2
      | 3, _ => exact z3
      | 4, _ => exact z4
      | 5, _ => exact z5
      | 6, _ => exact z6
