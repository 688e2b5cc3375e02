/-! ===== System.arraycopy, clone, new int[n][k]; comparing references; switches ===== -/
theorem ps_nn {z : Int32} (hz : ¬ z < 0) : z.toInt = (z.toNatClampNeg : Int) := by
  have hz0 : (0 : Int) ≤ z.toInt := by
    have := Int32.not_lt.mp hz
    simpa using Int32.le_iff_toInt_le.mp this
  show z.toInt = ((z.toInt.toNat : Nat) : Int)
  omega
/-- a step that writes a cell, many slots at once -/
theorem ps_writeL {M : ps_M} {d pc pc' : Nat} {lv : ps_LV} {st st' : List Value} {g : ps_G} {a : Nat} {e0 : ps_E} {Q : ps_Rs → ps_G → Prop}
    (h : ∀ (X : ps_X) (p : Program) (l : Launch) (e : Env) (R : Room) (s : State) (m : MethodId) (args : Array Value) (below : List Frame) (meth : Method) (c : Code) (H : Heap) (locs : List Loc) (ls : Array Slot) (cells slots : Nat) (Qm : State → Prop), ps_K M X p l s m meth c → ps_R X g s H → d ≤ R.frames → 60 * d ≤ R.locals → lv_has ls M.2.2.1 (ps_lv X lv) →
      (∀ (H1 : Heap) (L : List Loc), ps_at X a e0 H1 → H1.size = H.size → (∀ q : Nat, q ≠ ps_ad X a → H1[q]? = H[q]?) → (∀ z ∈ L, z.base = ps_ad X a) → W p l e R s m args below meth c H1 (locs ++ L) cells slots Qm (F0 m pc' ls (st'.map (ps_v X)))) → W p l e R s m args below meth c H locs cells slots Qm (F0 m pc ls (st.map (ps_v X))))
    (h8 : ∀ (X : ps_X) (s : State) (H : Heap), ps_R X g s H → 8 ≤ a) (hl : g.2.2 a ≠ ps_e0) (k : ps_At M d pc' lv st' (ps_up g a e0) Q) : ps_At M d pc lv st g Q := by
  obtain ⟨r, g', hQ, h1, h2, h3⟩ := k
  refine ⟨r, g', hQ, h1, h2, fun X p l e R s m args below meth c H locs ls n0 s0 hK hR hS hb hl1 a1 a2 a3 a4 a5 a6 => h X p l e R s m args below meth c H locs ls _ _ _ hK hR a3 a4 hl1 (fun H1 L e1 e2 e3 e4 => ?_)⟩
  refine h3 X p l e R s m args below meth c H1 _ ls n0 s0 hK (ps_R_up hR (h8 X s H hR) (ps_lt hR rfl hl) e1 e2 e3) ⟨by rw [e2]; exact hS.1, fun q q1 q2 => ?_, fun z hz => ?_⟩ hb hl1 a1 a2 a3 a4 a5 a6
  · rw [e3 q (fun h9 => q2 (by rw [h9]; exact ps_ad_ge (h8 X s H hR)))]
    exact hS.2.1 q q1 q2
  · rcases List.mem_append.mp hz with hz | hz
    · exact hS.2.2 z hz
    · rw [e4 z hz]
      exact ps_ad_ge (h8 X s H hR)
/-- number idx of own's pool is System.arraycopy -/
def ps_Ly (own : String) (idx : Nat) : Prop := Cond.methodLink own idx arraycopyName ∈ ps_W ∧ Cond.native arraycopyName ∈ ps_W ∧ Cond.static arraycopyName ∈ ps_W ∧ Cond.initialized "java/lang/System" ∈ ps_W
theorem ps_copy {M : ps_M} {d pc idx : Nat} {lv : ps_LV} {r : List Value} {g : ps_G} {Q : ps_Rs → ps_G → Prop} {a0 a n0 n1 : Nat} {f f1 : Nat → Int32} {sp dp n : Int32} (hd : decode M.2.1 pc = .ok (.invokestatic idx, 3)) (hL : ps_Ly M.1.cls idx) (he0 : g.2.2 a0 = .inl (0, (n0, .inl f))) (he1 : g.2.2 a = .inl (0, (n1, .inl f1))) (h80 : 8 ≤ a0) (h81 : 8 ≤ a)
    (h1 : ¬ sp < 0) (h2 : ¬ dp < 0) (h3 : ¬ n < 0) (h4 : sp.toNatClampNeg + n.toNatClampNeg ≤ n0) (h5 : dp.toNatClampNeg + n.toNatClampNeg ≤ n1) (hr8 : ps_wd2 r ≤ 8)
    (kk : ps_At M (d + 2) (pc + 3) lv r (ps_up g a (.inl (0, (n1, .inl (va_cpy f f1 sp.toNatClampNeg dp.toNatClampNeg n.toNatClampNeg))))) Q) : ps_At M (d + 2) pc lv (.int n :: .int dp :: .ref a :: .int sp :: .ref a0 :: r) g Q := by
  refine ps_writeL (fun X p l e R s m args below meth c H locs ls cells slots Qm hK hR a3 a4 hl k2 => ?_) (fun _ _ _ _ => h81) (by rw [he1]; exact ps_ne_k (by decide)) kk
  have hC := hK.C
  obtain ⟨w1, w2, w3, w4⟩ := hL
  have hsum := ps_sum8 X hr8
  intro T hT XT
  have hc0 : H[ps_ad X a0]? = some (vp_cell (X.2.2.2 0) (n0, .inl f)) := ps_R_cell hR he0 (by decide) h80
  have hc1 : H[ps_ad X a]? = some (vp_cell (X.2.2.2 0) (n1, .inl f1)) := ps_R_cell hR he1 (by decide) h81
  obtain ⟨-, k0, hk0, cm0, hkk0⟩ := (hC.1.2 0 _ rfl).1 n0 (fun j => .int (f j))
  obtain ⟨-, k1, hk1, cm1, hkk1⟩ := (hC.1.2 0 _ rfl).1 n1 (fun j => .int (f1 j))
  have hnf : nativeFrameWords "java/lang/System" "arraycopy" 5 + 11 ≤ 100 := by decide +kernel
  obtain ⟨vm', X', step⟩ := XT.arraycopy hK.2.1 hK.own (ps_wd hC w1 args) (ps_wd hC w2 args) (ps_wd hC w3 args) (ps_wd hC w4 args) (src := ps_ad X a0) (dst := ps_ad X a) (cs := vp_cell (X.2.2.2 0) (n0, .inl f)) (cd := vp_cell (X.2.2.2 0) (n1, .inl f1)) (srcPos := sp) (destPos := dp) (n := n) (by rw [hT]; exact hc0) (by rw [hT]; exact hc1)
    (fun _ h => by cases h) (fun _ h => by cases h) (fun h => by cases h) (fun h => by cases h) hk0 hk1 hkk0 hkk1 (by simp [refKind]) h1 h2 h3
    (by rw [ps_nn h1, ps_nn h3]; show ¬ _ > ((arrV (X.2.2.2 0) n0 (fun j => .int (f j))).slots.size : Int); rw [arrV_size]; omega)
    (by rw [ps_nn h2, ps_nn h3]; show ¬ _ > ((arrV (X.2.2.2 0) n1 (fun j => .int (f1 j))).slots.size : Int); rw [arrV_size]; omega)
    (fun vm₁ _ i hi => by
      have e : (vp_cell (X.2.2.2 0) (n0, .inl f)).slots.getD (sp.toNatClampNeg + i) .null = .int (f (sp.toNatClampNeg + i)) := by
        show (arrV (X.2.2.2 0) n0 (fun j => .int (f j))).slots.getD _ _ = _
        rw [Array.getD_eq_getD_getElem?, arrV_read _ _ (by omega)]
        rfl
      refine ⟨?_, ?_⟩
      · rw [e]
        rfl
      · rw [e]
        exact trivial)
    (g := F0 m pc ls (.int n :: .int dp :: .ref (ps_ad X a) :: .int sp :: .ref (ps_ad X a0) :: r.map (ps_v X))) rfl (by rw [hK.2.2.2.2.1]; exact hl.1) (rest := r.map (ps_v X)) rfl (by rw [hK.2.2.1]; exact hd) (by omega) (by show 2 * 0 + _ + _ ≤ _; omega)
  have e1 : copied (vp_cell (X.2.2.2 0) (n0, .inl f)) (vp_cell (X.2.2.2 0) (n1, .inl f1)) sp dp n = vp_cell (X.2.2.2 0) (n1, .inl (va_cpy f f1 sp.toNatClampNeg dp.toNatClampNeg n.toNatClampNeg)) := va_copied (fun z => .int z) (X.2.2.2 0) (X.2.2.2 0) f f1 h4
  rw [e1] at X' step
  have hlt : ps_ad X a < H.size := (Array.getElem?_eq_some_iff.mp hc1).1
  have hheap : ((T.setVm vm').setCell (ps_ad X a) (vp_cell (X.2.2.2 0) (n1, .inl (va_cpy f f1 sp.toNatClampNeg dp.toNatClampNeg n.toNatClampNeg)))).heap = H.setIfInBounds (ps_ad X a) (vp_cell (X.2.2.2 0) (n1, .inl (va_cpy f f1 sp.toNatClampNeg dp.toNatClampNeg n.toNatClampNeg))) := by rw [← hT]; rfl
  obtain ⟨t, b1, b2⟩ := k2 _ _ (fun _ => show (H.setIfInBounds (ps_ad X a) _)[ps_ad X a]? = some _ by simp [Array.getElem?_setIfInBounds, hlt]; rfl) (by simp) (fun q hq => by simp [Array.getElem?_setIfInBounds, Ne.symm hq]) (fun z hz => by
      obtain ⟨y, -, hy⟩ := List.mem_map.mp hz
      rw [← hy]) _ hheap X'
  exact ⟨t, step t b1, b2⟩
/-- number idx of own's pool is clone of an array of ints -/
def ps_Lz (own : String) (idx : Nat) : Prop := Cond.methodLink own idx ⟨"[I", "clone", "()Ljava/lang/Object;"⟩ ∈ ps_W ∧ Cond.sameMethod "[I" "java/lang/Object" "clone" "()Ljava/lang/Object;" ∈ ps_W ∧ Cond.native ⟨"java/lang/Object", "clone", "()Ljava/lang/Object;"⟩ ∈ ps_W ∧ Cond.instanceMethod ⟨"java/lang/Object", "clone", "()Ljava/lang/Object;"⟩ ∈ ps_W ∧ Cond.selects "[I" ⟨"[I", "clone", "()Ljava/lang/Object;"⟩ ⟨"java/lang/Object", "clone", "()Ljava/lang/Object;"⟩ ∈ ps_W ∧ Cond.castable "[I" "java/lang/Cloneable" ∈ ps_N
theorem ps_clone {M : ps_M} {d pc idx : Nat} {lv : ps_LV} {r : List Value} {g : ps_G} {Q : ps_Rs → ps_G → Prop} {a N : Nat} {f : Nat → Int32} (hd : decode M.2.1 pc = .ok (.invokevirtual idx, 3)) (hL : ps_Lz M.1.cls idx) (he : g.2.2 a = .inl (0, (N, .inl f))) (h8 : 8 ≤ a) (hr8 : ps_wd2 r ≤ 8)
    (kk : ps_At M (d + 2) (pc + 3) lv (.ref g.1 :: r) (ps_nw g N (.inl (0, (N, .inl f)))) Q) : ps_At M (d + 2) pc lv (.ref a :: r) g Q := by
  refine ps_make (st := .ref a :: r) (fun X p l e R s m args below meth c H locs ls cells slots Qm hK hR a3 a4 hl hcells hslots k2 => ?_) kk
  have hC := hK.C
  obtain ⟨w1, w2, w3, w4, w5, w6⟩ := hL
  have hsum := ps_sum8 X hr8
  have hnm : s.vm.findClass "[I" = some (X.2.2.2 0) := (hC.1.2 0 _ rfl).2
  have hc0 : H[ps_ad X a]? = some (vp_cell (X.2.2.2 0) (N, .inl f)) := ps_R_cell hR he (by decide) h8
  have hsz : (vp_cell (X.2.2.2 0) (N, .inl f)).slots.size = N := arrV_size _ _ _
  obtain ⟨c0, t0', f1, f2, f3⟩ := Cond.castable_spec ((hC.2.2.2.1 _ w6).use (A := args) rfl)
  cases hnm.symm.trans f1
  intro T hT XT
  have hcellT : T.heap[ps_ad X a]? = some (vp_cell (X.2.2.2 0) (N, .inl f)) := by rw [hT]; exact hc0
  obtain ⟨-, kA, hkA, comp, hkind⟩ := State.isArrayOf_alike XT.warmed.alike ((hC.1.2 0 _ rfl).1 0 (fun _ => .null))
  obtain ⟨-, kS, hkS, compS, hkindS⟩ := (hC.1.2 0 _ rfl).1 0 (fun _ => .null)
  obtain ⟨vm', X', stp⟩ := XT.cloneArray hK.2.1 hK.own (ps_wd hC w1 args) (ps_wd hC w2 args) (ps_wd hC w3 args) (ps_wd hC w4 args) (ps_wd hC w5 args) (a := ps_ad X a) (cell := vp_cell (X.2.2.2 0) (N, .inl f)) hcellT (fun k h => by cases h) (fun h => by cases h) hnm f2 f3
    (fun i v hv => by
      have hk' : T.vm.classes[X.2.2.2 0]? = some kA := hkA
      have hv2 : fits .int v = true := by
        have hv3 : (arrV (X.2.2.2 0) N (fun j => Value.int (f j))).slots[i]? = some v := hv
        simp only [arrV, Array.getElem?_ofFn] at hv3
        split at hv3
        · cases hv3; rfl
        · cases hv3
      have hcl0 : (vp_cell (X.2.2.2 0) (N, Sum.inl f)).cls = X.2.2.2 0 := rfl
      rw [hcl0]
      simpa [State.fitsSlot, State.slotType?, hk', hkind] using hv2)
    (g := F0 m pc ls (.ref (ps_ad X a) :: r.map (ps_v X))) rfl (by rw [hK.2.2.2.2.1]; exact hl.1) rfl (by rw [hK.2.2.1]; exact hd) (by omega) (by show 2 * 0 + _ + 14 ≤ _; omega) hcells (by rw [hsz]; exact hslots) (hloader := Vm.clonesLoader_of_array hkS hkindS)
  have hcellE : ({ cls := (vp_cell (X.2.2.2 0) (N, Sum.inl f)).cls, slots := (vp_cell (X.2.2.2 0) (N, Sum.inl f)).slots } : Cell) = vp_cell (X.2.2.2 0) (N, .inl f) := rfl
  rw [hcellE, hsz] at X'
  generalize hH1 : H.push (vp_cell (X.2.2.2 0) (N, .inl f)) = H1
  have z1 : H1.size = H.size + 1 := by rw [← hH1, Array.size_push]
  have e1 : H1[H.size]? = some (vp_cell (X.2.2.2 0) (N, .inl f)) := by rw [← hH1, Array.getElem?_push_size]
  have o1 : ∀ q : Nat, q < H.size → H1[q]? = H[q]? := fun q hq => by rw [← hH1, Array.getElem?_push, if_neg (Nat.ne_of_lt hq)]
  rw [← ps_R_sz hR] at e1
  obtain ⟨t, b1, b2⟩ := k2 H1 (fun _ => e1) z1 o1 _ (by rw [← hH1, ← hT]; rfl) X'
  refine ⟨t, stp t ?_, b2⟩
  rw [hcellE, hT]
  exact b1
theorem ps_castA {M : ps_M} {d pc idx : Nat} {lv : ps_LV} {r : List Value} {g : ps_G} {Q : ps_Rs → ps_G → Prop} {a N : Nat} {f : Nat → Int32} (hd : decode M.2.1 pc = .ok (.checkcast idx, 3)) (hL : Cond.classLink M.1.cls idx "[I" ∈ ps_W) (he : g.2.2 a = .inl (0, (N, .inl f))) (h8 : 8 ≤ a) (kk : ps_At M d (pc + 3) lv (.ref a :: r) g Q) : ps_At M d pc lv (.ref a :: r) g Q := by
  refine ps_pass (fun X p l e R s m args below meth c H locs ls cells slots Qm hK hR _ _ _ _ k2 => ?_) kk
  have hC := hK.C
  have hc0 : va_at X.2.2.1 vwCl (ps_ad X a, .inl (X.2.2.2 0, (N, .inl f))) H := ps_R_cell hR he (by decide) h8
  exact va_castA (D := X.2.2.1) (cl := vwCl) (nm := "[I") hK.2.1 hK.2.2.1 hK.own (ps_wd hC hL args) (ps_P1 hc0) 0 rfl (hC.1.2 0 _ rfl).2 hd k2
/-- two references, or null, compared -/
theorem ps_acmp {M : ps_M} {d pc : Nat} {lv : ps_LV} {r : List Value} {g : ps_G} {Q : ps_Rs → ps_G → Prop} {x y : Option Nat} {z : Int} (hd : decode M.2.1 pc = .ok (.if_acmp .ne z, 3)) (hz : decide (0 ≤ (pc : Int) + z) = true) (hx : ∀ a, x = some a → 8 ≤ a) (hy : ∀ a, y = some a → 8 ≤ a)
    (k1 : ¬ x = y → ps_At M d (ps_tg pc z) lv r g Q) (k2 : x = y → ps_At M d (pc + 3) lv r g Q) : ps_At M d pc lv (va_rf y :: va_rf x :: r) g Q := by
  refine ps_two (¬ x = y) (fun X p l e R s m args below meth c H locs ls cells slots Qm hK hR q1 q2 => ?_) k1 (fun h => k2 (Classical.byContradiction h))
  have inj : (x.map (ps_ad X) = y.map (ps_ad X)) ↔ x = y := by
    constructor
    · intro h
      cases x with
      | none => cases y with
        | none => rfl
        | some b => cases h
      | some a => cases y with
        | none => cases h
        | some b => rw [ps_ad_inj (hx a rfl) (hy b rfl) (Option.some.inj h)]
    · intro h; rw [h]
  rw [List.map_cons, List.map_cons, ps_rf, ps_rf]
  exact lv_acmp_ne hK.2.1 hK.2.2.1 hd (ps_tg_ok hz) (fun h => q1 (fun e9 => h (inj.mpr e9))) (fun h => q2 (fun e9 => e9 (inj.mp h)))
/-- where a tableswitch goes -/
def ps_tsel (pc : Nat) (dflt lo hi : Int) (offs : Array Int) (x : Int32) : Nat := if x.toInt < lo ∨ hi < x.toInt then ps_tg pc dflt else ps_tg pc (offs[(x.toInt - lo).toNat]?.getD 0)
theorem ps_tsw {M : ps_M} {d pc len : Nat} {lv : ps_LV} {r : List Value} {g : ps_G} {Q : ps_Rs → ps_G → Prop} {dflt lo hi : Int} {offs : Array Int} {x : Int32} (hd : decode M.2.1 pc = .ok (.tableswitch dflt lo hi offs, len)) (hk : (decide (0 ≤ (pc : Int) + dflt) && (decide (hi - lo + 1 = offs.size) && offs.all fun z => decide (0 ≤ (pc : Int) + z))) = true)
    (k : ps_At M d (ps_tsel pc dflt lo hi offs x) lv r g Q) : ps_At M d pc lv (.int x :: r) g Q := by
  simp only [Bool.and_eq_true, decide_eq_true_eq] at hk
  obtain ⟨h1, h2, h3⟩ := hk
  unfold ps_tsel at k
  by_cases hx : x.toInt < lo ∨ hi < x.toInt
  · rw [if_pos hx] at k
    exact ps_pass (fun X p l e R s m args below meth c H locs ls cells slots Qm hK _ _ _ _ _ k2 => lv_tableOut hK.2.1 hK.2.2.1 hd hx (ps_tg_ok (decide_eq_true h1)) k2) k
  · rw [if_neg hx] at k
    have hlt : (x.toInt - lo).toNat < offs.size := by omega
    rw [Array.getElem?_eq_getElem hlt] at k
    have h4 : decide (0 ≤ (pc : Int) + offs[(x.toInt - lo).toNat]) = true := by
      rw [Array.all_eq_true] at h3
      exact h3 _ hlt
    exact ps_pass (fun X p l e R s m args below meth c H locs ls cells slots Qm hK _ _ _ _ _ k2 => lv_tableIn hK.2.1 hK.2.2.1 hd (fun h => hx (Or.inl h)) (fun h => hx (Or.inr h)) (Array.getElem?_eq_getElem hlt) (ps_tg_ok h4) k2) k
