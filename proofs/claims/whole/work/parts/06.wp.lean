/-! ===== one instruction: what must hold ahead of it (drafted by tools/wp.py) ===== -/
abbrev ps_LV : Type := List (Nat × Value)
/-- what an instruction's number in the constant pool stands for: a field (class, place); a call (how many arguments, class, method); a constant; a number -/
abbrev ps_O : Type := (Nat × Nat) ⊕ ((Nat × Nat × ps_M) ⊕ (Value ⊕ Nat))
abbrev ps_op : Type := (Instr × Nat) × ps_O
def ps_get (lv : ps_LV) (i : Nat) : Option Value := (lv.find? fun q => q.1 == i).map fun q => q.2
def ps_set1 (lv : ps_LV) (i : Nat) (v : Value) : ps_LV := (i, v) :: lv.filter (fun q => !(q.1 == i) && !(q.1 + 1 == i && q.2.category == 2))
def ps_set2 (lv : ps_LV) (i : Nat) (v : Value) : ps_LV := (i, v) :: lv.filter (fun q => !(q.1 == i) && (!(q.1 == i + 1) && !(q.1 + 1 == i && q.2.category == 2)))
def ps_si (st : List Value) (f : Int32 → List Value → Prop) : Prop := match st with
  | .int x :: r => f x r
  | _ => False
def ps_sii (st : List Value) (f : Int32 → Int32 → List Value → Prop) : Prop := match st with
  | .int y :: .int x :: r => f x y r
  | _ => False
def ps_sl (st : List Value) (f : Int64 → List Value → Prop) : Prop := match st with
  | .long x :: r => f x r
  | _ => False
def ps_sll (st : List Value) (f : Int64 → Int64 → List Value → Prop) : Prop := match st with
  | .long y :: .long x :: r => f x y r
  | _ => False
def ps_sli (st : List Value) (f : Int64 → Int32 → List Value → Prop) : Prop := match st with
  | .int y :: .long x :: r => f x y r
  | _ => False
/-- a reference or null -/
def ps_sq (st : List Value) (f : Option Nat → List Value → Prop) : Prop := ∃ x r, st = va_rf x :: r ∧ f x r
def ps_sqq (st : List Value) (f : Option Nat → Option Nat → List Value → Prop) : Prop := ∃ x y r, st = va_rf y :: va_rf x :: r ∧ f x y r
def ps_sv1 (st : List Value) (f : Value → List Value → Prop) : Prop := match st with
  | v :: r => v.category = 1 ∧ f v r
  | _ => False
def ps_sv2 (st : List Value) (f : Value → Value → List Value → Prop) : Prop := match st with
  | v :: w :: r => v.category = 1 ∧ w.category = 1 ∧ f v w r
  | _ => False
def ps_gi (lv : ps_LV) (k : Nat) (f : Int32 → Prop) : Prop := match ps_get lv k with
  | some (.int x) => f x
  | _ => False
def ps_gl (lv : ps_LV) (k : Nat) (f : Int64 → Prop) : Prop := match ps_get lv k with
  | some (.long x) => f x
  | _ => False
def ps_gq (lv : ps_LV) (k : Nat) (f : Value → Prop) : Prop := match ps_get lv k with
  | some v => (∃ x, v = va_rf x) ∧ f v
  | none => False
theorem ps_si_e {st : List Value} {f : Int32 → List Value → Prop} (h : ps_si st f) : ∃ x r, st = .int x :: r ∧ f x r := by
  unfold ps_si at h; split at h
  · exact ⟨_, _, rfl, h⟩
  · exact h.elim
theorem ps_sii_e {st : List Value} {f : Int32 → Int32 → List Value → Prop} (h : ps_sii st f) : ∃ x y r, st = .int y :: .int x :: r ∧ f x y r := by
  unfold ps_sii at h; split at h
  · exact ⟨_, _, _, rfl, h⟩
  · exact h.elim
theorem ps_sl_e {st : List Value} {f : Int64 → List Value → Prop} (h : ps_sl st f) : ∃ x r, st = .long x :: r ∧ f x r := by
  unfold ps_sl at h; split at h
  · exact ⟨_, _, rfl, h⟩
  · exact h.elim
theorem ps_sll_e {st : List Value} {f : Int64 → Int64 → List Value → Prop} (h : ps_sll st f) : ∃ x y r, st = .long y :: .long x :: r ∧ f x y r := by
  unfold ps_sll at h; split at h
  · exact ⟨_, _, _, rfl, h⟩
  · exact h.elim
theorem ps_sli_e {st : List Value} {f : Int64 → Int32 → List Value → Prop} (h : ps_sli st f) : ∃ x y r, st = .int y :: .long x :: r ∧ f x y r := by
  unfold ps_sli at h; split at h
  · exact ⟨_, _, _, rfl, h⟩
  · exact h.elim
theorem ps_sq_e {st : List Value} {f : Option Nat → List Value → Prop} (h : ps_sq st f) : ∃ x r, st = va_rf x :: r ∧ f x r := h
theorem ps_sqq_e {st : List Value} {f : Option Nat → Option Nat → List Value → Prop} (h : ps_sqq st f) : ∃ x y r, st = va_rf y :: va_rf x :: r ∧ f x y r := h
theorem ps_sv1_e {st : List Value} {f : Value → List Value → Prop} (h : ps_sv1 st f) : ∃ v r, st = v :: r ∧ v.category = 1 ∧ f v r := by
  unfold ps_sv1 at h; split at h
  · exact ⟨_, _, rfl, h⟩
  · exact h.elim
theorem ps_sv2_e {st : List Value} {f : Value → Value → List Value → Prop} (h : ps_sv2 st f) : ∃ v w r, st = v :: w :: r ∧ v.category = 1 ∧ w.category = 1 ∧ f v w r := by
  unfold ps_sv2 at h; split at h
  · exact ⟨_, _, _, rfl, h⟩
  · exact h.elim
theorem ps_gi_e {lv : ps_LV} {k : Nat} {f : Int32 → Prop} (h : ps_gi lv k f) : ∃ x, ps_get lv k = some (.int x) ∧ f x := by
  unfold ps_gi at h; split at h
  · exact ⟨_, by assumption, h⟩
  · exact h.elim
theorem ps_gl_e {lv : ps_LV} {k : Nat} {f : Int64 → Prop} (h : ps_gl lv k f) : ∃ x, ps_get lv k = some (.long x) ∧ f x := by
  unfold ps_gl at h; split at h
  · exact ⟨_, by assumption, h⟩
  · exact h.elim
theorem ps_gq_e {lv : ps_LV} {k : Nat} {f : Value → Prop} (h : ps_gq lv k f) : ∃ x, ps_get lv k = some (va_rf x) ∧ f (va_rf x) := by
  unfold ps_gq at h; split at h
  · obtain ⟨⟨x, rfl⟩, h⟩ := h
    exact ⟨x, by assumption, h⟩
  · exact h.elim
theorem ps_cat (X : ps_X) (v : Value) : (ps_v X v).category = v.category := by cases v <;> rfl
theorem ps_rf (X : ps_X) (x : Option Nat) : ps_v X (va_rf x) = va_rf (x.map (ps_ad X)) := by cases x <;> rfl
theorem ps_get_at {X : ps_X} {ls : Array Slot} {nL : Nat} {lv : ps_LV} {k : Nat} {v : Value} (hl : lv_has ls nL (ps_lv X lv)) (h : ps_get lv k = some v) : ls[k]? = some (.val (ps_v X v)) := by
  unfold ps_get at h
  cases e : lv.find? (fun q => q.1 == k) with
  | none => rw [e] at h; cases h
  | some q =>
    rw [e] at h
    have h1 : q.2 = v := Option.some.inj h
    have h2 : q.1 = k := by simpa using List.find?_some e
    have h3 : q ∈ lv := List.mem_of_find?_eq_some e
    have h4 := hl.2.2 (q.1, ps_v X q.2) (List.mem_map.mpr ⟨q, h3, rfl⟩)
    rw [h1, h2] at h4
    exact h4
theorem ps_lv_set1 (X : ps_X) (lv : ps_LV) (i : Nat) (v : Value) : (i, ps_v X v) :: (ps_lv X lv).filter (fun q => !(q.1 == i) && !(q.1 + 1 == i && q.2.category == 2)) = ps_lv X (ps_set1 lv i v) := by
  unfold ps_lv ps_set1
  rw [List.map_cons, List.filter_map]
  congr 3
  funext q
  show (!(q.1 == i) && !(q.1 + 1 == i && (ps_v X q.2).category == 2)) = _
  rw [ps_cat]
theorem ps_lv_set2 (X : ps_X) (lv : ps_LV) (i : Nat) (v : Value) : (i, ps_v X v) :: (ps_lv X lv).filter (fun q => !(q.1 == i) && (!(q.1 == i + 1) && !(q.1 + 1 == i && q.2.category == 2))) = ps_lv X (ps_set2 lv i v) := by
  unfold ps_lv ps_set2
  rw [List.map_cons, List.filter_map]
  congr 3
  funext q
  show (!(q.1 == i) && (!(q.1 == i + 1) && !(q.1 + 1 == i && (ps_v X q.2).category == 2))) = _
  rw [ps_cat]
def ps_tg (pc : Nat) (z : Int) : Nat := ((pc : Int) + z).toNat
theorem ps_tg_ok {pc : Nat} {z : Int} (h : decide (0 ≤ (pc : Int) + z) = true) : (pc : Int) + z = ((ps_tg pc z : Nat) : Int) := by
  unfold ps_tg
  rw [Int.toNat_of_nonneg (of_decide_eq_true h)]
/-- a step that leaves locals and cells -/
theorem ps_pass {M : ps_M} {d pc pc' : Nat} {lv : ps_LV} {st st' : List Value} {g : ps_G} {Q : ps_Rs → ps_G → Prop}
    (h : ∀ (X : ps_X) (p : Program) (l : Launch) (e : Env) (R : Room) (s : State) (m : MethodId) (args : Array Value) (below : List Frame) (meth : Method) (c : Code) (H : Heap) (locs : List Loc) (ls : Array Slot) (cells slots : Nat) (Qm : State → Prop), ps_K M X p l s m meth c → ps_R X g s H → va_S (ps_A X) s.heap H locs → lv_has ls M.2.2.1 (ps_lv X lv) → d ≤ R.frames → 60 * d ≤ R.locals →
      W p l e R s m args below meth c H locs cells slots Qm (F0 m pc' ls (st'.map (ps_v X))) → W p l e R s m args below meth c H locs cells slots Qm (F0 m pc ls (st.map (ps_v X))))
    (k : ps_At M d pc' lv st' g Q) : ps_At M d pc lv st g Q := by
  obtain ⟨r, g', hQ, h1, h2, h3⟩ := k
  exact ⟨r, g', hQ, h1, h2, fun X p l e R s m args below meth c H locs ls n0 s0 hK hR hS hb hl a1 a2 a3 a4 a5 a6 => h X p l e R s m args below meth c H locs ls _ _ _ hK hR hS hl a3 a4 (h3 X p l e R s m args below meth c H locs ls n0 s0 hK hR hS hb hl a1 a2 a3 a4 a5 a6)⟩
/-- a step that writes a local -/
theorem ps_store {M : ps_M} {d pc pc' : Nat} {lv lv' : ps_LV} {st st' : List Value} {g : ps_G} {Q : ps_Rs → ps_G → Prop}
    (h : ∀ (X : ps_X) (p : Program) (l : Launch) (e : Env) (R : Room) (s : State) (m : MethodId) (args : Array Value) (below : List Frame) (meth : Method) (c : Code) (H : Heap) (locs : List Loc) (ls : Array Slot) (cells slots : Nat) (Qm : State → Prop), ps_K M X p l s m meth c → lv_has ls M.2.2.1 (ps_lv X lv) →
      (∀ ls' : Array Slot, lv_has ls' M.2.2.1 (ps_lv X lv') → W p l e R s m args below meth c H locs cells slots Qm (F0 m pc' ls' (st'.map (ps_v X)))) → W p l e R s m args below meth c H locs cells slots Qm (F0 m pc ls (st.map (ps_v X))))
    (k : ps_At M d pc' lv' st' g Q) : ps_At M d pc lv st g Q := by
  obtain ⟨r, g', hQ, h1, h2, h3⟩ := k
  exact ⟨r, g', hQ, h1, h2, fun X p l e R s m args below meth c H locs ls n0 s0 hK hR hS hb hl a1 a2 a3 a4 a5 a6 => h X p l e R s m args below meth c H locs ls _ _ _ hK hl (fun ls' hl' => h3 X p l e R s m args below meth c H locs ls' n0 s0 hK hR hS hb hl' a1 a2 a3 a4 a5 a6)⟩
/-- a step to one of two places -/
theorem ps_two {M : ps_M} {d pc pc1 pc2 : Nat} {lv : ps_LV} {st st' : List Value} {g : ps_G} {Q : ps_Rs → ps_G → Prop} (C : Prop)
    (h : ∀ (X : ps_X) (p : Program) (l : Launch) (e : Env) (R : Room) (s : State) (m : MethodId) (args : Array Value) (below : List Frame) (meth : Method) (c : Code) (H : Heap) (locs : List Loc) (ls : Array Slot) (cells slots : Nat) (Qm : State → Prop), ps_K M X p l s m meth c → ps_R X g s H →
      (C → W p l e R s m args below meth c H locs cells slots Qm (F0 m pc1 ls (st'.map (ps_v X)))) → (¬ C → W p l e R s m args below meth c H locs cells slots Qm (F0 m pc2 ls (st'.map (ps_v X)))) → W p l e R s m args below meth c H locs cells slots Qm (F0 m pc ls (st.map (ps_v X))))
    (k1 : C → ps_At M d pc1 lv st' g Q) (k2 : ¬ C → ps_At M d pc2 lv st' g Q) : ps_At M d pc lv st g Q := by
  by_cases hc : C
  · obtain ⟨r, g', hQ, h1, h2, h3⟩ := k1 hc
    exact ⟨r, g', hQ, h1, h2, fun X p l e R s m args below meth c H locs ls n0 s0 hK hR hS hb hl a1 a2 a3 a4 a5 a6 => h X p l e R s m args below meth c H locs ls _ _ _ hK hR (fun _ => h3 X p l e R s m args below meth c H locs ls n0 s0 hK hR hS hb hl a1 a2 a3 a4 a5 a6) (fun hn => absurd hc hn)⟩
  · obtain ⟨r, g', hQ, h1, h2, h3⟩ := k2 hc
    exact ⟨r, g', hQ, h1, h2, fun X p l e R s m args below meth c H locs ls n0 s0 hK hR hS hb hl a1 a2 a3 a4 a5 a6 => h X p l e R s m args below meth c H locs ls _ _ _ hK hR (fun hn => absurd hn hc) (fun _ => h3 X p l e R s m args below meth c H locs ls n0 s0 hK hR hS hb hl a1 a2 a3 a4 a5 a6)⟩
