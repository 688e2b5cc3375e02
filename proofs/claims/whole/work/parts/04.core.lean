/-! ===== THE ABSTRACT MACHINE: cells by number (0 .. 6 the static arrays, 7 the script, from 8 on what the law's run made, in order), the judgement ps_At, its rules ===== -/
abbrev ps_E : Type := (Nat × vp_A) ⊕ (Nat × List Value)
/-- the next number, the slots made so far, the cells -/
abbrev ps_G : Type := Nat × Nat × (Nat → ps_E)
abbrev ps_Rs : Type := Option Value ⊕ String
/-- a method: name, bytes, words of locals, what it returns, its table -/
abbrev ps_M : Type := MethodName × ByteArray × Nat × Option FieldType × List (Nat × Nat × Nat × Nat)
/-- what the abstract names stand for: the first cell of the run, the cells that were there, classes and slots, array classes -/
abbrev ps_X : Type := Nat × (Nat → Nat) × va_G × (Nat → ClassId)
def ps_ad (X : ps_X) (i : Nat) : Nat := if i < 8 then X.2.1 i else X.1 + (i - 8)
def ps_v (X : ps_X) (v : Value) : Value := match v with
  | .ref a => .ref (ps_ad X a)
  | w => w
def ps_a (X : ps_X) (x : vp_A) : vp_A := match x with
  | (n, .inr (.inr (.inr (.inr f)))) => (n, .inr (.inr (.inr (.inr fun j => (f j).map (ps_ad X)))))
  | y => y
def ps_ty (k : Nat) : FieldType := match k with
  | 0 => .int
  | 1 => .long
  | 2 => .boolean
  | 3 => .object "PictureStudio$Layer"
  | 4 => .object "PictureStudio$Stand"
  | _ => .array .int
def ps_tys (X : ps_X) : List (ClassId × FieldType) := [(X.2.2.2 0, .int), (X.2.2.2 1, .long), (X.2.2.2 2, .boolean), (X.2.2.2 3, .object "PictureStudio$Layer"), (X.2.2.2 4, .object "PictureStudio$Stand"), (X.2.2.2 5, .array .int)]
def ps_at (X : ps_X) (i : Nat) (e : ps_E) (H : Heap) : Prop := match e with
  | .inl x => x.1 < 6 → va_at X.2.2.1 vwCl (ps_ad X i, .inl (X.2.2.2 x.1, ps_a X x.2)) H
  | .inr o => va_at X.2.2.1 vwCl (ps_ad X i, .inr (o.1, o.2.map (ps_v X))) H
def ps_ar (U : State) (H : Heap) (a N : Nat) (f : Nat → Int32) : Prop := ∃ cell : Cell, H[a]? = some cell ∧ U.isArrayOf cell .int ∧ cell.vm ≠ .unknown ∧ N ≤ cell.slots.size ∧ cell.slots.size.toInt32 = Int32.ofNat N ∧ ∀ j : Nat, j < N → cell.slots[j]? = some (.int (f j))
def ps_sn (k : Nat) : String := match k with
  | 0 => "NONE"
  | 1 => "SIGNATURE"
  | 2 => "LENGTH_BASE"
  | 3 => "LENGTH_EXTRA"
  | 4 => "DISTANCE_BASE"
  | 5 => "DISTANCE_EXTRA"
  | _ => "LENGTH_ORDER"
def ps_A (X : ps_X) : Nat → Prop := fun q => X.1 ≤ q
def ps_Z (X : ps_X) (s : State) (H : Heap) : Prop :=
  (∀ k, k < 7 → va_Z "PictureStudio" (ps_sn k) "[I" (.ref (X.2.1 k)) (ps_A X) s H) ∧ vx_Zq Jvm.Bundle.tN "UNASSIGNED_STACK" Jvm.Bundle.steD (ps_A X) s H ∧ vx_Zq Jvm.Bundle.tN "SUPPRESSED_SENTINEL" Jvm.Bundle.listD (ps_A X) s H
/-- a cell of which nothing is said -/
def ps_e0 : ps_E := .inl (9, (0, .inl fun _ => 0))
/-- the heap H holds the cells g -/
def ps_R (X : ps_X) (g : ps_G) (s : State) (H : Heap) : Prop :=
  8 ≤ g.1 ∧ (∀ i, g.1 ≤ i → g.2.2 i = ps_e0) ∧ H.size = X.1 + (g.1 - 8) ∧ (∀ i, 8 ≤ i → i < g.1 → ps_at X i (g.2.2 i) H) ∧ (∀ i, i < 8 → X.2.1 i < X.1 ∧ ∃ N f, g.2.2 i = .inl (0, (N, .inl f)) ∧ ps_ar s H (X.2.1 i) N f) ∧ ps_Z X s H
/-- the words that stay true: of the tables, whatever the arguments -/
def ps_W : List Cond := lw_tbl.filter goodWord
def ps_txt : List (String × Nat × String) := [("PictureStudio", 96, "INPUT is full"), ("PictureStudio", 122, "a number is out of range"), ("PictureStudio", 151, "no such PARENT"), ("PictureStudio", 164, "no number of a LAYER is left"), ("PictureStudio", 131, "no such LAYER"), ("PictureStudio", 168, "it can't be done in this state"), ("PictureStudio", 145, "the LAYER isn't PIXELS"), ("PictureStudio", 346, "it can't be merged with the one below"), ("PictureStudio", 117, "something is wrong in INPUT"), ("PictureStudio", 493, "the LAYER has no pixels of its own"), ("PictureStudio", 159, "no such place"), ("PictureStudio", 520, "no more POINTS"), ("PictureStudio", 531, "no more points of a CURVE"), ("PictureStudio", 554, "no more STEPS"), ("PictureStudio", 569, "no such pixel"), ("PictureStudio", 224, "no EDIT can be undone"), ("PictureStudio", 226, "no EDIT can be done again")]
/-- words on nest mates and casts -/
def ps_isN (w : Cond) : Bool := match w with
  | .fieldLinkNest .. => true
  | .methodLinkNest .. => true
  | .castable .. => true
  | .declares .. => true
  | _ => false
def ps_N : List Cond := tables_1.filter ps_isN
/-- the exceptions that are thrown -/
def ps_xs : List String := ["java/lang/IllegalArgumentException", "java/util/NoSuchElementException", "java/lang/IllegalStateException", "java/lang/IndexOutOfBoundsException", "java/lang/UnsupportedOperationException"]
/-- what the tables say at a method's start -/
def ps_C (X : ps_X) (s : State) : Prop := va_K X.2.2.1 vwCl (ps_tys X) s ∧ (∀ w ∈ ps_W, w.before #[] s = true) ∧ (∀ q ∈ ps_txt, ∃ sa, vk_R q.1 q.2.1 q.2.2 sa s) ∧ (∀ w ∈ ps_N, va_Nw w s) ∧ va_AO "PictureStudio$Layer" s ∧ va_AO "PictureStudio$Stand" s ∧ va_AOA .int s ∧ (∀ a ∈ ps_xs, ∀ b ∈ ps_xs, a ≠ b → va_Nc a b s)
def ps_lv (X : ps_X) (lv : List (Nat × Value)) : List (Nat × Value) := lv.map fun q => (q.1, ps_v X q.2)
/-- how a method ends -/
def ps_Qc (X : ps_X) (r : ps_Rs) (g' : ps_G) : Array Value → State → Outcome → State → Prop := fun _ st o t => (∃ v, r = .inl v ∧ o = .returned (v.map (ps_v X))) ∧ ps_R X g' t t.heap ∧ va_F (ps_A X) st t
def ps_XC (X : ps_X) (r : ps_Rs) (g' : ps_G) : String → State → State → Prop := fun E st t => r = .inr E ∧ ps_R X g' t t.heap ∧ va_F (ps_A X) st t
/-- the machine at a place of method M, over any caller -/
def ps_K (M : ps_M) (X : ps_X) (p : Program) (l : Launch) (s : State) (m : MethodId) (meth : Method) (c : Code) : Prop :=
  l.stackTraces = false ∧ p.tables.exec = Jvm.exec ∧ c.code = M.2.1 ∧ meth.sig.returnType = M.2.2.2.1 ∧ c.maxLocals = M.2.2.1 ∧ s.vm.findClass M.1.cls = some m.cls ∧ meth.locks = false ∧ meth.name = M.1.name ∧ c.exceptionTable.toList.map (fun h => (h.startPc, h.endPc, h.handlerPc, h.catchType)) = M.2.2.2.2 ∧ ps_C X s
/-- from pc, with these locals and this stack, over the cells g, M ends with r and the cells g' -/
def ps_Wk (M : ps_M) (d pc : Nat) (lv : List (Nat × Value)) (st : List Value) (g : ps_G) (r : ps_Rs) (g' : ps_G) : Prop :=
  g.1 ≤ g'.1 ∧ g.2.1 ≤ g'.2.1 ∧ ∀ (X : ps_X) (p : Program) (l : Launch) (e : Env) (R : Room) (s : State) (m : MethodId) (args : Array Value) (below : List Frame) (meth : Method) (c : Code) (H : Heap) (locs : List Loc) (ls : Array Slot) (n0 s0 : Nat),
    ps_K M X p l s m meth c → ps_R X g s H → va_S (ps_A X) s.heap H locs → X.1 ≤ s.heap.size → lv_has ls M.2.2.1 (ps_lv X lv) → n0 ≤ g.1 → s0 ≤ g.2.1 → d ≤ R.frames → 60 * d ≤ R.locals → g'.1 - n0 ≤ R.cells → g'.2.1 - s0 ≤ R.slots →
    W p l e R s m args below meth c H locs (g.1 - n0) (g.2.1 - s0) (vx_MQ below (ps_Qc X r g') (ps_XC X r g') args s (g'.1 - n0) (g'.2.1 - s0) (ps_A X)) (F0 m pc ls (st.map (ps_v X)))
def ps_At (M : ps_M) (d pc : Nat) (lv : List (Nat × Value)) (st : List Value) (g : ps_G) (Q : ps_Rs → ps_G → Prop) : Prop := ∃ r g', Q r g' ∧ ps_Wk M d pc lv st g r g'
