-- needs: 07 10 13
/-! ===== the fixed cells (by tools/emb.py): 139 the reference, 194 the law's long[1], 195 the first free number ===== -/
def e_tb : List (Nat × Nat × List Nat) := [(0, 0, []), (0, 0, []), (0, 0, []), (0, 0, []), (0, 0, []), (0, 0, []), (0, 0, []), (0, 0, []), (1, 11, [1, 12, 0, 13, 0, 14, 20, 89, 93, 98, 111, 122, 125, 137, 0, 0, 0, 138]), (0, 0, []), (0, 0, []), (0, 0, []), (5, 24, [4]), (5, 24, [4]), (1, 5, [15, 16, 17, 18, 0, 0, 19, 1, 0, 0]), (2, 256, []), (2, 256, []), (2, 32, []), (2, 9, []), (2, 9, []), (1, 10, [14, 21, 53, 85, 86, 0, 87, 88, 0]), (6, 31, []), (2, 576, []), (2, 576, []), (2, 576, []), (2, 576, []), (2, 576, []), (2, 576, []), (2, 576, []), (2, 576, []), (2, 576, []), (2, 576, []), (2, 576, []), (2, 576, []), (2, 576, []), (2, 576, []), (2, 576, []), (2, 576, []), (2, 576, []), (2, 576, []), (2, 576, []), (2, 576, []), (2, 576, []), (2, 576, []), (2, 576, []), (2, 576, []), (2, 576, []), (2, 576, []), (2, 576, []), (2, 576, []), (2, 576, []), (2, 576, []), (2, 576, []), (6, 31, []), (2, 576, []), (2, 576, []), (2, 576, []), (2, 576, []), (2, 576, []), (2, 576, []), (2, 576, []), (2, 576, []), (2, 576, []), (2, 576, []), (2, 576, []), (2, 576, []), (2, 576, []), (2, 576, []), (2, 576, []), (2, 576, []), (2, 576, []), (2, 576, []), (2, 576, []), (2, 576, []), (2, 576, []), (2, 576, []), (2, 576, []), (2, 576, []), (2, 576, []), (2, 576, []), (2, 576, []), (2, 576, []), (2, 576, []), (2, 576, []), (2, 576, []), (2, 576, []), (2, 576, []), (2, 576, []), (3, 9, []), (1, 0, [0, 0, 90, 91, 92]), (2, 576, []), (2, 576, []), (2, 576, []), (1, 1, [0, 0, 0, 0, 0, 0, 0, 0, 0, 94, 95, 96, 97, 0, 0]), (2, 20, []), (2, 20, []), (2, 20, []), (2, 576, []), (1, 6, [99, 100, 101, 102, 103, 104, 105, 106, 107, 108, 0, 0, 0, 109, 110]), (2, 8, []), (2, 320, []), (2, 320, []), (2, 320, []), (2, 256, []), (2, 256, []), (2, 400, []), (2, 400, []), (2, 400, []), (2, 400, []), (2, 96, []), (2, 576, []), (1, 3, [112, 113, 114, 115, 116, 117, 118, 119, 0, 0, 0, 120, 121]), (2, 40, []), (2, 4, []), (2, 256, []), (4, 9, []), (2, 576, []), (2, 16, []), (2, 16, []), (2, 16, []), (2, 1728, []), (2, 576, []), (1, 7, [123, 0, 124, 0, 0, 0]), (2, 3000, []), (2, 2328, []), (1, 8, [0, 0, 1, 0, 0, 0, 0, 126, 0, 127, 0, 0, 128]), (2, 256, []), (2, 256, []), (1, 2, [129, 0, 0, 0, 130, 0, 0, 131, 132, 133, 134, 135, 136]), (2, 8000, []), (2, 2328, []), (2, 320, []), (2, 16, []), (2, 288, []), (2, 16, []), (2, 32, []), (2, 17, []), (2, 8000, []), (2, 576, []), (1, 12, [0, 140, 0, 0, 0, 0, 141, 0, 142, 143, 0, 0, 0, 0, 0, 144, 145, 146, 147, 0, 0, 148, 149, 0, 150, 0, 0, 151, 152, 153, 154, 155, 156, 157, 0, 158, 0, 0, 0, 0, 0, 0, 0, 0, 159, 160, 161, 162, 163, 164, 165, 166, 0, 167, 168, 169, 170, 171, 172, 173, 174, 175, 176, 177, 178, 179, 180, 181, 182, 183, 184, 185, 186, 0, 187, 0, 0, 0, 188, 0, 189, 190, 0, 0, 0, 0, 0, 0, 0, 0, 191, 192, 193, 0]), (2, 8000, []), (2, 16000, []), (2, 35071, []), (2, 876775, []), (3, 30, []), (2, 18000, []), (2, 18000, []), (2, 576, []), (3, 9, []), (2, 576, []), (2, 9, []), (2, 9, []), (2, 32, []), (2, 256, []), (2, 256, []), (2, 576, []), (2, 576, []), (2, 2400, []), (2, 576, []), (2, 40, []), (2, 40, []), (2, 40, []), (2, 576, []), (2, 8, []), (2, 320, []), (2, 320, []), (2, 320, []), (2, 420, []), (2, 420, []), (2, 420, []), (2, 420, []), (2, 256, []), (2, 256, []), (2, 40, []), (2, 3, []), (2, 576, []), (2, 16, []), (2, 16, []), (2, 16, []), (2, 1728, []), (2, 4, []), (2, 576, []), (2, 29, []), (2, 29, []), (2, 30, []), (2, 30, []), (2, 19, []), (2, 2400, []), (2, 8000, []), (2, 256, []), (2, 256, []), (2, 48, []), (2, 960, []), (2, 340, []), (4, 1, [])]
abbrev e_S : Type := (Nat → Nat → Int32) × (Nat → Nat → Int32) × (Nat → Nat → Option Nat) × (Nat → Nat → Int64)
def e_v (s : e_S) (j : Nat) (k : Nat) (q : Nat) : Value := match q with
  | 0 => .int (s.1 j k)
  | 1 => va_rf (s.2.2.1 j k)
  | a + 2 => .ref (a + 2)
def e_fs (s : e_S) (j : Nat) : Nat → List Nat → List Value
  | _, [] => []
  | k, q :: r => e_v s j k q :: e_fs s j (k + 1) r
def e_c (s : e_S) (j : Nat) (d : ps_E) : ps_E := match e_tb[j]? with
  | some (1, ci, ks) => .inr (ci, e_fs s j 0 ks)
  | some (2, n, _) => .inl (0, (n, .inl (s.2.1 j)))
  | some (3, n, _) => .inl (2, (n, .inl (s.2.1 j)))
  | some (4, n, _) => .inl (1, (n, .inr (.inl (s.2.2.2 j))))
  | some (5, n, [k]) => .inl (k, (n, .inr (.inr (.inr (.inr (s.2.2.1 j))))))
  | some (6, n, _) => .inl (5, (n, .inr (.inr (.inr (.inr fun i => if i < n then some (j + 1 + i) else none)))))
  | _ => d
def e_g (s : e_S) (g : ps_G) : ps_G := (g.1, g.2.1, fun j => e_c s j (g.2.2 j))
/-- a row of a table of rows, put anew -/
def rs {α : Type} (f : Nat → α) (j : Nat) (r : α) : Nat → α := fun a => if a = j then r else f a
theorem rs_s {α : Type} {f : Nat → α} {j : Nat} {r : α} : rs f j r j = r := if_pos rfl
theorem rs_n {α : Type} {f : Nat → α} {j a : Nat} {r : α} (h : ¬ a = j) : rs f j r a = f a := if_neg h
theorem rs_rs {α : Type} {f : Nat → α} {j : Nat} {r r' : α} : rs (rs f j r) j r' = rs f j r' := by
  funext a
  by_cases h : a = j
  · rw [h, rs_s, rs_s]
  · rw [rs_n h, rs_n h, rs_n h]
theorem rs_id {α : Type} {f : Nat → α} {j : Nat} : rs f j (f j) = f := by
  funext a
  by_cases h : a = j
  · rw [h, rs_s]
  · rw [rs_n h]
def sF (s : e_S) (j k : Nat) (v : Int32) : e_S := (rs s.1 j (rs (s.1 j) k v), s.2.1, s.2.2.1, s.2.2.2)
def sA (s : e_S) (j : Nat) (r : Nat → Int32) : e_S := (s.1, rs s.2.1 j r, s.2.2.1, s.2.2.2)
def sR (s : e_S) (j k : Nat) (v : Option Nat) : e_S := (s.1, s.2.1, rs s.2.2.1 j (rs (s.2.2.1 j) k v), s.2.2.2)
def sL (s : e_S) (j : Nat) (r : Nat → Int64) : e_S := (s.1, s.2.1, s.2.2.1, rs s.2.2.2 j r)
theorem e_c_obj {s : e_S} {j ci : Nat} {ks : List Nat} {d : ps_E} (h : e_tb[j]? = some (1, ci, ks)) : e_c s j d = .inr (ci, e_fs s j 0 ks) := by unfold e_c; rw [h]; rfl
theorem e_c_I {s : e_S} {j n : Nat} {ks : List Nat} {d : ps_E} (h : e_tb[j]? = some (2, n, ks)) : e_c s j d = .inl (0, (n, .inl (s.2.1 j))) := by unfold e_c; rw [h]; rfl
theorem e_c_B {s : e_S} {j n : Nat} {ks : List Nat} {d : ps_E} (h : e_tb[j]? = some (3, n, ks)) : e_c s j d = .inl (2, (n, .inl (s.2.1 j))) := by unfold e_c; rw [h]; rfl
theorem e_c_L {s : e_S} {j n : Nat} {ks : List Nat} {d : ps_E} (h : e_tb[j]? = some (4, n, ks)) : e_c s j d = .inl (1, (n, .inr (.inl (s.2.2.2 j)))) := by unfold e_c; rw [h]; rfl
theorem e_c_R {s : e_S} {j n k : Nat} {d : ps_E} (h : e_tb[j]? = some (5, n, [k])) : e_c s j d = .inl (k, (n, .inr (.inr (.inr (.inr (s.2.2.1 j)))))) := by unfold e_c; rw [h]; rfl
theorem e_c_G {s : e_S} {j n : Nat} {ks : List Nat} {d : ps_E} (h : e_tb[j]? = some (6, n, ks)) : e_c s j d = .inl (5, (n, .inr (.inr (.inr (.inr fun i => if i < n then some (j + 1 + i) else none))))) := by unfold e_c; rw [h]; rfl
/-- a number that the table leaves free -/
def e_fr (a : Nat) : Prop := 195 ≤ a ∨ a < 8 ∨ a = 9 ∨ a = 10 ∨ a = 11
theorem e_c_fr {s : e_S} {a : Nat} {d : ps_E} (h : e_fr a) : e_c s a d = d := by
  unfold e_c
  rcases h with h | h | h | h | h
  · rw [List.getElem?_eq_none (show e_tb.length ≤ a from h)]
  · match a, h with
    | 0, _ => rfl
    | 1, _ => rfl
    | 2, _ => rfl
    | 3, _ => rfl
    | 4, _ => rfl
    | 5, _ => rfl
    | 6, _ => rfl
    | 7, _ => rfl
  · rw [h]; rfl
  · rw [h]; rfl
  · rw [h]; rfl
theorem e_fs_get {s : e_S} {j : Nat} : ∀ {ks : List Nat} {k n q : Nat}, ks[n]? = some q → (e_fs s j k ks)[n]? = some (e_v s j (k + n) q)
  | [], _, _, _, h => nomatch h
  | a :: r, k, 0, q, h => by cases h; rfl
  | a :: r, k, n + 1, q, h => by
    have := e_fs_get (s := s) (j := j) (ks := r) (k := k + 1) (n := n) (q := q) h
    show (e_fs s j (k + 1) r)[n]? = _
    rw [this, show k + 1 + n = k + (n + 1) by omega]
theorem e_fs_len {s : e_S} {j : Nat} : ∀ {ks : List Nat} {k : Nat}, (e_fs s j k ks).length = ks.length
  | [], _ => rfl
  | a :: r, k => by show (e_fs s j (k + 1) r).length + 1 = r.length + 1; rw [e_fs_len]
theorem e_fs_lt {s : e_S} {j : Nat} {v : Int32} {m : Nat} : ∀ {ks : List Nat} {k : Nat}, m < k → e_fs (sF s j m v) j k ks = e_fs s j k ks
  | [], _, _ => rfl
  | a :: r, k, h => by
    show e_v (sF s j m v) j k a :: _ = e_v s j k a :: _
    rw [e_fs_lt (ks := r) (k := k + 1) (by omega)]
    congr 1
    match a with
    | 0 => show Value.int (rs s.1 j (rs (s.1 j) m v) j k) = .int (s.1 j k); rw [rs_s, rs_n (by omega)]
    | 1 => rfl
    | a + 2 => rfl
theorem e_fs_ltR {s : e_S} {j : Nat} {v : Option Nat} {m : Nat} : ∀ {ks : List Nat} {k : Nat}, m < k → e_fs (sR s j m v) j k ks = e_fs s j k ks
  | [], _, _ => rfl
  | a :: r, k, h => by
    show e_v (sR s j m v) j k a :: _ = e_v s j k a :: _
    rw [e_fs_ltR (ks := r) (k := k + 1) (by omega)]
    congr 1
    match a with
    | 0 => rfl
    | 1 => show va_rf (rs s.2.2.1 j (rs (s.2.2.1 j) m v) j k) = va_rf (s.2.2.1 j k); rw [rs_s, rs_n (by omega)]
    | a + 2 => rfl
theorem e_fs_set {s : e_S} {j : Nat} {v : Int32} : ∀ {ks : List Nat} {k n : Nat}, ks[n]? = some 0 → (e_fs s j k ks).set n (.int v) = e_fs (sF s j (k + n) v) j k ks
  | [], _, _, h => nomatch h
  | a :: r, k, 0, h => by
    cases h
    show Value.int v :: e_fs s j (k + 1) r = e_v (sF s j (k + 0) v) j k 0 :: e_fs (sF s j (k + 0) v) j (k + 1) r
    rw [e_fs_lt (by omega)]
    show _ = Value.int (rs s.1 j (rs (s.1 j) k v) j k) :: _
    rw [rs_s, rs_s]
  | a :: r, k, n + 1, h => by
    show e_v s j k a :: (e_fs s j (k + 1) r).set n (.int v) = e_v (sF s j (k + (n + 1)) v) j k a :: e_fs (sF s j (k + (n + 1)) v) j (k + 1) r
    rw [e_fs_set (ks := r) (k := k + 1) (n := n) h, show k + 1 + n = k + (n + 1) by omega]
    congr 1
    match a with
    | 0 => show _ = Value.int (rs s.1 j (rs (s.1 j) (k + (n + 1)) v) j k); rw [rs_s, rs_n (by omega)]; rfl
    | 1 => rfl
    | a + 2 => rfl
theorem e_fs_setR {s : e_S} {j : Nat} {v : Option Nat} : ∀ {ks : List Nat} {k n : Nat}, ks[n]? = some 1 → (e_fs s j k ks).set n (va_rf v) = e_fs (sR s j (k + n) v) j k ks
  | [], _, _, h => nomatch h
  | a :: r, k, 0, h => by
    cases h
    show va_rf v :: e_fs s j (k + 1) r = e_v (sR s j (k + 0) v) j k 1 :: e_fs (sR s j (k + 0) v) j (k + 1) r
    rw [e_fs_ltR (by omega)]
    show _ = va_rf (rs s.2.2.1 j (rs (s.2.2.1 j) k v) j k) :: _
    rw [rs_s, rs_s]
  | a :: r, k, n + 1, h => by
    show e_v s j k a :: (e_fs s j (k + 1) r).set n (va_rf v) = e_v (sR s j (k + (n + 1)) v) j k a :: e_fs (sR s j (k + (n + 1)) v) j (k + 1) r
    rw [e_fs_setR (ks := r) (k := k + 1) (n := n) h, show k + 1 + n = k + (n + 1) by omega]
    congr 1
    match a with
    | 0 => rfl
    | 1 => show _ = va_rf (rs s.2.2.1 j (rs (s.2.2.1 j) (k + (n + 1)) v) j k); rw [rs_s, rs_n (by omega)]; rfl
    | a + 2 => rfl
theorem e_v_o {s t : e_S} {j k q : Nat} (h1 : s.1 j = t.1 j) (h2 : s.2.2.1 j = t.2.2.1 j) : e_v s j k q = e_v t j k q := by
  unfold e_v
  rw [h1, h2]
theorem e_fs_o {s t : e_S} {j : Nat} (h1 : s.1 j = t.1 j) (h2 : s.2.2.1 j = t.2.2.1 j) : ∀ {ks : List Nat} {k : Nat}, e_fs s j k ks = e_fs t j k ks
  | [], _ => rfl
  | a :: r, k => by
    show e_v s j k a :: _ = e_v t j k a :: _
    rw [e_v_o h1 h2, e_fs_o h1 h2]
theorem e_c_o {s t : e_S} {j : Nat} {d : ps_E} (h1 : s.1 j = t.1 j) (h2 : s.2.1 j = t.2.1 j) (h3 : s.2.2.1 j = t.2.2.1 j) (h4 : s.2.2.2 j = t.2.2.2 j) : e_c s j d = e_c t j d := by
  unfold e_c
  rw [h2, h3, h4]
  split <;> first | rfl | (rw [e_fs_o h1 h3])
theorem e_up {s t : e_S} {g : ps_G} {j : Nat} {e : ps_E} (he : e_c t j (g.2.2 j) = e) (h : ∀ a, ¬ a = j → s.1 a = t.1 a ∧ s.2.1 a = t.2.1 a ∧ s.2.2.1 a = t.2.2.1 a ∧ s.2.2.2 a = t.2.2.2 a) : ps_up (e_g s g) j e = e_g t g := by
  unfold ps_up e_g
  congr 2
  funext a
  by_cases ha : a = j
  · rw [if_pos ha, ha, he]
  · rw [if_neg ha]
    obtain ⟨h1, h2, h3, h4⟩ := h a ha
    exact e_c_o h1 h2 h3 h4
theorem e_fI {s : e_S} {g : ps_G} {j ci k : Nat} {ks : List Nat} (h : e_tb[j]? = some (1, ci, ks)) (h2 : ks[k]? = some 0) : q_fI ci k (e_g s g) j = some (s.1 j k) := by
  show (q_O ci (e_c s j _)).bind _ = _
  rw [e_c_obj h]
  unfold q_O
  dsimp only
  rw [if_pos rfl]
  show (match (e_fs s j 0 ks)[k]? with | some (.int x) => some x | _ => none) = _
  rw [e_fs_get h2, Nat.zero_add]
  rfl
theorem e_fR {s : e_S} {g : ps_G} {j ci k : Nat} {ks : List Nat} (h : e_tb[j]? = some (1, ci, ks)) (h2 : ks[k]? = some 1) : q_fR ci k (e_g s g) j = some (s.2.2.1 j k) := by
  show (q_O ci (e_c s j _)).bind _ = _
  rw [e_c_obj h]
  unfold q_O
  dsimp only
  rw [if_pos rfl]
  show (match (e_fs s j 0 ks)[k]? with | some (.ref x) => some (some x) | some .null => some none | _ => none) = _
  rw [e_fs_get h2, Nat.zero_add]
  show (match some (va_rf (s.2.2.1 j k)) with | some (.ref x) => some (some x) | some .null => some none | _ => none) = _
  cases s.2.2.1 j k <;> rfl
theorem e_fC {s : e_S} {g : ps_G} {j ci k a : Nat} {ks : List Nat} (h : e_tb[j]? = some (1, ci, ks)) (h2 : ks[k]? = some (a + 2)) : q_fR ci k (e_g s g) j = some (some (a + 2)) := by
  show (q_O ci (e_c s j _)).bind _ = _
  rw [e_c_obj h]
  unfold q_O
  dsimp only
  rw [if_pos rfl]
  show (match (e_fs s j 0 ks)[k]? with | some (.ref x) => some (some x) | some .null => some none | _ => none) = _
  rw [e_fs_get h2, Nat.zero_add]
  rfl
theorem e_ob {s : e_S} {g : ps_G} {j ci : Nat} {ks : List Nat} (h : e_tb[j]? = some (1, ci, ks)) : q_ob ci (e_g s g) j = some () := by
  show (q_O ci (e_c s j _)).bind _ = _
  rw [e_c_obj h]
  unfold q_O
  dsimp only
  rw [if_pos rfl]
  rfl
theorem e_sI {s : e_S} {g : ps_G} {j ci k : Nat} {ks : List Nat} {v : Int32} (h : e_tb[j]? = some (1, ci, ks)) (h2 : ks[k]? = some 0) : q_sI ci k (e_g s g) j v = some (e_g (sF s j k v) g) := by
  show (q_O ci (e_c s j _)).bind _ = _
  rw [e_c_obj h]
  unfold q_O
  dsimp only
  rw [if_pos rfl]
  show (if (e_fs s j 0 ks).length ≤ k then none else some (ps_up (e_g s g) j (.inr (ci, (e_fs s j 0 ks).set k (.int v))))) = _
  have hk : k < ks.length := (List.getElem?_eq_some_iff.mp h2).1
  rw [e_fs_len, if_neg (by omega), e_fs_set h2, Nat.zero_add]
  congr 1
  refine e_up (e_c_obj h) (fun a ha => ⟨?_, rfl, rfl, rfl⟩)
  show s.1 a = rs s.1 j _ a
  rw [rs_n ha]
theorem e_sB {s : e_S} {g : ps_G} {j ci k : Nat} {ks : List Nat} {v : Int32} (h : e_tb[j]? = some (1, ci, ks)) (h2 : ks[k]? = some 0) (hv : v = 0 ∨ v = 1) : q_sB ci k (e_g s g) j v = some (e_g (sF s j k v) g) := by
  unfold q_sB
  rw [if_neg (not_not_intro hv)]
  exact e_sI h h2
theorem e_sR {s : e_S} {g : ps_G} {j ci k : Nat} {ks : List Nat} {v : Option Nat} (h : e_tb[j]? = some (1, ci, ks)) (h2 : ks[k]? = some 1) : q_sR ci k (e_g s g) j v = some (e_g (sR s j k v) g) := by
  show (q_O ci (e_c s j _)).bind _ = _
  rw [e_c_obj h]
  unfold q_O
  dsimp only
  rw [if_pos rfl]
  show (if (e_fs s j 0 ks).length ≤ k then none else some (ps_up (e_g s g) j (.inr (ci, (e_fs s j 0 ks).set k (va_rf v))))) = _
  have hk : k < ks.length := (List.getElem?_eq_some_iff.mp h2).1
  rw [e_fs_len, if_neg (by omega), e_fs_setR h2, Nat.zero_add]
  congr 1
  refine e_up (e_c_obj h) (fun a ha => ⟨rfl, rfl, ?_, rfl⟩)
  show s.2.2.1 a = rs s.2.2.1 j _ a
  rw [rs_n ha]
theorem e_aI {s : e_S} {g : ps_G} {j n : Nat} {ks : List Nat} {i : Int32} (h : e_tb[j]? = some (2, n, ks)) : q_aI (e_g s g) j i = if i < 0 ∨ n ≤ i.toNatClampNeg then none else some (s.2.1 j i.toNatClampNeg) := by
  show (q_I 0 (e_c s j _)).bind _ = _
  rw [e_c_I h]
  unfold q_I
  dsimp only
  rw [if_pos rfl]
  rfl
theorem e_aB {s : e_S} {g : ps_G} {j n : Nat} {ks : List Nat} {i : Int32} (h : e_tb[j]? = some (3, n, ks)) : q_aB (e_g s g) j i = if i < 0 ∨ n ≤ i.toNatClampNeg then none else some (s.2.1 j i.toNatClampNeg) := by
  show (q_I 2 (e_c s j _)).bind _ = _
  rw [e_c_B h]
  unfold q_I
  dsimp only
  rw [if_pos rfl]
  rfl
theorem e_aL {s : e_S} {g : ps_G} {j n : Nat} {ks : List Nat} {i : Int32} (h : e_tb[j]? = some (4, n, ks)) : q_aL (e_g s g) j i = if i < 0 ∨ n ≤ i.toNatClampNeg then none else some (s.2.2.2 j i.toNatClampNeg) := by
  show (q_L (e_c s j _)).bind _ = _
  rw [e_c_L h]
  unfold q_L
  dsimp only
  rw [if_pos rfl]
  rfl
theorem e_aR {s : e_S} {g : ps_G} {j n k : Nat} {i : Int32} (h : e_tb[j]? = some (5, n, [k])) (hk : 3 ≤ k ∧ k < 6) : q_aR (e_g s g) j i = if i < 0 ∨ n ≤ i.toNatClampNeg then none else some (s.2.2.1 j i.toNatClampNeg) := by
  show (q_R (e_c s j _)).bind _ = _
  rw [e_c_R h]
  unfold q_R
  dsimp only
  rw [if_pos hk]
  rfl
theorem e_aG {s : e_S} {g : ps_G} {j n : Nat} {ks : List Nat} {i : Int32} (h : e_tb[j]? = some (6, n, ks)) : q_aR (e_g s g) j i = if i < 0 ∨ n ≤ i.toNatClampNeg then none else some (some (j + 1 + i.toNatClampNeg)) := by
  show (q_R (e_c s j _)).bind _ = _
  rw [e_c_G h]
  unfold q_R
  dsimp only
  rw [if_pos (by decide)]
  show (if i < 0 ∨ n ≤ i.toNatClampNeg then none else some (if i.toNatClampNeg < n then some (j + 1 + i.toNatClampNeg) else none)) = _
  by_cases hc : i < 0 ∨ n ≤ i.toNatClampNeg
  · rw [if_pos hc, if_pos hc]
  · rw [if_neg hc, if_neg hc, if_pos (Nat.lt_of_not_le (fun h => hc (Or.inr h)))]
theorem e_wI {s : e_S} {g : ps_G} {j n : Nat} {ks : List Nat} {i v : Int32} (h : e_tb[j]? = some (2, n, ks)) (h8 : 8 ≤ j) : q_wI (e_g s g) j i v = if i < 0 ∨ n ≤ i.toNatClampNeg then none else some (e_g (sA s j (upd (s.2.1 j) i.toNatClampNeg v)) g) := by
  show (q_I 0 (e_c s j _)).bind _ = _
  rw [e_c_I h]
  unfold q_I
  dsimp only
  rw [if_pos rfl]
  show (if i < 0 ∨ n ≤ i.toNatClampNeg ∨ j < 8 then none else some (ps_up (e_g s g) j (.inl (0, (n, .inl (upd (s.2.1 j) i.toNatClampNeg v)))))) = _
  by_cases hc : i < 0 ∨ n ≤ i.toNatClampNeg
  · rw [if_pos hc, if_pos (by rcases hc with h | h; exact Or.inl h; exact Or.inr (Or.inl h))]
  · rw [if_neg hc, if_neg (by rintro (h | h | h); exact hc (Or.inl h); exact hc (Or.inr h); omega)]
    congr 1
    refine e_up ?_ (fun a ha => ⟨rfl, ?_, rfl, rfl⟩)
    · rw [e_c_I h]
      show Sum.inl (0, (n, Sum.inl (rs s.2.1 j _ j))) = _
      rw [rs_s]
    · show s.2.1 a = rs s.2.1 j _ a
      rw [rs_n ha]
theorem e_wB {s : e_S} {g : ps_G} {j n : Nat} {ks : List Nat} {i v : Int32} (h : e_tb[j]? = some (3, n, ks)) : q_wB (e_g s g) j i v = if i < 0 ∨ n ≤ i.toNatClampNeg then none else some (e_g (sA s j (upd (s.2.1 j) i.toNatClampNeg (vp_nar .boolean v))) g) := by
  show (q_I 2 (e_c s j _)).bind _ = _
  rw [e_c_B h]
  unfold q_I
  dsimp only
  rw [if_pos rfl]
  show (if i < 0 ∨ n ≤ i.toNatClampNeg then none else some (ps_up (e_g s g) j (.inl (2, (n, .inl (upd (s.2.1 j) i.toNatClampNeg (vp_nar .boolean v))))))) = _
  by_cases hc : i < 0 ∨ n ≤ i.toNatClampNeg
  · rw [if_pos hc, if_pos hc]
  · rw [if_neg hc, if_neg hc]
    congr 1
    refine e_up ?_ (fun a ha => ⟨rfl, ?_, rfl, rfl⟩)
    · rw [e_c_B h]
      show Sum.inl (2, (n, Sum.inl (rs s.2.1 j _ j))) = _
      rw [rs_s]
    · show s.2.1 a = rs s.2.1 j _ a
      rw [rs_n ha]
theorem e_wL {s : e_S} {g : ps_G} {j n : Nat} {ks : List Nat} {i : Int32} {v : Int64} (h : e_tb[j]? = some (4, n, ks)) : q_wL (e_g s g) j i v = if i < 0 ∨ n ≤ i.toNatClampNeg then none else some (e_g (sL s j (vp_updL (s.2.2.2 j) i.toNatClampNeg v)) g) := by
  show (q_L (e_c s j _)).bind _ = _
  rw [e_c_L h]
  unfold q_L
  dsimp only
  rw [if_pos rfl]
  show (if i < 0 ∨ n ≤ i.toNatClampNeg then none else some (ps_up (e_g s g) j (.inl (1, (n, .inr (.inl (vp_updL (s.2.2.2 j) i.toNatClampNeg v))))))) = _
  by_cases hc : i < 0 ∨ n ≤ i.toNatClampNeg
  · rw [if_pos hc, if_pos hc]
  · rw [if_neg hc, if_neg hc]
    congr 1
    refine e_up ?_ (fun a ha => ⟨rfl, rfl, rfl, ?_⟩)
    · rw [e_c_L h]
      show Sum.inl (1, (n, Sum.inr (Sum.inl (rs s.2.2.2 j _ j)))) = _
      rw [rs_s]
    · show s.2.2.2 a = rs s.2.2.2 j _ a
      rw [rs_n ha]
theorem e_len {s : e_S} {g : ps_G} {j n : Nat} {ks : List Nat} (h : e_tb[j]? = some (2, n, ks)) : q_len (e_g s g) j = some (Int32.ofNat n) := by
  unfold q_len
  show (match e_c s j _ with | .inl x => if x.1 < 6 then some (Int32.ofNat x.2.1) else none | _ => none) = _
  rw [e_c_I h]
  rfl
theorem e_lenB {s : e_S} {g : ps_G} {j n : Nat} {ks : List Nat} (h : e_tb[j]? = some (3, n, ks)) : q_len (e_g s g) j = some (Int32.ofNat n) := by
  unfold q_len
  show (match e_c s j _ with | .inl x => if x.1 < 6 then some (Int32.ofNat x.2.1) else none | _ => none) = _
  rw [e_c_B h]
  rfl
/-! the free cells -/
theorem e_at {s : e_S} {g : ps_G} {a : Nat} (h : e_fr a) : (e_g s g).2.2 a = g.2.2 a := e_c_fr h
theorem e_upF {s : e_S} {g : ps_G} {a : Nat} {e : ps_E} (h : e_fr a) : ps_up (e_g s g) a e = e_g s (ps_up g a e) := by
  unfold ps_up e_g
  congr 2
  funext j
  dsimp only
  by_cases hj : j = a
  · rw [if_pos hj, if_pos hj, hj, e_c_fr h]
  · rw [if_neg hj, if_neg hj]
theorem e_nw {s : e_S} {g : ps_G} {N : Nat} {e : ps_E} (h : 195 ≤ g.1) : ps_nw (e_g s g) N e = e_g s (ps_nw g N e) := by
  unfold ps_nw e_g
  congr 2
  funext j
  dsimp only
  by_cases hj : j = g.1
  · rw [if_pos hj, if_pos hj, hj, e_c_fr (Or.inl h)]
  · rw [if_neg hj, if_neg hj]
theorem t8 : e_tb[8]? = some (1, 11, [1, 12, 0, 13, 0, 14, 20, 89, 93, 98, 111, 122, 125, 137, 0, 0, 0, 138]) := rfl
theorem ob8 {s : e_S} {g : ps_G} : q_ob 11 (e_g s g) 8 = some () := e_ob t8
theorem f8_0 {s : e_S} {g : ps_G} : q_fR 11 0 (e_g s g) 8 = some (s.2.2.1 8 0) := e_fR t8 rfl
theorem w8_0 {s : e_S} {g : ps_G} {v : Option Nat} : q_sR 11 0 (e_g s g) 8 v = some (e_g (sR s 8 0 v) g) := e_sR t8 rfl
theorem f8_1 {s : e_S} {g : ps_G} : q_fR 11 1 (e_g s g) 8 = some (some 12) := e_fC t8 rfl
theorem f8_2 {s : e_S} {g : ps_G} : q_fI 11 2 (e_g s g) 8 = some (s.1 8 2) := e_fI t8 rfl
theorem w8_2 {s : e_S} {g : ps_G} {v : Int32} : q_sI 11 2 (e_g s g) 8 v = some (e_g (sF s 8 2 v) g) := e_sI t8 rfl
theorem f8_3 {s : e_S} {g : ps_G} : q_fR 11 3 (e_g s g) 8 = some (some 13) := e_fC t8 rfl
theorem f8_4 {s : e_S} {g : ps_G} : q_fI 11 4 (e_g s g) 8 = some (s.1 8 4) := e_fI t8 rfl
theorem w8_4 {s : e_S} {g : ps_G} {v : Int32} : q_sI 11 4 (e_g s g) 8 v = some (e_g (sF s 8 4 v) g) := e_sI t8 rfl
theorem f8_5 {s : e_S} {g : ps_G} : q_fR 11 5 (e_g s g) 8 = some (some 14) := e_fC t8 rfl
theorem f8_6 {s : e_S} {g : ps_G} : q_fR 11 6 (e_g s g) 8 = some (some 20) := e_fC t8 rfl
theorem f8_7 {s : e_S} {g : ps_G} : q_fR 11 7 (e_g s g) 8 = some (some 89) := e_fC t8 rfl
theorem f8_8 {s : e_S} {g : ps_G} : q_fR 11 8 (e_g s g) 8 = some (some 93) := e_fC t8 rfl
theorem f8_9 {s : e_S} {g : ps_G} : q_fR 11 9 (e_g s g) 8 = some (some 98) := e_fC t8 rfl
theorem f8_10 {s : e_S} {g : ps_G} : q_fR 11 10 (e_g s g) 8 = some (some 111) := e_fC t8 rfl
theorem f8_11 {s : e_S} {g : ps_G} : q_fR 11 11 (e_g s g) 8 = some (some 122) := e_fC t8 rfl
theorem f8_12 {s : e_S} {g : ps_G} : q_fR 11 12 (e_g s g) 8 = some (some 125) := e_fC t8 rfl
theorem f8_13 {s : e_S} {g : ps_G} : q_fR 11 13 (e_g s g) 8 = some (some 137) := e_fC t8 rfl
theorem f8_14 {s : e_S} {g : ps_G} : q_fI 11 14 (e_g s g) 8 = some (s.1 8 14) := e_fI t8 rfl
theorem w8_14 {s : e_S} {g : ps_G} {v : Int32} : q_sI 11 14 (e_g s g) 8 v = some (e_g (sF s 8 14 v) g) := e_sI t8 rfl
theorem f8_15 {s : e_S} {g : ps_G} : q_fI 11 15 (e_g s g) 8 = some (s.1 8 15) := e_fI t8 rfl
theorem w8_15 {s : e_S} {g : ps_G} {v : Int32} : q_sI 11 15 (e_g s g) 8 v = some (e_g (sF s 8 15 v) g) := e_sI t8 rfl
theorem f8_16 {s : e_S} {g : ps_G} : q_fI 11 16 (e_g s g) 8 = some (s.1 8 16) := e_fI t8 rfl
theorem w8_16 {s : e_S} {g : ps_G} {v : Int32} : q_sI 11 16 (e_g s g) 8 v = some (e_g (sF s 8 16 v) g) := e_sI t8 rfl
theorem f8_17 {s : e_S} {g : ps_G} : q_fR 11 17 (e_g s g) 8 = some (some 138) := e_fC t8 rfl
theorem t14 : e_tb[14]? = some (1, 5, [15, 16, 17, 18, 0, 0, 19, 1, 0, 0]) := rfl
theorem ob14 {s : e_S} {g : ps_G} : q_ob 5 (e_g s g) 14 = some () := e_ob t14
theorem f14_0 {s : e_S} {g : ps_G} : q_fR 5 0 (e_g s g) 14 = some (some 15) := e_fC t14 rfl
theorem f14_1 {s : e_S} {g : ps_G} : q_fR 5 1 (e_g s g) 14 = some (some 16) := e_fC t14 rfl
theorem f14_2 {s : e_S} {g : ps_G} : q_fR 5 2 (e_g s g) 14 = some (some 17) := e_fC t14 rfl
theorem f14_3 {s : e_S} {g : ps_G} : q_fR 5 3 (e_g s g) 14 = some (some 18) := e_fC t14 rfl
theorem f14_4 {s : e_S} {g : ps_G} : q_fI 5 4 (e_g s g) 14 = some (s.1 14 4) := e_fI t14 rfl
theorem w14_4 {s : e_S} {g : ps_G} {v : Int32} : q_sI 5 4 (e_g s g) 14 v = some (e_g (sF s 14 4 v) g) := e_sI t14 rfl
theorem f14_5 {s : e_S} {g : ps_G} : q_fI 5 5 (e_g s g) 14 = some (s.1 14 5) := e_fI t14 rfl
theorem w14_5 {s : e_S} {g : ps_G} {v : Int32} : q_sI 5 5 (e_g s g) 14 v = some (e_g (sF s 14 5 v) g) := e_sI t14 rfl
theorem f14_6 {s : e_S} {g : ps_G} : q_fR 5 6 (e_g s g) 14 = some (some 19) := e_fC t14 rfl
theorem f14_7 {s : e_S} {g : ps_G} : q_fR 5 7 (e_g s g) 14 = some (s.2.2.1 14 7) := e_fR t14 rfl
theorem w14_7 {s : e_S} {g : ps_G} {v : Option Nat} : q_sR 5 7 (e_g s g) 14 v = some (e_g (sR s 14 7 v) g) := e_sR t14 rfl
theorem f14_8 {s : e_S} {g : ps_G} : q_fI 5 8 (e_g s g) 14 = some (s.1 14 8) := e_fI t14 rfl
theorem w14_8 {s : e_S} {g : ps_G} {v : Int32} : q_sI 5 8 (e_g s g) 14 v = some (e_g (sF s 14 8 v) g) := e_sI t14 rfl
theorem f14_9 {s : e_S} {g : ps_G} : q_fI 5 9 (e_g s g) 14 = some (s.1 14 9) := e_fI t14 rfl
theorem w14_9 {s : e_S} {g : ps_G} {v : Int32} : q_sI 5 9 (e_g s g) 14 v = some (e_g (sF s 14 9 v) g) := e_sI t14 rfl
theorem t20 : e_tb[20]? = some (1, 10, [14, 21, 53, 85, 86, 0, 87, 88, 0]) := rfl
theorem ob20 {s : e_S} {g : ps_G} : q_ob 10 (e_g s g) 20 = some () := e_ob t20
theorem f20_0 {s : e_S} {g : ps_G} : q_fR 10 0 (e_g s g) 20 = some (some 14) := e_fC t20 rfl
theorem f20_1 {s : e_S} {g : ps_G} : q_fR 10 1 (e_g s g) 20 = some (some 21) := e_fC t20 rfl
theorem f20_2 {s : e_S} {g : ps_G} : q_fR 10 2 (e_g s g) 20 = some (some 53) := e_fC t20 rfl
theorem f20_3 {s : e_S} {g : ps_G} : q_fR 10 3 (e_g s g) 20 = some (some 85) := e_fC t20 rfl
theorem f20_4 {s : e_S} {g : ps_G} : q_fR 10 4 (e_g s g) 20 = some (some 86) := e_fC t20 rfl
theorem f20_5 {s : e_S} {g : ps_G} : q_fI 10 5 (e_g s g) 20 = some (s.1 20 5) := e_fI t20 rfl
theorem w20_5 {s : e_S} {g : ps_G} {v : Int32} (h : v = 0 ∨ v = 1) : q_sB 10 5 (e_g s g) 20 v = some (e_g (sF s 20 5 v) g) := e_sB t20 rfl h
theorem f20_6 {s : e_S} {g : ps_G} : q_fR 10 6 (e_g s g) 20 = some (some 87) := e_fC t20 rfl
theorem f20_7 {s : e_S} {g : ps_G} : q_fR 10 7 (e_g s g) 20 = some (some 88) := e_fC t20 rfl
theorem f20_8 {s : e_S} {g : ps_G} : q_fI 10 8 (e_g s g) 20 = some (s.1 20 8) := e_fI t20 rfl
theorem w20_8 {s : e_S} {g : ps_G} {v : Int32} : q_sI 10 8 (e_g s g) 20 v = some (e_g (sF s 20 8 v) g) := e_sI t20 rfl
theorem t89 : e_tb[89]? = some (1, 0, [0, 0, 90, 91, 92]) := rfl
theorem ob89 {s : e_S} {g : ps_G} : q_ob 0 (e_g s g) 89 = some () := e_ob t89
theorem f89_0 {s : e_S} {g : ps_G} : q_fI 0 0 (e_g s g) 89 = some (s.1 89 0) := e_fI t89 rfl
theorem w89_0 {s : e_S} {g : ps_G} {v : Int32} : q_sI 0 0 (e_g s g) 89 v = some (e_g (sF s 89 0 v) g) := e_sI t89 rfl
theorem f89_1 {s : e_S} {g : ps_G} : q_fI 0 1 (e_g s g) 89 = some (s.1 89 1) := e_fI t89 rfl
theorem w89_1 {s : e_S} {g : ps_G} {v : Int32} : q_sI 0 1 (e_g s g) 89 v = some (e_g (sF s 89 1 v) g) := e_sI t89 rfl
theorem f89_2 {s : e_S} {g : ps_G} : q_fR 0 2 (e_g s g) 89 = some (some 90) := e_fC t89 rfl
theorem f89_3 {s : e_S} {g : ps_G} : q_fR 0 3 (e_g s g) 89 = some (some 91) := e_fC t89 rfl
theorem f89_4 {s : e_S} {g : ps_G} : q_fR 0 4 (e_g s g) 89 = some (some 92) := e_fC t89 rfl
theorem t93 : e_tb[93]? = some (1, 1, [0, 0, 0, 0, 0, 0, 0, 0, 0, 94, 95, 96, 97, 0, 0]) := rfl
theorem ob93 {s : e_S} {g : ps_G} : q_ob 1 (e_g s g) 93 = some () := e_ob t93
theorem f93_0 {s : e_S} {g : ps_G} : q_fI 1 0 (e_g s g) 93 = some (s.1 93 0) := e_fI t93 rfl
theorem w93_0 {s : e_S} {g : ps_G} {v : Int32} : q_sI 1 0 (e_g s g) 93 v = some (e_g (sF s 93 0 v) g) := e_sI t93 rfl
theorem f93_1 {s : e_S} {g : ps_G} : q_fI 1 1 (e_g s g) 93 = some (s.1 93 1) := e_fI t93 rfl
theorem w93_1 {s : e_S} {g : ps_G} {v : Int32} : q_sI 1 1 (e_g s g) 93 v = some (e_g (sF s 93 1 v) g) := e_sI t93 rfl
theorem f93_2 {s : e_S} {g : ps_G} : q_fI 1 2 (e_g s g) 93 = some (s.1 93 2) := e_fI t93 rfl
theorem w93_2 {s : e_S} {g : ps_G} {v : Int32} : q_sI 1 2 (e_g s g) 93 v = some (e_g (sF s 93 2 v) g) := e_sI t93 rfl
theorem f93_3 {s : e_S} {g : ps_G} : q_fI 1 3 (e_g s g) 93 = some (s.1 93 3) := e_fI t93 rfl
theorem w93_3 {s : e_S} {g : ps_G} {v : Int32} : q_sI 1 3 (e_g s g) 93 v = some (e_g (sF s 93 3 v) g) := e_sI t93 rfl
theorem f93_4 {s : e_S} {g : ps_G} : q_fI 1 4 (e_g s g) 93 = some (s.1 93 4) := e_fI t93 rfl
theorem w93_4 {s : e_S} {g : ps_G} {v : Int32} : q_sI 1 4 (e_g s g) 93 v = some (e_g (sF s 93 4 v) g) := e_sI t93 rfl
theorem f93_5 {s : e_S} {g : ps_G} : q_fI 1 5 (e_g s g) 93 = some (s.1 93 5) := e_fI t93 rfl
theorem w93_5 {s : e_S} {g : ps_G} {v : Int32} : q_sI 1 5 (e_g s g) 93 v = some (e_g (sF s 93 5 v) g) := e_sI t93 rfl
theorem f93_6 {s : e_S} {g : ps_G} : q_fI 1 6 (e_g s g) 93 = some (s.1 93 6) := e_fI t93 rfl
theorem w93_6 {s : e_S} {g : ps_G} {v : Int32} : q_sI 1 6 (e_g s g) 93 v = some (e_g (sF s 93 6 v) g) := e_sI t93 rfl
theorem f93_7 {s : e_S} {g : ps_G} : q_fI 1 7 (e_g s g) 93 = some (s.1 93 7) := e_fI t93 rfl
theorem w93_7 {s : e_S} {g : ps_G} {v : Int32} : q_sI 1 7 (e_g s g) 93 v = some (e_g (sF s 93 7 v) g) := e_sI t93 rfl
theorem f93_8 {s : e_S} {g : ps_G} : q_fI 1 8 (e_g s g) 93 = some (s.1 93 8) := e_fI t93 rfl
theorem w93_8 {s : e_S} {g : ps_G} {v : Int32} : q_sI 1 8 (e_g s g) 93 v = some (e_g (sF s 93 8 v) g) := e_sI t93 rfl
theorem f93_9 {s : e_S} {g : ps_G} : q_fR 1 9 (e_g s g) 93 = some (some 94) := e_fC t93 rfl
theorem f93_10 {s : e_S} {g : ps_G} : q_fR 1 10 (e_g s g) 93 = some (some 95) := e_fC t93 rfl
theorem f93_11 {s : e_S} {g : ps_G} : q_fR 1 11 (e_g s g) 93 = some (some 96) := e_fC t93 rfl
theorem f93_12 {s : e_S} {g : ps_G} : q_fR 1 12 (e_g s g) 93 = some (some 97) := e_fC t93 rfl
theorem f93_13 {s : e_S} {g : ps_G} : q_fI 1 13 (e_g s g) 93 = some (s.1 93 13) := e_fI t93 rfl
theorem w93_13 {s : e_S} {g : ps_G} {v : Int32} : q_sI 1 13 (e_g s g) 93 v = some (e_g (sF s 93 13 v) g) := e_sI t93 rfl
theorem f93_14 {s : e_S} {g : ps_G} : q_fI 1 14 (e_g s g) 93 = some (s.1 93 14) := e_fI t93 rfl
theorem w93_14 {s : e_S} {g : ps_G} {v : Int32} : q_sI 1 14 (e_g s g) 93 v = some (e_g (sF s 93 14 v) g) := e_sI t93 rfl
theorem t98 : e_tb[98]? = some (1, 6, [99, 100, 101, 102, 103, 104, 105, 106, 107, 108, 0, 0, 0, 109, 110]) := rfl
theorem ob98 {s : e_S} {g : ps_G} : q_ob 6 (e_g s g) 98 = some () := e_ob t98
theorem f98_0 {s : e_S} {g : ps_G} : q_fR 6 0 (e_g s g) 98 = some (some 99) := e_fC t98 rfl
theorem f98_1 {s : e_S} {g : ps_G} : q_fR 6 1 (e_g s g) 98 = some (some 100) := e_fC t98 rfl
theorem f98_2 {s : e_S} {g : ps_G} : q_fR 6 2 (e_g s g) 98 = some (some 101) := e_fC t98 rfl
theorem f98_3 {s : e_S} {g : ps_G} : q_fR 6 3 (e_g s g) 98 = some (some 102) := e_fC t98 rfl
theorem f98_4 {s : e_S} {g : ps_G} : q_fR 6 4 (e_g s g) 98 = some (some 103) := e_fC t98 rfl
theorem f98_5 {s : e_S} {g : ps_G} : q_fR 6 5 (e_g s g) 98 = some (some 104) := e_fC t98 rfl
theorem f98_6 {s : e_S} {g : ps_G} : q_fR 6 6 (e_g s g) 98 = some (some 105) := e_fC t98 rfl
theorem f98_7 {s : e_S} {g : ps_G} : q_fR 6 7 (e_g s g) 98 = some (some 106) := e_fC t98 rfl
theorem f98_8 {s : e_S} {g : ps_G} : q_fR 6 8 (e_g s g) 98 = some (some 107) := e_fC t98 rfl
theorem f98_9 {s : e_S} {g : ps_G} : q_fR 6 9 (e_g s g) 98 = some (some 108) := e_fC t98 rfl
theorem f98_10 {s : e_S} {g : ps_G} : q_fI 6 10 (e_g s g) 98 = some (s.1 98 10) := e_fI t98 rfl
theorem w98_10 {s : e_S} {g : ps_G} {v : Int32} : q_sI 6 10 (e_g s g) 98 v = some (e_g (sF s 98 10 v) g) := e_sI t98 rfl
theorem f98_11 {s : e_S} {g : ps_G} : q_fI 6 11 (e_g s g) 98 = some (s.1 98 11) := e_fI t98 rfl
theorem w98_11 {s : e_S} {g : ps_G} {v : Int32} : q_sI 6 11 (e_g s g) 98 v = some (e_g (sF s 98 11 v) g) := e_sI t98 rfl
theorem f98_12 {s : e_S} {g : ps_G} : q_fI 6 12 (e_g s g) 98 = some (s.1 98 12) := e_fI t98 rfl
theorem w98_12 {s : e_S} {g : ps_G} {v : Int32} : q_sI 6 12 (e_g s g) 98 v = some (e_g (sF s 98 12 v) g) := e_sI t98 rfl
theorem f98_13 {s : e_S} {g : ps_G} : q_fR 6 13 (e_g s g) 98 = some (some 109) := e_fC t98 rfl
theorem f98_14 {s : e_S} {g : ps_G} : q_fR 6 14 (e_g s g) 98 = some (some 110) := e_fC t98 rfl
theorem t111 : e_tb[111]? = some (1, 3, [112, 113, 114, 115, 116, 117, 118, 119, 0, 0, 0, 120, 121]) := rfl
theorem ob111 {s : e_S} {g : ps_G} : q_ob 3 (e_g s g) 111 = some () := e_ob t111
theorem f111_0 {s : e_S} {g : ps_G} : q_fR 3 0 (e_g s g) 111 = some (some 112) := e_fC t111 rfl
theorem f111_1 {s : e_S} {g : ps_G} : q_fR 3 1 (e_g s g) 111 = some (some 113) := e_fC t111 rfl
theorem f111_2 {s : e_S} {g : ps_G} : q_fR 3 2 (e_g s g) 111 = some (some 114) := e_fC t111 rfl
theorem f111_3 {s : e_S} {g : ps_G} : q_fR 3 3 (e_g s g) 111 = some (some 115) := e_fC t111 rfl
theorem f111_4 {s : e_S} {g : ps_G} : q_fR 3 4 (e_g s g) 111 = some (some 116) := e_fC t111 rfl
theorem f111_5 {s : e_S} {g : ps_G} : q_fR 3 5 (e_g s g) 111 = some (some 117) := e_fC t111 rfl
theorem f111_6 {s : e_S} {g : ps_G} : q_fR 3 6 (e_g s g) 111 = some (some 118) := e_fC t111 rfl
theorem f111_7 {s : e_S} {g : ps_G} : q_fR 3 7 (e_g s g) 111 = some (some 119) := e_fC t111 rfl
theorem f111_8 {s : e_S} {g : ps_G} : q_fI 3 8 (e_g s g) 111 = some (s.1 111 8) := e_fI t111 rfl
theorem w111_8 {s : e_S} {g : ps_G} {v : Int32} : q_sI 3 8 (e_g s g) 111 v = some (e_g (sF s 111 8 v) g) := e_sI t111 rfl
theorem f111_9 {s : e_S} {g : ps_G} : q_fI 3 9 (e_g s g) 111 = some (s.1 111 9) := e_fI t111 rfl
theorem w111_9 {s : e_S} {g : ps_G} {v : Int32} : q_sI 3 9 (e_g s g) 111 v = some (e_g (sF s 111 9 v) g) := e_sI t111 rfl
theorem f111_10 {s : e_S} {g : ps_G} : q_fI 3 10 (e_g s g) 111 = some (s.1 111 10) := e_fI t111 rfl
theorem w111_10 {s : e_S} {g : ps_G} {v : Int32} : q_sI 3 10 (e_g s g) 111 v = some (e_g (sF s 111 10 v) g) := e_sI t111 rfl
theorem f111_11 {s : e_S} {g : ps_G} : q_fR 3 11 (e_g s g) 111 = some (some 120) := e_fC t111 rfl
theorem f111_12 {s : e_S} {g : ps_G} : q_fR 3 12 (e_g s g) 111 = some (some 121) := e_fC t111 rfl
theorem t122 : e_tb[122]? = some (1, 7, [123, 0, 124, 0, 0, 0]) := rfl
theorem ob122 {s : e_S} {g : ps_G} : q_ob 7 (e_g s g) 122 = some () := e_ob t122
theorem f122_0 {s : e_S} {g : ps_G} : q_fR 7 0 (e_g s g) 122 = some (some 123) := e_fC t122 rfl
theorem f122_1 {s : e_S} {g : ps_G} : q_fI 7 1 (e_g s g) 122 = some (s.1 122 1) := e_fI t122 rfl
theorem w122_1 {s : e_S} {g : ps_G} {v : Int32} : q_sI 7 1 (e_g s g) 122 v = some (e_g (sF s 122 1 v) g) := e_sI t122 rfl
theorem f122_2 {s : e_S} {g : ps_G} : q_fR 7 2 (e_g s g) 122 = some (some 124) := e_fC t122 rfl
theorem f122_3 {s : e_S} {g : ps_G} : q_fI 7 3 (e_g s g) 122 = some (s.1 122 3) := e_fI t122 rfl
theorem w122_3 {s : e_S} {g : ps_G} {v : Int32} : q_sI 7 3 (e_g s g) 122 v = some (e_g (sF s 122 3 v) g) := e_sI t122 rfl
theorem f122_4 {s : e_S} {g : ps_G} : q_fI 7 4 (e_g s g) 122 = some (s.1 122 4) := e_fI t122 rfl
theorem w122_4 {s : e_S} {g : ps_G} {v : Int32} : q_sI 7 4 (e_g s g) 122 v = some (e_g (sF s 122 4 v) g) := e_sI t122 rfl
theorem f122_5 {s : e_S} {g : ps_G} : q_fI 7 5 (e_g s g) 122 = some (s.1 122 5) := e_fI t122 rfl
theorem w122_5 {s : e_S} {g : ps_G} {v : Int32} : q_sI 7 5 (e_g s g) 122 v = some (e_g (sF s 122 5 v) g) := e_sI t122 rfl
theorem t125 : e_tb[125]? = some (1, 8, [0, 0, 1, 0, 0, 0, 0, 126, 0, 127, 0, 0, 128]) := rfl
theorem ob125 {s : e_S} {g : ps_G} : q_ob 8 (e_g s g) 125 = some () := e_ob t125
theorem f125_0 {s : e_S} {g : ps_G} : q_fI 8 0 (e_g s g) 125 = some (s.1 125 0) := e_fI t125 rfl
theorem w125_0 {s : e_S} {g : ps_G} {v : Int32} : q_sI 8 0 (e_g s g) 125 v = some (e_g (sF s 125 0 v) g) := e_sI t125 rfl
theorem f125_1 {s : e_S} {g : ps_G} : q_fI 8 1 (e_g s g) 125 = some (s.1 125 1) := e_fI t125 rfl
theorem w125_1 {s : e_S} {g : ps_G} {v : Int32} : q_sI 8 1 (e_g s g) 125 v = some (e_g (sF s 125 1 v) g) := e_sI t125 rfl
theorem f125_2 {s : e_S} {g : ps_G} : q_fR 8 2 (e_g s g) 125 = some (s.2.2.1 125 2) := e_fR t125 rfl
theorem w125_2 {s : e_S} {g : ps_G} {v : Option Nat} : q_sR 8 2 (e_g s g) 125 v = some (e_g (sR s 125 2 v) g) := e_sR t125 rfl
theorem f125_3 {s : e_S} {g : ps_G} : q_fI 8 3 (e_g s g) 125 = some (s.1 125 3) := e_fI t125 rfl
theorem w125_3 {s : e_S} {g : ps_G} {v : Int32} : q_sI 8 3 (e_g s g) 125 v = some (e_g (sF s 125 3 v) g) := e_sI t125 rfl
theorem f125_4 {s : e_S} {g : ps_G} : q_fI 8 4 (e_g s g) 125 = some (s.1 125 4) := e_fI t125 rfl
theorem w125_4 {s : e_S} {g : ps_G} {v : Int32} : q_sI 8 4 (e_g s g) 125 v = some (e_g (sF s 125 4 v) g) := e_sI t125 rfl
theorem f125_5 {s : e_S} {g : ps_G} : q_fI 8 5 (e_g s g) 125 = some (s.1 125 5) := e_fI t125 rfl
theorem w125_5 {s : e_S} {g : ps_G} {v : Int32} : q_sI 8 5 (e_g s g) 125 v = some (e_g (sF s 125 5 v) g) := e_sI t125 rfl
theorem f125_6 {s : e_S} {g : ps_G} : q_fI 8 6 (e_g s g) 125 = some (s.1 125 6) := e_fI t125 rfl
theorem w125_6 {s : e_S} {g : ps_G} {v : Int32} : q_sI 8 6 (e_g s g) 125 v = some (e_g (sF s 125 6 v) g) := e_sI t125 rfl
theorem f125_7 {s : e_S} {g : ps_G} : q_fR 8 7 (e_g s g) 125 = some (some 126) := e_fC t125 rfl
theorem f125_8 {s : e_S} {g : ps_G} : q_fI 8 8 (e_g s g) 125 = some (s.1 125 8) := e_fI t125 rfl
theorem w125_8 {s : e_S} {g : ps_G} {v : Int32} : q_sI 8 8 (e_g s g) 125 v = some (e_g (sF s 125 8 v) g) := e_sI t125 rfl
theorem f125_9 {s : e_S} {g : ps_G} : q_fR 8 9 (e_g s g) 125 = some (some 127) := e_fC t125 rfl
theorem f125_10 {s : e_S} {g : ps_G} : q_fI 8 10 (e_g s g) 125 = some (s.1 125 10) := e_fI t125 rfl
theorem w125_10 {s : e_S} {g : ps_G} {v : Int32} : q_sI 8 10 (e_g s g) 125 v = some (e_g (sF s 125 10 v) g) := e_sI t125 rfl
theorem f125_11 {s : e_S} {g : ps_G} : q_fI 8 11 (e_g s g) 125 = some (s.1 125 11) := e_fI t125 rfl
theorem w125_11 {s : e_S} {g : ps_G} {v : Int32} : q_sI 8 11 (e_g s g) 125 v = some (e_g (sF s 125 11 v) g) := e_sI t125 rfl
theorem f125_12 {s : e_S} {g : ps_G} : q_fR 8 12 (e_g s g) 125 = some (some 128) := e_fC t125 rfl
theorem t128 : e_tb[128]? = some (1, 2, [129, 0, 0, 0, 130, 0, 0, 131, 132, 133, 134, 135, 136]) := rfl
theorem ob128 {s : e_S} {g : ps_G} : q_ob 2 (e_g s g) 128 = some () := e_ob t128
theorem f128_0 {s : e_S} {g : ps_G} : q_fR 2 0 (e_g s g) 128 = some (some 129) := e_fC t128 rfl
theorem f128_1 {s : e_S} {g : ps_G} : q_fI 2 1 (e_g s g) 128 = some (s.1 128 1) := e_fI t128 rfl
theorem w128_1 {s : e_S} {g : ps_G} {v : Int32} : q_sI 2 1 (e_g s g) 128 v = some (e_g (sF s 128 1 v) g) := e_sI t128 rfl
theorem f128_2 {s : e_S} {g : ps_G} : q_fI 2 2 (e_g s g) 128 = some (s.1 128 2) := e_fI t128 rfl
theorem w128_2 {s : e_S} {g : ps_G} {v : Int32} : q_sI 2 2 (e_g s g) 128 v = some (e_g (sF s 128 2 v) g) := e_sI t128 rfl
theorem f128_3 {s : e_S} {g : ps_G} : q_fI 2 3 (e_g s g) 128 = some (s.1 128 3) := e_fI t128 rfl
theorem w128_3 {s : e_S} {g : ps_G} {v : Int32} (h : v = 0 ∨ v = 1) : q_sB 2 3 (e_g s g) 128 v = some (e_g (sF s 128 3 v) g) := e_sB t128 rfl h
theorem f128_4 {s : e_S} {g : ps_G} : q_fR 2 4 (e_g s g) 128 = some (some 130) := e_fC t128 rfl
theorem f128_5 {s : e_S} {g : ps_G} : q_fI 2 5 (e_g s g) 128 = some (s.1 128 5) := e_fI t128 rfl
theorem w128_5 {s : e_S} {g : ps_G} {v : Int32} : q_sI 2 5 (e_g s g) 128 v = some (e_g (sF s 128 5 v) g) := e_sI t128 rfl
theorem f128_6 {s : e_S} {g : ps_G} : q_fI 2 6 (e_g s g) 128 = some (s.1 128 6) := e_fI t128 rfl
theorem w128_6 {s : e_S} {g : ps_G} {v : Int32} : q_sI 2 6 (e_g s g) 128 v = some (e_g (sF s 128 6 v) g) := e_sI t128 rfl
theorem f128_7 {s : e_S} {g : ps_G} : q_fR 2 7 (e_g s g) 128 = some (some 131) := e_fC t128 rfl
theorem f128_8 {s : e_S} {g : ps_G} : q_fR 2 8 (e_g s g) 128 = some (some 132) := e_fC t128 rfl
theorem f128_9 {s : e_S} {g : ps_G} : q_fR 2 9 (e_g s g) 128 = some (some 133) := e_fC t128 rfl
theorem f128_10 {s : e_S} {g : ps_G} : q_fR 2 10 (e_g s g) 128 = some (some 134) := e_fC t128 rfl
theorem f128_11 {s : e_S} {g : ps_G} : q_fR 2 11 (e_g s g) 128 = some (some 135) := e_fC t128 rfl
theorem f128_12 {s : e_S} {g : ps_G} : q_fR 2 12 (e_g s g) 128 = some (some 136) := e_fC t128 rfl
theorem t139 : e_tb[139]? = some (1, 12, [0, 140, 0, 0, 0, 0, 141, 0, 142, 143, 0, 0, 0, 0, 0, 144, 145, 146, 147, 0, 0, 148, 149, 0, 150, 0, 0, 151, 152, 153, 154, 155, 156, 157, 0, 158, 0, 0, 0, 0, 0, 0, 0, 0, 159, 160, 161, 162, 163, 164, 165, 166, 0, 167, 168, 169, 170, 171, 172, 173, 174, 175, 176, 177, 178, 179, 180, 181, 182, 183, 184, 185, 186, 0, 187, 0, 0, 0, 188, 0, 189, 190, 0, 0, 0, 0, 0, 0, 0, 0, 191, 192, 193, 0]) := rfl
theorem ob139 {s : e_S} {g : ps_G} : q_ob 12 (e_g s g) 139 = some () := e_ob t139
theorem f139_0 {s : e_S} {g : ps_G} : q_fI 12 0 (e_g s g) 139 = some (s.1 139 0) := e_fI t139 rfl
theorem w139_0 {s : e_S} {g : ps_G} {v : Int32} : q_sI 12 0 (e_g s g) 139 v = some (e_g (sF s 139 0 v) g) := e_sI t139 rfl
theorem f139_1 {s : e_S} {g : ps_G} : q_fR 12 1 (e_g s g) 139 = some (some 140) := e_fC t139 rfl
theorem f139_2 {s : e_S} {g : ps_G} : q_fI 12 2 (e_g s g) 139 = some (s.1 139 2) := e_fI t139 rfl
theorem w139_2 {s : e_S} {g : ps_G} {v : Int32} : q_sI 12 2 (e_g s g) 139 v = some (e_g (sF s 139 2 v) g) := e_sI t139 rfl
theorem f139_3 {s : e_S} {g : ps_G} : q_fI 12 3 (e_g s g) 139 = some (s.1 139 3) := e_fI t139 rfl
theorem w139_3 {s : e_S} {g : ps_G} {v : Int32} : q_sI 12 3 (e_g s g) 139 v = some (e_g (sF s 139 3 v) g) := e_sI t139 rfl
theorem f139_4 {s : e_S} {g : ps_G} : q_fI 12 4 (e_g s g) 139 = some (s.1 139 4) := e_fI t139 rfl
theorem w139_4 {s : e_S} {g : ps_G} {v : Int32} : q_sI 12 4 (e_g s g) 139 v = some (e_g (sF s 139 4 v) g) := e_sI t139 rfl
theorem f139_5 {s : e_S} {g : ps_G} : q_fI 12 5 (e_g s g) 139 = some (s.1 139 5) := e_fI t139 rfl
theorem w139_5 {s : e_S} {g : ps_G} {v : Int32} : q_sI 12 5 (e_g s g) 139 v = some (e_g (sF s 139 5 v) g) := e_sI t139 rfl
theorem f139_6 {s : e_S} {g : ps_G} : q_fR 12 6 (e_g s g) 139 = some (some 141) := e_fC t139 rfl
theorem f139_7 {s : e_S} {g : ps_G} : q_fI 12 7 (e_g s g) 139 = some (s.1 139 7) := e_fI t139 rfl
theorem w139_7 {s : e_S} {g : ps_G} {v : Int32} : q_sI 12 7 (e_g s g) 139 v = some (e_g (sF s 139 7 v) g) := e_sI t139 rfl
theorem f139_8 {s : e_S} {g : ps_G} : q_fR 12 8 (e_g s g) 139 = some (some 142) := e_fC t139 rfl
theorem f139_9 {s : e_S} {g : ps_G} : q_fR 12 9 (e_g s g) 139 = some (some 143) := e_fC t139 rfl
theorem f139_10 {s : e_S} {g : ps_G} : q_fI 12 10 (e_g s g) 139 = some (s.1 139 10) := e_fI t139 rfl
theorem w139_10 {s : e_S} {g : ps_G} {v : Int32} : q_sI 12 10 (e_g s g) 139 v = some (e_g (sF s 139 10 v) g) := e_sI t139 rfl
theorem f139_11 {s : e_S} {g : ps_G} : q_fI 12 11 (e_g s g) 139 = some (s.1 139 11) := e_fI t139 rfl
theorem w139_11 {s : e_S} {g : ps_G} {v : Int32} : q_sI 12 11 (e_g s g) 139 v = some (e_g (sF s 139 11 v) g) := e_sI t139 rfl
theorem f139_12 {s : e_S} {g : ps_G} : q_fI 12 12 (e_g s g) 139 = some (s.1 139 12) := e_fI t139 rfl
theorem w139_12 {s : e_S} {g : ps_G} {v : Int32} : q_sI 12 12 (e_g s g) 139 v = some (e_g (sF s 139 12 v) g) := e_sI t139 rfl
theorem f139_13 {s : e_S} {g : ps_G} : q_fI 12 13 (e_g s g) 139 = some (s.1 139 13) := e_fI t139 rfl
theorem w139_13 {s : e_S} {g : ps_G} {v : Int32} : q_sI 12 13 (e_g s g) 139 v = some (e_g (sF s 139 13 v) g) := e_sI t139 rfl
theorem f139_14 {s : e_S} {g : ps_G} : q_fI 12 14 (e_g s g) 139 = some (s.1 139 14) := e_fI t139 rfl
theorem w139_14 {s : e_S} {g : ps_G} {v : Int32} : q_sI 12 14 (e_g s g) 139 v = some (e_g (sF s 139 14 v) g) := e_sI t139 rfl
theorem f139_15 {s : e_S} {g : ps_G} : q_fR 12 15 (e_g s g) 139 = some (some 144) := e_fC t139 rfl
theorem f139_16 {s : e_S} {g : ps_G} : q_fR 12 16 (e_g s g) 139 = some (some 145) := e_fC t139 rfl
theorem f139_17 {s : e_S} {g : ps_G} : q_fR 12 17 (e_g s g) 139 = some (some 146) := e_fC t139 rfl
theorem f139_18 {s : e_S} {g : ps_G} : q_fR 12 18 (e_g s g) 139 = some (some 147) := e_fC t139 rfl
theorem f139_19 {s : e_S} {g : ps_G} : q_fI 12 19 (e_g s g) 139 = some (s.1 139 19) := e_fI t139 rfl
theorem w139_19 {s : e_S} {g : ps_G} {v : Int32} : q_sI 12 19 (e_g s g) 139 v = some (e_g (sF s 139 19 v) g) := e_sI t139 rfl
theorem f139_20 {s : e_S} {g : ps_G} : q_fI 12 20 (e_g s g) 139 = some (s.1 139 20) := e_fI t139 rfl
theorem w139_20 {s : e_S} {g : ps_G} {v : Int32} : q_sI 12 20 (e_g s g) 139 v = some (e_g (sF s 139 20 v) g) := e_sI t139 rfl
theorem f139_21 {s : e_S} {g : ps_G} : q_fR 12 21 (e_g s g) 139 = some (some 148) := e_fC t139 rfl
theorem f139_22 {s : e_S} {g : ps_G} : q_fR 12 22 (e_g s g) 139 = some (some 149) := e_fC t139 rfl
theorem f139_23 {s : e_S} {g : ps_G} : q_fI 12 23 (e_g s g) 139 = some (s.1 139 23) := e_fI t139 rfl
theorem w139_23 {s : e_S} {g : ps_G} {v : Int32} : q_sI 12 23 (e_g s g) 139 v = some (e_g (sF s 139 23 v) g) := e_sI t139 rfl
theorem f139_24 {s : e_S} {g : ps_G} : q_fR 12 24 (e_g s g) 139 = some (some 150) := e_fC t139 rfl
theorem f139_25 {s : e_S} {g : ps_G} : q_fI 12 25 (e_g s g) 139 = some (s.1 139 25) := e_fI t139 rfl
theorem w139_25 {s : e_S} {g : ps_G} {v : Int32} : q_sI 12 25 (e_g s g) 139 v = some (e_g (sF s 139 25 v) g) := e_sI t139 rfl
theorem f139_26 {s : e_S} {g : ps_G} : q_fI 12 26 (e_g s g) 139 = some (s.1 139 26) := e_fI t139 rfl
theorem w139_26 {s : e_S} {g : ps_G} {v : Int32} : q_sI 12 26 (e_g s g) 139 v = some (e_g (sF s 139 26 v) g) := e_sI t139 rfl
theorem f139_27 {s : e_S} {g : ps_G} : q_fR 12 27 (e_g s g) 139 = some (some 151) := e_fC t139 rfl
theorem f139_28 {s : e_S} {g : ps_G} : q_fR 12 28 (e_g s g) 139 = some (some 152) := e_fC t139 rfl
theorem f139_29 {s : e_S} {g : ps_G} : q_fR 12 29 (e_g s g) 139 = some (some 153) := e_fC t139 rfl
theorem f139_30 {s : e_S} {g : ps_G} : q_fR 12 30 (e_g s g) 139 = some (some 154) := e_fC t139 rfl
theorem f139_31 {s : e_S} {g : ps_G} : q_fR 12 31 (e_g s g) 139 = some (some 155) := e_fC t139 rfl
theorem f139_32 {s : e_S} {g : ps_G} : q_fR 12 32 (e_g s g) 139 = some (some 156) := e_fC t139 rfl
theorem f139_33 {s : e_S} {g : ps_G} : q_fR 12 33 (e_g s g) 139 = some (some 157) := e_fC t139 rfl
theorem f139_34 {s : e_S} {g : ps_G} : q_fI 12 34 (e_g s g) 139 = some (s.1 139 34) := e_fI t139 rfl
theorem w139_34 {s : e_S} {g : ps_G} {v : Int32} : q_sI 12 34 (e_g s g) 139 v = some (e_g (sF s 139 34 v) g) := e_sI t139 rfl
theorem f139_35 {s : e_S} {g : ps_G} : q_fR 12 35 (e_g s g) 139 = some (some 158) := e_fC t139 rfl
theorem f139_36 {s : e_S} {g : ps_G} : q_fI 12 36 (e_g s g) 139 = some (s.1 139 36) := e_fI t139 rfl
theorem w139_36 {s : e_S} {g : ps_G} {v : Int32} : q_sI 12 36 (e_g s g) 139 v = some (e_g (sF s 139 36 v) g) := e_sI t139 rfl
theorem f139_37 {s : e_S} {g : ps_G} : q_fI 12 37 (e_g s g) 139 = some (s.1 139 37) := e_fI t139 rfl
theorem w139_37 {s : e_S} {g : ps_G} {v : Int32} : q_sI 12 37 (e_g s g) 139 v = some (e_g (sF s 139 37 v) g) := e_sI t139 rfl
theorem f139_38 {s : e_S} {g : ps_G} : q_fI 12 38 (e_g s g) 139 = some (s.1 139 38) := e_fI t139 rfl
theorem w139_38 {s : e_S} {g : ps_G} {v : Int32} : q_sI 12 38 (e_g s g) 139 v = some (e_g (sF s 139 38 v) g) := e_sI t139 rfl
theorem f139_39 {s : e_S} {g : ps_G} : q_fI 12 39 (e_g s g) 139 = some (s.1 139 39) := e_fI t139 rfl
theorem w139_39 {s : e_S} {g : ps_G} {v : Int32} : q_sI 12 39 (e_g s g) 139 v = some (e_g (sF s 139 39 v) g) := e_sI t139 rfl
theorem f139_40 {s : e_S} {g : ps_G} : q_fI 12 40 (e_g s g) 139 = some (s.1 139 40) := e_fI t139 rfl
theorem w139_40 {s : e_S} {g : ps_G} {v : Int32} : q_sI 12 40 (e_g s g) 139 v = some (e_g (sF s 139 40 v) g) := e_sI t139 rfl
theorem f139_41 {s : e_S} {g : ps_G} : q_fI 12 41 (e_g s g) 139 = some (s.1 139 41) := e_fI t139 rfl
theorem w139_41 {s : e_S} {g : ps_G} {v : Int32} : q_sI 12 41 (e_g s g) 139 v = some (e_g (sF s 139 41 v) g) := e_sI t139 rfl
theorem f139_42 {s : e_S} {g : ps_G} : q_fI 12 42 (e_g s g) 139 = some (s.1 139 42) := e_fI t139 rfl
theorem w139_42 {s : e_S} {g : ps_G} {v : Int32} : q_sI 12 42 (e_g s g) 139 v = some (e_g (sF s 139 42 v) g) := e_sI t139 rfl
theorem f139_43 {s : e_S} {g : ps_G} : q_fI 12 43 (e_g s g) 139 = some (s.1 139 43) := e_fI t139 rfl
theorem w139_43 {s : e_S} {g : ps_G} {v : Int32} : q_sI 12 43 (e_g s g) 139 v = some (e_g (sF s 139 43 v) g) := e_sI t139 rfl
theorem f139_44 {s : e_S} {g : ps_G} : q_fR 12 44 (e_g s g) 139 = some (some 159) := e_fC t139 rfl
theorem f139_45 {s : e_S} {g : ps_G} : q_fR 12 45 (e_g s g) 139 = some (some 160) := e_fC t139 rfl
theorem f139_46 {s : e_S} {g : ps_G} : q_fR 12 46 (e_g s g) 139 = some (some 161) := e_fC t139 rfl
theorem f139_47 {s : e_S} {g : ps_G} : q_fR 12 47 (e_g s g) 139 = some (some 162) := e_fC t139 rfl
theorem f139_48 {s : e_S} {g : ps_G} : q_fR 12 48 (e_g s g) 139 = some (some 163) := e_fC t139 rfl
theorem f139_49 {s : e_S} {g : ps_G} : q_fR 12 49 (e_g s g) 139 = some (some 164) := e_fC t139 rfl
theorem f139_50 {s : e_S} {g : ps_G} : q_fR 12 50 (e_g s g) 139 = some (some 165) := e_fC t139 rfl
theorem f139_51 {s : e_S} {g : ps_G} : q_fR 12 51 (e_g s g) 139 = some (some 166) := e_fC t139 rfl
theorem f139_52 {s : e_S} {g : ps_G} : q_fI 12 52 (e_g s g) 139 = some (s.1 139 52) := e_fI t139 rfl
theorem w139_52 {s : e_S} {g : ps_G} {v : Int32} : q_sI 12 52 (e_g s g) 139 v = some (e_g (sF s 139 52 v) g) := e_sI t139 rfl
theorem f139_53 {s : e_S} {g : ps_G} : q_fR 12 53 (e_g s g) 139 = some (some 167) := e_fC t139 rfl
theorem f139_54 {s : e_S} {g : ps_G} : q_fR 12 54 (e_g s g) 139 = some (some 168) := e_fC t139 rfl
theorem f139_55 {s : e_S} {g : ps_G} : q_fR 12 55 (e_g s g) 139 = some (some 169) := e_fC t139 rfl
theorem f139_56 {s : e_S} {g : ps_G} : q_fR 12 56 (e_g s g) 139 = some (some 170) := e_fC t139 rfl
theorem f139_57 {s : e_S} {g : ps_G} : q_fR 12 57 (e_g s g) 139 = some (some 171) := e_fC t139 rfl
theorem f139_58 {s : e_S} {g : ps_G} : q_fR 12 58 (e_g s g) 139 = some (some 172) := e_fC t139 rfl
theorem f139_59 {s : e_S} {g : ps_G} : q_fR 12 59 (e_g s g) 139 = some (some 173) := e_fC t139 rfl
theorem f139_60 {s : e_S} {g : ps_G} : q_fR 12 60 (e_g s g) 139 = some (some 174) := e_fC t139 rfl
theorem f139_61 {s : e_S} {g : ps_G} : q_fR 12 61 (e_g s g) 139 = some (some 175) := e_fC t139 rfl
theorem f139_62 {s : e_S} {g : ps_G} : q_fR 12 62 (e_g s g) 139 = some (some 176) := e_fC t139 rfl
theorem f139_63 {s : e_S} {g : ps_G} : q_fR 12 63 (e_g s g) 139 = some (some 177) := e_fC t139 rfl
theorem f139_64 {s : e_S} {g : ps_G} : q_fR 12 64 (e_g s g) 139 = some (some 178) := e_fC t139 rfl
theorem f139_65 {s : e_S} {g : ps_G} : q_fR 12 65 (e_g s g) 139 = some (some 179) := e_fC t139 rfl
theorem f139_66 {s : e_S} {g : ps_G} : q_fR 12 66 (e_g s g) 139 = some (some 180) := e_fC t139 rfl
theorem f139_67 {s : e_S} {g : ps_G} : q_fR 12 67 (e_g s g) 139 = some (some 181) := e_fC t139 rfl
theorem f139_68 {s : e_S} {g : ps_G} : q_fR 12 68 (e_g s g) 139 = some (some 182) := e_fC t139 rfl
theorem f139_69 {s : e_S} {g : ps_G} : q_fR 12 69 (e_g s g) 139 = some (some 183) := e_fC t139 rfl
theorem f139_70 {s : e_S} {g : ps_G} : q_fR 12 70 (e_g s g) 139 = some (some 184) := e_fC t139 rfl
theorem f139_71 {s : e_S} {g : ps_G} : q_fR 12 71 (e_g s g) 139 = some (some 185) := e_fC t139 rfl
theorem f139_72 {s : e_S} {g : ps_G} : q_fR 12 72 (e_g s g) 139 = some (some 186) := e_fC t139 rfl
theorem f139_73 {s : e_S} {g : ps_G} : q_fI 12 73 (e_g s g) 139 = some (s.1 139 73) := e_fI t139 rfl
theorem w139_73 {s : e_S} {g : ps_G} {v : Int32} : q_sI 12 73 (e_g s g) 139 v = some (e_g (sF s 139 73 v) g) := e_sI t139 rfl
theorem f139_74 {s : e_S} {g : ps_G} : q_fR 12 74 (e_g s g) 139 = some (some 187) := e_fC t139 rfl
theorem f139_75 {s : e_S} {g : ps_G} : q_fI 12 75 (e_g s g) 139 = some (s.1 139 75) := e_fI t139 rfl
theorem w139_75 {s : e_S} {g : ps_G} {v : Int32} : q_sI 12 75 (e_g s g) 139 v = some (e_g (sF s 139 75 v) g) := e_sI t139 rfl
theorem f139_76 {s : e_S} {g : ps_G} : q_fI 12 76 (e_g s g) 139 = some (s.1 139 76) := e_fI t139 rfl
theorem w139_76 {s : e_S} {g : ps_G} {v : Int32} : q_sI 12 76 (e_g s g) 139 v = some (e_g (sF s 139 76 v) g) := e_sI t139 rfl
theorem f139_77 {s : e_S} {g : ps_G} : q_fI 12 77 (e_g s g) 139 = some (s.1 139 77) := e_fI t139 rfl
theorem w139_77 {s : e_S} {g : ps_G} {v : Int32} : q_sI 12 77 (e_g s g) 139 v = some (e_g (sF s 139 77 v) g) := e_sI t139 rfl
theorem f139_78 {s : e_S} {g : ps_G} : q_fR 12 78 (e_g s g) 139 = some (some 188) := e_fC t139 rfl
theorem f139_79 {s : e_S} {g : ps_G} : q_fI 12 79 (e_g s g) 139 = some (s.1 139 79) := e_fI t139 rfl
theorem w139_79 {s : e_S} {g : ps_G} {v : Int32} : q_sI 12 79 (e_g s g) 139 v = some (e_g (sF s 139 79 v) g) := e_sI t139 rfl
theorem f139_80 {s : e_S} {g : ps_G} : q_fR 12 80 (e_g s g) 139 = some (some 189) := e_fC t139 rfl
theorem f139_81 {s : e_S} {g : ps_G} : q_fR 12 81 (e_g s g) 139 = some (some 190) := e_fC t139 rfl
theorem f139_82 {s : e_S} {g : ps_G} : q_fI 12 82 (e_g s g) 139 = some (s.1 139 82) := e_fI t139 rfl
theorem w139_82 {s : e_S} {g : ps_G} {v : Int32} : q_sI 12 82 (e_g s g) 139 v = some (e_g (sF s 139 82 v) g) := e_sI t139 rfl
theorem f139_83 {s : e_S} {g : ps_G} : q_fI 12 83 (e_g s g) 139 = some (s.1 139 83) := e_fI t139 rfl
theorem w139_83 {s : e_S} {g : ps_G} {v : Int32} : q_sI 12 83 (e_g s g) 139 v = some (e_g (sF s 139 83 v) g) := e_sI t139 rfl
theorem f139_84 {s : e_S} {g : ps_G} : q_fI 12 84 (e_g s g) 139 = some (s.1 139 84) := e_fI t139 rfl
theorem w139_84 {s : e_S} {g : ps_G} {v : Int32} : q_sI 12 84 (e_g s g) 139 v = some (e_g (sF s 139 84 v) g) := e_sI t139 rfl
theorem f139_85 {s : e_S} {g : ps_G} : q_fI 12 85 (e_g s g) 139 = some (s.1 139 85) := e_fI t139 rfl
theorem w139_85 {s : e_S} {g : ps_G} {v : Int32} : q_sI 12 85 (e_g s g) 139 v = some (e_g (sF s 139 85 v) g) := e_sI t139 rfl
theorem f139_86 {s : e_S} {g : ps_G} : q_fI 12 86 (e_g s g) 139 = some (s.1 139 86) := e_fI t139 rfl
theorem w139_86 {s : e_S} {g : ps_G} {v : Int32} : q_sI 12 86 (e_g s g) 139 v = some (e_g (sF s 139 86 v) g) := e_sI t139 rfl
theorem f139_87 {s : e_S} {g : ps_G} : q_fI 12 87 (e_g s g) 139 = some (s.1 139 87) := e_fI t139 rfl
theorem w139_87 {s : e_S} {g : ps_G} {v : Int32} (h : v = 0 ∨ v = 1) : q_sB 12 87 (e_g s g) 139 v = some (e_g (sF s 139 87 v) g) := e_sB t139 rfl h
theorem f139_88 {s : e_S} {g : ps_G} : q_fI 12 88 (e_g s g) 139 = some (s.1 139 88) := e_fI t139 rfl
theorem w139_88 {s : e_S} {g : ps_G} {v : Int32} : q_sI 12 88 (e_g s g) 139 v = some (e_g (sF s 139 88 v) g) := e_sI t139 rfl
theorem f139_89 {s : e_S} {g : ps_G} : q_fI 12 89 (e_g s g) 139 = some (s.1 139 89) := e_fI t139 rfl
theorem w139_89 {s : e_S} {g : ps_G} {v : Int32} : q_sI 12 89 (e_g s g) 139 v = some (e_g (sF s 139 89 v) g) := e_sI t139 rfl
theorem f139_90 {s : e_S} {g : ps_G} : q_fR 12 90 (e_g s g) 139 = some (some 191) := e_fC t139 rfl
theorem f139_91 {s : e_S} {g : ps_G} : q_fR 12 91 (e_g s g) 139 = some (some 192) := e_fC t139 rfl
theorem f139_92 {s : e_S} {g : ps_G} : q_fR 12 92 (e_g s g) 139 = some (some 193) := e_fC t139 rfl
theorem f139_93 {s : e_S} {g : ps_G} : q_fI 12 93 (e_g s g) 139 = some (s.1 139 93) := e_fI t139 rfl
theorem w139_93 {s : e_S} {g : ps_G} {v : Int32} : q_sI 12 93 (e_g s g) 139 v = some (e_g (sF s 139 93 v) g) := e_sI t139 rfl
theorem t12 : e_tb[12]? = some (5, 24, [4]) := rfl
theorem a12 {s : e_S} {g : ps_G} {i : Int32} : q_aR (e_g s g) 12 i = if i < 0 ∨ 24 ≤ i.toNatClampNeg then none else some (s.2.2.1 12 i.toNatClampNeg) := e_aR t12 (by decide)
theorem t13 : e_tb[13]? = some (5, 24, [4]) := rfl
theorem a13 {s : e_S} {g : ps_G} {i : Int32} : q_aR (e_g s g) 13 i = if i < 0 ∨ 24 ≤ i.toNatClampNeg then none else some (s.2.2.1 13 i.toNatClampNeg) := e_aR t13 (by decide)
theorem t15 : e_tb[15]? = some (2, 256, []) := rfl
theorem a15 {s : e_S} {g : ps_G} {i : Int32} : q_aI (e_g s g) 15 i = if i < 0 ∨ 256 ≤ i.toNatClampNeg then none else some (s.2.1 15 i.toNatClampNeg) := e_aI t15
theorem l15 {s : e_S} {g : ps_G} : q_len (e_g s g) 15 = some (256 : Int32) := e_len t15
theorem u15 {s : e_S} {g : ps_G} {i v : Int32} : q_wI (e_g s g) 15 i v = if i < 0 ∨ 256 ≤ i.toNatClampNeg then none else some (e_g (sA s 15 (upd (s.2.1 15) i.toNatClampNeg v)) g) := e_wI t15 (by decide)
theorem t16 : e_tb[16]? = some (2, 256, []) := rfl
theorem a16 {s : e_S} {g : ps_G} {i : Int32} : q_aI (e_g s g) 16 i = if i < 0 ∨ 256 ≤ i.toNatClampNeg then none else some (s.2.1 16 i.toNatClampNeg) := e_aI t16
theorem l16 {s : e_S} {g : ps_G} : q_len (e_g s g) 16 = some (256 : Int32) := e_len t16
theorem u16 {s : e_S} {g : ps_G} {i v : Int32} : q_wI (e_g s g) 16 i v = if i < 0 ∨ 256 ≤ i.toNatClampNeg then none else some (e_g (sA s 16 (upd (s.2.1 16) i.toNatClampNeg v)) g) := e_wI t16 (by decide)
theorem t17 : e_tb[17]? = some (2, 32, []) := rfl
theorem a17 {s : e_S} {g : ps_G} {i : Int32} : q_aI (e_g s g) 17 i = if i < 0 ∨ 32 ≤ i.toNatClampNeg then none else some (s.2.1 17 i.toNatClampNeg) := e_aI t17
theorem l17 {s : e_S} {g : ps_G} : q_len (e_g s g) 17 = some (32 : Int32) := e_len t17
theorem u17 {s : e_S} {g : ps_G} {i v : Int32} : q_wI (e_g s g) 17 i v = if i < 0 ∨ 32 ≤ i.toNatClampNeg then none else some (e_g (sA s 17 (upd (s.2.1 17) i.toNatClampNeg v)) g) := e_wI t17 (by decide)
theorem t18 : e_tb[18]? = some (2, 9, []) := rfl
theorem a18 {s : e_S} {g : ps_G} {i : Int32} : q_aI (e_g s g) 18 i = if i < 0 ∨ 9 ≤ i.toNatClampNeg then none else some (s.2.1 18 i.toNatClampNeg) := e_aI t18
theorem l18 {s : e_S} {g : ps_G} : q_len (e_g s g) 18 = some (9 : Int32) := e_len t18
theorem u18 {s : e_S} {g : ps_G} {i v : Int32} : q_wI (e_g s g) 18 i v = if i < 0 ∨ 9 ≤ i.toNatClampNeg then none else some (e_g (sA s 18 (upd (s.2.1 18) i.toNatClampNeg v)) g) := e_wI t18 (by decide)
theorem t19 : e_tb[19]? = some (2, 9, []) := rfl
theorem a19 {s : e_S} {g : ps_G} {i : Int32} : q_aI (e_g s g) 19 i = if i < 0 ∨ 9 ≤ i.toNatClampNeg then none else some (s.2.1 19 i.toNatClampNeg) := e_aI t19
theorem l19 {s : e_S} {g : ps_G} : q_len (e_g s g) 19 = some (9 : Int32) := e_len t19
theorem u19 {s : e_S} {g : ps_G} {i v : Int32} : q_wI (e_g s g) 19 i v = if i < 0 ∨ 9 ≤ i.toNatClampNeg then none else some (e_g (sA s 19 (upd (s.2.1 19) i.toNatClampNeg v)) g) := e_wI t19 (by decide)
theorem t21 : e_tb[21]? = some (6, 31, []) := rfl
theorem a21 {s : e_S} {g : ps_G} {i : Int32} : q_aR (e_g s g) 21 i = if i < 0 ∨ 31 ≤ i.toNatClampNeg then none else some (some (21 + 1 + i.toNatClampNeg)) := e_aG t21
theorem t22 : e_tb[22]? = some (2, 576, []) := rfl
theorem a22 {s : e_S} {g : ps_G} {i : Int32} : q_aI (e_g s g) 22 i = if i < 0 ∨ 576 ≤ i.toNatClampNeg then none else some (s.2.1 22 i.toNatClampNeg) := e_aI t22
theorem l22 {s : e_S} {g : ps_G} : q_len (e_g s g) 22 = some (576 : Int32) := e_len t22
theorem u22 {s : e_S} {g : ps_G} {i v : Int32} : q_wI (e_g s g) 22 i v = if i < 0 ∨ 576 ≤ i.toNatClampNeg then none else some (e_g (sA s 22 (upd (s.2.1 22) i.toNatClampNeg v)) g) := e_wI t22 (by decide)
theorem t23 : e_tb[23]? = some (2, 576, []) := rfl
theorem a23 {s : e_S} {g : ps_G} {i : Int32} : q_aI (e_g s g) 23 i = if i < 0 ∨ 576 ≤ i.toNatClampNeg then none else some (s.2.1 23 i.toNatClampNeg) := e_aI t23
theorem l23 {s : e_S} {g : ps_G} : q_len (e_g s g) 23 = some (576 : Int32) := e_len t23
theorem u23 {s : e_S} {g : ps_G} {i v : Int32} : q_wI (e_g s g) 23 i v = if i < 0 ∨ 576 ≤ i.toNatClampNeg then none else some (e_g (sA s 23 (upd (s.2.1 23) i.toNatClampNeg v)) g) := e_wI t23 (by decide)
theorem t24 : e_tb[24]? = some (2, 576, []) := rfl
theorem a24 {s : e_S} {g : ps_G} {i : Int32} : q_aI (e_g s g) 24 i = if i < 0 ∨ 576 ≤ i.toNatClampNeg then none else some (s.2.1 24 i.toNatClampNeg) := e_aI t24
theorem l24 {s : e_S} {g : ps_G} : q_len (e_g s g) 24 = some (576 : Int32) := e_len t24
theorem u24 {s : e_S} {g : ps_G} {i v : Int32} : q_wI (e_g s g) 24 i v = if i < 0 ∨ 576 ≤ i.toNatClampNeg then none else some (e_g (sA s 24 (upd (s.2.1 24) i.toNatClampNeg v)) g) := e_wI t24 (by decide)
theorem t25 : e_tb[25]? = some (2, 576, []) := rfl
theorem a25 {s : e_S} {g : ps_G} {i : Int32} : q_aI (e_g s g) 25 i = if i < 0 ∨ 576 ≤ i.toNatClampNeg then none else some (s.2.1 25 i.toNatClampNeg) := e_aI t25
theorem l25 {s : e_S} {g : ps_G} : q_len (e_g s g) 25 = some (576 : Int32) := e_len t25
theorem u25 {s : e_S} {g : ps_G} {i v : Int32} : q_wI (e_g s g) 25 i v = if i < 0 ∨ 576 ≤ i.toNatClampNeg then none else some (e_g (sA s 25 (upd (s.2.1 25) i.toNatClampNeg v)) g) := e_wI t25 (by decide)
theorem t26 : e_tb[26]? = some (2, 576, []) := rfl
theorem a26 {s : e_S} {g : ps_G} {i : Int32} : q_aI (e_g s g) 26 i = if i < 0 ∨ 576 ≤ i.toNatClampNeg then none else some (s.2.1 26 i.toNatClampNeg) := e_aI t26
theorem l26 {s : e_S} {g : ps_G} : q_len (e_g s g) 26 = some (576 : Int32) := e_len t26
theorem u26 {s : e_S} {g : ps_G} {i v : Int32} : q_wI (e_g s g) 26 i v = if i < 0 ∨ 576 ≤ i.toNatClampNeg then none else some (e_g (sA s 26 (upd (s.2.1 26) i.toNatClampNeg v)) g) := e_wI t26 (by decide)
theorem t27 : e_tb[27]? = some (2, 576, []) := rfl
theorem a27 {s : e_S} {g : ps_G} {i : Int32} : q_aI (e_g s g) 27 i = if i < 0 ∨ 576 ≤ i.toNatClampNeg then none else some (s.2.1 27 i.toNatClampNeg) := e_aI t27
theorem l27 {s : e_S} {g : ps_G} : q_len (e_g s g) 27 = some (576 : Int32) := e_len t27
theorem u27 {s : e_S} {g : ps_G} {i v : Int32} : q_wI (e_g s g) 27 i v = if i < 0 ∨ 576 ≤ i.toNatClampNeg then none else some (e_g (sA s 27 (upd (s.2.1 27) i.toNatClampNeg v)) g) := e_wI t27 (by decide)
theorem t28 : e_tb[28]? = some (2, 576, []) := rfl
theorem a28 {s : e_S} {g : ps_G} {i : Int32} : q_aI (e_g s g) 28 i = if i < 0 ∨ 576 ≤ i.toNatClampNeg then none else some (s.2.1 28 i.toNatClampNeg) := e_aI t28
theorem l28 {s : e_S} {g : ps_G} : q_len (e_g s g) 28 = some (576 : Int32) := e_len t28
theorem u28 {s : e_S} {g : ps_G} {i v : Int32} : q_wI (e_g s g) 28 i v = if i < 0 ∨ 576 ≤ i.toNatClampNeg then none else some (e_g (sA s 28 (upd (s.2.1 28) i.toNatClampNeg v)) g) := e_wI t28 (by decide)
theorem t29 : e_tb[29]? = some (2, 576, []) := rfl
theorem a29 {s : e_S} {g : ps_G} {i : Int32} : q_aI (e_g s g) 29 i = if i < 0 ∨ 576 ≤ i.toNatClampNeg then none else some (s.2.1 29 i.toNatClampNeg) := e_aI t29
theorem l29 {s : e_S} {g : ps_G} : q_len (e_g s g) 29 = some (576 : Int32) := e_len t29
theorem u29 {s : e_S} {g : ps_G} {i v : Int32} : q_wI (e_g s g) 29 i v = if i < 0 ∨ 576 ≤ i.toNatClampNeg then none else some (e_g (sA s 29 (upd (s.2.1 29) i.toNatClampNeg v)) g) := e_wI t29 (by decide)
theorem t30 : e_tb[30]? = some (2, 576, []) := rfl
theorem a30 {s : e_S} {g : ps_G} {i : Int32} : q_aI (e_g s g) 30 i = if i < 0 ∨ 576 ≤ i.toNatClampNeg then none else some (s.2.1 30 i.toNatClampNeg) := e_aI t30
theorem l30 {s : e_S} {g : ps_G} : q_len (e_g s g) 30 = some (576 : Int32) := e_len t30
theorem u30 {s : e_S} {g : ps_G} {i v : Int32} : q_wI (e_g s g) 30 i v = if i < 0 ∨ 576 ≤ i.toNatClampNeg then none else some (e_g (sA s 30 (upd (s.2.1 30) i.toNatClampNeg v)) g) := e_wI t30 (by decide)
theorem t31 : e_tb[31]? = some (2, 576, []) := rfl
theorem a31 {s : e_S} {g : ps_G} {i : Int32} : q_aI (e_g s g) 31 i = if i < 0 ∨ 576 ≤ i.toNatClampNeg then none else some (s.2.1 31 i.toNatClampNeg) := e_aI t31
theorem l31 {s : e_S} {g : ps_G} : q_len (e_g s g) 31 = some (576 : Int32) := e_len t31
theorem u31 {s : e_S} {g : ps_G} {i v : Int32} : q_wI (e_g s g) 31 i v = if i < 0 ∨ 576 ≤ i.toNatClampNeg then none else some (e_g (sA s 31 (upd (s.2.1 31) i.toNatClampNeg v)) g) := e_wI t31 (by decide)
theorem t32 : e_tb[32]? = some (2, 576, []) := rfl
theorem a32 {s : e_S} {g : ps_G} {i : Int32} : q_aI (e_g s g) 32 i = if i < 0 ∨ 576 ≤ i.toNatClampNeg then none else some (s.2.1 32 i.toNatClampNeg) := e_aI t32
theorem l32 {s : e_S} {g : ps_G} : q_len (e_g s g) 32 = some (576 : Int32) := e_len t32
theorem u32 {s : e_S} {g : ps_G} {i v : Int32} : q_wI (e_g s g) 32 i v = if i < 0 ∨ 576 ≤ i.toNatClampNeg then none else some (e_g (sA s 32 (upd (s.2.1 32) i.toNatClampNeg v)) g) := e_wI t32 (by decide)
theorem t33 : e_tb[33]? = some (2, 576, []) := rfl
theorem a33 {s : e_S} {g : ps_G} {i : Int32} : q_aI (e_g s g) 33 i = if i < 0 ∨ 576 ≤ i.toNatClampNeg then none else some (s.2.1 33 i.toNatClampNeg) := e_aI t33
theorem l33 {s : e_S} {g : ps_G} : q_len (e_g s g) 33 = some (576 : Int32) := e_len t33
theorem u33 {s : e_S} {g : ps_G} {i v : Int32} : q_wI (e_g s g) 33 i v = if i < 0 ∨ 576 ≤ i.toNatClampNeg then none else some (e_g (sA s 33 (upd (s.2.1 33) i.toNatClampNeg v)) g) := e_wI t33 (by decide)
theorem t34 : e_tb[34]? = some (2, 576, []) := rfl
theorem a34 {s : e_S} {g : ps_G} {i : Int32} : q_aI (e_g s g) 34 i = if i < 0 ∨ 576 ≤ i.toNatClampNeg then none else some (s.2.1 34 i.toNatClampNeg) := e_aI t34
theorem l34 {s : e_S} {g : ps_G} : q_len (e_g s g) 34 = some (576 : Int32) := e_len t34
theorem u34 {s : e_S} {g : ps_G} {i v : Int32} : q_wI (e_g s g) 34 i v = if i < 0 ∨ 576 ≤ i.toNatClampNeg then none else some (e_g (sA s 34 (upd (s.2.1 34) i.toNatClampNeg v)) g) := e_wI t34 (by decide)
theorem t35 : e_tb[35]? = some (2, 576, []) := rfl
theorem a35 {s : e_S} {g : ps_G} {i : Int32} : q_aI (e_g s g) 35 i = if i < 0 ∨ 576 ≤ i.toNatClampNeg then none else some (s.2.1 35 i.toNatClampNeg) := e_aI t35
theorem l35 {s : e_S} {g : ps_G} : q_len (e_g s g) 35 = some (576 : Int32) := e_len t35
theorem u35 {s : e_S} {g : ps_G} {i v : Int32} : q_wI (e_g s g) 35 i v = if i < 0 ∨ 576 ≤ i.toNatClampNeg then none else some (e_g (sA s 35 (upd (s.2.1 35) i.toNatClampNeg v)) g) := e_wI t35 (by decide)
theorem t36 : e_tb[36]? = some (2, 576, []) := rfl
theorem a36 {s : e_S} {g : ps_G} {i : Int32} : q_aI (e_g s g) 36 i = if i < 0 ∨ 576 ≤ i.toNatClampNeg then none else some (s.2.1 36 i.toNatClampNeg) := e_aI t36
theorem l36 {s : e_S} {g : ps_G} : q_len (e_g s g) 36 = some (576 : Int32) := e_len t36
theorem u36 {s : e_S} {g : ps_G} {i v : Int32} : q_wI (e_g s g) 36 i v = if i < 0 ∨ 576 ≤ i.toNatClampNeg then none else some (e_g (sA s 36 (upd (s.2.1 36) i.toNatClampNeg v)) g) := e_wI t36 (by decide)
theorem t37 : e_tb[37]? = some (2, 576, []) := rfl
theorem a37 {s : e_S} {g : ps_G} {i : Int32} : q_aI (e_g s g) 37 i = if i < 0 ∨ 576 ≤ i.toNatClampNeg then none else some (s.2.1 37 i.toNatClampNeg) := e_aI t37
theorem l37 {s : e_S} {g : ps_G} : q_len (e_g s g) 37 = some (576 : Int32) := e_len t37
theorem u37 {s : e_S} {g : ps_G} {i v : Int32} : q_wI (e_g s g) 37 i v = if i < 0 ∨ 576 ≤ i.toNatClampNeg then none else some (e_g (sA s 37 (upd (s.2.1 37) i.toNatClampNeg v)) g) := e_wI t37 (by decide)
theorem t38 : e_tb[38]? = some (2, 576, []) := rfl
theorem a38 {s : e_S} {g : ps_G} {i : Int32} : q_aI (e_g s g) 38 i = if i < 0 ∨ 576 ≤ i.toNatClampNeg then none else some (s.2.1 38 i.toNatClampNeg) := e_aI t38
theorem l38 {s : e_S} {g : ps_G} : q_len (e_g s g) 38 = some (576 : Int32) := e_len t38
theorem u38 {s : e_S} {g : ps_G} {i v : Int32} : q_wI (e_g s g) 38 i v = if i < 0 ∨ 576 ≤ i.toNatClampNeg then none else some (e_g (sA s 38 (upd (s.2.1 38) i.toNatClampNeg v)) g) := e_wI t38 (by decide)
theorem t39 : e_tb[39]? = some (2, 576, []) := rfl
theorem a39 {s : e_S} {g : ps_G} {i : Int32} : q_aI (e_g s g) 39 i = if i < 0 ∨ 576 ≤ i.toNatClampNeg then none else some (s.2.1 39 i.toNatClampNeg) := e_aI t39
theorem l39 {s : e_S} {g : ps_G} : q_len (e_g s g) 39 = some (576 : Int32) := e_len t39
theorem u39 {s : e_S} {g : ps_G} {i v : Int32} : q_wI (e_g s g) 39 i v = if i < 0 ∨ 576 ≤ i.toNatClampNeg then none else some (e_g (sA s 39 (upd (s.2.1 39) i.toNatClampNeg v)) g) := e_wI t39 (by decide)
theorem t40 : e_tb[40]? = some (2, 576, []) := rfl
theorem a40 {s : e_S} {g : ps_G} {i : Int32} : q_aI (e_g s g) 40 i = if i < 0 ∨ 576 ≤ i.toNatClampNeg then none else some (s.2.1 40 i.toNatClampNeg) := e_aI t40
theorem l40 {s : e_S} {g : ps_G} : q_len (e_g s g) 40 = some (576 : Int32) := e_len t40
theorem u40 {s : e_S} {g : ps_G} {i v : Int32} : q_wI (e_g s g) 40 i v = if i < 0 ∨ 576 ≤ i.toNatClampNeg then none else some (e_g (sA s 40 (upd (s.2.1 40) i.toNatClampNeg v)) g) := e_wI t40 (by decide)
theorem t41 : e_tb[41]? = some (2, 576, []) := rfl
theorem a41 {s : e_S} {g : ps_G} {i : Int32} : q_aI (e_g s g) 41 i = if i < 0 ∨ 576 ≤ i.toNatClampNeg then none else some (s.2.1 41 i.toNatClampNeg) := e_aI t41
theorem l41 {s : e_S} {g : ps_G} : q_len (e_g s g) 41 = some (576 : Int32) := e_len t41
theorem u41 {s : e_S} {g : ps_G} {i v : Int32} : q_wI (e_g s g) 41 i v = if i < 0 ∨ 576 ≤ i.toNatClampNeg then none else some (e_g (sA s 41 (upd (s.2.1 41) i.toNatClampNeg v)) g) := e_wI t41 (by decide)
theorem t42 : e_tb[42]? = some (2, 576, []) := rfl
theorem a42 {s : e_S} {g : ps_G} {i : Int32} : q_aI (e_g s g) 42 i = if i < 0 ∨ 576 ≤ i.toNatClampNeg then none else some (s.2.1 42 i.toNatClampNeg) := e_aI t42
theorem l42 {s : e_S} {g : ps_G} : q_len (e_g s g) 42 = some (576 : Int32) := e_len t42
theorem u42 {s : e_S} {g : ps_G} {i v : Int32} : q_wI (e_g s g) 42 i v = if i < 0 ∨ 576 ≤ i.toNatClampNeg then none else some (e_g (sA s 42 (upd (s.2.1 42) i.toNatClampNeg v)) g) := e_wI t42 (by decide)
theorem t43 : e_tb[43]? = some (2, 576, []) := rfl
theorem a43 {s : e_S} {g : ps_G} {i : Int32} : q_aI (e_g s g) 43 i = if i < 0 ∨ 576 ≤ i.toNatClampNeg then none else some (s.2.1 43 i.toNatClampNeg) := e_aI t43
theorem l43 {s : e_S} {g : ps_G} : q_len (e_g s g) 43 = some (576 : Int32) := e_len t43
theorem u43 {s : e_S} {g : ps_G} {i v : Int32} : q_wI (e_g s g) 43 i v = if i < 0 ∨ 576 ≤ i.toNatClampNeg then none else some (e_g (sA s 43 (upd (s.2.1 43) i.toNatClampNeg v)) g) := e_wI t43 (by decide)
theorem t44 : e_tb[44]? = some (2, 576, []) := rfl
theorem a44 {s : e_S} {g : ps_G} {i : Int32} : q_aI (e_g s g) 44 i = if i < 0 ∨ 576 ≤ i.toNatClampNeg then none else some (s.2.1 44 i.toNatClampNeg) := e_aI t44
theorem l44 {s : e_S} {g : ps_G} : q_len (e_g s g) 44 = some (576 : Int32) := e_len t44
theorem u44 {s : e_S} {g : ps_G} {i v : Int32} : q_wI (e_g s g) 44 i v = if i < 0 ∨ 576 ≤ i.toNatClampNeg then none else some (e_g (sA s 44 (upd (s.2.1 44) i.toNatClampNeg v)) g) := e_wI t44 (by decide)
theorem t45 : e_tb[45]? = some (2, 576, []) := rfl
theorem a45 {s : e_S} {g : ps_G} {i : Int32} : q_aI (e_g s g) 45 i = if i < 0 ∨ 576 ≤ i.toNatClampNeg then none else some (s.2.1 45 i.toNatClampNeg) := e_aI t45
theorem l45 {s : e_S} {g : ps_G} : q_len (e_g s g) 45 = some (576 : Int32) := e_len t45
theorem u45 {s : e_S} {g : ps_G} {i v : Int32} : q_wI (e_g s g) 45 i v = if i < 0 ∨ 576 ≤ i.toNatClampNeg then none else some (e_g (sA s 45 (upd (s.2.1 45) i.toNatClampNeg v)) g) := e_wI t45 (by decide)
theorem t46 : e_tb[46]? = some (2, 576, []) := rfl
theorem a46 {s : e_S} {g : ps_G} {i : Int32} : q_aI (e_g s g) 46 i = if i < 0 ∨ 576 ≤ i.toNatClampNeg then none else some (s.2.1 46 i.toNatClampNeg) := e_aI t46
theorem l46 {s : e_S} {g : ps_G} : q_len (e_g s g) 46 = some (576 : Int32) := e_len t46
theorem u46 {s : e_S} {g : ps_G} {i v : Int32} : q_wI (e_g s g) 46 i v = if i < 0 ∨ 576 ≤ i.toNatClampNeg then none else some (e_g (sA s 46 (upd (s.2.1 46) i.toNatClampNeg v)) g) := e_wI t46 (by decide)
theorem t47 : e_tb[47]? = some (2, 576, []) := rfl
theorem a47 {s : e_S} {g : ps_G} {i : Int32} : q_aI (e_g s g) 47 i = if i < 0 ∨ 576 ≤ i.toNatClampNeg then none else some (s.2.1 47 i.toNatClampNeg) := e_aI t47
theorem l47 {s : e_S} {g : ps_G} : q_len (e_g s g) 47 = some (576 : Int32) := e_len t47
theorem u47 {s : e_S} {g : ps_G} {i v : Int32} : q_wI (e_g s g) 47 i v = if i < 0 ∨ 576 ≤ i.toNatClampNeg then none else some (e_g (sA s 47 (upd (s.2.1 47) i.toNatClampNeg v)) g) := e_wI t47 (by decide)
theorem t48 : e_tb[48]? = some (2, 576, []) := rfl
theorem a48 {s : e_S} {g : ps_G} {i : Int32} : q_aI (e_g s g) 48 i = if i < 0 ∨ 576 ≤ i.toNatClampNeg then none else some (s.2.1 48 i.toNatClampNeg) := e_aI t48
theorem l48 {s : e_S} {g : ps_G} : q_len (e_g s g) 48 = some (576 : Int32) := e_len t48
theorem u48 {s : e_S} {g : ps_G} {i v : Int32} : q_wI (e_g s g) 48 i v = if i < 0 ∨ 576 ≤ i.toNatClampNeg then none else some (e_g (sA s 48 (upd (s.2.1 48) i.toNatClampNeg v)) g) := e_wI t48 (by decide)
theorem t49 : e_tb[49]? = some (2, 576, []) := rfl
theorem a49 {s : e_S} {g : ps_G} {i : Int32} : q_aI (e_g s g) 49 i = if i < 0 ∨ 576 ≤ i.toNatClampNeg then none else some (s.2.1 49 i.toNatClampNeg) := e_aI t49
theorem l49 {s : e_S} {g : ps_G} : q_len (e_g s g) 49 = some (576 : Int32) := e_len t49
theorem u49 {s : e_S} {g : ps_G} {i v : Int32} : q_wI (e_g s g) 49 i v = if i < 0 ∨ 576 ≤ i.toNatClampNeg then none else some (e_g (sA s 49 (upd (s.2.1 49) i.toNatClampNeg v)) g) := e_wI t49 (by decide)
theorem t50 : e_tb[50]? = some (2, 576, []) := rfl
theorem a50 {s : e_S} {g : ps_G} {i : Int32} : q_aI (e_g s g) 50 i = if i < 0 ∨ 576 ≤ i.toNatClampNeg then none else some (s.2.1 50 i.toNatClampNeg) := e_aI t50
theorem l50 {s : e_S} {g : ps_G} : q_len (e_g s g) 50 = some (576 : Int32) := e_len t50
theorem u50 {s : e_S} {g : ps_G} {i v : Int32} : q_wI (e_g s g) 50 i v = if i < 0 ∨ 576 ≤ i.toNatClampNeg then none else some (e_g (sA s 50 (upd (s.2.1 50) i.toNatClampNeg v)) g) := e_wI t50 (by decide)
theorem t51 : e_tb[51]? = some (2, 576, []) := rfl
theorem a51 {s : e_S} {g : ps_G} {i : Int32} : q_aI (e_g s g) 51 i = if i < 0 ∨ 576 ≤ i.toNatClampNeg then none else some (s.2.1 51 i.toNatClampNeg) := e_aI t51
theorem l51 {s : e_S} {g : ps_G} : q_len (e_g s g) 51 = some (576 : Int32) := e_len t51
theorem u51 {s : e_S} {g : ps_G} {i v : Int32} : q_wI (e_g s g) 51 i v = if i < 0 ∨ 576 ≤ i.toNatClampNeg then none else some (e_g (sA s 51 (upd (s.2.1 51) i.toNatClampNeg v)) g) := e_wI t51 (by decide)
theorem t52 : e_tb[52]? = some (2, 576, []) := rfl
theorem a52 {s : e_S} {g : ps_G} {i : Int32} : q_aI (e_g s g) 52 i = if i < 0 ∨ 576 ≤ i.toNatClampNeg then none else some (s.2.1 52 i.toNatClampNeg) := e_aI t52
theorem l52 {s : e_S} {g : ps_G} : q_len (e_g s g) 52 = some (576 : Int32) := e_len t52
theorem u52 {s : e_S} {g : ps_G} {i v : Int32} : q_wI (e_g s g) 52 i v = if i < 0 ∨ 576 ≤ i.toNatClampNeg then none else some (e_g (sA s 52 (upd (s.2.1 52) i.toNatClampNeg v)) g) := e_wI t52 (by decide)
theorem t53 : e_tb[53]? = some (6, 31, []) := rfl
theorem a53 {s : e_S} {g : ps_G} {i : Int32} : q_aR (e_g s g) 53 i = if i < 0 ∨ 31 ≤ i.toNatClampNeg then none else some (some (53 + 1 + i.toNatClampNeg)) := e_aG t53
theorem t54 : e_tb[54]? = some (2, 576, []) := rfl
theorem a54 {s : e_S} {g : ps_G} {i : Int32} : q_aI (e_g s g) 54 i = if i < 0 ∨ 576 ≤ i.toNatClampNeg then none else some (s.2.1 54 i.toNatClampNeg) := e_aI t54
theorem l54 {s : e_S} {g : ps_G} : q_len (e_g s g) 54 = some (576 : Int32) := e_len t54
theorem u54 {s : e_S} {g : ps_G} {i v : Int32} : q_wI (e_g s g) 54 i v = if i < 0 ∨ 576 ≤ i.toNatClampNeg then none else some (e_g (sA s 54 (upd (s.2.1 54) i.toNatClampNeg v)) g) := e_wI t54 (by decide)
theorem t55 : e_tb[55]? = some (2, 576, []) := rfl
theorem a55 {s : e_S} {g : ps_G} {i : Int32} : q_aI (e_g s g) 55 i = if i < 0 ∨ 576 ≤ i.toNatClampNeg then none else some (s.2.1 55 i.toNatClampNeg) := e_aI t55
theorem l55 {s : e_S} {g : ps_G} : q_len (e_g s g) 55 = some (576 : Int32) := e_len t55
theorem u55 {s : e_S} {g : ps_G} {i v : Int32} : q_wI (e_g s g) 55 i v = if i < 0 ∨ 576 ≤ i.toNatClampNeg then none else some (e_g (sA s 55 (upd (s.2.1 55) i.toNatClampNeg v)) g) := e_wI t55 (by decide)
theorem t56 : e_tb[56]? = some (2, 576, []) := rfl
theorem a56 {s : e_S} {g : ps_G} {i : Int32} : q_aI (e_g s g) 56 i = if i < 0 ∨ 576 ≤ i.toNatClampNeg then none else some (s.2.1 56 i.toNatClampNeg) := e_aI t56
theorem l56 {s : e_S} {g : ps_G} : q_len (e_g s g) 56 = some (576 : Int32) := e_len t56
theorem u56 {s : e_S} {g : ps_G} {i v : Int32} : q_wI (e_g s g) 56 i v = if i < 0 ∨ 576 ≤ i.toNatClampNeg then none else some (e_g (sA s 56 (upd (s.2.1 56) i.toNatClampNeg v)) g) := e_wI t56 (by decide)
theorem t57 : e_tb[57]? = some (2, 576, []) := rfl
theorem a57 {s : e_S} {g : ps_G} {i : Int32} : q_aI (e_g s g) 57 i = if i < 0 ∨ 576 ≤ i.toNatClampNeg then none else some (s.2.1 57 i.toNatClampNeg) := e_aI t57
theorem l57 {s : e_S} {g : ps_G} : q_len (e_g s g) 57 = some (576 : Int32) := e_len t57
theorem u57 {s : e_S} {g : ps_G} {i v : Int32} : q_wI (e_g s g) 57 i v = if i < 0 ∨ 576 ≤ i.toNatClampNeg then none else some (e_g (sA s 57 (upd (s.2.1 57) i.toNatClampNeg v)) g) := e_wI t57 (by decide)
theorem t58 : e_tb[58]? = some (2, 576, []) := rfl
theorem a58 {s : e_S} {g : ps_G} {i : Int32} : q_aI (e_g s g) 58 i = if i < 0 ∨ 576 ≤ i.toNatClampNeg then none else some (s.2.1 58 i.toNatClampNeg) := e_aI t58
theorem l58 {s : e_S} {g : ps_G} : q_len (e_g s g) 58 = some (576 : Int32) := e_len t58
theorem u58 {s : e_S} {g : ps_G} {i v : Int32} : q_wI (e_g s g) 58 i v = if i < 0 ∨ 576 ≤ i.toNatClampNeg then none else some (e_g (sA s 58 (upd (s.2.1 58) i.toNatClampNeg v)) g) := e_wI t58 (by decide)
theorem t59 : e_tb[59]? = some (2, 576, []) := rfl
theorem a59 {s : e_S} {g : ps_G} {i : Int32} : q_aI (e_g s g) 59 i = if i < 0 ∨ 576 ≤ i.toNatClampNeg then none else some (s.2.1 59 i.toNatClampNeg) := e_aI t59
theorem l59 {s : e_S} {g : ps_G} : q_len (e_g s g) 59 = some (576 : Int32) := e_len t59
theorem u59 {s : e_S} {g : ps_G} {i v : Int32} : q_wI (e_g s g) 59 i v = if i < 0 ∨ 576 ≤ i.toNatClampNeg then none else some (e_g (sA s 59 (upd (s.2.1 59) i.toNatClampNeg v)) g) := e_wI t59 (by decide)
theorem t60 : e_tb[60]? = some (2, 576, []) := rfl
theorem a60 {s : e_S} {g : ps_G} {i : Int32} : q_aI (e_g s g) 60 i = if i < 0 ∨ 576 ≤ i.toNatClampNeg then none else some (s.2.1 60 i.toNatClampNeg) := e_aI t60
theorem l60 {s : e_S} {g : ps_G} : q_len (e_g s g) 60 = some (576 : Int32) := e_len t60
theorem u60 {s : e_S} {g : ps_G} {i v : Int32} : q_wI (e_g s g) 60 i v = if i < 0 ∨ 576 ≤ i.toNatClampNeg then none else some (e_g (sA s 60 (upd (s.2.1 60) i.toNatClampNeg v)) g) := e_wI t60 (by decide)
theorem t61 : e_tb[61]? = some (2, 576, []) := rfl
theorem a61 {s : e_S} {g : ps_G} {i : Int32} : q_aI (e_g s g) 61 i = if i < 0 ∨ 576 ≤ i.toNatClampNeg then none else some (s.2.1 61 i.toNatClampNeg) := e_aI t61
theorem l61 {s : e_S} {g : ps_G} : q_len (e_g s g) 61 = some (576 : Int32) := e_len t61
theorem u61 {s : e_S} {g : ps_G} {i v : Int32} : q_wI (e_g s g) 61 i v = if i < 0 ∨ 576 ≤ i.toNatClampNeg then none else some (e_g (sA s 61 (upd (s.2.1 61) i.toNatClampNeg v)) g) := e_wI t61 (by decide)
theorem t62 : e_tb[62]? = some (2, 576, []) := rfl
theorem a62 {s : e_S} {g : ps_G} {i : Int32} : q_aI (e_g s g) 62 i = if i < 0 ∨ 576 ≤ i.toNatClampNeg then none else some (s.2.1 62 i.toNatClampNeg) := e_aI t62
theorem l62 {s : e_S} {g : ps_G} : q_len (e_g s g) 62 = some (576 : Int32) := e_len t62
theorem u62 {s : e_S} {g : ps_G} {i v : Int32} : q_wI (e_g s g) 62 i v = if i < 0 ∨ 576 ≤ i.toNatClampNeg then none else some (e_g (sA s 62 (upd (s.2.1 62) i.toNatClampNeg v)) g) := e_wI t62 (by decide)
theorem t63 : e_tb[63]? = some (2, 576, []) := rfl
theorem a63 {s : e_S} {g : ps_G} {i : Int32} : q_aI (e_g s g) 63 i = if i < 0 ∨ 576 ≤ i.toNatClampNeg then none else some (s.2.1 63 i.toNatClampNeg) := e_aI t63
theorem l63 {s : e_S} {g : ps_G} : q_len (e_g s g) 63 = some (576 : Int32) := e_len t63
theorem u63 {s : e_S} {g : ps_G} {i v : Int32} : q_wI (e_g s g) 63 i v = if i < 0 ∨ 576 ≤ i.toNatClampNeg then none else some (e_g (sA s 63 (upd (s.2.1 63) i.toNatClampNeg v)) g) := e_wI t63 (by decide)
theorem t64 : e_tb[64]? = some (2, 576, []) := rfl
theorem a64 {s : e_S} {g : ps_G} {i : Int32} : q_aI (e_g s g) 64 i = if i < 0 ∨ 576 ≤ i.toNatClampNeg then none else some (s.2.1 64 i.toNatClampNeg) := e_aI t64
theorem l64 {s : e_S} {g : ps_G} : q_len (e_g s g) 64 = some (576 : Int32) := e_len t64
theorem u64 {s : e_S} {g : ps_G} {i v : Int32} : q_wI (e_g s g) 64 i v = if i < 0 ∨ 576 ≤ i.toNatClampNeg then none else some (e_g (sA s 64 (upd (s.2.1 64) i.toNatClampNeg v)) g) := e_wI t64 (by decide)
theorem t65 : e_tb[65]? = some (2, 576, []) := rfl
theorem a65 {s : e_S} {g : ps_G} {i : Int32} : q_aI (e_g s g) 65 i = if i < 0 ∨ 576 ≤ i.toNatClampNeg then none else some (s.2.1 65 i.toNatClampNeg) := e_aI t65
theorem l65 {s : e_S} {g : ps_G} : q_len (e_g s g) 65 = some (576 : Int32) := e_len t65
theorem u65 {s : e_S} {g : ps_G} {i v : Int32} : q_wI (e_g s g) 65 i v = if i < 0 ∨ 576 ≤ i.toNatClampNeg then none else some (e_g (sA s 65 (upd (s.2.1 65) i.toNatClampNeg v)) g) := e_wI t65 (by decide)
theorem t66 : e_tb[66]? = some (2, 576, []) := rfl
theorem a66 {s : e_S} {g : ps_G} {i : Int32} : q_aI (e_g s g) 66 i = if i < 0 ∨ 576 ≤ i.toNatClampNeg then none else some (s.2.1 66 i.toNatClampNeg) := e_aI t66
theorem l66 {s : e_S} {g : ps_G} : q_len (e_g s g) 66 = some (576 : Int32) := e_len t66
theorem u66 {s : e_S} {g : ps_G} {i v : Int32} : q_wI (e_g s g) 66 i v = if i < 0 ∨ 576 ≤ i.toNatClampNeg then none else some (e_g (sA s 66 (upd (s.2.1 66) i.toNatClampNeg v)) g) := e_wI t66 (by decide)
theorem t67 : e_tb[67]? = some (2, 576, []) := rfl
theorem a67 {s : e_S} {g : ps_G} {i : Int32} : q_aI (e_g s g) 67 i = if i < 0 ∨ 576 ≤ i.toNatClampNeg then none else some (s.2.1 67 i.toNatClampNeg) := e_aI t67
theorem l67 {s : e_S} {g : ps_G} : q_len (e_g s g) 67 = some (576 : Int32) := e_len t67
theorem u67 {s : e_S} {g : ps_G} {i v : Int32} : q_wI (e_g s g) 67 i v = if i < 0 ∨ 576 ≤ i.toNatClampNeg then none else some (e_g (sA s 67 (upd (s.2.1 67) i.toNatClampNeg v)) g) := e_wI t67 (by decide)
theorem t68 : e_tb[68]? = some (2, 576, []) := rfl
theorem a68 {s : e_S} {g : ps_G} {i : Int32} : q_aI (e_g s g) 68 i = if i < 0 ∨ 576 ≤ i.toNatClampNeg then none else some (s.2.1 68 i.toNatClampNeg) := e_aI t68
theorem l68 {s : e_S} {g : ps_G} : q_len (e_g s g) 68 = some (576 : Int32) := e_len t68
theorem u68 {s : e_S} {g : ps_G} {i v : Int32} : q_wI (e_g s g) 68 i v = if i < 0 ∨ 576 ≤ i.toNatClampNeg then none else some (e_g (sA s 68 (upd (s.2.1 68) i.toNatClampNeg v)) g) := e_wI t68 (by decide)
theorem t69 : e_tb[69]? = some (2, 576, []) := rfl
theorem a69 {s : e_S} {g : ps_G} {i : Int32} : q_aI (e_g s g) 69 i = if i < 0 ∨ 576 ≤ i.toNatClampNeg then none else some (s.2.1 69 i.toNatClampNeg) := e_aI t69
theorem l69 {s : e_S} {g : ps_G} : q_len (e_g s g) 69 = some (576 : Int32) := e_len t69
theorem u69 {s : e_S} {g : ps_G} {i v : Int32} : q_wI (e_g s g) 69 i v = if i < 0 ∨ 576 ≤ i.toNatClampNeg then none else some (e_g (sA s 69 (upd (s.2.1 69) i.toNatClampNeg v)) g) := e_wI t69 (by decide)
theorem t70 : e_tb[70]? = some (2, 576, []) := rfl
theorem a70 {s : e_S} {g : ps_G} {i : Int32} : q_aI (e_g s g) 70 i = if i < 0 ∨ 576 ≤ i.toNatClampNeg then none else some (s.2.1 70 i.toNatClampNeg) := e_aI t70
theorem l70 {s : e_S} {g : ps_G} : q_len (e_g s g) 70 = some (576 : Int32) := e_len t70
theorem u70 {s : e_S} {g : ps_G} {i v : Int32} : q_wI (e_g s g) 70 i v = if i < 0 ∨ 576 ≤ i.toNatClampNeg then none else some (e_g (sA s 70 (upd (s.2.1 70) i.toNatClampNeg v)) g) := e_wI t70 (by decide)
theorem t71 : e_tb[71]? = some (2, 576, []) := rfl
theorem a71 {s : e_S} {g : ps_G} {i : Int32} : q_aI (e_g s g) 71 i = if i < 0 ∨ 576 ≤ i.toNatClampNeg then none else some (s.2.1 71 i.toNatClampNeg) := e_aI t71
theorem l71 {s : e_S} {g : ps_G} : q_len (e_g s g) 71 = some (576 : Int32) := e_len t71
theorem u71 {s : e_S} {g : ps_G} {i v : Int32} : q_wI (e_g s g) 71 i v = if i < 0 ∨ 576 ≤ i.toNatClampNeg then none else some (e_g (sA s 71 (upd (s.2.1 71) i.toNatClampNeg v)) g) := e_wI t71 (by decide)
theorem t72 : e_tb[72]? = some (2, 576, []) := rfl
theorem a72 {s : e_S} {g : ps_G} {i : Int32} : q_aI (e_g s g) 72 i = if i < 0 ∨ 576 ≤ i.toNatClampNeg then none else some (s.2.1 72 i.toNatClampNeg) := e_aI t72
theorem l72 {s : e_S} {g : ps_G} : q_len (e_g s g) 72 = some (576 : Int32) := e_len t72
theorem u72 {s : e_S} {g : ps_G} {i v : Int32} : q_wI (e_g s g) 72 i v = if i < 0 ∨ 576 ≤ i.toNatClampNeg then none else some (e_g (sA s 72 (upd (s.2.1 72) i.toNatClampNeg v)) g) := e_wI t72 (by decide)
theorem t73 : e_tb[73]? = some (2, 576, []) := rfl
theorem a73 {s : e_S} {g : ps_G} {i : Int32} : q_aI (e_g s g) 73 i = if i < 0 ∨ 576 ≤ i.toNatClampNeg then none else some (s.2.1 73 i.toNatClampNeg) := e_aI t73
theorem l73 {s : e_S} {g : ps_G} : q_len (e_g s g) 73 = some (576 : Int32) := e_len t73
theorem u73 {s : e_S} {g : ps_G} {i v : Int32} : q_wI (e_g s g) 73 i v = if i < 0 ∨ 576 ≤ i.toNatClampNeg then none else some (e_g (sA s 73 (upd (s.2.1 73) i.toNatClampNeg v)) g) := e_wI t73 (by decide)
theorem t74 : e_tb[74]? = some (2, 576, []) := rfl
theorem a74 {s : e_S} {g : ps_G} {i : Int32} : q_aI (e_g s g) 74 i = if i < 0 ∨ 576 ≤ i.toNatClampNeg then none else some (s.2.1 74 i.toNatClampNeg) := e_aI t74
theorem l74 {s : e_S} {g : ps_G} : q_len (e_g s g) 74 = some (576 : Int32) := e_len t74
theorem u74 {s : e_S} {g : ps_G} {i v : Int32} : q_wI (e_g s g) 74 i v = if i < 0 ∨ 576 ≤ i.toNatClampNeg then none else some (e_g (sA s 74 (upd (s.2.1 74) i.toNatClampNeg v)) g) := e_wI t74 (by decide)
theorem t75 : e_tb[75]? = some (2, 576, []) := rfl
theorem a75 {s : e_S} {g : ps_G} {i : Int32} : q_aI (e_g s g) 75 i = if i < 0 ∨ 576 ≤ i.toNatClampNeg then none else some (s.2.1 75 i.toNatClampNeg) := e_aI t75
theorem l75 {s : e_S} {g : ps_G} : q_len (e_g s g) 75 = some (576 : Int32) := e_len t75
theorem u75 {s : e_S} {g : ps_G} {i v : Int32} : q_wI (e_g s g) 75 i v = if i < 0 ∨ 576 ≤ i.toNatClampNeg then none else some (e_g (sA s 75 (upd (s.2.1 75) i.toNatClampNeg v)) g) := e_wI t75 (by decide)
theorem t76 : e_tb[76]? = some (2, 576, []) := rfl
theorem a76 {s : e_S} {g : ps_G} {i : Int32} : q_aI (e_g s g) 76 i = if i < 0 ∨ 576 ≤ i.toNatClampNeg then none else some (s.2.1 76 i.toNatClampNeg) := e_aI t76
theorem l76 {s : e_S} {g : ps_G} : q_len (e_g s g) 76 = some (576 : Int32) := e_len t76
theorem u76 {s : e_S} {g : ps_G} {i v : Int32} : q_wI (e_g s g) 76 i v = if i < 0 ∨ 576 ≤ i.toNatClampNeg then none else some (e_g (sA s 76 (upd (s.2.1 76) i.toNatClampNeg v)) g) := e_wI t76 (by decide)
theorem t77 : e_tb[77]? = some (2, 576, []) := rfl
theorem a77 {s : e_S} {g : ps_G} {i : Int32} : q_aI (e_g s g) 77 i = if i < 0 ∨ 576 ≤ i.toNatClampNeg then none else some (s.2.1 77 i.toNatClampNeg) := e_aI t77
theorem l77 {s : e_S} {g : ps_G} : q_len (e_g s g) 77 = some (576 : Int32) := e_len t77
theorem u77 {s : e_S} {g : ps_G} {i v : Int32} : q_wI (e_g s g) 77 i v = if i < 0 ∨ 576 ≤ i.toNatClampNeg then none else some (e_g (sA s 77 (upd (s.2.1 77) i.toNatClampNeg v)) g) := e_wI t77 (by decide)
theorem t78 : e_tb[78]? = some (2, 576, []) := rfl
theorem a78 {s : e_S} {g : ps_G} {i : Int32} : q_aI (e_g s g) 78 i = if i < 0 ∨ 576 ≤ i.toNatClampNeg then none else some (s.2.1 78 i.toNatClampNeg) := e_aI t78
theorem l78 {s : e_S} {g : ps_G} : q_len (e_g s g) 78 = some (576 : Int32) := e_len t78
theorem u78 {s : e_S} {g : ps_G} {i v : Int32} : q_wI (e_g s g) 78 i v = if i < 0 ∨ 576 ≤ i.toNatClampNeg then none else some (e_g (sA s 78 (upd (s.2.1 78) i.toNatClampNeg v)) g) := e_wI t78 (by decide)
theorem t79 : e_tb[79]? = some (2, 576, []) := rfl
theorem a79 {s : e_S} {g : ps_G} {i : Int32} : q_aI (e_g s g) 79 i = if i < 0 ∨ 576 ≤ i.toNatClampNeg then none else some (s.2.1 79 i.toNatClampNeg) := e_aI t79
theorem l79 {s : e_S} {g : ps_G} : q_len (e_g s g) 79 = some (576 : Int32) := e_len t79
theorem u79 {s : e_S} {g : ps_G} {i v : Int32} : q_wI (e_g s g) 79 i v = if i < 0 ∨ 576 ≤ i.toNatClampNeg then none else some (e_g (sA s 79 (upd (s.2.1 79) i.toNatClampNeg v)) g) := e_wI t79 (by decide)
theorem t80 : e_tb[80]? = some (2, 576, []) := rfl
theorem a80 {s : e_S} {g : ps_G} {i : Int32} : q_aI (e_g s g) 80 i = if i < 0 ∨ 576 ≤ i.toNatClampNeg then none else some (s.2.1 80 i.toNatClampNeg) := e_aI t80
theorem l80 {s : e_S} {g : ps_G} : q_len (e_g s g) 80 = some (576 : Int32) := e_len t80
theorem u80 {s : e_S} {g : ps_G} {i v : Int32} : q_wI (e_g s g) 80 i v = if i < 0 ∨ 576 ≤ i.toNatClampNeg then none else some (e_g (sA s 80 (upd (s.2.1 80) i.toNatClampNeg v)) g) := e_wI t80 (by decide)
theorem t81 : e_tb[81]? = some (2, 576, []) := rfl
theorem a81 {s : e_S} {g : ps_G} {i : Int32} : q_aI (e_g s g) 81 i = if i < 0 ∨ 576 ≤ i.toNatClampNeg then none else some (s.2.1 81 i.toNatClampNeg) := e_aI t81
theorem l81 {s : e_S} {g : ps_G} : q_len (e_g s g) 81 = some (576 : Int32) := e_len t81
theorem u81 {s : e_S} {g : ps_G} {i v : Int32} : q_wI (e_g s g) 81 i v = if i < 0 ∨ 576 ≤ i.toNatClampNeg then none else some (e_g (sA s 81 (upd (s.2.1 81) i.toNatClampNeg v)) g) := e_wI t81 (by decide)
theorem t82 : e_tb[82]? = some (2, 576, []) := rfl
theorem a82 {s : e_S} {g : ps_G} {i : Int32} : q_aI (e_g s g) 82 i = if i < 0 ∨ 576 ≤ i.toNatClampNeg then none else some (s.2.1 82 i.toNatClampNeg) := e_aI t82
theorem l82 {s : e_S} {g : ps_G} : q_len (e_g s g) 82 = some (576 : Int32) := e_len t82
theorem u82 {s : e_S} {g : ps_G} {i v : Int32} : q_wI (e_g s g) 82 i v = if i < 0 ∨ 576 ≤ i.toNatClampNeg then none else some (e_g (sA s 82 (upd (s.2.1 82) i.toNatClampNeg v)) g) := e_wI t82 (by decide)
theorem t83 : e_tb[83]? = some (2, 576, []) := rfl
theorem a83 {s : e_S} {g : ps_G} {i : Int32} : q_aI (e_g s g) 83 i = if i < 0 ∨ 576 ≤ i.toNatClampNeg then none else some (s.2.1 83 i.toNatClampNeg) := e_aI t83
theorem l83 {s : e_S} {g : ps_G} : q_len (e_g s g) 83 = some (576 : Int32) := e_len t83
theorem u83 {s : e_S} {g : ps_G} {i v : Int32} : q_wI (e_g s g) 83 i v = if i < 0 ∨ 576 ≤ i.toNatClampNeg then none else some (e_g (sA s 83 (upd (s.2.1 83) i.toNatClampNeg v)) g) := e_wI t83 (by decide)
theorem t84 : e_tb[84]? = some (2, 576, []) := rfl
theorem a84 {s : e_S} {g : ps_G} {i : Int32} : q_aI (e_g s g) 84 i = if i < 0 ∨ 576 ≤ i.toNatClampNeg then none else some (s.2.1 84 i.toNatClampNeg) := e_aI t84
theorem l84 {s : e_S} {g : ps_G} : q_len (e_g s g) 84 = some (576 : Int32) := e_len t84
theorem u84 {s : e_S} {g : ps_G} {i v : Int32} : q_wI (e_g s g) 84 i v = if i < 0 ∨ 576 ≤ i.toNatClampNeg then none else some (e_g (sA s 84 (upd (s.2.1 84) i.toNatClampNeg v)) g) := e_wI t84 (by decide)
theorem t85 : e_tb[85]? = some (2, 576, []) := rfl
theorem a85 {s : e_S} {g : ps_G} {i : Int32} : q_aI (e_g s g) 85 i = if i < 0 ∨ 576 ≤ i.toNatClampNeg then none else some (s.2.1 85 i.toNatClampNeg) := e_aI t85
theorem l85 {s : e_S} {g : ps_G} : q_len (e_g s g) 85 = some (576 : Int32) := e_len t85
theorem u85 {s : e_S} {g : ps_G} {i v : Int32} : q_wI (e_g s g) 85 i v = if i < 0 ∨ 576 ≤ i.toNatClampNeg then none else some (e_g (sA s 85 (upd (s.2.1 85) i.toNatClampNeg v)) g) := e_wI t85 (by decide)
theorem t86 : e_tb[86]? = some (2, 576, []) := rfl
theorem a86 {s : e_S} {g : ps_G} {i : Int32} : q_aI (e_g s g) 86 i = if i < 0 ∨ 576 ≤ i.toNatClampNeg then none else some (s.2.1 86 i.toNatClampNeg) := e_aI t86
theorem l86 {s : e_S} {g : ps_G} : q_len (e_g s g) 86 = some (576 : Int32) := e_len t86
theorem u86 {s : e_S} {g : ps_G} {i v : Int32} : q_wI (e_g s g) 86 i v = if i < 0 ∨ 576 ≤ i.toNatClampNeg then none else some (e_g (sA s 86 (upd (s.2.1 86) i.toNatClampNeg v)) g) := e_wI t86 (by decide)
theorem t87 : e_tb[87]? = some (2, 576, []) := rfl
theorem a87 {s : e_S} {g : ps_G} {i : Int32} : q_aI (e_g s g) 87 i = if i < 0 ∨ 576 ≤ i.toNatClampNeg then none else some (s.2.1 87 i.toNatClampNeg) := e_aI t87
theorem l87 {s : e_S} {g : ps_G} : q_len (e_g s g) 87 = some (576 : Int32) := e_len t87
theorem u87 {s : e_S} {g : ps_G} {i v : Int32} : q_wI (e_g s g) 87 i v = if i < 0 ∨ 576 ≤ i.toNatClampNeg then none else some (e_g (sA s 87 (upd (s.2.1 87) i.toNatClampNeg v)) g) := e_wI t87 (by decide)
theorem t88 : e_tb[88]? = some (3, 9, []) := rfl
theorem a88 {s : e_S} {g : ps_G} {i : Int32} : q_aB (e_g s g) 88 i = if i < 0 ∨ 9 ≤ i.toNatClampNeg then none else some (s.2.1 88 i.toNatClampNeg) := e_aB t88
theorem l88 {s : e_S} {g : ps_G} : q_len (e_g s g) 88 = some (9 : Int32) := e_lenB t88
theorem u88 {s : e_S} {g : ps_G} {i v : Int32} : q_wB (e_g s g) 88 i v = if i < 0 ∨ 9 ≤ i.toNatClampNeg then none else some (e_g (sA s 88 (upd (s.2.1 88) i.toNatClampNeg (vp_nar .boolean v))) g) := e_wB t88
theorem t90 : e_tb[90]? = some (2, 576, []) := rfl
theorem a90 {s : e_S} {g : ps_G} {i : Int32} : q_aI (e_g s g) 90 i = if i < 0 ∨ 576 ≤ i.toNatClampNeg then none else some (s.2.1 90 i.toNatClampNeg) := e_aI t90
theorem l90 {s : e_S} {g : ps_G} : q_len (e_g s g) 90 = some (576 : Int32) := e_len t90
theorem u90 {s : e_S} {g : ps_G} {i v : Int32} : q_wI (e_g s g) 90 i v = if i < 0 ∨ 576 ≤ i.toNatClampNeg then none else some (e_g (sA s 90 (upd (s.2.1 90) i.toNatClampNeg v)) g) := e_wI t90 (by decide)
theorem t91 : e_tb[91]? = some (2, 576, []) := rfl
theorem a91 {s : e_S} {g : ps_G} {i : Int32} : q_aI (e_g s g) 91 i = if i < 0 ∨ 576 ≤ i.toNatClampNeg then none else some (s.2.1 91 i.toNatClampNeg) := e_aI t91
theorem l91 {s : e_S} {g : ps_G} : q_len (e_g s g) 91 = some (576 : Int32) := e_len t91
theorem u91 {s : e_S} {g : ps_G} {i v : Int32} : q_wI (e_g s g) 91 i v = if i < 0 ∨ 576 ≤ i.toNatClampNeg then none else some (e_g (sA s 91 (upd (s.2.1 91) i.toNatClampNeg v)) g) := e_wI t91 (by decide)
theorem t92 : e_tb[92]? = some (2, 576, []) := rfl
theorem a92 {s : e_S} {g : ps_G} {i : Int32} : q_aI (e_g s g) 92 i = if i < 0 ∨ 576 ≤ i.toNatClampNeg then none else some (s.2.1 92 i.toNatClampNeg) := e_aI t92
theorem l92 {s : e_S} {g : ps_G} : q_len (e_g s g) 92 = some (576 : Int32) := e_len t92
theorem u92 {s : e_S} {g : ps_G} {i v : Int32} : q_wI (e_g s g) 92 i v = if i < 0 ∨ 576 ≤ i.toNatClampNeg then none else some (e_g (sA s 92 (upd (s.2.1 92) i.toNatClampNeg v)) g) := e_wI t92 (by decide)
theorem t94 : e_tb[94]? = some (2, 20, []) := rfl
theorem a94 {s : e_S} {g : ps_G} {i : Int32} : q_aI (e_g s g) 94 i = if i < 0 ∨ 20 ≤ i.toNatClampNeg then none else some (s.2.1 94 i.toNatClampNeg) := e_aI t94
theorem l94 {s : e_S} {g : ps_G} : q_len (e_g s g) 94 = some (20 : Int32) := e_len t94
theorem u94 {s : e_S} {g : ps_G} {i v : Int32} : q_wI (e_g s g) 94 i v = if i < 0 ∨ 20 ≤ i.toNatClampNeg then none else some (e_g (sA s 94 (upd (s.2.1 94) i.toNatClampNeg v)) g) := e_wI t94 (by decide)
theorem t95 : e_tb[95]? = some (2, 20, []) := rfl
theorem a95 {s : e_S} {g : ps_G} {i : Int32} : q_aI (e_g s g) 95 i = if i < 0 ∨ 20 ≤ i.toNatClampNeg then none else some (s.2.1 95 i.toNatClampNeg) := e_aI t95
theorem l95 {s : e_S} {g : ps_G} : q_len (e_g s g) 95 = some (20 : Int32) := e_len t95
theorem u95 {s : e_S} {g : ps_G} {i v : Int32} : q_wI (e_g s g) 95 i v = if i < 0 ∨ 20 ≤ i.toNatClampNeg then none else some (e_g (sA s 95 (upd (s.2.1 95) i.toNatClampNeg v)) g) := e_wI t95 (by decide)
theorem t96 : e_tb[96]? = some (2, 20, []) := rfl
theorem a96 {s : e_S} {g : ps_G} {i : Int32} : q_aI (e_g s g) 96 i = if i < 0 ∨ 20 ≤ i.toNatClampNeg then none else some (s.2.1 96 i.toNatClampNeg) := e_aI t96
theorem l96 {s : e_S} {g : ps_G} : q_len (e_g s g) 96 = some (20 : Int32) := e_len t96
theorem u96 {s : e_S} {g : ps_G} {i v : Int32} : q_wI (e_g s g) 96 i v = if i < 0 ∨ 20 ≤ i.toNatClampNeg then none else some (e_g (sA s 96 (upd (s.2.1 96) i.toNatClampNeg v)) g) := e_wI t96 (by decide)
theorem t97 : e_tb[97]? = some (2, 576, []) := rfl
theorem a97 {s : e_S} {g : ps_G} {i : Int32} : q_aI (e_g s g) 97 i = if i < 0 ∨ 576 ≤ i.toNatClampNeg then none else some (s.2.1 97 i.toNatClampNeg) := e_aI t97
theorem l97 {s : e_S} {g : ps_G} : q_len (e_g s g) 97 = some (576 : Int32) := e_len t97
theorem u97 {s : e_S} {g : ps_G} {i v : Int32} : q_wI (e_g s g) 97 i v = if i < 0 ∨ 576 ≤ i.toNatClampNeg then none else some (e_g (sA s 97 (upd (s.2.1 97) i.toNatClampNeg v)) g) := e_wI t97 (by decide)
theorem t99 : e_tb[99]? = some (2, 8, []) := rfl
theorem a99 {s : e_S} {g : ps_G} {i : Int32} : q_aI (e_g s g) 99 i = if i < 0 ∨ 8 ≤ i.toNatClampNeg then none else some (s.2.1 99 i.toNatClampNeg) := e_aI t99
theorem l99 {s : e_S} {g : ps_G} : q_len (e_g s g) 99 = some (8 : Int32) := e_len t99
theorem u99 {s : e_S} {g : ps_G} {i v : Int32} : q_wI (e_g s g) 99 i v = if i < 0 ∨ 8 ≤ i.toNatClampNeg then none else some (e_g (sA s 99 (upd (s.2.1 99) i.toNatClampNeg v)) g) := e_wI t99 (by decide)
theorem t100 : e_tb[100]? = some (2, 320, []) := rfl
theorem a100 {s : e_S} {g : ps_G} {i : Int32} : q_aI (e_g s g) 100 i = if i < 0 ∨ 320 ≤ i.toNatClampNeg then none else some (s.2.1 100 i.toNatClampNeg) := e_aI t100
theorem l100 {s : e_S} {g : ps_G} : q_len (e_g s g) 100 = some (320 : Int32) := e_len t100
theorem u100 {s : e_S} {g : ps_G} {i v : Int32} : q_wI (e_g s g) 100 i v = if i < 0 ∨ 320 ≤ i.toNatClampNeg then none else some (e_g (sA s 100 (upd (s.2.1 100) i.toNatClampNeg v)) g) := e_wI t100 (by decide)
theorem t101 : e_tb[101]? = some (2, 320, []) := rfl
theorem a101 {s : e_S} {g : ps_G} {i : Int32} : q_aI (e_g s g) 101 i = if i < 0 ∨ 320 ≤ i.toNatClampNeg then none else some (s.2.1 101 i.toNatClampNeg) := e_aI t101
theorem l101 {s : e_S} {g : ps_G} : q_len (e_g s g) 101 = some (320 : Int32) := e_len t101
theorem u101 {s : e_S} {g : ps_G} {i v : Int32} : q_wI (e_g s g) 101 i v = if i < 0 ∨ 320 ≤ i.toNatClampNeg then none else some (e_g (sA s 101 (upd (s.2.1 101) i.toNatClampNeg v)) g) := e_wI t101 (by decide)
theorem t102 : e_tb[102]? = some (2, 320, []) := rfl
theorem a102 {s : e_S} {g : ps_G} {i : Int32} : q_aI (e_g s g) 102 i = if i < 0 ∨ 320 ≤ i.toNatClampNeg then none else some (s.2.1 102 i.toNatClampNeg) := e_aI t102
theorem l102 {s : e_S} {g : ps_G} : q_len (e_g s g) 102 = some (320 : Int32) := e_len t102
theorem u102 {s : e_S} {g : ps_G} {i v : Int32} : q_wI (e_g s g) 102 i v = if i < 0 ∨ 320 ≤ i.toNatClampNeg then none else some (e_g (sA s 102 (upd (s.2.1 102) i.toNatClampNeg v)) g) := e_wI t102 (by decide)
theorem t103 : e_tb[103]? = some (2, 256, []) := rfl
theorem a103 {s : e_S} {g : ps_G} {i : Int32} : q_aI (e_g s g) 103 i = if i < 0 ∨ 256 ≤ i.toNatClampNeg then none else some (s.2.1 103 i.toNatClampNeg) := e_aI t103
theorem l103 {s : e_S} {g : ps_G} : q_len (e_g s g) 103 = some (256 : Int32) := e_len t103
theorem u103 {s : e_S} {g : ps_G} {i v : Int32} : q_wI (e_g s g) 103 i v = if i < 0 ∨ 256 ≤ i.toNatClampNeg then none else some (e_g (sA s 103 (upd (s.2.1 103) i.toNatClampNeg v)) g) := e_wI t103 (by decide)
theorem t104 : e_tb[104]? = some (2, 256, []) := rfl
theorem a104 {s : e_S} {g : ps_G} {i : Int32} : q_aI (e_g s g) 104 i = if i < 0 ∨ 256 ≤ i.toNatClampNeg then none else some (s.2.1 104 i.toNatClampNeg) := e_aI t104
theorem l104 {s : e_S} {g : ps_G} : q_len (e_g s g) 104 = some (256 : Int32) := e_len t104
theorem u104 {s : e_S} {g : ps_G} {i v : Int32} : q_wI (e_g s g) 104 i v = if i < 0 ∨ 256 ≤ i.toNatClampNeg then none else some (e_g (sA s 104 (upd (s.2.1 104) i.toNatClampNeg v)) g) := e_wI t104 (by decide)
theorem t105 : e_tb[105]? = some (2, 400, []) := rfl
theorem a105 {s : e_S} {g : ps_G} {i : Int32} : q_aI (e_g s g) 105 i = if i < 0 ∨ 400 ≤ i.toNatClampNeg then none else some (s.2.1 105 i.toNatClampNeg) := e_aI t105
theorem l105 {s : e_S} {g : ps_G} : q_len (e_g s g) 105 = some (400 : Int32) := e_len t105
theorem u105 {s : e_S} {g : ps_G} {i v : Int32} : q_wI (e_g s g) 105 i v = if i < 0 ∨ 400 ≤ i.toNatClampNeg then none else some (e_g (sA s 105 (upd (s.2.1 105) i.toNatClampNeg v)) g) := e_wI t105 (by decide)
theorem t106 : e_tb[106]? = some (2, 400, []) := rfl
theorem a106 {s : e_S} {g : ps_G} {i : Int32} : q_aI (e_g s g) 106 i = if i < 0 ∨ 400 ≤ i.toNatClampNeg then none else some (s.2.1 106 i.toNatClampNeg) := e_aI t106
theorem l106 {s : e_S} {g : ps_G} : q_len (e_g s g) 106 = some (400 : Int32) := e_len t106
theorem u106 {s : e_S} {g : ps_G} {i v : Int32} : q_wI (e_g s g) 106 i v = if i < 0 ∨ 400 ≤ i.toNatClampNeg then none else some (e_g (sA s 106 (upd (s.2.1 106) i.toNatClampNeg v)) g) := e_wI t106 (by decide)
theorem t107 : e_tb[107]? = some (2, 400, []) := rfl
theorem a107 {s : e_S} {g : ps_G} {i : Int32} : q_aI (e_g s g) 107 i = if i < 0 ∨ 400 ≤ i.toNatClampNeg then none else some (s.2.1 107 i.toNatClampNeg) := e_aI t107
theorem l107 {s : e_S} {g : ps_G} : q_len (e_g s g) 107 = some (400 : Int32) := e_len t107
theorem u107 {s : e_S} {g : ps_G} {i v : Int32} : q_wI (e_g s g) 107 i v = if i < 0 ∨ 400 ≤ i.toNatClampNeg then none else some (e_g (sA s 107 (upd (s.2.1 107) i.toNatClampNeg v)) g) := e_wI t107 (by decide)
theorem t108 : e_tb[108]? = some (2, 400, []) := rfl
theorem a108 {s : e_S} {g : ps_G} {i : Int32} : q_aI (e_g s g) 108 i = if i < 0 ∨ 400 ≤ i.toNatClampNeg then none else some (s.2.1 108 i.toNatClampNeg) := e_aI t108
theorem l108 {s : e_S} {g : ps_G} : q_len (e_g s g) 108 = some (400 : Int32) := e_len t108
theorem u108 {s : e_S} {g : ps_G} {i v : Int32} : q_wI (e_g s g) 108 i v = if i < 0 ∨ 400 ≤ i.toNatClampNeg then none else some (e_g (sA s 108 (upd (s.2.1 108) i.toNatClampNeg v)) g) := e_wI t108 (by decide)
theorem t109 : e_tb[109]? = some (2, 96, []) := rfl
theorem a109 {s : e_S} {g : ps_G} {i : Int32} : q_aI (e_g s g) 109 i = if i < 0 ∨ 96 ≤ i.toNatClampNeg then none else some (s.2.1 109 i.toNatClampNeg) := e_aI t109
theorem l109 {s : e_S} {g : ps_G} : q_len (e_g s g) 109 = some (96 : Int32) := e_len t109
theorem u109 {s : e_S} {g : ps_G} {i v : Int32} : q_wI (e_g s g) 109 i v = if i < 0 ∨ 96 ≤ i.toNatClampNeg then none else some (e_g (sA s 109 (upd (s.2.1 109) i.toNatClampNeg v)) g) := e_wI t109 (by decide)
theorem t110 : e_tb[110]? = some (2, 576, []) := rfl
theorem a110 {s : e_S} {g : ps_G} {i : Int32} : q_aI (e_g s g) 110 i = if i < 0 ∨ 576 ≤ i.toNatClampNeg then none else some (s.2.1 110 i.toNatClampNeg) := e_aI t110
theorem l110 {s : e_S} {g : ps_G} : q_len (e_g s g) 110 = some (576 : Int32) := e_len t110
theorem u110 {s : e_S} {g : ps_G} {i v : Int32} : q_wI (e_g s g) 110 i v = if i < 0 ∨ 576 ≤ i.toNatClampNeg then none else some (e_g (sA s 110 (upd (s.2.1 110) i.toNatClampNeg v)) g) := e_wI t110 (by decide)
theorem t112 : e_tb[112]? = some (2, 40, []) := rfl
theorem a112 {s : e_S} {g : ps_G} {i : Int32} : q_aI (e_g s g) 112 i = if i < 0 ∨ 40 ≤ i.toNatClampNeg then none else some (s.2.1 112 i.toNatClampNeg) := e_aI t112
theorem l112 {s : e_S} {g : ps_G} : q_len (e_g s g) 112 = some (40 : Int32) := e_len t112
theorem u112 {s : e_S} {g : ps_G} {i v : Int32} : q_wI (e_g s g) 112 i v = if i < 0 ∨ 40 ≤ i.toNatClampNeg then none else some (e_g (sA s 112 (upd (s.2.1 112) i.toNatClampNeg v)) g) := e_wI t112 (by decide)
theorem t113 : e_tb[113]? = some (2, 4, []) := rfl
theorem a113 {s : e_S} {g : ps_G} {i : Int32} : q_aI (e_g s g) 113 i = if i < 0 ∨ 4 ≤ i.toNatClampNeg then none else some (s.2.1 113 i.toNatClampNeg) := e_aI t113
theorem l113 {s : e_S} {g : ps_G} : q_len (e_g s g) 113 = some (4 : Int32) := e_len t113
theorem u113 {s : e_S} {g : ps_G} {i v : Int32} : q_wI (e_g s g) 113 i v = if i < 0 ∨ 4 ≤ i.toNatClampNeg then none else some (e_g (sA s 113 (upd (s.2.1 113) i.toNatClampNeg v)) g) := e_wI t113 (by decide)
theorem t114 : e_tb[114]? = some (2, 256, []) := rfl
theorem a114 {s : e_S} {g : ps_G} {i : Int32} : q_aI (e_g s g) 114 i = if i < 0 ∨ 256 ≤ i.toNatClampNeg then none else some (s.2.1 114 i.toNatClampNeg) := e_aI t114
theorem l114 {s : e_S} {g : ps_G} : q_len (e_g s g) 114 = some (256 : Int32) := e_len t114
theorem u114 {s : e_S} {g : ps_G} {i v : Int32} : q_wI (e_g s g) 114 i v = if i < 0 ∨ 256 ≤ i.toNatClampNeg then none else some (e_g (sA s 114 (upd (s.2.1 114) i.toNatClampNeg v)) g) := e_wI t114 (by decide)
theorem t115 : e_tb[115]? = some (4, 9, []) := rfl
theorem a115 {s : e_S} {g : ps_G} {i : Int32} : q_aL (e_g s g) 115 i = if i < 0 ∨ 9 ≤ i.toNatClampNeg then none else some (s.2.2.2 115 i.toNatClampNeg) := e_aL t115
theorem u115 {s : e_S} {g : ps_G} {i : Int32} {v : Int64} : q_wL (e_g s g) 115 i v = if i < 0 ∨ 9 ≤ i.toNatClampNeg then none else some (e_g (sL s 115 (vp_updL (s.2.2.2 115) i.toNatClampNeg v)) g) := e_wL t115
theorem t116 : e_tb[116]? = some (2, 576, []) := rfl
theorem a116 {s : e_S} {g : ps_G} {i : Int32} : q_aI (e_g s g) 116 i = if i < 0 ∨ 576 ≤ i.toNatClampNeg then none else some (s.2.1 116 i.toNatClampNeg) := e_aI t116
theorem l116 {s : e_S} {g : ps_G} : q_len (e_g s g) 116 = some (576 : Int32) := e_len t116
theorem u116 {s : e_S} {g : ps_G} {i v : Int32} : q_wI (e_g s g) 116 i v = if i < 0 ∨ 576 ≤ i.toNatClampNeg then none else some (e_g (sA s 116 (upd (s.2.1 116) i.toNatClampNeg v)) g) := e_wI t116 (by decide)
theorem t117 : e_tb[117]? = some (2, 16, []) := rfl
theorem a117 {s : e_S} {g : ps_G} {i : Int32} : q_aI (e_g s g) 117 i = if i < 0 ∨ 16 ≤ i.toNatClampNeg then none else some (s.2.1 117 i.toNatClampNeg) := e_aI t117
theorem l117 {s : e_S} {g : ps_G} : q_len (e_g s g) 117 = some (16 : Int32) := e_len t117
theorem u117 {s : e_S} {g : ps_G} {i v : Int32} : q_wI (e_g s g) 117 i v = if i < 0 ∨ 16 ≤ i.toNatClampNeg then none else some (e_g (sA s 117 (upd (s.2.1 117) i.toNatClampNeg v)) g) := e_wI t117 (by decide)
theorem t118 : e_tb[118]? = some (2, 16, []) := rfl
theorem a118 {s : e_S} {g : ps_G} {i : Int32} : q_aI (e_g s g) 118 i = if i < 0 ∨ 16 ≤ i.toNatClampNeg then none else some (s.2.1 118 i.toNatClampNeg) := e_aI t118
theorem l118 {s : e_S} {g : ps_G} : q_len (e_g s g) 118 = some (16 : Int32) := e_len t118
theorem u118 {s : e_S} {g : ps_G} {i v : Int32} : q_wI (e_g s g) 118 i v = if i < 0 ∨ 16 ≤ i.toNatClampNeg then none else some (e_g (sA s 118 (upd (s.2.1 118) i.toNatClampNeg v)) g) := e_wI t118 (by decide)
theorem t119 : e_tb[119]? = some (2, 16, []) := rfl
theorem a119 {s : e_S} {g : ps_G} {i : Int32} : q_aI (e_g s g) 119 i = if i < 0 ∨ 16 ≤ i.toNatClampNeg then none else some (s.2.1 119 i.toNatClampNeg) := e_aI t119
theorem l119 {s : e_S} {g : ps_G} : q_len (e_g s g) 119 = some (16 : Int32) := e_len t119
theorem u119 {s : e_S} {g : ps_G} {i v : Int32} : q_wI (e_g s g) 119 i v = if i < 0 ∨ 16 ≤ i.toNatClampNeg then none else some (e_g (sA s 119 (upd (s.2.1 119) i.toNatClampNeg v)) g) := e_wI t119 (by decide)
theorem t120 : e_tb[120]? = some (2, 1728, []) := rfl
theorem a120 {s : e_S} {g : ps_G} {i : Int32} : q_aI (e_g s g) 120 i = if i < 0 ∨ 1728 ≤ i.toNatClampNeg then none else some (s.2.1 120 i.toNatClampNeg) := e_aI t120
theorem l120 {s : e_S} {g : ps_G} : q_len (e_g s g) 120 = some (1728 : Int32) := e_len t120
theorem u120 {s : e_S} {g : ps_G} {i v : Int32} : q_wI (e_g s g) 120 i v = if i < 0 ∨ 1728 ≤ i.toNatClampNeg then none else some (e_g (sA s 120 (upd (s.2.1 120) i.toNatClampNeg v)) g) := e_wI t120 (by decide)
theorem t121 : e_tb[121]? = some (2, 576, []) := rfl
theorem a121 {s : e_S} {g : ps_G} {i : Int32} : q_aI (e_g s g) 121 i = if i < 0 ∨ 576 ≤ i.toNatClampNeg then none else some (s.2.1 121 i.toNatClampNeg) := e_aI t121
theorem l121 {s : e_S} {g : ps_G} : q_len (e_g s g) 121 = some (576 : Int32) := e_len t121
theorem u121 {s : e_S} {g : ps_G} {i v : Int32} : q_wI (e_g s g) 121 i v = if i < 0 ∨ 576 ≤ i.toNatClampNeg then none else some (e_g (sA s 121 (upd (s.2.1 121) i.toNatClampNeg v)) g) := e_wI t121 (by decide)
theorem t123 : e_tb[123]? = some (2, 3000, []) := rfl
theorem a123 {s : e_S} {g : ps_G} {i : Int32} : q_aI (e_g s g) 123 i = if i < 0 ∨ 3000 ≤ i.toNatClampNeg then none else some (s.2.1 123 i.toNatClampNeg) := e_aI t123
theorem l123 {s : e_S} {g : ps_G} : q_len (e_g s g) 123 = some (3000 : Int32) := e_len t123
theorem u123 {s : e_S} {g : ps_G} {i v : Int32} : q_wI (e_g s g) 123 i v = if i < 0 ∨ 3000 ≤ i.toNatClampNeg then none else some (e_g (sA s 123 (upd (s.2.1 123) i.toNatClampNeg v)) g) := e_wI t123 (by decide)
theorem t124 : e_tb[124]? = some (2, 2328, []) := rfl
theorem a124 {s : e_S} {g : ps_G} {i : Int32} : q_aI (e_g s g) 124 i = if i < 0 ∨ 2328 ≤ i.toNatClampNeg then none else some (s.2.1 124 i.toNatClampNeg) := e_aI t124
theorem l124 {s : e_S} {g : ps_G} : q_len (e_g s g) 124 = some (2328 : Int32) := e_len t124
theorem u124 {s : e_S} {g : ps_G} {i v : Int32} : q_wI (e_g s g) 124 i v = if i < 0 ∨ 2328 ≤ i.toNatClampNeg then none else some (e_g (sA s 124 (upd (s.2.1 124) i.toNatClampNeg v)) g) := e_wI t124 (by decide)
theorem t126 : e_tb[126]? = some (2, 256, []) := rfl
theorem a126 {s : e_S} {g : ps_G} {i : Int32} : q_aI (e_g s g) 126 i = if i < 0 ∨ 256 ≤ i.toNatClampNeg then none else some (s.2.1 126 i.toNatClampNeg) := e_aI t126
theorem l126 {s : e_S} {g : ps_G} : q_len (e_g s g) 126 = some (256 : Int32) := e_len t126
theorem u126 {s : e_S} {g : ps_G} {i v : Int32} : q_wI (e_g s g) 126 i v = if i < 0 ∨ 256 ≤ i.toNatClampNeg then none else some (e_g (sA s 126 (upd (s.2.1 126) i.toNatClampNeg v)) g) := e_wI t126 (by decide)
theorem t127 : e_tb[127]? = some (2, 256, []) := rfl
theorem a127 {s : e_S} {g : ps_G} {i : Int32} : q_aI (e_g s g) 127 i = if i < 0 ∨ 256 ≤ i.toNatClampNeg then none else some (s.2.1 127 i.toNatClampNeg) := e_aI t127
theorem l127 {s : e_S} {g : ps_G} : q_len (e_g s g) 127 = some (256 : Int32) := e_len t127
theorem u127 {s : e_S} {g : ps_G} {i v : Int32} : q_wI (e_g s g) 127 i v = if i < 0 ∨ 256 ≤ i.toNatClampNeg then none else some (e_g (sA s 127 (upd (s.2.1 127) i.toNatClampNeg v)) g) := e_wI t127 (by decide)
theorem t129 : e_tb[129]? = some (2, 8000, []) := rfl
theorem a129 {s : e_S} {g : ps_G} {i : Int32} : q_aI (e_g s g) 129 i = if i < 0 ∨ 8000 ≤ i.toNatClampNeg then none else some (s.2.1 129 i.toNatClampNeg) := e_aI t129
theorem l129 {s : e_S} {g : ps_G} : q_len (e_g s g) 129 = some (8000 : Int32) := e_len t129
theorem u129 {s : e_S} {g : ps_G} {i v : Int32} : q_wI (e_g s g) 129 i v = if i < 0 ∨ 8000 ≤ i.toNatClampNeg then none else some (e_g (sA s 129 (upd (s.2.1 129) i.toNatClampNeg v)) g) := e_wI t129 (by decide)
theorem t130 : e_tb[130]? = some (2, 2328, []) := rfl
theorem a130 {s : e_S} {g : ps_G} {i : Int32} : q_aI (e_g s g) 130 i = if i < 0 ∨ 2328 ≤ i.toNatClampNeg then none else some (s.2.1 130 i.toNatClampNeg) := e_aI t130
theorem l130 {s : e_S} {g : ps_G} : q_len (e_g s g) 130 = some (2328 : Int32) := e_len t130
theorem u130 {s : e_S} {g : ps_G} {i v : Int32} : q_wI (e_g s g) 130 i v = if i < 0 ∨ 2328 ≤ i.toNatClampNeg then none else some (e_g (sA s 130 (upd (s.2.1 130) i.toNatClampNeg v)) g) := e_wI t130 (by decide)
theorem t131 : e_tb[131]? = some (2, 320, []) := rfl
theorem a131 {s : e_S} {g : ps_G} {i : Int32} : q_aI (e_g s g) 131 i = if i < 0 ∨ 320 ≤ i.toNatClampNeg then none else some (s.2.1 131 i.toNatClampNeg) := e_aI t131
theorem l131 {s : e_S} {g : ps_G} : q_len (e_g s g) 131 = some (320 : Int32) := e_len t131
theorem u131 {s : e_S} {g : ps_G} {i v : Int32} : q_wI (e_g s g) 131 i v = if i < 0 ∨ 320 ≤ i.toNatClampNeg then none else some (e_g (sA s 131 (upd (s.2.1 131) i.toNatClampNeg v)) g) := e_wI t131 (by decide)
theorem t132 : e_tb[132]? = some (2, 16, []) := rfl
theorem a132 {s : e_S} {g : ps_G} {i : Int32} : q_aI (e_g s g) 132 i = if i < 0 ∨ 16 ≤ i.toNatClampNeg then none else some (s.2.1 132 i.toNatClampNeg) := e_aI t132
theorem l132 {s : e_S} {g : ps_G} : q_len (e_g s g) 132 = some (16 : Int32) := e_len t132
theorem u132 {s : e_S} {g : ps_G} {i v : Int32} : q_wI (e_g s g) 132 i v = if i < 0 ∨ 16 ≤ i.toNatClampNeg then none else some (e_g (sA s 132 (upd (s.2.1 132) i.toNatClampNeg v)) g) := e_wI t132 (by decide)
theorem t133 : e_tb[133]? = some (2, 288, []) := rfl
theorem a133 {s : e_S} {g : ps_G} {i : Int32} : q_aI (e_g s g) 133 i = if i < 0 ∨ 288 ≤ i.toNatClampNeg then none else some (s.2.1 133 i.toNatClampNeg) := e_aI t133
theorem l133 {s : e_S} {g : ps_G} : q_len (e_g s g) 133 = some (288 : Int32) := e_len t133
theorem u133 {s : e_S} {g : ps_G} {i v : Int32} : q_wI (e_g s g) 133 i v = if i < 0 ∨ 288 ≤ i.toNatClampNeg then none else some (e_g (sA s 133 (upd (s.2.1 133) i.toNatClampNeg v)) g) := e_wI t133 (by decide)
theorem t134 : e_tb[134]? = some (2, 16, []) := rfl
theorem a134 {s : e_S} {g : ps_G} {i : Int32} : q_aI (e_g s g) 134 i = if i < 0 ∨ 16 ≤ i.toNatClampNeg then none else some (s.2.1 134 i.toNatClampNeg) := e_aI t134
theorem l134 {s : e_S} {g : ps_G} : q_len (e_g s g) 134 = some (16 : Int32) := e_len t134
theorem u134 {s : e_S} {g : ps_G} {i v : Int32} : q_wI (e_g s g) 134 i v = if i < 0 ∨ 16 ≤ i.toNatClampNeg then none else some (e_g (sA s 134 (upd (s.2.1 134) i.toNatClampNeg v)) g) := e_wI t134 (by decide)
theorem t135 : e_tb[135]? = some (2, 32, []) := rfl
theorem a135 {s : e_S} {g : ps_G} {i : Int32} : q_aI (e_g s g) 135 i = if i < 0 ∨ 32 ≤ i.toNatClampNeg then none else some (s.2.1 135 i.toNatClampNeg) := e_aI t135
theorem l135 {s : e_S} {g : ps_G} : q_len (e_g s g) 135 = some (32 : Int32) := e_len t135
theorem u135 {s : e_S} {g : ps_G} {i v : Int32} : q_wI (e_g s g) 135 i v = if i < 0 ∨ 32 ≤ i.toNatClampNeg then none else some (e_g (sA s 135 (upd (s.2.1 135) i.toNatClampNeg v)) g) := e_wI t135 (by decide)
theorem t136 : e_tb[136]? = some (2, 17, []) := rfl
theorem a136 {s : e_S} {g : ps_G} {i : Int32} : q_aI (e_g s g) 136 i = if i < 0 ∨ 17 ≤ i.toNatClampNeg then none else some (s.2.1 136 i.toNatClampNeg) := e_aI t136
theorem l136 {s : e_S} {g : ps_G} : q_len (e_g s g) 136 = some (17 : Int32) := e_len t136
theorem u136 {s : e_S} {g : ps_G} {i v : Int32} : q_wI (e_g s g) 136 i v = if i < 0 ∨ 17 ≤ i.toNatClampNeg then none else some (e_g (sA s 136 (upd (s.2.1 136) i.toNatClampNeg v)) g) := e_wI t136 (by decide)
theorem t137 : e_tb[137]? = some (2, 8000, []) := rfl
theorem a137 {s : e_S} {g : ps_G} {i : Int32} : q_aI (e_g s g) 137 i = if i < 0 ∨ 8000 ≤ i.toNatClampNeg then none else some (s.2.1 137 i.toNatClampNeg) := e_aI t137
theorem l137 {s : e_S} {g : ps_G} : q_len (e_g s g) 137 = some (8000 : Int32) := e_len t137
theorem u137 {s : e_S} {g : ps_G} {i v : Int32} : q_wI (e_g s g) 137 i v = if i < 0 ∨ 8000 ≤ i.toNatClampNeg then none else some (e_g (sA s 137 (upd (s.2.1 137) i.toNatClampNeg v)) g) := e_wI t137 (by decide)
theorem t138 : e_tb[138]? = some (2, 576, []) := rfl
theorem a138 {s : e_S} {g : ps_G} {i : Int32} : q_aI (e_g s g) 138 i = if i < 0 ∨ 576 ≤ i.toNatClampNeg then none else some (s.2.1 138 i.toNatClampNeg) := e_aI t138
theorem l138 {s : e_S} {g : ps_G} : q_len (e_g s g) 138 = some (576 : Int32) := e_len t138
theorem u138 {s : e_S} {g : ps_G} {i v : Int32} : q_wI (e_g s g) 138 i v = if i < 0 ∨ 576 ≤ i.toNatClampNeg then none else some (e_g (sA s 138 (upd (s.2.1 138) i.toNatClampNeg v)) g) := e_wI t138 (by decide)
theorem t140 : e_tb[140]? = some (2, 8000, []) := rfl
theorem a140 {s : e_S} {g : ps_G} {i : Int32} : q_aI (e_g s g) 140 i = if i < 0 ∨ 8000 ≤ i.toNatClampNeg then none else some (s.2.1 140 i.toNatClampNeg) := e_aI t140
theorem l140 {s : e_S} {g : ps_G} : q_len (e_g s g) 140 = some (8000 : Int32) := e_len t140
theorem u140 {s : e_S} {g : ps_G} {i v : Int32} : q_wI (e_g s g) 140 i v = if i < 0 ∨ 8000 ≤ i.toNatClampNeg then none else some (e_g (sA s 140 (upd (s.2.1 140) i.toNatClampNeg v)) g) := e_wI t140 (by decide)
theorem t141 : e_tb[141]? = some (2, 16000, []) := rfl
theorem a141 {s : e_S} {g : ps_G} {i : Int32} : q_aI (e_g s g) 141 i = if i < 0 ∨ 16000 ≤ i.toNatClampNeg then none else some (s.2.1 141 i.toNatClampNeg) := e_aI t141
theorem l141 {s : e_S} {g : ps_G} : q_len (e_g s g) 141 = some (16000 : Int32) := e_len t141
theorem u141 {s : e_S} {g : ps_G} {i v : Int32} : q_wI (e_g s g) 141 i v = if i < 0 ∨ 16000 ≤ i.toNatClampNeg then none else some (e_g (sA s 141 (upd (s.2.1 141) i.toNatClampNeg v)) g) := e_wI t141 (by decide)
theorem t142 : e_tb[142]? = some (2, 35071, []) := rfl
theorem a142 {s : e_S} {g : ps_G} {i : Int32} : q_aI (e_g s g) 142 i = if i < 0 ∨ 35071 ≤ i.toNatClampNeg then none else some (s.2.1 142 i.toNatClampNeg) := e_aI t142
theorem l142 {s : e_S} {g : ps_G} : q_len (e_g s g) 142 = some (35071 : Int32) := e_len t142
theorem u142 {s : e_S} {g : ps_G} {i v : Int32} : q_wI (e_g s g) 142 i v = if i < 0 ∨ 35071 ≤ i.toNatClampNeg then none else some (e_g (sA s 142 (upd (s.2.1 142) i.toNatClampNeg v)) g) := e_wI t142 (by decide)
theorem t143 : e_tb[143]? = some (2, 876775, []) := rfl
theorem a143 {s : e_S} {g : ps_G} {i : Int32} : q_aI (e_g s g) 143 i = if i < 0 ∨ 876775 ≤ i.toNatClampNeg then none else some (s.2.1 143 i.toNatClampNeg) := e_aI t143
theorem l143 {s : e_S} {g : ps_G} : q_len (e_g s g) 143 = some (876775 : Int32) := e_len t143
theorem u143 {s : e_S} {g : ps_G} {i v : Int32} : q_wI (e_g s g) 143 i v = if i < 0 ∨ 876775 ≤ i.toNatClampNeg then none else some (e_g (sA s 143 (upd (s.2.1 143) i.toNatClampNeg v)) g) := e_wI t143 (by decide)
theorem t144 : e_tb[144]? = some (3, 30, []) := rfl
theorem a144 {s : e_S} {g : ps_G} {i : Int32} : q_aB (e_g s g) 144 i = if i < 0 ∨ 30 ≤ i.toNatClampNeg then none else some (s.2.1 144 i.toNatClampNeg) := e_aB t144
theorem l144 {s : e_S} {g : ps_G} : q_len (e_g s g) 144 = some (30 : Int32) := e_lenB t144
theorem u144 {s : e_S} {g : ps_G} {i v : Int32} : q_wB (e_g s g) 144 i v = if i < 0 ∨ 30 ≤ i.toNatClampNeg then none else some (e_g (sA s 144 (upd (s.2.1 144) i.toNatClampNeg (vp_nar .boolean v))) g) := e_wB t144
theorem t145 : e_tb[145]? = some (2, 18000, []) := rfl
theorem a145 {s : e_S} {g : ps_G} {i : Int32} : q_aI (e_g s g) 145 i = if i < 0 ∨ 18000 ≤ i.toNatClampNeg then none else some (s.2.1 145 i.toNatClampNeg) := e_aI t145
theorem l145 {s : e_S} {g : ps_G} : q_len (e_g s g) 145 = some (18000 : Int32) := e_len t145
theorem u145 {s : e_S} {g : ps_G} {i v : Int32} : q_wI (e_g s g) 145 i v = if i < 0 ∨ 18000 ≤ i.toNatClampNeg then none else some (e_g (sA s 145 (upd (s.2.1 145) i.toNatClampNeg v)) g) := e_wI t145 (by decide)
theorem t146 : e_tb[146]? = some (2, 18000, []) := rfl
theorem a146 {s : e_S} {g : ps_G} {i : Int32} : q_aI (e_g s g) 146 i = if i < 0 ∨ 18000 ≤ i.toNatClampNeg then none else some (s.2.1 146 i.toNatClampNeg) := e_aI t146
theorem l146 {s : e_S} {g : ps_G} : q_len (e_g s g) 146 = some (18000 : Int32) := e_len t146
theorem u146 {s : e_S} {g : ps_G} {i v : Int32} : q_wI (e_g s g) 146 i v = if i < 0 ∨ 18000 ≤ i.toNatClampNeg then none else some (e_g (sA s 146 (upd (s.2.1 146) i.toNatClampNeg v)) g) := e_wI t146 (by decide)
theorem t147 : e_tb[147]? = some (2, 576, []) := rfl
theorem a147 {s : e_S} {g : ps_G} {i : Int32} : q_aI (e_g s g) 147 i = if i < 0 ∨ 576 ≤ i.toNatClampNeg then none else some (s.2.1 147 i.toNatClampNeg) := e_aI t147
theorem l147 {s : e_S} {g : ps_G} : q_len (e_g s g) 147 = some (576 : Int32) := e_len t147
theorem u147 {s : e_S} {g : ps_G} {i v : Int32} : q_wI (e_g s g) 147 i v = if i < 0 ∨ 576 ≤ i.toNatClampNeg then none else some (e_g (sA s 147 (upd (s.2.1 147) i.toNatClampNeg v)) g) := e_wI t147 (by decide)
theorem t148 : e_tb[148]? = some (3, 9, []) := rfl
theorem a148 {s : e_S} {g : ps_G} {i : Int32} : q_aB (e_g s g) 148 i = if i < 0 ∨ 9 ≤ i.toNatClampNeg then none else some (s.2.1 148 i.toNatClampNeg) := e_aB t148
theorem l148 {s : e_S} {g : ps_G} : q_len (e_g s g) 148 = some (9 : Int32) := e_lenB t148
theorem u148 {s : e_S} {g : ps_G} {i v : Int32} : q_wB (e_g s g) 148 i v = if i < 0 ∨ 9 ≤ i.toNatClampNeg then none else some (e_g (sA s 148 (upd (s.2.1 148) i.toNatClampNeg (vp_nar .boolean v))) g) := e_wB t148
theorem t149 : e_tb[149]? = some (2, 576, []) := rfl
theorem a149 {s : e_S} {g : ps_G} {i : Int32} : q_aI (e_g s g) 149 i = if i < 0 ∨ 576 ≤ i.toNatClampNeg then none else some (s.2.1 149 i.toNatClampNeg) := e_aI t149
theorem l149 {s : e_S} {g : ps_G} : q_len (e_g s g) 149 = some (576 : Int32) := e_len t149
theorem u149 {s : e_S} {g : ps_G} {i v : Int32} : q_wI (e_g s g) 149 i v = if i < 0 ∨ 576 ≤ i.toNatClampNeg then none else some (e_g (sA s 149 (upd (s.2.1 149) i.toNatClampNeg v)) g) := e_wI t149 (by decide)
theorem t150 : e_tb[150]? = some (2, 9, []) := rfl
theorem a150 {s : e_S} {g : ps_G} {i : Int32} : q_aI (e_g s g) 150 i = if i < 0 ∨ 9 ≤ i.toNatClampNeg then none else some (s.2.1 150 i.toNatClampNeg) := e_aI t150
theorem l150 {s : e_S} {g : ps_G} : q_len (e_g s g) 150 = some (9 : Int32) := e_len t150
theorem u150 {s : e_S} {g : ps_G} {i v : Int32} : q_wI (e_g s g) 150 i v = if i < 0 ∨ 9 ≤ i.toNatClampNeg then none else some (e_g (sA s 150 (upd (s.2.1 150) i.toNatClampNeg v)) g) := e_wI t150 (by decide)
theorem t151 : e_tb[151]? = some (2, 9, []) := rfl
theorem a151 {s : e_S} {g : ps_G} {i : Int32} : q_aI (e_g s g) 151 i = if i < 0 ∨ 9 ≤ i.toNatClampNeg then none else some (s.2.1 151 i.toNatClampNeg) := e_aI t151
theorem l151 {s : e_S} {g : ps_G} : q_len (e_g s g) 151 = some (9 : Int32) := e_len t151
theorem u151 {s : e_S} {g : ps_G} {i v : Int32} : q_wI (e_g s g) 151 i v = if i < 0 ∨ 9 ≤ i.toNatClampNeg then none else some (e_g (sA s 151 (upd (s.2.1 151) i.toNatClampNeg v)) g) := e_wI t151 (by decide)
theorem t152 : e_tb[152]? = some (2, 32, []) := rfl
theorem a152 {s : e_S} {g : ps_G} {i : Int32} : q_aI (e_g s g) 152 i = if i < 0 ∨ 32 ≤ i.toNatClampNeg then none else some (s.2.1 152 i.toNatClampNeg) := e_aI t152
theorem l152 {s : e_S} {g : ps_G} : q_len (e_g s g) 152 = some (32 : Int32) := e_len t152
theorem u152 {s : e_S} {g : ps_G} {i v : Int32} : q_wI (e_g s g) 152 i v = if i < 0 ∨ 32 ≤ i.toNatClampNeg then none else some (e_g (sA s 152 (upd (s.2.1 152) i.toNatClampNeg v)) g) := e_wI t152 (by decide)
theorem t153 : e_tb[153]? = some (2, 256, []) := rfl
theorem a153 {s : e_S} {g : ps_G} {i : Int32} : q_aI (e_g s g) 153 i = if i < 0 ∨ 256 ≤ i.toNatClampNeg then none else some (s.2.1 153 i.toNatClampNeg) := e_aI t153
theorem l153 {s : e_S} {g : ps_G} : q_len (e_g s g) 153 = some (256 : Int32) := e_len t153
theorem u153 {s : e_S} {g : ps_G} {i v : Int32} : q_wI (e_g s g) 153 i v = if i < 0 ∨ 256 ≤ i.toNatClampNeg then none else some (e_g (sA s 153 (upd (s.2.1 153) i.toNatClampNeg v)) g) := e_wI t153 (by decide)
theorem t154 : e_tb[154]? = some (2, 256, []) := rfl
theorem a154 {s : e_S} {g : ps_G} {i : Int32} : q_aI (e_g s g) 154 i = if i < 0 ∨ 256 ≤ i.toNatClampNeg then none else some (s.2.1 154 i.toNatClampNeg) := e_aI t154
theorem l154 {s : e_S} {g : ps_G} : q_len (e_g s g) 154 = some (256 : Int32) := e_len t154
theorem u154 {s : e_S} {g : ps_G} {i v : Int32} : q_wI (e_g s g) 154 i v = if i < 0 ∨ 256 ≤ i.toNatClampNeg then none else some (e_g (sA s 154 (upd (s.2.1 154) i.toNatClampNeg v)) g) := e_wI t154 (by decide)
theorem t155 : e_tb[155]? = some (2, 576, []) := rfl
theorem a155 {s : e_S} {g : ps_G} {i : Int32} : q_aI (e_g s g) 155 i = if i < 0 ∨ 576 ≤ i.toNatClampNeg then none else some (s.2.1 155 i.toNatClampNeg) := e_aI t155
theorem l155 {s : e_S} {g : ps_G} : q_len (e_g s g) 155 = some (576 : Int32) := e_len t155
theorem u155 {s : e_S} {g : ps_G} {i v : Int32} : q_wI (e_g s g) 155 i v = if i < 0 ∨ 576 ≤ i.toNatClampNeg then none else some (e_g (sA s 155 (upd (s.2.1 155) i.toNatClampNeg v)) g) := e_wI t155 (by decide)
theorem t156 : e_tb[156]? = some (2, 576, []) := rfl
theorem a156 {s : e_S} {g : ps_G} {i : Int32} : q_aI (e_g s g) 156 i = if i < 0 ∨ 576 ≤ i.toNatClampNeg then none else some (s.2.1 156 i.toNatClampNeg) := e_aI t156
theorem l156 {s : e_S} {g : ps_G} : q_len (e_g s g) 156 = some (576 : Int32) := e_len t156
theorem u156 {s : e_S} {g : ps_G} {i v : Int32} : q_wI (e_g s g) 156 i v = if i < 0 ∨ 576 ≤ i.toNatClampNeg then none else some (e_g (sA s 156 (upd (s.2.1 156) i.toNatClampNeg v)) g) := e_wI t156 (by decide)
theorem t157 : e_tb[157]? = some (2, 2400, []) := rfl
theorem a157 {s : e_S} {g : ps_G} {i : Int32} : q_aI (e_g s g) 157 i = if i < 0 ∨ 2400 ≤ i.toNatClampNeg then none else some (s.2.1 157 i.toNatClampNeg) := e_aI t157
theorem l157 {s : e_S} {g : ps_G} : q_len (e_g s g) 157 = some (2400 : Int32) := e_len t157
theorem u157 {s : e_S} {g : ps_G} {i v : Int32} : q_wI (e_g s g) 157 i v = if i < 0 ∨ 2400 ≤ i.toNatClampNeg then none else some (e_g (sA s 157 (upd (s.2.1 157) i.toNatClampNeg v)) g) := e_wI t157 (by decide)
theorem t158 : e_tb[158]? = some (2, 576, []) := rfl
theorem a158 {s : e_S} {g : ps_G} {i : Int32} : q_aI (e_g s g) 158 i = if i < 0 ∨ 576 ≤ i.toNatClampNeg then none else some (s.2.1 158 i.toNatClampNeg) := e_aI t158
theorem l158 {s : e_S} {g : ps_G} : q_len (e_g s g) 158 = some (576 : Int32) := e_len t158
theorem u158 {s : e_S} {g : ps_G} {i v : Int32} : q_wI (e_g s g) 158 i v = if i < 0 ∨ 576 ≤ i.toNatClampNeg then none else some (e_g (sA s 158 (upd (s.2.1 158) i.toNatClampNeg v)) g) := e_wI t158 (by decide)
theorem t159 : e_tb[159]? = some (2, 40, []) := rfl
theorem a159 {s : e_S} {g : ps_G} {i : Int32} : q_aI (e_g s g) 159 i = if i < 0 ∨ 40 ≤ i.toNatClampNeg then none else some (s.2.1 159 i.toNatClampNeg) := e_aI t159
theorem l159 {s : e_S} {g : ps_G} : q_len (e_g s g) 159 = some (40 : Int32) := e_len t159
theorem u159 {s : e_S} {g : ps_G} {i v : Int32} : q_wI (e_g s g) 159 i v = if i < 0 ∨ 40 ≤ i.toNatClampNeg then none else some (e_g (sA s 159 (upd (s.2.1 159) i.toNatClampNeg v)) g) := e_wI t159 (by decide)
theorem t160 : e_tb[160]? = some (2, 40, []) := rfl
theorem a160 {s : e_S} {g : ps_G} {i : Int32} : q_aI (e_g s g) 160 i = if i < 0 ∨ 40 ≤ i.toNatClampNeg then none else some (s.2.1 160 i.toNatClampNeg) := e_aI t160
theorem l160 {s : e_S} {g : ps_G} : q_len (e_g s g) 160 = some (40 : Int32) := e_len t160
theorem u160 {s : e_S} {g : ps_G} {i v : Int32} : q_wI (e_g s g) 160 i v = if i < 0 ∨ 40 ≤ i.toNatClampNeg then none else some (e_g (sA s 160 (upd (s.2.1 160) i.toNatClampNeg v)) g) := e_wI t160 (by decide)
theorem t161 : e_tb[161]? = some (2, 40, []) := rfl
theorem a161 {s : e_S} {g : ps_G} {i : Int32} : q_aI (e_g s g) 161 i = if i < 0 ∨ 40 ≤ i.toNatClampNeg then none else some (s.2.1 161 i.toNatClampNeg) := e_aI t161
theorem l161 {s : e_S} {g : ps_G} : q_len (e_g s g) 161 = some (40 : Int32) := e_len t161
theorem u161 {s : e_S} {g : ps_G} {i v : Int32} : q_wI (e_g s g) 161 i v = if i < 0 ∨ 40 ≤ i.toNatClampNeg then none else some (e_g (sA s 161 (upd (s.2.1 161) i.toNatClampNeg v)) g) := e_wI t161 (by decide)
theorem t162 : e_tb[162]? = some (2, 576, []) := rfl
theorem a162 {s : e_S} {g : ps_G} {i : Int32} : q_aI (e_g s g) 162 i = if i < 0 ∨ 576 ≤ i.toNatClampNeg then none else some (s.2.1 162 i.toNatClampNeg) := e_aI t162
theorem l162 {s : e_S} {g : ps_G} : q_len (e_g s g) 162 = some (576 : Int32) := e_len t162
theorem u162 {s : e_S} {g : ps_G} {i v : Int32} : q_wI (e_g s g) 162 i v = if i < 0 ∨ 576 ≤ i.toNatClampNeg then none else some (e_g (sA s 162 (upd (s.2.1 162) i.toNatClampNeg v)) g) := e_wI t162 (by decide)
theorem t163 : e_tb[163]? = some (2, 8, []) := rfl
theorem a163 {s : e_S} {g : ps_G} {i : Int32} : q_aI (e_g s g) 163 i = if i < 0 ∨ 8 ≤ i.toNatClampNeg then none else some (s.2.1 163 i.toNatClampNeg) := e_aI t163
theorem l163 {s : e_S} {g : ps_G} : q_len (e_g s g) 163 = some (8 : Int32) := e_len t163
theorem u163 {s : e_S} {g : ps_G} {i v : Int32} : q_wI (e_g s g) 163 i v = if i < 0 ∨ 8 ≤ i.toNatClampNeg then none else some (e_g (sA s 163 (upd (s.2.1 163) i.toNatClampNeg v)) g) := e_wI t163 (by decide)
theorem t164 : e_tb[164]? = some (2, 320, []) := rfl
theorem a164 {s : e_S} {g : ps_G} {i : Int32} : q_aI (e_g s g) 164 i = if i < 0 ∨ 320 ≤ i.toNatClampNeg then none else some (s.2.1 164 i.toNatClampNeg) := e_aI t164
theorem l164 {s : e_S} {g : ps_G} : q_len (e_g s g) 164 = some (320 : Int32) := e_len t164
theorem u164 {s : e_S} {g : ps_G} {i v : Int32} : q_wI (e_g s g) 164 i v = if i < 0 ∨ 320 ≤ i.toNatClampNeg then none else some (e_g (sA s 164 (upd (s.2.1 164) i.toNatClampNeg v)) g) := e_wI t164 (by decide)
theorem t165 : e_tb[165]? = some (2, 320, []) := rfl
theorem a165 {s : e_S} {g : ps_G} {i : Int32} : q_aI (e_g s g) 165 i = if i < 0 ∨ 320 ≤ i.toNatClampNeg then none else some (s.2.1 165 i.toNatClampNeg) := e_aI t165
theorem l165 {s : e_S} {g : ps_G} : q_len (e_g s g) 165 = some (320 : Int32) := e_len t165
theorem u165 {s : e_S} {g : ps_G} {i v : Int32} : q_wI (e_g s g) 165 i v = if i < 0 ∨ 320 ≤ i.toNatClampNeg then none else some (e_g (sA s 165 (upd (s.2.1 165) i.toNatClampNeg v)) g) := e_wI t165 (by decide)
theorem t166 : e_tb[166]? = some (2, 320, []) := rfl
theorem a166 {s : e_S} {g : ps_G} {i : Int32} : q_aI (e_g s g) 166 i = if i < 0 ∨ 320 ≤ i.toNatClampNeg then none else some (s.2.1 166 i.toNatClampNeg) := e_aI t166
theorem l166 {s : e_S} {g : ps_G} : q_len (e_g s g) 166 = some (320 : Int32) := e_len t166
theorem u166 {s : e_S} {g : ps_G} {i v : Int32} : q_wI (e_g s g) 166 i v = if i < 0 ∨ 320 ≤ i.toNatClampNeg then none else some (e_g (sA s 166 (upd (s.2.1 166) i.toNatClampNeg v)) g) := e_wI t166 (by decide)
theorem t167 : e_tb[167]? = some (2, 420, []) := rfl
theorem a167 {s : e_S} {g : ps_G} {i : Int32} : q_aI (e_g s g) 167 i = if i < 0 ∨ 420 ≤ i.toNatClampNeg then none else some (s.2.1 167 i.toNatClampNeg) := e_aI t167
theorem l167 {s : e_S} {g : ps_G} : q_len (e_g s g) 167 = some (420 : Int32) := e_len t167
theorem u167 {s : e_S} {g : ps_G} {i v : Int32} : q_wI (e_g s g) 167 i v = if i < 0 ∨ 420 ≤ i.toNatClampNeg then none else some (e_g (sA s 167 (upd (s.2.1 167) i.toNatClampNeg v)) g) := e_wI t167 (by decide)
theorem t168 : e_tb[168]? = some (2, 420, []) := rfl
theorem a168 {s : e_S} {g : ps_G} {i : Int32} : q_aI (e_g s g) 168 i = if i < 0 ∨ 420 ≤ i.toNatClampNeg then none else some (s.2.1 168 i.toNatClampNeg) := e_aI t168
theorem l168 {s : e_S} {g : ps_G} : q_len (e_g s g) 168 = some (420 : Int32) := e_len t168
theorem u168 {s : e_S} {g : ps_G} {i v : Int32} : q_wI (e_g s g) 168 i v = if i < 0 ∨ 420 ≤ i.toNatClampNeg then none else some (e_g (sA s 168 (upd (s.2.1 168) i.toNatClampNeg v)) g) := e_wI t168 (by decide)
theorem t169 : e_tb[169]? = some (2, 420, []) := rfl
theorem a169 {s : e_S} {g : ps_G} {i : Int32} : q_aI (e_g s g) 169 i = if i < 0 ∨ 420 ≤ i.toNatClampNeg then none else some (s.2.1 169 i.toNatClampNeg) := e_aI t169
theorem l169 {s : e_S} {g : ps_G} : q_len (e_g s g) 169 = some (420 : Int32) := e_len t169
theorem u169 {s : e_S} {g : ps_G} {i v : Int32} : q_wI (e_g s g) 169 i v = if i < 0 ∨ 420 ≤ i.toNatClampNeg then none else some (e_g (sA s 169 (upd (s.2.1 169) i.toNatClampNeg v)) g) := e_wI t169 (by decide)
theorem t170 : e_tb[170]? = some (2, 420, []) := rfl
theorem a170 {s : e_S} {g : ps_G} {i : Int32} : q_aI (e_g s g) 170 i = if i < 0 ∨ 420 ≤ i.toNatClampNeg then none else some (s.2.1 170 i.toNatClampNeg) := e_aI t170
theorem l170 {s : e_S} {g : ps_G} : q_len (e_g s g) 170 = some (420 : Int32) := e_len t170
theorem u170 {s : e_S} {g : ps_G} {i v : Int32} : q_wI (e_g s g) 170 i v = if i < 0 ∨ 420 ≤ i.toNatClampNeg then none else some (e_g (sA s 170 (upd (s.2.1 170) i.toNatClampNeg v)) g) := e_wI t170 (by decide)
theorem t171 : e_tb[171]? = some (2, 256, []) := rfl
theorem a171 {s : e_S} {g : ps_G} {i : Int32} : q_aI (e_g s g) 171 i = if i < 0 ∨ 256 ≤ i.toNatClampNeg then none else some (s.2.1 171 i.toNatClampNeg) := e_aI t171
theorem l171 {s : e_S} {g : ps_G} : q_len (e_g s g) 171 = some (256 : Int32) := e_len t171
theorem u171 {s : e_S} {g : ps_G} {i v : Int32} : q_wI (e_g s g) 171 i v = if i < 0 ∨ 256 ≤ i.toNatClampNeg then none else some (e_g (sA s 171 (upd (s.2.1 171) i.toNatClampNeg v)) g) := e_wI t171 (by decide)
theorem t172 : e_tb[172]? = some (2, 256, []) := rfl
theorem a172 {s : e_S} {g : ps_G} {i : Int32} : q_aI (e_g s g) 172 i = if i < 0 ∨ 256 ≤ i.toNatClampNeg then none else some (s.2.1 172 i.toNatClampNeg) := e_aI t172
theorem l172 {s : e_S} {g : ps_G} : q_len (e_g s g) 172 = some (256 : Int32) := e_len t172
theorem u172 {s : e_S} {g : ps_G} {i v : Int32} : q_wI (e_g s g) 172 i v = if i < 0 ∨ 256 ≤ i.toNatClampNeg then none else some (e_g (sA s 172 (upd (s.2.1 172) i.toNatClampNeg v)) g) := e_wI t172 (by decide)
theorem t173 : e_tb[173]? = some (2, 40, []) := rfl
theorem a173 {s : e_S} {g : ps_G} {i : Int32} : q_aI (e_g s g) 173 i = if i < 0 ∨ 40 ≤ i.toNatClampNeg then none else some (s.2.1 173 i.toNatClampNeg) := e_aI t173
theorem l173 {s : e_S} {g : ps_G} : q_len (e_g s g) 173 = some (40 : Int32) := e_len t173
theorem u173 {s : e_S} {g : ps_G} {i v : Int32} : q_wI (e_g s g) 173 i v = if i < 0 ∨ 40 ≤ i.toNatClampNeg then none else some (e_g (sA s 173 (upd (s.2.1 173) i.toNatClampNeg v)) g) := e_wI t173 (by decide)
theorem t174 : e_tb[174]? = some (2, 3, []) := rfl
theorem a174 {s : e_S} {g : ps_G} {i : Int32} : q_aI (e_g s g) 174 i = if i < 0 ∨ 3 ≤ i.toNatClampNeg then none else some (s.2.1 174 i.toNatClampNeg) := e_aI t174
theorem l174 {s : e_S} {g : ps_G} : q_len (e_g s g) 174 = some (3 : Int32) := e_len t174
theorem u174 {s : e_S} {g : ps_G} {i v : Int32} : q_wI (e_g s g) 174 i v = if i < 0 ∨ 3 ≤ i.toNatClampNeg then none else some (e_g (sA s 174 (upd (s.2.1 174) i.toNatClampNeg v)) g) := e_wI t174 (by decide)
theorem t175 : e_tb[175]? = some (2, 576, []) := rfl
theorem a175 {s : e_S} {g : ps_G} {i : Int32} : q_aI (e_g s g) 175 i = if i < 0 ∨ 576 ≤ i.toNatClampNeg then none else some (s.2.1 175 i.toNatClampNeg) := e_aI t175
theorem l175 {s : e_S} {g : ps_G} : q_len (e_g s g) 175 = some (576 : Int32) := e_len t175
theorem u175 {s : e_S} {g : ps_G} {i v : Int32} : q_wI (e_g s g) 175 i v = if i < 0 ∨ 576 ≤ i.toNatClampNeg then none else some (e_g (sA s 175 (upd (s.2.1 175) i.toNatClampNeg v)) g) := e_wI t175 (by decide)
theorem t176 : e_tb[176]? = some (2, 16, []) := rfl
theorem a176 {s : e_S} {g : ps_G} {i : Int32} : q_aI (e_g s g) 176 i = if i < 0 ∨ 16 ≤ i.toNatClampNeg then none else some (s.2.1 176 i.toNatClampNeg) := e_aI t176
theorem l176 {s : e_S} {g : ps_G} : q_len (e_g s g) 176 = some (16 : Int32) := e_len t176
theorem u176 {s : e_S} {g : ps_G} {i v : Int32} : q_wI (e_g s g) 176 i v = if i < 0 ∨ 16 ≤ i.toNatClampNeg then none else some (e_g (sA s 176 (upd (s.2.1 176) i.toNatClampNeg v)) g) := e_wI t176 (by decide)
theorem t177 : e_tb[177]? = some (2, 16, []) := rfl
theorem a177 {s : e_S} {g : ps_G} {i : Int32} : q_aI (e_g s g) 177 i = if i < 0 ∨ 16 ≤ i.toNatClampNeg then none else some (s.2.1 177 i.toNatClampNeg) := e_aI t177
theorem l177 {s : e_S} {g : ps_G} : q_len (e_g s g) 177 = some (16 : Int32) := e_len t177
theorem u177 {s : e_S} {g : ps_G} {i v : Int32} : q_wI (e_g s g) 177 i v = if i < 0 ∨ 16 ≤ i.toNatClampNeg then none else some (e_g (sA s 177 (upd (s.2.1 177) i.toNatClampNeg v)) g) := e_wI t177 (by decide)
theorem t178 : e_tb[178]? = some (2, 16, []) := rfl
theorem a178 {s : e_S} {g : ps_G} {i : Int32} : q_aI (e_g s g) 178 i = if i < 0 ∨ 16 ≤ i.toNatClampNeg then none else some (s.2.1 178 i.toNatClampNeg) := e_aI t178
theorem l178 {s : e_S} {g : ps_G} : q_len (e_g s g) 178 = some (16 : Int32) := e_len t178
theorem u178 {s : e_S} {g : ps_G} {i v : Int32} : q_wI (e_g s g) 178 i v = if i < 0 ∨ 16 ≤ i.toNatClampNeg then none else some (e_g (sA s 178 (upd (s.2.1 178) i.toNatClampNeg v)) g) := e_wI t178 (by decide)
theorem t179 : e_tb[179]? = some (2, 1728, []) := rfl
theorem a179 {s : e_S} {g : ps_G} {i : Int32} : q_aI (e_g s g) 179 i = if i < 0 ∨ 1728 ≤ i.toNatClampNeg then none else some (s.2.1 179 i.toNatClampNeg) := e_aI t179
theorem l179 {s : e_S} {g : ps_G} : q_len (e_g s g) 179 = some (1728 : Int32) := e_len t179
theorem u179 {s : e_S} {g : ps_G} {i v : Int32} : q_wI (e_g s g) 179 i v = if i < 0 ∨ 1728 ≤ i.toNatClampNeg then none else some (e_g (sA s 179 (upd (s.2.1 179) i.toNatClampNeg v)) g) := e_wI t179 (by decide)
theorem t180 : e_tb[180]? = some (2, 4, []) := rfl
theorem a180 {s : e_S} {g : ps_G} {i : Int32} : q_aI (e_g s g) 180 i = if i < 0 ∨ 4 ≤ i.toNatClampNeg then none else some (s.2.1 180 i.toNatClampNeg) := e_aI t180
theorem l180 {s : e_S} {g : ps_G} : q_len (e_g s g) 180 = some (4 : Int32) := e_len t180
theorem u180 {s : e_S} {g : ps_G} {i v : Int32} : q_wI (e_g s g) 180 i v = if i < 0 ∨ 4 ≤ i.toNatClampNeg then none else some (e_g (sA s 180 (upd (s.2.1 180) i.toNatClampNeg v)) g) := e_wI t180 (by decide)
theorem t181 : e_tb[181]? = some (2, 576, []) := rfl
theorem a181 {s : e_S} {g : ps_G} {i : Int32} : q_aI (e_g s g) 181 i = if i < 0 ∨ 576 ≤ i.toNatClampNeg then none else some (s.2.1 181 i.toNatClampNeg) := e_aI t181
theorem l181 {s : e_S} {g : ps_G} : q_len (e_g s g) 181 = some (576 : Int32) := e_len t181
theorem u181 {s : e_S} {g : ps_G} {i v : Int32} : q_wI (e_g s g) 181 i v = if i < 0 ∨ 576 ≤ i.toNatClampNeg then none else some (e_g (sA s 181 (upd (s.2.1 181) i.toNatClampNeg v)) g) := e_wI t181 (by decide)
theorem t182 : e_tb[182]? = some (2, 29, []) := rfl
theorem a182 {s : e_S} {g : ps_G} {i : Int32} : q_aI (e_g s g) 182 i = if i < 0 ∨ 29 ≤ i.toNatClampNeg then none else some (s.2.1 182 i.toNatClampNeg) := e_aI t182
theorem l182 {s : e_S} {g : ps_G} : q_len (e_g s g) 182 = some (29 : Int32) := e_len t182
theorem u182 {s : e_S} {g : ps_G} {i v : Int32} : q_wI (e_g s g) 182 i v = if i < 0 ∨ 29 ≤ i.toNatClampNeg then none else some (e_g (sA s 182 (upd (s.2.1 182) i.toNatClampNeg v)) g) := e_wI t182 (by decide)
theorem t183 : e_tb[183]? = some (2, 29, []) := rfl
theorem a183 {s : e_S} {g : ps_G} {i : Int32} : q_aI (e_g s g) 183 i = if i < 0 ∨ 29 ≤ i.toNatClampNeg then none else some (s.2.1 183 i.toNatClampNeg) := e_aI t183
theorem l183 {s : e_S} {g : ps_G} : q_len (e_g s g) 183 = some (29 : Int32) := e_len t183
theorem u183 {s : e_S} {g : ps_G} {i v : Int32} : q_wI (e_g s g) 183 i v = if i < 0 ∨ 29 ≤ i.toNatClampNeg then none else some (e_g (sA s 183 (upd (s.2.1 183) i.toNatClampNeg v)) g) := e_wI t183 (by decide)
theorem t184 : e_tb[184]? = some (2, 30, []) := rfl
theorem a184 {s : e_S} {g : ps_G} {i : Int32} : q_aI (e_g s g) 184 i = if i < 0 ∨ 30 ≤ i.toNatClampNeg then none else some (s.2.1 184 i.toNatClampNeg) := e_aI t184
theorem l184 {s : e_S} {g : ps_G} : q_len (e_g s g) 184 = some (30 : Int32) := e_len t184
theorem u184 {s : e_S} {g : ps_G} {i v : Int32} : q_wI (e_g s g) 184 i v = if i < 0 ∨ 30 ≤ i.toNatClampNeg then none else some (e_g (sA s 184 (upd (s.2.1 184) i.toNatClampNeg v)) g) := e_wI t184 (by decide)
theorem t185 : e_tb[185]? = some (2, 30, []) := rfl
theorem a185 {s : e_S} {g : ps_G} {i : Int32} : q_aI (e_g s g) 185 i = if i < 0 ∨ 30 ≤ i.toNatClampNeg then none else some (s.2.1 185 i.toNatClampNeg) := e_aI t185
theorem l185 {s : e_S} {g : ps_G} : q_len (e_g s g) 185 = some (30 : Int32) := e_len t185
theorem u185 {s : e_S} {g : ps_G} {i v : Int32} : q_wI (e_g s g) 185 i v = if i < 0 ∨ 30 ≤ i.toNatClampNeg then none else some (e_g (sA s 185 (upd (s.2.1 185) i.toNatClampNeg v)) g) := e_wI t185 (by decide)
theorem t186 : e_tb[186]? = some (2, 19, []) := rfl
theorem a186 {s : e_S} {g : ps_G} {i : Int32} : q_aI (e_g s g) 186 i = if i < 0 ∨ 19 ≤ i.toNatClampNeg then none else some (s.2.1 186 i.toNatClampNeg) := e_aI t186
theorem l186 {s : e_S} {g : ps_G} : q_len (e_g s g) 186 = some (19 : Int32) := e_len t186
theorem u186 {s : e_S} {g : ps_G} {i v : Int32} : q_wI (e_g s g) 186 i v = if i < 0 ∨ 19 ≤ i.toNatClampNeg then none else some (e_g (sA s 186 (upd (s.2.1 186) i.toNatClampNeg v)) g) := e_wI t186 (by decide)
theorem t187 : e_tb[187]? = some (2, 2400, []) := rfl
theorem a187 {s : e_S} {g : ps_G} {i : Int32} : q_aI (e_g s g) 187 i = if i < 0 ∨ 2400 ≤ i.toNatClampNeg then none else some (s.2.1 187 i.toNatClampNeg) := e_aI t187
theorem l187 {s : e_S} {g : ps_G} : q_len (e_g s g) 187 = some (2400 : Int32) := e_len t187
theorem u187 {s : e_S} {g : ps_G} {i v : Int32} : q_wI (e_g s g) 187 i v = if i < 0 ∨ 2400 ≤ i.toNatClampNeg then none else some (e_g (sA s 187 (upd (s.2.1 187) i.toNatClampNeg v)) g) := e_wI t187 (by decide)
theorem t188 : e_tb[188]? = some (2, 8000, []) := rfl
theorem a188 {s : e_S} {g : ps_G} {i : Int32} : q_aI (e_g s g) 188 i = if i < 0 ∨ 8000 ≤ i.toNatClampNeg then none else some (s.2.1 188 i.toNatClampNeg) := e_aI t188
theorem l188 {s : e_S} {g : ps_G} : q_len (e_g s g) 188 = some (8000 : Int32) := e_len t188
theorem u188 {s : e_S} {g : ps_G} {i v : Int32} : q_wI (e_g s g) 188 i v = if i < 0 ∨ 8000 ≤ i.toNatClampNeg then none else some (e_g (sA s 188 (upd (s.2.1 188) i.toNatClampNeg v)) g) := e_wI t188 (by decide)
theorem t189 : e_tb[189]? = some (2, 256, []) := rfl
theorem a189 {s : e_S} {g : ps_G} {i : Int32} : q_aI (e_g s g) 189 i = if i < 0 ∨ 256 ≤ i.toNatClampNeg then none else some (s.2.1 189 i.toNatClampNeg) := e_aI t189
theorem l189 {s : e_S} {g : ps_G} : q_len (e_g s g) 189 = some (256 : Int32) := e_len t189
theorem u189 {s : e_S} {g : ps_G} {i v : Int32} : q_wI (e_g s g) 189 i v = if i < 0 ∨ 256 ≤ i.toNatClampNeg then none else some (e_g (sA s 189 (upd (s.2.1 189) i.toNatClampNeg v)) g) := e_wI t189 (by decide)
theorem t190 : e_tb[190]? = some (2, 256, []) := rfl
theorem a190 {s : e_S} {g : ps_G} {i : Int32} : q_aI (e_g s g) 190 i = if i < 0 ∨ 256 ≤ i.toNatClampNeg then none else some (s.2.1 190 i.toNatClampNeg) := e_aI t190
theorem l190 {s : e_S} {g : ps_G} : q_len (e_g s g) 190 = some (256 : Int32) := e_len t190
theorem u190 {s : e_S} {g : ps_G} {i v : Int32} : q_wI (e_g s g) 190 i v = if i < 0 ∨ 256 ≤ i.toNatClampNeg then none else some (e_g (sA s 190 (upd (s.2.1 190) i.toNatClampNeg v)) g) := e_wI t190 (by decide)
theorem t191 : e_tb[191]? = some (2, 48, []) := rfl
theorem a191 {s : e_S} {g : ps_G} {i : Int32} : q_aI (e_g s g) 191 i = if i < 0 ∨ 48 ≤ i.toNatClampNeg then none else some (s.2.1 191 i.toNatClampNeg) := e_aI t191
theorem l191 {s : e_S} {g : ps_G} : q_len (e_g s g) 191 = some (48 : Int32) := e_len t191
theorem u191 {s : e_S} {g : ps_G} {i v : Int32} : q_wI (e_g s g) 191 i v = if i < 0 ∨ 48 ≤ i.toNatClampNeg then none else some (e_g (sA s 191 (upd (s.2.1 191) i.toNatClampNeg v)) g) := e_wI t191 (by decide)
theorem t192 : e_tb[192]? = some (2, 960, []) := rfl
theorem a192 {s : e_S} {g : ps_G} {i : Int32} : q_aI (e_g s g) 192 i = if i < 0 ∨ 960 ≤ i.toNatClampNeg then none else some (s.2.1 192 i.toNatClampNeg) := e_aI t192
theorem l192 {s : e_S} {g : ps_G} : q_len (e_g s g) 192 = some (960 : Int32) := e_len t192
theorem u192 {s : e_S} {g : ps_G} {i v : Int32} : q_wI (e_g s g) 192 i v = if i < 0 ∨ 960 ≤ i.toNatClampNeg then none else some (e_g (sA s 192 (upd (s.2.1 192) i.toNatClampNeg v)) g) := e_wI t192 (by decide)
theorem t193 : e_tb[193]? = some (2, 340, []) := rfl
theorem a193 {s : e_S} {g : ps_G} {i : Int32} : q_aI (e_g s g) 193 i = if i < 0 ∨ 340 ≤ i.toNatClampNeg then none else some (s.2.1 193 i.toNatClampNeg) := e_aI t193
theorem l193 {s : e_S} {g : ps_G} : q_len (e_g s g) 193 = some (340 : Int32) := e_len t193
theorem u193 {s : e_S} {g : ps_G} {i v : Int32} : q_wI (e_g s g) 193 i v = if i < 0 ∨ 340 ≤ i.toNatClampNeg then none else some (e_g (sA s 193 (upd (s.2.1 193) i.toNatClampNeg v)) g) := e_wI t193 (by decide)
theorem t194 : e_tb[194]? = some (4, 1, []) := rfl
theorem a194 {s : e_S} {g : ps_G} {i : Int32} : q_aL (e_g s g) 194 i = if i < 0 ∨ 1 ≤ i.toNatClampNeg then none else some (s.2.2.2 194 i.toNatClampNeg) := e_aL t194
theorem u194 {s : e_S} {g : ps_G} {i : Int32} {v : Int64} : q_wL (e_g s g) 194 i v = if i < 0 ∨ 1 ≤ i.toNatClampNeg then none else some (e_g (sL s 194 (vp_updL (s.2.2.2 194) i.toNatClampNeg v)) g) := e_wL t194
