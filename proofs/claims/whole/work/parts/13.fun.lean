/-! ===== the functions that the methods are: cells read and written, loops ===== -/
def ps_subl : ps_LV → ps_LV → Prop
  | [], _ => True
  | q :: t, lv => ps_get lv q.1 = some q.2 ∧ ps_subl t lv
theorem ps_subl_mem : ∀ {l lv : ps_LV}, ps_subl l lv → ∀ q ∈ l, ps_get lv q.1 = some q.2
  | [], _, _, q, hq => by cases hq
  | p :: t, lv, h, q, hq => by
    rcases List.mem_cons.mp hq with e | e
    · rw [e]; exact h.1
    · exact ps_subl_mem h.2 q e
theorem ps_weak {M : ps_M} {d pc : Nat} {lv lv' : ps_LV} {st : List Value} {g : ps_G} {Q : ps_Rs → ps_G → Prop} (k : ps_At M d pc lv' st g Q) (hs : ps_subl lv' lv) : ps_At M d pc lv st g Q := by
  obtain ⟨r, g', hQ, h1, h2, h3⟩ := k
  refine ⟨r, g', hQ, h1, h2, fun X p l e R s m args below meth c H locs ls n0 s0 hK hR hS hb hl a1 a2 a3 a4 a5 a6 => h3 X p l e R s m args below meth c H locs ls n0 s0 hK hR hS hb ⟨hl.1, hl.2.1, fun q hq => ?_⟩ a1 a2 a3 a4 a5 a6⟩
  obtain ⟨q', hq', rfl⟩ := List.mem_map.mp hq
  exact ps_get_at hl (ps_subl_mem hs q' hq')
theorem ps_at_eq {M : ps_M} {d pc pc' : Nat} {lv : ps_LV} {st : List Value} {g : ps_G} {Q : ps_Rs → ps_G → Prop} (e : pc = pc') (k : ps_At M d pc' lv st g Q) : ps_At M d pc lv st g Q := by rw [e]; exact k
theorem q_be {α β : Type} {x : Option α} {f : α → Option β} {b : β} (h : x.bind f = some b) : ∃ a, x = some a ∧ f a = some b := by
  cases x with
  | none => cases h
  | some a => exact ⟨a, rfl, h⟩
theorem q_ifp {α : Type} {c : Prop} {i : Decidable c} {a b r : α} (hc : c) (h : @ite α c i a b = r) : a = r := by rw [if_pos hc] at h; exact h
theorem q_ifn {α : Type} {c : Prop} {i : Decidable c} {a b r : α} (hc : ¬ c) (h : @ite α c i a b = r) : b = r := by rw [if_neg hc] at h; exact h
def q_ush (x y : Int32) : Int32 := (x.toUInt32 >>> (y.toUInt32 &&& Int32.toUInt32 31)).toInt32
def q_shl (x y : Int32) : Int32 := x <<< (y &&& 31)
def q_shr (x y : Int32) : Int32 := x >>> (y &&& 31)
def q_rem (x y : Int32) : Int32 := x - x / y * y
def q_lshl (x : Int64) (y : Int32) : Int64 := x <<< (y.toInt64 &&& 63)
def q_I (k : Nat) (e : ps_E) : Option (Nat × (Nat → Int32)) := match e with
  | .inl (c, (N, .inl f)) => if c = k then some (N, f) else none
  | _ => none
def q_L (e : ps_E) : Option (Nat × (Nat → Int64)) := match e with
  | .inl (c, (N, .inr (.inl f))) => if c = 1 then some (N, f) else none
  | _ => none
def q_R (e : ps_E) : Option (Nat × Nat × (Nat → Option Nat)) := match e with
  | .inl (c, (N, .inr (.inr (.inr (.inr f))))) => if 3 ≤ c ∧ c < 6 then some (c, N, f) else none
  | _ => none
def q_O (ci : Nat) (e : ps_E) : Option (List Value) := match e with
  | .inr (c, fs) => if c = ci then some fs else none
  | _ => none
theorem q_I_e {k : Nat} {e : ps_E} {x : Nat × (Nat → Int32)} (h : q_I k e = some x) : e = .inl (k, (x.1, .inl x.2)) := by
  unfold q_I at h
  split at h
  · split at h
    · rename_i hc
      cases h
      rw [hc]
    · cases h
  · cases h
theorem q_L_e {e : ps_E} {x : Nat × (Nat → Int64)} (h : q_L e = some x) : e = .inl (1, (x.1, .inr (.inl x.2))) := by
  unfold q_L at h
  split at h
  · split at h
    · rename_i hc
      cases h
      rw [hc]
    · cases h
  · cases h
theorem q_R_e {e : ps_E} {x : Nat × Nat × (Nat → Option Nat)} (h : q_R e = some x) : e = .inl (x.1, (x.2.1, .inr (.inr (.inr (.inr x.2.2))))) ∧ 3 ≤ x.1 ∧ x.1 < 6 := by
  unfold q_R at h
  split at h
  · split at h
    · rename_i hc
      cases h
      exact ⟨rfl, hc⟩
    · cases h
  · cases h
theorem q_O_e {ci : Nat} {e : ps_E} {fs : List Value} (h : q_O ci e = some fs) : e = .inr (ci, fs) := by
  unfold q_O at h
  split at h
  · split at h
    · rename_i hc
      cases h
      rw [hc]
    · cases h
  · cases h
theorem q_in_e {i : Int32} {N : Nat} (h : ¬ (i < 0 ∨ N ≤ i.toNatClampNeg)) : vp_in i N := h
def q_aI (g : ps_G) (a : Nat) (i : Int32) : Option Int32 := (q_I 0 (g.2.2 a)).bind fun x => if i < 0 ∨ x.1 ≤ i.toNatClampNeg then none else some (x.2 i.toNatClampNeg)
def q_aB (g : ps_G) (a : Nat) (i : Int32) : Option Int32 := (q_I 2 (g.2.2 a)).bind fun x => if i < 0 ∨ x.1 ≤ i.toNatClampNeg then none else some (x.2 i.toNatClampNeg)
def q_aL (g : ps_G) (a : Nat) (i : Int32) : Option Int64 := (q_L (g.2.2 a)).bind fun x => if i < 0 ∨ x.1 ≤ i.toNatClampNeg then none else some (x.2 i.toNatClampNeg)
def q_aR (g : ps_G) (a : Nat) (i : Int32) : Option (Option Nat) := (q_R (g.2.2 a)).bind fun x => if i < 0 ∨ x.2.1 ≤ i.toNatClampNeg then none else some (x.2.2 i.toNatClampNeg)
theorem q_ite_e {α : Type} {c : Prop} {i : Decidable c} {a b : α} (h : (if c then none else some a) = some b) : ¬ c ∧ a = b := by
  by_cases hc : c
  · rw [if_pos hc] at h; cases h
  · rw [if_neg hc] at h; exact ⟨hc, Option.some.inj h⟩
theorem q_aI_e {g : ps_G} {a : Nat} {i v : Int32} (h : q_aI g a i = some v) : ∃ N f, g.2.2 a = .inl (0, (N, .inl f)) ∧ vp_in i N ∧ f i.toNatClampNeg = v := by
  obtain ⟨x, h1, h2⟩ := q_be h
  obtain ⟨h3, h4⟩ := q_ite_e h2
  exact ⟨_, _, q_I_e h1, h3, h4⟩
theorem q_aB_e {g : ps_G} {a : Nat} {i v : Int32} (h : q_aB g a i = some v) : ∃ N f, g.2.2 a = .inl (2, (N, .inl f)) ∧ vp_in i N ∧ f i.toNatClampNeg = v := by
  obtain ⟨x, h1, h2⟩ := q_be h
  obtain ⟨h3, h4⟩ := q_ite_e h2
  exact ⟨_, _, q_I_e h1, h3, h4⟩
theorem q_aL_e {g : ps_G} {a : Nat} {i : Int32} {v : Int64} (h : q_aL g a i = some v) : ∃ N f, g.2.2 a = .inl (1, (N, .inr (.inl f))) ∧ vp_in i N ∧ f i.toNatClampNeg = v := by
  obtain ⟨x, h1, h2⟩ := q_be h
  obtain ⟨h3, h4⟩ := q_ite_e h2
  exact ⟨_, _, q_L_e h1, h3, h4⟩
theorem q_aR_e {g : ps_G} {a : Nat} {i : Int32} {v : Option Nat} (h : q_aR g a i = some v) : ∃ k N f, g.2.2 a = .inl (k, (N, .inr (.inr (.inr (.inr f))))) ∧ 3 ≤ k ∧ k < 6 ∧ vp_in i N ∧ f i.toNatClampNeg = v := by
  obtain ⟨x, h1, h2⟩ := q_be h
  obtain ⟨h3, h4⟩ := q_ite_e h2
  obtain ⟨h5, h6, h7⟩ := q_R_e h1
  exact ⟨_, _, _, h5, h6, h7, h3, h4⟩
def q_wI (g : ps_G) (a : Nat) (i v : Int32) : Option ps_G := (q_I 0 (g.2.2 a)).bind fun x => if i < 0 ∨ x.1 ≤ i.toNatClampNeg ∨ a < 8 then none else some (ps_up g a (.inl (0, (x.1, .inl (upd x.2 i.toNatClampNeg v)))))
def q_wB (g : ps_G) (a : Nat) (i v : Int32) : Option ps_G := (q_I 2 (g.2.2 a)).bind fun x => if i < 0 ∨ x.1 ≤ i.toNatClampNeg then none else some (ps_up g a (.inl (2, (x.1, .inl (upd x.2 i.toNatClampNeg (vp_nar .boolean v))))))
def q_wL (g : ps_G) (a : Nat) (i : Int32) (v : Int64) : Option ps_G := (q_L (g.2.2 a)).bind fun x => if i < 0 ∨ x.1 ≤ i.toNatClampNeg then none else some (ps_up g a (.inl (1, (x.1, .inr (.inl (vp_updL x.2 i.toNatClampNeg v))))))
theorem q_wI_e {g g' : ps_G} {a : Nat} {i v : Int32} (h : q_wI g a i v = some g') : ∃ N f, g.2.2 a = .inl (0, (N, .inl f)) ∧ 8 ≤ a ∧ vp_in i N ∧ ps_up g a (.inl (0, (N, .inl (upd f i.toNatClampNeg v)))) = g' := by
  obtain ⟨x, h1, h2⟩ := q_be h
  obtain ⟨h3, h4⟩ := q_ite_e h2
  exact ⟨_, _, q_I_e h1, Nat.le_of_not_lt (fun h => h3 (Or.inr (Or.inr h))), fun h => h3 (h.elim Or.inl (fun h => Or.inr (Or.inl h))), h4⟩
theorem q_wB_e {g g' : ps_G} {a : Nat} {i v : Int32} (h : q_wB g a i v = some g') : ∃ N f, g.2.2 a = .inl (2, (N, .inl f)) ∧ vp_in i N ∧ ps_up g a (.inl (2, (N, .inl (upd f i.toNatClampNeg (vp_nar .boolean v))))) = g' := by
  obtain ⟨x, h1, h2⟩ := q_be h
  obtain ⟨h3, h4⟩ := q_ite_e h2
  exact ⟨_, _, q_I_e h1, h3, h4⟩
theorem q_wL_e {g g' : ps_G} {a : Nat} {i : Int32} {v : Int64} (h : q_wL g a i v = some g') : ∃ N f, g.2.2 a = .inl (1, (N, .inr (.inl f))) ∧ vp_in i N ∧ ps_up g a (.inl (1, (N, .inr (.inl (vp_updL f i.toNatClampNeg v))))) = g' := by
  obtain ⟨x, h1, h2⟩ := q_be h
  obtain ⟨h3, h4⟩ := q_ite_e h2
  exact ⟨_, _, q_L_e h1, h3, h4⟩
def q_okR (k : Nat) (g : ps_G) (o : Option Nat) : Bool := match o with
  | none => k == 3 || k == 4
  | some b => (match g.2.2 b with
    | .inr q => (k == 3 && q.1 == 4) || (k == 4 && q.1 == 9)
    | _ => false)
def q_wR (g : ps_G) (a : Nat) (i : Int32) (o : Option Nat) : Option ps_G := (q_R (g.2.2 a)).bind fun x => if i < 0 ∨ x.2.1 ≤ i.toNatClampNeg ∨ q_okR x.1 g o = false then none else some (ps_up g a (.inl (x.1, (x.2.1, .inr (.inr (.inr (.inr (va_up x.2.2 i.toNatClampNeg o))))))))
theorem q_wR_e {g g' : ps_G} {a : Nat} {i : Int32} {o : Option Nat} (h : q_wR g a i o = some g') : ∃ k N f, g.2.2 a = .inl (k, (N, .inr (.inr (.inr (.inr f))))) ∧ vp_in i N ∧ (o = none → (k = 3 ∨ k = 4)) ∧ (∀ b, o = some b → ∃ ci vs, g.2.2 b = .inr (ci, vs) ∧ ((k = 3 ∧ ci = 4) ∨ (k = 4 ∧ ci = 9))) ∧ ps_up g a (.inl (k, (N, .inr (.inr (.inr (.inr (va_up f i.toNatClampNeg o))))))) = g' := by
  obtain ⟨x, h1, h2⟩ := q_be h
  obtain ⟨h3, h4⟩ := q_ite_e h2
  obtain ⟨h5, h6, h7⟩ := q_R_e h1
  have h8 : q_okR x.1 g o = true := by
    cases e : q_okR x.1 g o with
    | true => rfl
    | false => exact absurd (Or.inr (Or.inr e)) h3
  refine ⟨_, _, _, h5, fun h => h3 (h.elim Or.inl (fun h => Or.inr (Or.inl h))), fun e => ?_, fun b e => ?_, h4⟩
  · rw [e] at h8
    simpa [q_okR] using h8
  · rw [e] at h8
    unfold q_okR at h8
    dsimp only at h8
    cases e9 : g.2.2 b with
    | inl z => rw [e9] at h8; cases h8
    | inr z =>
      rw [e9] at h8
      exact ⟨z.1, z.2, rfl, by simpa using h8⟩
def q_len (g : ps_G) (a : Nat) : Option Int32 := match g.2.2 a with
  | .inl x => if x.1 < 6 then some (Int32.ofNat x.2.1) else none
  | _ => none
theorem q_len_e {g : ps_G} {a : Nat} {v : Int32} (h : q_len g a = some v) : ∃ k x, g.2.2 a = .inl (k, x) ∧ k < 6 ∧ Int32.ofNat x.1 = v := by
  unfold q_len at h
  split at h
  · rename_i x e
    split at h
    · rename_i hc
      exact ⟨x.1, x.2, e, hc, Option.some.inj h⟩
    · cases h
  · cases h
def q_fI (ci k : Nat) (g : ps_G) (a : Nat) : Option Int32 := (q_O ci (g.2.2 a)).bind fun fs => match fs[k]? with
  | some (.int x) => some x
  | _ => none
def q_fR (ci k : Nat) (g : ps_G) (a : Nat) : Option (Option Nat) := (q_O ci (g.2.2 a)).bind fun fs => match fs[k]? with
  | some (.ref x) => some (some x)
  | some .null => some none
  | _ => none
theorem q_fI_e {ci k : Nat} {g : ps_G} {a : Nat} {x : Int32} (h : q_fI ci k g a = some x) : ∃ fs, g.2.2 a = .inr (ci, fs) ∧ fs[k]? = some (.int x) := by
  obtain ⟨fs, h1, h2⟩ := q_be h
  refine ⟨fs, q_O_e h1, ?_⟩
  split at h2
  · rename_i e; cases h2; exact e
  · cases h2
theorem q_fR_e {ci k : Nat} {g : ps_G} {a : Nat} {x : Option Nat} (h : q_fR ci k g a = some x) : ∃ fs, g.2.2 a = .inr (ci, fs) ∧ fs[k]? = some (va_rf x) := by
  obtain ⟨fs, h1, h2⟩ := q_be h
  refine ⟨fs, q_O_e h1, ?_⟩
  split at h2
  · rename_i e; cases h2; exact e
  · rename_i e; cases h2; exact e
  · cases h2
def q_sV (ci k : Nat) (g : ps_G) (a : Nat) (v : Value) : Option ps_G := (q_O ci (g.2.2 a)).bind fun fs => if fs.length ≤ k then none else some (ps_up g a (.inr (ci, fs.set k v)))
def q_sI (ci k : Nat) (g : ps_G) (a : Nat) (x : Int32) : Option ps_G := q_sV ci k g a (.int x)
def q_sB (ci k : Nat) (g : ps_G) (a : Nat) (x : Int32) : Option ps_G := if ¬ (x = 0 ∨ x = 1) then none else q_sV ci k g a (.int x)
def q_sR (ci k : Nat) (g : ps_G) (a : Nat) (x : Option Nat) : Option ps_G := q_sV ci k g a (va_rf x)
theorem q_sV_e {ci k : Nat} {g g' : ps_G} {a : Nat} {v : Value} (h : q_sV ci k g a v = some g') : ∃ fs, g.2.2 a = .inr (ci, fs) ∧ k < fs.length ∧ ps_up g a (.inr (ci, fs.set k v)) = g' := by
  obtain ⟨fs, h1, h2⟩ := q_be h
  obtain ⟨h3, h4⟩ := q_ite_e h2
  exact ⟨fs, q_O_e h1, Nat.lt_of_not_le h3, h4⟩
theorem q_sI_e {ci k : Nat} {g g' : ps_G} {a : Nat} {x : Int32} (h : q_sI ci k g a x = some g') : ∃ fs, g.2.2 a = .inr (ci, fs) ∧ k < fs.length ∧ ps_up g a (.inr (ci, fs.set k (.int x))) = g' := q_sV_e h
theorem q_sR_e {ci k : Nat} {g g' : ps_G} {a : Nat} {x : Option Nat} (h : q_sR ci k g a x = some g') : ∃ fs, g.2.2 a = .inr (ci, fs) ∧ k < fs.length ∧ ps_up g a (.inr (ci, fs.set k (va_rf x))) = g' := q_sV_e h
theorem q_sB_e {ci k : Nat} {g g' : ps_G} {a : Nat} {x : Int32} (h : q_sB ci k g a x = some g') : ∃ fs, g.2.2 a = .inr (ci, fs) ∧ k < fs.length ∧ (narrow .boolean (.int x) = .int x ∧ fits .boolean (.int x) = true) ∧ ps_up g a (.inr (ci, fs.set k (.int x))) = g' := by
  unfold q_sB at h
  split at h
  · cases h
  · rename_i hc
    obtain ⟨fs, h1, h2, h3⟩ := q_sV_e h
    refine ⟨fs, h1, h2, ?_, h3⟩
    rcases Classical.not_not.mp hc with e | e <;> rw [e] <;> exact ⟨by decide, by decide⟩
theorem q_nro {n : String} {o : Option Nat} : narrow (.object n) (va_rf o) = va_rf o := by cases o <;> rfl
theorem q_nra {t : FieldType} {o : Option Nat} : narrow (.array t) (va_rf o) = va_rf o := by cases o <;> rfl
theorem q_fto {n : String} {o : Option Nat} : fits (.object n) (va_rf o) = true := by cases o <;> rfl
theorem q_fta {t : FieldType} {o : Option Nat} : fits (.array t) (va_rf o) = true := by cases o <;> rfl
def q_ob (ci : Nat) (g : ps_G) (a : Nat) : Option Unit := (q_O ci (g.2.2 a)).bind fun _ => some ()
theorem q_ob_e {ci : Nat} {g : ps_G} {a : Nat} {u : Unit} (h : q_ob ci g a = some u) : ∃ fs, g.2.2 a = .inr (ci, fs) := by
  obtain ⟨fs, h1, h2⟩ := q_be h
  exact ⟨fs, q_O_e h1⟩
def q_bl (x : Int32) : Option Int32 := if ¬ (x = 0 ∨ x = 1) then none else some x
theorem q_bl_e {x y : Int32} (h : q_bl x = some y) : (x = 0 ∨ x = 1) ∧ x = y := by
  obtain ⟨h1, h2⟩ := q_ite_e h
  exact ⟨Classical.not_not.mp h1, h2⟩
theorem q_ib {c : Prop} {i : Decidable c} {a b : Int32} (ha : a = 0 ∨ a = 1) (hb : b = 0 ∨ b = 1) : (if c then a else b) = 0 ∨ (if c then a else b) = 1 := by
  split
  · exact ha
  · exact hb
def q_new (ci : Nat) (g : ps_G) : ps_G := ps_nw g (ps_cN ci) (.inr (ci, ps_df ci))
def q_nA (t : ArrayType) (g : ps_G) (x : Int32) : Option ps_G := if x < 0 ∨ 1000000 < x.toNatClampNeg then none else some (ps_nw g x.toNatClampNeg (.inl (ps_ak t, (x.toNatClampNeg, ps_az t))))
theorem q_nA_e {t : ArrayType} {g g' : ps_G} {x : Int32} (h : q_nA t g x = some g') : ¬ x < 0 ∧ x.toNatClampNeg ≤ 1000000 ∧ ps_nw g x.toNatClampNeg (.inl (ps_ak t, (x.toNatClampNeg, ps_az t))) = g' := by
  obtain ⟨h1, h2⟩ := q_ite_e h
  exact ⟨fun h => h1 (Or.inl h), Nat.le_of_not_lt (fun h => h1 (Or.inr h)), h2⟩
def q_nR (k : Nat) (g : ps_G) (x : Int32) : Option ps_G := if x < 0 ∨ 1000000 < x.toNatClampNeg then none else some (ps_nw g x.toNatClampNeg (.inl (k, (x.toNatClampNeg, .inr (.inr (.inr (.inr fun _ => none)))))))
theorem q_nR_e {k : Nat} {g g' : ps_G} {x : Int32} (h : q_nR k g x = some g') : ¬ x < 0 ∧ x.toNatClampNeg ≤ 1000000 ∧ ps_nw g x.toNatClampNeg (.inl (k, (x.toNatClampNeg, .inr (.inr (.inr (.inr fun _ => none)))))) = g' := by
  obtain ⟨h1, h2⟩ := q_ite_e h
  exact ⟨fun h => h1 (Or.inl h), Nat.le_of_not_lt (fun h => h1 (Or.inr h)), h2⟩
def q_gr (g : ps_G) (x y : Int32) : Option ps_G := if x < 0 ∨ y < 0 ∨ 1000 < x.toNatClampNeg ∨ 100000 < y.toNatClampNeg then none else some (ps_gr g x.toNatClampNeg y.toNatClampNeg)
theorem q_gr_e {g g' : ps_G} {x y : Int32} (h : q_gr g x y = some g') : ¬ x < 0 ∧ ¬ y < 0 ∧ x.toNatClampNeg ≤ 1000 ∧ y.toNatClampNeg ≤ 100000 ∧ ps_gr g x.toNatClampNeg y.toNatClampNeg = g' := by
  obtain ⟨h1, h2⟩ := q_ite_e h
  exact ⟨fun h => h1 (Or.inl h), fun h => h1 (Or.inr (Or.inl h)), Nat.le_of_not_lt (fun h => h1 (Or.inr (Or.inr (Or.inl h)))), Nat.le_of_not_lt (fun h => h1 (Or.inr (Or.inr (Or.inr h)))), h2⟩
def q_cp (g : ps_G) (a0 : Nat) (sp : Int32) (a : Nat) (dp n : Int32) : Option ps_G := (q_I 0 (g.2.2 a0)).bind fun x => (q_I 0 (g.2.2 a)).bind fun y => if a0 < 8 ∨ a < 8 ∨ sp < 0 ∨ dp < 0 ∨ n < 0 ∨ x.1 < sp.toNatClampNeg + n.toNatClampNeg ∨ y.1 < dp.toNatClampNeg + n.toNatClampNeg then none else some (ps_up g a (.inl (0, (y.1, .inl (va_cpy x.2 y.2 sp.toNatClampNeg dp.toNatClampNeg n.toNatClampNeg)))))
theorem q_cp_e {g g' : ps_G} {a0 a : Nat} {sp dp n : Int32} (h : q_cp g a0 sp a dp n = some g') : ∃ n0 f n1 f1, g.2.2 a0 = .inl (0, (n0, .inl f)) ∧ g.2.2 a = .inl (0, (n1, .inl f1)) ∧ 8 ≤ a0 ∧ 8 ≤ a ∧ ¬ sp < 0 ∧ ¬ dp < 0 ∧ ¬ n < 0 ∧ sp.toNatClampNeg + n.toNatClampNeg ≤ n0 ∧ dp.toNatClampNeg + n.toNatClampNeg ≤ n1 ∧ ps_up g a (.inl (0, (n1, .inl (va_cpy f f1 sp.toNatClampNeg dp.toNatClampNeg n.toNatClampNeg)))) = g' := by
  obtain ⟨x, h1, h2⟩ := q_be h
  obtain ⟨y, h3, h4⟩ := q_be h2
  obtain ⟨h5, h6⟩ := q_ite_e h4
  rw [not_or, not_or, not_or, not_or, not_or, not_or] at h5
  obtain ⟨a1, a2, a3, a4, a5, a6, a7⟩ := h5
  exact ⟨_, _, _, _, q_I_e h1, q_I_e h3, by omega, by omega, a3, a4, a5, by omega, by omega, h6⟩
def q_cl (g : ps_G) (a : Nat) : Option ps_G := (q_I 0 (g.2.2 a)).bind fun x => if a < 8 ∨ g.1 < 8 then none else some (ps_nw g x.1 (.inl (0, (x.1, .inl x.2))))
theorem q_cl_e {g g' : ps_G} {a : Nat} (h : q_cl g a = some g') : ∃ N f, g.2.2 a = .inl (0, (N, .inl f)) ∧ 8 ≤ a ∧ 8 ≤ g.1 ∧ ps_nw g N (.inl (0, (N, .inl f))) = g' := by
  obtain ⟨x, h1, h2⟩ := q_be h
  obtain ⟨h3, h4⟩ := q_ite_e h2
  exact ⟨_, _, q_I_e h1, by omega, by omega, h4⟩
theorem q_dv {x y z : Int32} (h : (if y = 0 then none else some (x / y)) = some z) : ¬ y = 0 ∧ x / y = z := q_ite_e h
def q_div (x y : Int32) : Option Int32 := if y = 0 then none else some (x / y)
def q_mod (x y : Int32) : Option Int32 := if y = 0 then none else some (q_rem x y)
def q_ldiv (x y : Int64) : Option Int64 := if y = 0 then none else some (x / y)
theorem q_div_e {x y z : Int32} (h : q_div x y = some z) : ¬ y = 0 ∧ x / y = z := q_ite_e h
theorem q_mod_e {x y z : Int32} (h : q_mod x y = some z) : ¬ y = 0 ∧ x - x / y * y = z := q_ite_e h
theorem q_ldiv_e {x y z : Int64} (h : q_ldiv x y = some z) : ¬ y = 0 ∧ x / y = z := q_ite_e h
/-- a call that may throw, and what comes behind it -/
def q_tc {α β : Type} (x : Option ((String ⊕ α) × ps_G)) (k : α → ps_G → Option ((String ⊕ β) × ps_G)) : Option ((String ⊕ β) × ps_G) := x.bind fun q => Sum.elim (fun E => some (.inl E, q.2)) (fun v => k v q.2) q.1
theorem q_tc_e {α β : Type} {x : Option ((String ⊕ α) × ps_G)} {k : α → ps_G → Option ((String ⊕ β) × ps_G)} {r : (String ⊕ β) × ps_G} (h : q_tc x k = some r) : (∃ E g, x = some (.inl E, g) ∧ r = (.inl E, g)) ∨ ∃ v g, x = some (.inr v, g) ∧ k v g = some r := by
  obtain ⟨⟨q, g⟩, h1, h2⟩ := q_be h
  cases q with
  | inl E => exact Or.inl ⟨E, g, h1, (Option.some.inj h2).symm⟩
  | inr v => exact Or.inr ⟨v, g, h1, h2⟩
def q_rI : String ⊕ Int32 → ps_Rs := Sum.elim .inr (fun x => .inl (some (.int x)))
def q_rJ : String ⊕ Int64 → ps_Rs := Sum.elim .inr (fun x => .inl (some (.long x)))
def q_rA : String ⊕ Option Nat → ps_Rs := Sum.elim .inr (fun x => .inl (some (va_rf x)))
def q_rV : String ⊕ Unit → ps_Rs := Sum.elim .inr (fun _ => .inl none)
def q_b2 {α β : Type} (x : Option (α × ps_G)) (k : α → ps_G → Option β) : Option β := x.bind fun q => k q.1 q.2
theorem q_b2_e {α β : Type} {x : Option (α × ps_G)} {k : α → ps_G → Option β} {b : β} (h : q_b2 x k = some b) : ∃ v g, x = some (v, g) ∧ k v g = some b := by
  obtain ⟨⟨v, g⟩, h1, h2⟩ := q_be h
  exact ⟨v, g, h1, h2⟩
def q_g8 (o : Option Nat) : Option Unit := match o with
  | none => some ()
  | some a => if a < 8 then none else some ()
theorem q_g8_e {o : Option Nat} {u : Unit} (h : q_g8 o = some u) : ∀ a, o = some a → 8 ≤ a := by
  intro a e
  subst e
  obtain ⟨h1, -⟩ := q_ite_e h
  omega
/-! loops -/
def q_lpn {σ ρ : Type} (b : σ → Option (σ ⊕ ρ)) : Nat → σ → Option ρ
  | 0, _ => none
  | n + 1, s => (b s).bind fun x => Sum.elim (q_lpn b n) some x
theorem q_lpn_mono {σ ρ : Type} {b : σ → Option (σ ⊕ ρ)} {r : ρ} : ∀ {n : Nat} {s : σ}, q_lpn b n s = some r → ∀ m, n ≤ m → q_lpn b m s = some r := by
  intro n
  induction n with
  | zero => intro s h; cases h
  | succ n ih =>
    intro s h m hm
    cases m with
    | zero => omega
    | succ m =>
      obtain ⟨x, h1, h2⟩ := q_be (x := b s) h
      show (b s).bind _ = _
      rw [h1]
      cases x with
      | inl s' => exact ih h2 m (by omega)
      | inr r' => exact h2
noncomputable def q_lp {σ ρ : Type} (b : σ → Option (σ ⊕ ρ)) (s : σ) : Option ρ := @dite _ (∃ n, (q_lpn b n s).isSome = true) (Classical.propDecidable _) (fun h => q_lpn b h.choose s) (fun _ => none)
theorem q_lp_of {σ ρ : Type} {b : σ → Option (σ ⊕ ρ)} {n : Nat} {s : σ} {r : ρ} (h : q_lpn b n s = some r) : q_lp b s = some r := by
  have hx : ∃ n, (q_lpn b n s).isSome = true := ⟨n, by rw [h]; rfl⟩
  unfold q_lp
  rw [dif_pos hx]
  have h1 := hx.choose_spec
  cases e : q_lpn b hx.choose s with
  | none => rw [e] at h1; cases h1
  | some r' =>
    have a1 := q_lpn_mono e (max hx.choose n) (by omega)
    have a2 := q_lpn_mono h (max hx.choose n) (by omega)
    rw [a1] at a2
    exact a2
theorem q_lp_ex {σ ρ : Type} {b : σ → Option (σ ⊕ ρ)} {s : σ} {r : ρ} (h : q_lp b s = some r) : ∃ n, q_lpn b n s = some r := by
  unfold q_lp at h
  split at h
  · exact ⟨_, h⟩
  · cases h
theorem q_lp_eq {σ ρ : Type} (b : σ → Option (σ ⊕ ρ)) (s : σ) : q_lp b s = (b s).bind (Sum.elim (q_lp b) some) := by
  cases e : (b s).bind (Sum.elim (q_lp b) some) with
  | none =>
    cases e2 : q_lp b s with
    | none => rfl
    | some r =>
      obtain ⟨n, hn⟩ := q_lp_ex e2
      cases n with
      | zero => cases hn
      | succ n =>
        obtain ⟨x, h1, h2⟩ := q_be (x := b s) hn
        rw [h1] at e
        cases x with
        | inl s' =>
          have h3 : q_lp b s' = none := e
          rw [q_lp_of h2] at h3
          cases h3
        | inr r' => cases e
  | some r =>
    obtain ⟨x, h1, h2⟩ := q_be e
    cases x with
    | inl s' =>
      obtain ⟨n, hn⟩ := q_lp_ex (s := s') h2
      refine q_lp_of (n := n + 1) ?_
      show (b s).bind _ = _
      rw [h1]
      exact hn
    | inr r' =>
      refine q_lp_of (n := 1) ?_
      show (b s).bind _ = _
      rw [h1]
      exact h2
theorem q_lp_ok {σ ρ : Type} {b : σ → Option (σ ⊕ ρ)} {s : σ} {r : ρ} (h : q_lp b s = some r) (P : σ → Prop) (E : ρ → Prop) (st : ∀ s x, b s = some x → (∀ s', x = .inl s' → P s') → (∀ r', x = .inr r' → E r') → P s) (k : E r) : P s := by
  obtain ⟨n, hn⟩ := q_lp_ex h
  clear h
  induction n generalizing s with
  | zero => cases hn
  | succ n ih =>
    obtain ⟨x, h1, h2⟩ := q_be (x := b s) hn
    cases x with
    | inl s' => exact st s _ h1 (fun s'' e => by cases e; exact ih h2) (fun r' e => by cases e)
    | inr r' =>
      cases h2
      exact st s _ h1 (fun s'' e => by cases e) (fun r'' e => by cases e; exact k)
theorem q_tsd {p : Nat} {dflt lo hi : Int} {offs : Array Int} {x : Int32} {D : Nat} (hd : ps_tg p dflt = D) (hh : ∀ z : Int, lo ≤ z → z ≤ hi → x.toInt ≠ z ∨ ps_tg p (offs[(z - lo).toNat]?.getD 0) = D) : ps_tsel p dflt lo hi offs x = D := by
  unfold ps_tsel
  split
  · exact hd
  · rcases hh x.toInt (by omega) (by omega) with h | h
    · exact absurd rfl h
    · exact h
theorem q_tsx {x v : Int32} (h : ¬ x = v) : x.toInt ≠ v.toInt := fun e => h (Int32.toInt_inj.mp e)
