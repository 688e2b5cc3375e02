/-! ===== steps over cells ===== -/
theorem ps_K.C {M : ps_M} {X : ps_X} {p : Program} {l : Launch} {s : State} {m : MethodId} {meth : Method} {c : Code} (h : ps_K M X p l s m meth c) : ps_C X s := h.2.2.2.2.2.2.2.2.2
theorem ps_K.own {M : ps_M} {X : ps_X} {p : Program} {l : Launch} {s : State} {m : MethodId} {meth : Method} {c : Code} (h : ps_K M X p l s m meth c) : s.vm.findClass M.1.cls = some m.cls := h.2.2.2.2.2.1
theorem ps_P1 {D : va_G} {cl : List vw_C} {q : Nat × va_E} {H : Heap} (h : va_at D cl q H) : va_P D cl [q] H := fun k x hx => by
  cases k with
  | zero => cases hx; exact h
  | succ k => cases hx
/-- number idx of own's pool is field k of class ci -/
def ps_Lf (own : String) (idx ci k : Nat) : Prop := ∃ (C : String) (T : u_T) (N : Nat), vwCl[ci]? = some (C, T, N) ∧ k < N ∧ (Cond.fieldLink own idx (T k).1 (T k).2.1 (T k).2.2.1 ∈ ps_W ∨ ∃ host, Cond.fieldLinkNest own idx (T k).1 (T k).2.1 (T k).2.2.1 host ∈ ps_N)
def ps_Lq (name own : String) (ci k : Nat) : Prop := ∀ (C : String) (T : u_T) (N : Nat), vwCl[ci]? = some (C, T, N) → (T k).2.2.2 = false ∨ ((T k).2.2.2 = true ∧ name = "<init>" ∧ (T k).1 = own)
theorem ps_getf {M : ps_M} {d pc : Nat} {lv : ps_LV} {r : List Value} {g : ps_G} {Q : ps_Rs → ps_G → Prop} {a ci k idx : Nat} {fs : List Value} {v : Value} (hd : decode M.2.1 pc = .ok (.getfield idx, 3)) (hL : ps_Lf M.1.cls idx ci k) (he : g.2.2 a = .inr (ci, fs)) (hv : fs[k]? = some v) (kk : ps_At M d (pc + 3) lv (v :: r) g Q) : ps_At M d pc lv (.ref a :: r) g Q := by
  obtain ⟨C, T, N, hc, hk, hw⟩ := hL
  refine ps_pass (fun X p l e R s m args below meth c H locs ls cells slots Qm hK hR _ _ _ _ k2 => ?_) kk
  have hC := hK.C
  have hv' : (fs.map (ps_v X))[k]? = some (ps_v X v) := by rw [List.getElem?_map, hv]; rfl
  rcases hw with hw | ⟨host, hw⟩
  · exact va_get (D := X.2.2.1) (cl := vwCl) (tys := ps_tys X) (ws := [(ps_ad X a, .inr (ci, fs.map (ps_v X)))]) (Ts := ps_W) hK.2.1 hK.2.2.1 (fun w h => ps_wd hC h args) (ps_lay hc).1 hK.own hC.1 (ps_P1 (ps_R_obj hR he)) 0 rfl hc k hk (ps_wd hC hw args) (fun _ h => h) hv' hd k2
  · exact va_getN (D := X.2.2.1) (cl := vwCl) (tys := ps_tys X) (ws := [(ps_ad X a, .inr (ci, fs.map (ps_v X)))]) (Ts := ps_W) hK.2.1 hK.2.2.1 (fun w h => ps_wd hC h args) (ps_lay hc).1 hK.own hC.1 (ps_P1 (ps_R_obj hR he)) 0 rfl hc k hk ((hC.2.2.2.1 _ hw).use rfl) (fun _ h => h) hv' hd k2
theorem ps_nar {ty : FieldType} {v : Value} (X : ps_X) (h : narrow ty v = v) : narrow ty (ps_v X v) = ps_v X v := by
  cases v with
  | ref a => cases ty <;> rfl
  | _ => exact h
theorem ps_fits {ty : FieldType} {v : Value} (X : ps_X) (h : fits ty v = true) : fits ty (ps_v X v) = true := by
  cases v with
  | ref a => cases ty <;> first | rfl | exact h
  | _ => exact h
theorem ps_putf {M : ps_M} {d pc : Nat} {lv : ps_LV} {r : List Value} {g : ps_G} {Q : ps_Rs → ps_G → Prop} {a ci k idx : Nat} {fs : List Value} {v : Value} (hd : decode M.2.1 pc = .ok (.putfield idx, 3)) (hL : ps_Lf M.1.cls idx ci k) (hq : ps_Lq M.1.name M.1.cls ci k) (he : g.2.2 a = .inr (ci, fs)) (hl : k < fs.length) (hn : narrow (ps_fty ci k) v = v) (hf : fits (ps_fty ci k) v = true)
    (kk : ps_At M d (pc + 3) lv r (ps_up g a (.inr (ci, fs.set k v))) Q) : ps_At M d pc lv (v :: .ref a :: r) g Q := by
  obtain ⟨C, T, N, hc, hk, hw⟩ := hL
  have hq := hq C T N hc
  have h0 : g.2.2 a ≠ ps_e0 := by rw [he]; exact ps_ne_o
  · refine ps_write (fun X p l e R s m args below meth c H locs ls cells slots Qm hK hR _ _ _ k2 => ?_) (fun X s H hR => ps_ge8o hR he) h0 kk
    have hC := hK.C
    have hts : ∀ w ∈ ps_W, w.before args s = true := fun w h => ps_wd hC h args
    obtain ⟨hin, hty, hnm⟩ := ps_lay hc
    have hap := va_apart (own := M.1.cls) hts hin (ps_fty ci) hty hnm hC.1 hc
    obtain ⟨r9, h1, cell, q1, q2, q3, q4⟩ := ps_R_obj hR he
    have hr : r9 = (C, T, N) := Option.some.inj (h1.symm.trans hc)
    subst hr
    obtain ⟨hS, hfc, kC, hkC, hkind⟩ := hC.1.1 ci _ hc
    obtain ⟨cf, kf, fi, f, hi, hsl⟩ := hS k hk
    have hlay := hts _ (hin _ (u_in_lay hk))
    have hst := (u_facts hfc hkC (u_lays hts hin hk) hi).1
    have hlt : f.slot < cell.slots.size := by rw [hsl]; exact k2_hasslot (q4 k hk)
    have fin : ∀ H1 : Heap, H1[ps_ad X a]? = some (cell.setSlot f.slot (ps_v X v)) → ps_at X a (.inr (ci, fs.set k v)) H1 := by
      intro H1 e1
      rw [hsl] at e1
      show va_at X.2.2.1 vwCl (ps_ad X a, .inr (ci, (fs.set k v).map (ps_v X))) H1
      rw [List.map_set]
      exact ⟨_, hc, t_OB.to (V := updV (vp_V (fs.map (ps_v X))) k (ps_v X v)) ⟨_, e1, q2, q3, t_set q4 hap hk (ps_v X v)⟩ (fun j _ => vp_updV_set (by rw [List.length_map]; exact hl) (ps_v X v) j)⟩
    rcases hq with hq | ⟨hq, hq1, hq2⟩
    · unfold u_lay at hlay
      rw [if_neg (by rw [hq]; decide)] at hlay
      have h6 := u_store hfc hkC hkind hlay hi (hty k hk) (ps_nar X hn) (ps_fits X hf)
      rcases hw with hw | ⟨host, hw⟩
      · exact W.putK hK.2.1 hK.2.2.1 (f := f) ⟨hK.own, ps_wd hC hw args, ⟨_, _, _, hi⟩, hst⟩ (by rw [q2]; exact h6) q1 q3 hlt rfl rfl hd fun H1 e1 e2 e3 => k2 H1 _ (fin H1 e1) e2 e3
      · exact va_WputK hK.2.1 hK.2.2.1 (f := f) hK.own ((hC.2.2.2.1 _ hw).use rfl) hi hst (by rw [q2]; exact h6) q1 q3 hlt rfl rfl hd fun H1 e1 e2 e3 => k2 H1 _ (fin H1 e1) e2 e3
    · unfold u_lay at hlay
      rw [if_pos hq] at hlay
      have hcf : m.cls = cf := by
        obtain ⟨_, _, c', _, _, _, -, -, hf', -, -, -, hown2, -⟩ := Cond.laysFinal_spec hlay
        have e1 : c' = cf := by have := hi.symm.trans hf'; simp at this; exact this.1.symm
        rw [hq2] at hown2
        rw [← e1]; exact Option.some.inj (hK.own.symm.trans hown2)
      have h6 := u_fits hfc hkC hkind (Or.inr hlay) hi (hty k hk) (ps_nar X hn) (ps_fits X hf)
      rcases hw with hw | ⟨host, hw⟩
      · exact W.putFinK hK.2.1 hK.2.2.1 hK.own (ps_wd hC hw args) hi hst hcf (hK.2.2.2.2.2.2.2.1.trans hq1) (by rw [q2]; exact h6) q1 q3 hlt rfl rfl hd fun H1 e1 e2 e3 => k2 H1 _ (fin H1 e1) e2 e3
      · have ha : ps_ad X a < H.size := (Array.getElem?_eq_some_iff.mp q1).1
        refine va_Wputf hK.2.1 hK.2.2.1 hK.own ((hC.2.2.2.1 _ hw).use rfl) hi hst (Or.inr ⟨hcf, hK.2.2.2.2.2.2.2.1.trans hq1⟩) q1 (by rw [q3]; exact fun h => by cases h) hlt h6.1 (by rw [q2, q3]; exact h6.2) rfl rfl hd ?_
        refine k2 _ _ (fin _ ?_) ?_ ?_
        · simp [Array.getElem?_setIfInBounds, ha]
        · simp
        · intro q hq
          simp [Array.getElem?_setIfInBounds, Ne.symm hq]
/-! arrays -/
theorem ps_iald {M : ps_M} {d pc : Nat} {lv : ps_LV} {r : List Value} {g : ps_G} {Q : ps_Rs → ps_G → Prop} {a N : Nat} {f : Nat → Int32} {i : Int32} (hd : decode M.2.1 pc = .ok (.iaload, 1)) (he : g.2.2 a = .inl (0, (N, .inl f))) (hi : vp_in i N) (kk : ps_At M d (pc + 1) lv (.int (f i.toNatClampNeg) :: r) g Q) : ps_At M d pc lv (.int i :: .ref a :: r) g Q := by
  refine ps_pass (fun X p l e R s m args below meth c H locs ls cells slots Qm hK hR _ _ _ _ k2 => ?_) kk
  obtain ⟨cell, h1, h2, h3, h4, h5, h6⟩ := ps_ar_of hK.C hR he
  have hlt : i.toNatClampNeg < N := Nat.lt_of_not_le (fun h => hi (Or.inr h))
  exact W.iald hK.2.1 hK.2.2.1 h1 h2 h3 (fun h => hi (h.imp id (fun h => Nat.le_trans h4 h))) (h6 _ hlt) rfl rfl hd k2
theorem ps_alen {M : ps_M} {d pc : Nat} {lv : ps_LV} {r : List Value} {g : ps_G} {Q : ps_Rs → ps_G → Prop} {a k : Nat} {x : vp_A} (hd : decode M.2.1 pc = .ok (.arraylength, 1)) (he : g.2.2 a = .inl (k, x)) (hk : k < 6) (kk : ps_At M d (pc + 1) lv (.int (Int32.ofNat x.1) :: r) g Q) : ps_At M d pc lv (.ref a :: r) g Q := by
  refine ps_pass (fun X p l e R s m args below meth c H locs ls cells slots Qm hK hR _ _ _ _ k2 => ?_) kk
  have hx : (ps_a X x).1 = x.1 := by
    obtain ⟨n, y⟩ := x
    rcases y with y | y | y | y | y <;> rfl
  rcases Nat.lt_or_ge a 8 with h8 | h8
  · obtain ⟨-, N', f', h1, h2⟩ := hR.2.2.2.2.1 a h8
    rw [h1] at he
    have e1 := Prod.mk.inj (Sum.inl.inj he)
    obtain ⟨cell, q1, q2, q3, q4, q5, q6⟩ := h2
    rw [← ps_ad_lo h8] at q1
    exact W.alen hK.2.1 hK.2.2.1 q1 q2 (q5.trans (by rw [← e1.2])) rfl rfl hd k2
  · have hcell := ps_R_cell hR he hk h8
    have hsz : (vp_cell (X.2.2.2 k) (ps_a X x)).slots.size = x.1 := by
      obtain ⟨n, y⟩ := x
      rcases y with y | y | y | y | y <;> exact arrV_size _ _ _
    have harr : s.isArrayOf (vp_cell (X.2.2.2 k) (ps_a X x)) (ps_ty k) := by
      have hA : ArrOfT s (X.2.2.2 k) (ps_ty k) := by
        match k, hk with
        | 0, _ => exact (hK.C.1.2 0 _ rfl).1
        | 1, _ => exact (hK.C.1.2 1 _ rfl).1
        | 2, _ => exact (hK.C.1.2 2 _ rfl).1
        | 3, _ => exact (hK.C.1.2 3 _ rfl).1
        | 4, _ => exact (hK.C.1.2 4 _ rfl).1
        | 5, _ => exact (hK.C.1.2 5 _ rfl).1
      obtain ⟨n, y⟩ := x
      rcases y with y | y | y | y | y <;> exact hA _ _
    exact W.alen hK.2.1 hK.2.2.1 hcell harr (by rw [hsz]) rfl rfl hd k2
theorem ps_iast {M : ps_M} {d pc : Nat} {lv : ps_LV} {r : List Value} {g : ps_G} {Q : ps_Rs → ps_G → Prop} {a N : Nat} {f : Nat → Int32} {i x : Int32} (hd : decode M.2.1 pc = .ok (.iastore, 1)) (he : g.2.2 a = .inl (0, (N, .inl f))) (h8 : 8 ≤ a) (hi : vp_in i N) (kk : ps_At M d (pc + 1) lv r (ps_up g a (.inl (0, (N, .inl (upd f i.toNatClampNeg x))))) Q) : ps_At M d pc lv (.int x :: .int i :: .ref a :: r) g Q := by
  refine ps_write (fun X p l e R s m args below meth c H locs ls cells slots Qm hK hR _ _ _ k2 => ?_) (fun _ _ _ _ => h8) (by rw [he]; exact ps_ne_k (by decide)) kk
  have hcell := ps_R_cell hR he (by decide) h8
  refine W.iast hK.2.1 hK.2.2.1 hcell ((hK.C.1.2 0 _ rfl).1 N (fun j => .int (f j))) (fun q => by cases q) (by show ¬ (i < 0 ∨ (arrV _ _ _).slots.size ≤ _); rw [arrV_size]; exact hi) rfl rfl hd fun H1 e z oq => ?_
  refine k2 H1 _ (fun _ => ?_) z oq
  show H1[ps_ad X a]? = some (vp_cell _ (N, .inl (upd f i.toNatClampNeg x)))
  rw [e, show vp_cell (X.2.2.2 0) (ps_a X (N, Sum.inl f)) = arrV (X.2.2.2 0) N (fun j => Value.int (f j)) from rfl, arrV_store]
  show some (arrV (X.2.2.2 0) N _) = some (arrV (X.2.2.2 0) N (fun j => Value.int (upd f i.toNatClampNeg x j)))
  congr 2
  funext q
  by_cases hq : q = i.toNatClampNeg
  · subst hq
    simp [updV, upd]
  · simp [updV, upd, hq]
theorem ps_lald {M : ps_M} {d pc : Nat} {lv : ps_LV} {r : List Value} {g : ps_G} {Q : ps_Rs → ps_G → Prop} {a N : Nat} {f : Nat → Int64} {i : Int32} (hd : decode M.2.1 pc = .ok (.laload, 1)) (he : g.2.2 a = .inl (1, (N, .inr (.inl f)))) (hi : vp_in i N) (kk : ps_At M d (pc + 1) lv (.long (f i.toNatClampNeg) :: r) g Q) : ps_At M d pc lv (.int i :: .ref a :: r) g Q := by
  refine ps_pass (fun X p l e R s m args below meth c H locs ls cells slots Qm hK hR _ _ _ _ k2 => ?_) kk
  have hcell := ps_R_cell hR he (by decide) (ps_ge8 hR he (by decide))
  have hlt : i.toNatClampNeg < N := Nat.lt_of_not_le (fun h => hi (Or.inr h))
  exact W.lald hK.2.1 hK.2.2.1 hcell ((hK.C.1.2 1 _ rfl).1 N (fun j => .long (f j))) (fun q => by cases q) (by show ¬ (i < 0 ∨ (arrV _ _ _).slots.size ≤ _); rw [arrV_size]; exact hi) (by show (arrV (X.2.2.2 1) N (fun j => Value.long (f j))).slots[i.toNatClampNeg]? = some (Value.long (f i.toNatClampNeg)); simp [arrV, Array.getElem?_ofFn, hlt]) rfl rfl hd k2
theorem ps_zald {M : ps_M} {d pc : Nat} {lv : ps_LV} {r : List Value} {g : ps_G} {Q : ps_Rs → ps_G → Prop} {a N : Nat} {f : Nat → Int32} {i : Int32} (hd : decode M.2.1 pc = .ok (.baload, 1)) (he : g.2.2 a = .inl (2, (N, .inl f))) (hi : vp_in i N) (kk : ps_At M d (pc + 1) lv (.int (f i.toNatClampNeg) :: r) g Q) : ps_At M d pc lv (.int i :: .ref a :: r) g Q := by
  refine ps_pass (fun X p l e R s m args below meth c H locs ls cells slots Qm hK hR _ _ _ _ k2 => ?_) kk
  have hcell := ps_R_cell hR he (by decide) (ps_ge8 hR he (by decide))
  have hlt : i.toNatClampNeg < N := Nat.lt_of_not_le (fun h => hi (Or.inr h))
  exact W.zald hK.2.1 hK.2.2.1 hcell ((hK.C.1.2 2 _ rfl).1 N (fun j => .int (f j))) (fun q => by cases q) (by show ¬ (i < 0 ∨ (arrV _ _ _).slots.size ≤ _); rw [arrV_size]; exact hi) (by show (arrV (X.2.2.2 2) N (fun j => Value.int (f j))).slots[i.toNatClampNeg]? = some (Value.int (f i.toNatClampNeg)); simp [arrV, Array.getElem?_ofFn, hlt]) rfl rfl hd k2
theorem ps_last {M : ps_M} {d pc : Nat} {lv : ps_LV} {r : List Value} {g : ps_G} {Q : ps_Rs → ps_G → Prop} {a N : Nat} {f : Nat → Int64} {i : Int32} {x : Int64} (hd : decode M.2.1 pc = .ok (.lastore, 1)) (he : g.2.2 a = .inl (1, (N, .inr (.inl f)))) (hi : vp_in i N) (kk : ps_At M d (pc + 1) lv r (ps_up g a (.inl (1, (N, .inr (.inl (vp_updL f i.toNatClampNeg x)))))) Q) : ps_At M d pc lv (.long x :: .int i :: .ref a :: r) g Q := by
  refine ps_write (fun X p l e R s m args below meth c H locs ls cells slots Qm hK hR _ _ _ k2 => ?_) (fun _ _ _ hR => ps_ge8 hR he (by decide)) (by rw [he]; exact ps_ne_k (by decide)) kk
  have hcell := ps_R_cell hR he (by decide) (ps_ge8 hR he (by decide))
  refine W.last hK.2.1 hK.2.2.1 hcell ((hK.C.1.2 1 _ rfl).1 N (fun j => .long (f j))) (fun q => by cases q) (by show ¬ (i < 0 ∨ (arrV _ _ _).slots.size ≤ _); rw [arrV_size]; exact hi) rfl rfl hd fun H1 e z oq => ?_
  refine k2 H1 _ (fun _ => ?_) z oq
  show H1[ps_ad X a]? = some (vp_cell _ (N, .inr (.inl (vp_updL f i.toNatClampNeg x))))
  rw [e, show vp_cell (X.2.2.2 1) (ps_a X (N, Sum.inr (Sum.inl f))) = arrV (X.2.2.2 1) N (fun j => Value.long (f j)) from rfl, arrV_store]
  show some (arrV (X.2.2.2 1) N _) = some (arrV (X.2.2.2 1) N (fun j => Value.long (vp_updL f i.toNatClampNeg x j)))
  congr 2
  funext q
  by_cases hq : q = i.toNatClampNeg
  · subst hq
    simp [updV, vp_updL]
  · simp [updV, vp_updL, hq]
theorem ps_narz (x : Int32) : narrow .boolean (.int x) = .int (vp_nar .boolean x) := by
  unfold vp_nar
  rfl
theorem ps_zast {M : ps_M} {d pc : Nat} {lv : ps_LV} {r : List Value} {g : ps_G} {Q : ps_Rs → ps_G → Prop} {a N : Nat} {f : Nat → Int32} {i x : Int32} (hd : decode M.2.1 pc = .ok (.bastore, 1)) (he : g.2.2 a = .inl (2, (N, .inl f))) (hi : vp_in i N) (kk : ps_At M d (pc + 1) lv r (ps_up g a (.inl (2, (N, .inl (upd f i.toNatClampNeg (vp_nar .boolean x)))))) Q) : ps_At M d pc lv (.int x :: .int i :: .ref a :: r) g Q := by
  refine ps_write (fun X p l e R s m args below meth c H locs ls cells slots Qm hK hR _ _ _ k2 => ?_) (fun _ _ _ hR => ps_ge8 hR he (by decide)) (by rw [he]; exact ps_ne_k (by decide)) kk
  have hcell := ps_R_cell hR he (by decide) (ps_ge8 hR he (by decide))
  refine W.zast hK.2.1 hK.2.2.1 hcell ((hK.C.1.2 2 _ rfl).1 N (fun j => .int (f j))) (fun q => by cases q) (by show ¬ (i < 0 ∨ (arrV _ _ _).slots.size ≤ _); rw [arrV_size]; exact hi) rfl rfl hd fun H1 e z oq => ?_
  refine k2 H1 _ (fun _ => ?_) z oq
  rw [ps_narz] at e
  show H1[ps_ad X a]? = some (vp_cell _ (N, .inl (upd f i.toNatClampNeg (vp_nar .boolean x))))
  rw [e, show vp_cell (X.2.2.2 2) (ps_a X (N, Sum.inl f)) = arrV (X.2.2.2 2) N (fun j => Value.int (f j)) from rfl, arrV_store]
  show some (arrV (X.2.2.2 2) N _) = some (arrV (X.2.2.2 2) N (fun j => Value.int (upd f i.toNatClampNeg (vp_nar .boolean x) j)))
  congr 2
  funext q
  by_cases hq : q = i.toNatClampNeg
  · subst hq
    simp [updV, upd]
  · simp [updV, upd, hq]
theorem ps_aald {M : ps_M} {d pc : Nat} {lv : ps_LV} {r : List Value} {g : ps_G} {Q : ps_Rs → ps_G → Prop} {a k N : Nat} {f : Nat → Option Nat} {i : Int32} (hd : decode M.2.1 pc = .ok (.aaload, 1)) (he : g.2.2 a = .inl (k, (N, .inr (.inr (.inr (.inr f)))))) (h3 : 3 ≤ k) (h6 : k < 6) (hi : vp_in i N) (kk : ps_At M d (pc + 1) lv (va_rf (f i.toNatClampNeg) :: r) g Q) : ps_At M d pc lv (.int i :: .ref a :: r) g Q := by
  refine ps_pass (fun X p l e R s m args below meth c H locs ls cells slots Qm hK hR _ _ _ _ k2 => ?_) kk
  have hcell := ps_R_cell hR he h6 (ps_ge8 hR he (by omega))
  have hlt : i.toNatClampNeg < N := Nat.lt_of_not_le (fun h => hi (Or.inr h))
  have hA : ArrOfT s (X.2.2.2 k) (ps_ty k) ∧ (ps_ty k).isReference = true := by
    match k, h3, h6 with
    | 3, _, _ => exact ⟨(hK.C.1.2 3 _ rfl).1, rfl⟩
    | 4, _, _ => exact ⟨(hK.C.1.2 4 _ rfl).1, rfl⟩
    | 5, _, _ => exact ⟨(hK.C.1.2 5 _ rfl).1, rfl⟩
  refine W.aald (ty := ps_ty k) hK.2.1 hK.2.2.1 hcell (hA.1 N _) hA.2 (fun q => by cases q) (by show ¬ (i < 0 ∨ (arrV _ _ _).slots.size ≤ _); rw [arrV_size]; exact hi) (v := va_rf ((f i.toNatClampNeg).map (ps_ad X))) (by show (arrV (X.2.2.2 k) N (fun j => va_rf ((f j).map (ps_ad X)))).slots[i.toNatClampNeg]? = _; simp [arrV, Array.getElem?_ofFn, hlt]) rfl rfl hd ?_
  rw [List.map_cons, ps_rf] at k2
  exact k2
