/-! ===== ends of a method; throws ===== -/
theorem ps_end {X : ps_X} {g : ps_G} {s : State} {H : Heap} {locs : List Loc} {r : ps_Rs} {v : Option Value} {args : Array Value} (hR : ps_R X g s H) (hS : va_S (ps_A X) s.heap H locs) (hr : r = .inl v) {t : State} (ht : t.heap = H) (hW : s.WarmedH t.vm) : ps_Qc X r g args s (.returned (v.map (ps_v X))) t :=
  ⟨⟨v, hr, rfl⟩, by rw [ht]; exact hR.moved hW.alike, hS.F ht⟩
theorem ps_iret {M : ps_M} {d pc : Nat} {lv : ps_LV} {g : ps_G} {Q : ps_Rs → ps_G → Prop} {x : Int32} {ty : FieldType} (hd : decode M.2.1 pc = .ok (.ireturn, 1)) (hr : M.2.2.2.1 = some ty) (hn : narrow ty (.int x) = .int x) (h : Q (.inl (some (.int x))) g) : ps_At M d pc lv [.int x] g Q := by
  refine ⟨.inl (some (.int x)), g, h, Nat.le_refl _, Nat.le_refl _, fun X p l e R s m args below meth c H locs ls n0 s0 hK hR hS hb hl a1 a2 a3 a4 a5 a6 => vx_ret ?_⟩
  exact W.zret hK.2.1 hK.2.2.1 (hK.2.2.2.1.trans hr) hn (fun t ht hW => ps_end hR hS rfl ht hW) hS.2.2 hd hK.2.2.2.2.2.2.1
theorem ps_lret {M : ps_M} {d pc : Nat} {lv : ps_LV} {g : ps_G} {Q : ps_Rs → ps_G → Prop} {x : Int64} (hd : decode M.2.1 pc = .ok (.lreturn, 1)) (hr : M.2.2.2.1 = some .long) (h : Q (.inl (some (.long x))) g) : ps_At M d pc lv [.long x] g Q := by
  refine ⟨.inl (some (.long x)), g, h, Nat.le_refl _, Nat.le_refl _, fun X p l e R s m args below meth c H locs ls n0 s0 hK hR hS hb hl a1 a2 a3 a4 a5 a6 => vx_ret ?_⟩
  exact W.lret hK.2.1 hK.2.2.1 (hK.2.2.2.1.trans hr) (fun t ht hW => ps_end hR hS rfl ht hW) hS.2.2 hd hK.2.2.2.2.2.2.1
theorem ps_aret {M : ps_M} {d pc : Nat} {lv : ps_LV} {g : ps_G} {Q : ps_Rs → ps_G → Prop} {x : Option Nat} {ty : FieldType} (hd : decode M.2.1 pc = .ok (.areturn, 1)) (hr : M.2.2.2.1 = some ty) (hty : (∃ n, ty = .object n) ∨ ∃ t, ty = .array t) (h : Q (.inl (some (va_rf x))) g) : ps_At M d pc lv [va_rf x] g Q := by
  refine ⟨.inl (some (va_rf x)), g, h, Nat.le_refl _, Nat.le_refl _, fun X p l e R s m args below meth c H locs ls n0 s0 hK hR hS hb hl a1 a2 a3 a4 a5 a6 => vx_ret ?_⟩
  have hv : ps_v X (va_rf x) = .null ∨ ∃ a, ps_v X (va_rf x) = .ref a := by
    cases x with
    | none => exact Or.inl rfl
    | some a => exact Or.inr ⟨_, rfl⟩
  exact W.aret hK.2.1 hK.2.2.1 (hK.2.2.2.1.trans hr) hty hv (fun t ht hW => ps_end (v := some (va_rf x)) hR hS rfl ht hW) hS.2.2 hd hK.2.2.2.2.2.2.1
theorem ps_vret {M : ps_M} {d pc : Nat} {lv : ps_LV} {g : ps_G} {Q : ps_Rs → ps_G → Prop} (hd : decode M.2.1 pc = .ok (.return_, 1)) (hr : M.2.2.2.1 = none) (h : Q (.inl none) g) : ps_At M d pc lv [] g Q := by
  refine ⟨.inl none, g, h, Nat.le_refl _, Nat.le_refl _, fun X p l e R s m args below meth c H locs ls n0 s0 hK hR hS hb hl a1 a2 a3 a4 a5 a6 => vx_ret ?_⟩
  exact W.vret hK.2.1 hK.2.2.1 (hK.2.2.2.1.trans hr) (fun t ht hW => ps_end (v := none) hR hS rfl ht hW) hS.2.2 hd hK.2.2.2.2.2.2.1
