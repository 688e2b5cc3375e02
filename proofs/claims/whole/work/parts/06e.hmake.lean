/-! ===== arrays of references; making ===== -/
theorem ps_aast {M : ps_M} {d pc : Nat} {lv : ps_LV} {r : List Value} {g : ps_G} {Q : ps_Rs → ps_G → Prop} {a b k ci N : Nat} {f : Nat → Option Nat} {vs : List Value} {i : Int32} (hd : decode M.2.1 pc = .ok (.aastore, 1)) (he : g.2.2 a = .inl (k, (N, .inr (.inr (.inr (.inr f)))))) (hv : g.2.2 b = .inr (ci, vs)) (hk : (k = 3 ∧ ci = 4) ∨ (k = 4 ∧ ci = 9)) (hi : vp_in i N)
    (kk : ps_At M d (pc + 1) lv r (ps_up g a (.inl (k, (N, .inr (.inr (.inr (.inr (va_up f i.toNatClampNeg (some b)))))))))  Q) : ps_At M d pc lv (.ref b :: .int i :: .ref a :: r) g Q := by
  have hk6 : k < 6 := by omega
  refine ps_write (fun X p l e R s m args below meth c H locs ls cells slots Qm hK hR _ _ _ k2 => ?_) (fun _ _ _ hR => ps_ge8 hR he (by omega)) (by rw [he]; exact ps_ne_k hk6) kk
  have hcell := ps_R_cell hR he hk6 (ps_ge8 hR he (by omega))
  have hlt : i.toNatClampNeg < N := Nat.not_le.mp fun q => hi (Or.inr q)
  have h0 : ¬ i < 0 := fun q => hi (Or.inl q)
  obtain ⟨r9, hr9, cellV, g1, g2, g3, -⟩ := ps_R_obj hR hv
  have hKn := hK.C.1
  have hcl : ∃ (C : String) (T : u_T) (n : Nat), vwCl[ci]? = some (C, T, n) ∧ ∃ (kA : Class) (comp : ClassId), s.vm.classes[X.2.2.2 k]? = some kA ∧ kA.kind = .array comp (.object C) ∧ s.vm.findClass C = some comp := by
    rcases hk with ⟨rfl, rfl⟩ | ⟨rfl, rfl⟩
    · obtain ⟨kA, comp, k1, k2, k3, -⟩ := (hKn.2 3 _ rfl).2
      exact ⟨_, _, _, rfl, kA, comp, k1, k2, k3⟩
    · obtain ⟨kA, comp, k1, k2, k3, -⟩ := (hKn.2 4 _ rfl).2
      exact ⟨_, _, _, rfl, kA, comp, k1, k2, k3⟩
  obtain ⟨C, T, n, hc, kA, comp, k1, k3, k4⟩ := hcl
  have hcls := (hKn.1 ci _ hc).2
  have hcomp : comp = X.2.2.1.1 ci := Option.some.inj (k4.symm.trans hcls.1)
  subst hcomp
  obtain ⟨kC, hkC, -⟩ := hcls.2
  refine W.aast hK.2.1 hK.2.2.1 hcell (fun q h => by cases h) (fun h => by cases h) k1 k3 rfl hkC ⟨h0, by show _ < (arrV _ _ _).slots.size; rw [arrV_size]; exact hlt⟩ g1 (fun q h => by rw [g3] at h; cases h) (by rw [g2]; exact hkC) (by rw [g2]; exact va_assign hcls) rfl rfl hd fun H1 e z oq => ?_
  refine k2 H1 _ (fun _ => ?_) z oq
  show H1[ps_ad X a]? = some (vp_cell (X.2.2.2 k) (N, .inr (.inr (.inr (.inr (fun j => (va_up f i.toNatClampNeg (some b) j).map (ps_ad X)))))))
  rw [e, show vp_cell (X.2.2.2 k) (ps_a X (N, .inr (.inr (.inr (.inr f))))) = arrV (X.2.2.2 k) N (fun j => va_rf ((f j).map (ps_ad X))) from rfl, arrV_store]
  show some (arrV (X.2.2.2 k) N _) = some (arrV (X.2.2.2 k) N (fun j => va_rf ((va_up f i.toNatClampNeg (some b) j).map (ps_ad X))))
  congr 2
  funext q
  by_cases hq : q = i.toNatClampNeg
  · subst hq
    simp [updV, va_up, va_rf]
  · simp [updV, va_up, hq]
theorem ps_aastN {M : ps_M} {d pc : Nat} {lv : ps_LV} {r : List Value} {g : ps_G} {Q : ps_Rs → ps_G → Prop} {a k N : Nat} {f : Nat → Option Nat} {i : Int32} (hd : decode M.2.1 pc = .ok (.aastore, 1)) (he : g.2.2 a = .inl (k, (N, .inr (.inr (.inr (.inr f)))))) (hk : k = 3 ∨ k = 4) (hi : vp_in i N)
    (kk : ps_At M d (pc + 1) lv r (ps_up g a (.inl (k, (N, .inr (.inr (.inr (.inr (va_up f i.toNatClampNeg none))))))))  Q) : ps_At M d pc lv (.null :: .int i :: .ref a :: r) g Q := by
  have hk6 : k < 6 := by omega
  refine ps_write (fun X p l e R s m args below meth c H locs ls cells slots Qm hK hR _ _ _ k2 => ?_) (fun _ _ _ hR => ps_ge8 hR he (by omega)) (by rw [he]; exact ps_ne_k hk6) kk
  have hcell := ps_R_cell hR he hk6 (ps_ge8 hR he (by omega))
  have hKn := hK.C.1
  have harr : ∃ C : String, ArrOfT s (X.2.2.2 k) (.object C) := by
    rcases hk with rfl | rfl
    · exact ⟨_, (hKn.2 3 _ rfl).1⟩
    · exact ⟨_, (hKn.2 4 _ rfl).1⟩
  obtain ⟨C, hA⟩ := harr
  refine va_WaastN (C := C) hK.2.1 hK.2.2.1 hcell (hA N (fun j => va_rf ((f j).map (ps_ad X)))) (fun h => by cases h) (by show ¬ (i < 0 ∨ (arrV _ _ _).slots.size ≤ _); rw [arrV_size]; exact hi) rfl rfl hd fun H1 e z oq => ?_
  refine k2 H1 _ (fun _ => ?_) z oq
  show H1[ps_ad X a]? = some (vp_cell (X.2.2.2 k) (N, .inr (.inr (.inr (.inr (fun j => (va_up f i.toNatClampNeg none j).map (ps_ad X)))))))
  rw [e, show vp_cell (X.2.2.2 k) (ps_a X (N, .inr (.inr (.inr (.inr f))))) = arrV (X.2.2.2 k) N (fun j => va_rf ((f j).map (ps_ad X))) from rfl, arrV_store]
  show some (arrV (X.2.2.2 k) N _) = some (arrV (X.2.2.2 k) N (fun j => va_rf ((va_up f i.toNatClampNeg none j).map (ps_ad X))))
  congr 2
  funext q
  by_cases hq : q = i.toNatClampNeg
  · subst hq
    simp [updV, va_up, va_rf]
  · simp [updV, va_up, hq]
/-- number idx of own's pool is class ci -/
def ps_Ln (own : String) (idx ci : Nat) : Prop := ∃ (C : String) (T : u_T) (N : Nat), vwCl[ci]? = some (C, T, N) ∧ Cond.classLink own idx C ∈ ps_W ∧ Cond.instantiable C N ∈ ps_W ∧ Cond.initialized C ∈ ps_W
def ps_cN (ci : Nat) : Nat := match vwCl[ci]? with
  | some q => q.2.2
  | none => 0
def ps_df (ci : Nat) : List Value := (List.range (ps_cN ci)).map fun k => defaultValue (ps_fty ci k)
theorem ps_v_df (X : ps_X) (ty : FieldType) : ps_v X (defaultValue ty) = defaultValue ty := by cases ty <;> rfl
theorem ps_newc {M : ps_M} {d pc : Nat} {lv : ps_LV} {r : List Value} {g : ps_G} {Q : ps_Rs → ps_G → Prop} {ci idx : Nat} (hd : decode M.2.1 pc = .ok (.new idx, 3)) (hL : ps_Ln M.1.cls idx ci) (kk : ps_At M d (pc + 3) lv (.ref g.1 :: r) (ps_nw g (ps_cN ci) (.inr (ci, ps_df ci))) Q) : ps_At M d pc lv r g Q := by
  obtain ⟨C, T, N, hc, w1, w2, w3⟩ := hL
  have hN : ps_cN ci = N := by unfold ps_cN; rw [hc]
  rw [hN] at kk
  refine ps_make (fun X p l e R s m args below meth c H locs ls cells slots Qm hK hR _ _ _ hcells hslots k2 => ?_) kk
  have hC := hK.C
  have hts : ∀ w ∈ ps_W, w.before args s = true := fun w h => ps_wd hC h args
  obtain ⟨hin, hty, hnm⟩ := ps_lay hc
  have hKn := hC.1.1 ci _ hc
  refine W.newcK hK.2.1 hK.2.2.1 hK.own (hts _ w1) (hts _ w2) (hts _ w3) rfl hd hcells hslots hKn.2.1 rfl fun H1 kC hkC e1 z1 o1 => k2 H1 ?_ z1 o1
  rw [← ps_R_sz hR] at e1
  refine ⟨_, hc, (u_born (ps_fty ci) hts hin hKn hkC e1 hty).to (fun j hj => ?_)⟩
  show defaultValue (ps_fty ci j) = (List.map (ps_v X) (ps_df ci)).getD j .null
  unfold ps_df
  rw [hN]
  simp [List.getD, hj, ps_v_df]
/-- the kind of array that newarray makes -/
def ps_ak (t : ArrayType) : Nat := match t with
  | .int => 0
  | .long => 1
  | .boolean => 2
  | _ => 9
def ps_az (t : ArrayType) : (Nat → Int32) ⊕ (Nat → Int64) ⊕ (Nat → UInt32) ⊕ (Nat → UInt64) ⊕ (Nat → Option Nat) := match t with
  | .long => .inr (.inl fun _ => 0)
  | _ => .inl fun _ => 0
theorem ps_newa {M : ps_M} {d pc : Nat} {lv : ps_LV} {r : List Value} {g : ps_G} {Q : ps_Rs → ps_G → Prop} {t : ArrayType} {n : Int32} (hd : decode M.2.1 pc = .ok (.newarray t, 2)) (ht : t = .int ∨ t = .long ∨ t = .boolean) (hn : ¬ n < 0) (hs : n.toNatClampNeg ≤ 1000000) (kk : ps_At M d (pc + 2) lv (.ref g.1 :: r) (ps_nw g n.toNatClampNeg (.inl (ps_ak t, (n.toNatClampNeg, ps_az t)))) Q) : ps_At M d pc lv (.int n :: r) g Q := by
  refine ps_make (st := .int n :: r) (fun X p l e R s m args below meth c H locs ls cells slots Qm hK hR _ _ _ hcells hslots k2 => ?_) kk
  have hC := hK.C
  have hKn := hC.1
  rcases ht with rfl | rfl | rfl
  · refine va_newaK hK.2.1 hK.2.2.1 (atype := .int) (ps_wd hC ps_wA_int args) rfl hd rfl hn rfl (by show _ * 4 ≤ _; omega) hcells hslots rfl fun H1 cA e1 z1 o1 hAr hNm => k2 H1 (fun _ => ?_) z1 o1
    have hA : cA = X.2.2.2 0 := Option.some.inj (hNm.symm.trans (hKn.2 0 _ rfl).2)
    rw [← ps_R_sz hR, hA] at e1
    exact e1
  · refine va_newaK hK.2.1 hK.2.2.1 (atype := .long) (ps_wd hC ps_wA_long args) rfl hd rfl hn rfl (by show _ * 8 ≤ _; omega) hcells hslots rfl fun H1 cA e1 z1 o1 hAr hNm => k2 H1 (fun _ => ?_) z1 o1
    have hA : cA = X.2.2.2 1 := Option.some.inj (hNm.symm.trans (hKn.2 1 _ rfl).2)
    rw [← ps_R_sz hR, hA] at e1
    exact e1
  · refine va_newaK hK.2.1 hK.2.2.1 (atype := .boolean) (ps_wd hC ps_wA_boolean args) rfl hd rfl hn rfl (by show _ * 1 ≤ _; omega) hcells hslots rfl fun H1 cA e1 z1 o1 hAr hNm => k2 H1 (fun _ => ?_) z1 o1
    have hA : cA = X.2.2.2 2 := Option.some.inj (hNm.symm.trans (hKn.2 2 _ rfl).2)
    rw [← ps_R_sz hR, hA] at e1
    exact e1
theorem ps_anew {M : ps_M} {d pc : Nat} {lv : ps_LV} {r : List Value} {g : ps_G} {Q : ps_Rs → ps_G → Prop} {k idx : Nat} {n : Int32} (hd : decode M.2.1 pc = .ok (.anewarray idx, 3)) (hk : (k = 3 ∧ Cond.classLink M.1.cls idx "PictureStudio$Layer" ∈ ps_W) ∨ (k = 4 ∧ Cond.classLink M.1.cls idx "PictureStudio$Stand" ∈ ps_W)) (hn : ¬ n < 0) (hs : n.toNatClampNeg ≤ 1000000)
    (kk : ps_At M d (pc + 3) lv (.ref g.1 :: r) (ps_nw g n.toNatClampNeg (.inl (k, (n.toNatClampNeg, .inr (.inr (.inr (.inr fun _ => none))))))) Q) : ps_At M d pc lv (.int n :: r) g Q := by
  refine ps_make (st := .int n :: r) (fun X p l e R s m args below meth c H locs ls cells slots Qm hK hR _ _ _ hcells hslots k2 => ?_) kk
  have hC := hK.C
  have hKn := hC.1
  have go : ∀ (C : String), Cond.classLink M.1.cls idx C ∈ ps_W → va_AO C s → va_RA s (X.2.2.2 k) (.object C) → W p l e R s m args below meth c H locs cells slots Qm (F0 m pc ls (List.map (ps_v X) (.int n :: r))) := by
    intro C hw hAO hRA
    refine W.anew hK.2.1 hK.2.2.1 hK.own (ps_wd hC hw args) (va_AO.use hAO) rfl hd rfl hn (by omega) hcells hslots fun cA kA comp f1 f2 f3 f4 => ?_
    obtain ⟨kA', comp', q1, q2, q3, q4⟩ := hRA
    have hA : cA = X.2.2.2 k := Option.some.inj (f1.symm.trans q4)
    generalize hH1 : H.push ({ cls := cA, slots := Array.replicate n.toNatClampNeg .null, vm := .none } : Cell) = H1
    have z1 : H1.size = H.size + 1 := by rw [← hH1, Array.size_push]
    have e1 : H1[H.size]? = some (arrV cA n.toNatClampNeg (fun _ => .null)) := by rw [← hH1, Array.getElem?_push_size, ← arrV_new]
    have o1 : ∀ q : Nat, q < H.size → H1[q]? = H[q]? := fun q hq => by rw [← hH1, Array.getElem?_push, if_neg (Nat.ne_of_lt hq)]
    refine k2 H1 (fun _ => ?_) z1 o1
    rw [← ps_R_sz hR, hA] at e1
    exact e1
  rcases hk with ⟨rfl, hw⟩ | ⟨rfl, hw⟩
  · exact go _ hw hC.2.2.2.2.1 (hKn.2 3 _ rfl).2
  · exact go _ hw hC.2.2.2.2.2.1 (hKn.2 4 _ rfl).2
/-- number idx of own's pool is the static array k -/
def ps_Ls (own : String) (idx k : Nat) : Prop := k < 7 ∧ (Cond.fieldLink own idx "PictureStudio" (ps_sn k) "[I" ∈ ps_W ∨ ∃ host, Cond.fieldLinkNest own idx "PictureStudio" (ps_sn k) "[I" host ∈ ps_N)
theorem ps_gets {M : ps_M} {d pc : Nat} {lv : ps_LV} {r : List Value} {g : ps_G} {Q : ps_Rs → ps_G → Prop} {k idx : Nat} (hd : decode M.2.1 pc = .ok (.getstatic idx, 3)) (hL : ps_Ls M.1.cls idx k) (kk : ps_At M d (pc + 3) lv (.ref k :: r) g Q) : ps_At M d pc lv r g Q := by
  obtain ⟨hk, hw⟩ := hL
  refine ps_pass (fun X p l e R s m args below meth c H locs ls cells slots Qm hK hR hS _ _ _ k2 => ?_) kk
  have hC := hK.C
  have hZ := hR.2.2.2.2.2.1 k hk
  rw [List.map_cons, show ps_v X (.ref k) = .ref (X.2.1 k) from by show Value.ref (ps_ad X k) = _; rw [ps_ad_lo (by omega)]] at k2
  obtain ⟨cf, kf, fi, f, a, cell, h1, h2, h3, h4, h5, h6, h7, h8⟩ := hZ
  rcases hw with hw | ⟨host, hw⟩
  · exact W.gets hK.2.1 hK.2.2.1 hK.own (ps_wd hC hw args) h1 h2 h3 h4 h5 (fun h => by rw [h] at h6; cases h6) h7 rfl hd k2
  · exact va_WgetsN hK.2.1 hK.2.2.1 hK.own ((hC.2.2.2.1 _ hw).use rfl) h1 h2 h3 h4 h5 (fun h => by rw [h] at h6; cases h6) h7 rfl hd k2
