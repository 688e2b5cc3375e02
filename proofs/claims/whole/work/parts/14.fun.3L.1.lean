noncomputable def jL_law_3239_23 (g : ps_G) (x0 : Nat) (x1 : Nat) (x2 : Nat) (x3 : Nat) (x4 : Int32) : Option ((Int32 × ps_G) ⊕ ((ps_G) ⊕ (Int32 × ps_G))) := some (.inl (x4 + (7 : Int32), g))
theorem pjL_law_3239_23 {d : Nat} {Q : ps_Rs → ps_G → Prop} {g : ps_G} {x0 : Nat} {x1 : Nat} {x2 : Nat} {x3 : Nat} {x4 : Int32} {x : (Int32 × ps_G) ⊕ ((ps_G) ⊕ (Int32 × ps_G))} (h : jL_law_3239_23 g x0 x1 x2 x3 x4 = some x) (hh : ∀ s' : Int32 × ps_G, x = .inl s' → ps_At mL_law (d + 105) 23 [(0, .ref x0), (1, .ref x1), (2, .ref x2), (3, .ref x3), (4, .int s'.1)] [] s'.2 Q) (he : ∀ r' : ps_G, x = .inr (.inl r') → ps_At mL_law (d + 105) 3245 [] [] r' Q) (hr : ∀ v' : Int32 × ps_G, x = .inr (.inr v') → Q (.inl (some (.int v'.1))) v'.2) : ps_At mL_law (d + 105) 3239 [(0, .ref x0), (1, .ref x1), (2, .ref x2), (3, .ref x3), (4, .int x4)] [] g Q := by
  unfold jL_law_3239_23 at h
  refine sL_law_3239 ?_
  refine ⟨by decide, ?_⟩
  exact ps_weak (hh (x4 + (7 : Int32), g) (Option.some.inj h).symm) ⟨rfl, rfl, rfl, rfl, rfl, trivial⟩
noncomputable def jL_law_349_23 (g : ps_G) (x0 : Nat) (x1 : Nat) (x2 : Nat) (x3 : Nat) (x4 : Int32) : Option ((Int32 × ps_G) ⊕ ((ps_G) ⊕ (Int32 × ps_G))) := jL_law_3239_23 g x0 x1 x2 x3 x4
theorem pjL_law_349_23 {d : Nat} {Q : ps_Rs → ps_G → Prop} {g : ps_G} {x0 : Nat} {x1 : Nat} {x2 : Nat} {x3 : Nat} {x4 : Int32} {x : (Int32 × ps_G) ⊕ ((ps_G) ⊕ (Int32 × ps_G))} (h : jL_law_349_23 g x0 x1 x2 x3 x4 = some x) (hh : ∀ s' : Int32 × ps_G, x = .inl s' → ps_At mL_law (d + 105) 23 [(0, .ref x0), (1, .ref x1), (2, .ref x2), (3, .ref x3), (4, .int s'.1)] [] s'.2 Q) (he : ∀ r' : ps_G, x = .inr (.inl r') → ps_At mL_law (d + 105) 3245 [] [] r' Q) (hr : ∀ v' : Int32 × ps_G, x = .inr (.inr v') → Q (.inl (some (.int v'.1))) v'.2) : ps_At mL_law (d + 105) 349 [(0, .ref x0), (1, .ref x1), (2, .ref x2), (3, .ref x3), (4, .int x4)] [] g Q := by
  unfold jL_law_349_23 at h
  refine sL_law_349 ?_
  exact ps_weak (pjL_law_3239_23 h hh he hr) ⟨rfl, rfl, rfl, rfl, rfl, trivial⟩
noncomputable def jL_law_248_23 (g : ps_G) (x0 : Nat) (x1 : Nat) (x2 : Nat) (x3 : Nat) (x4 : Int32) : Option ((Int32 × ps_G) ⊕ ((ps_G) ⊕ (Int32 × ps_G))) := Option.bind (q_aI g x0 (x4 + (1 : Int32))) fun v8 => Option.bind (q_aI g x0 (x4 + (2 : Int32))) fun v9 => Option.bind (q_aI g x0 (x4 + (3 : Int32))) fun v10 => Option.bind (q_aI g x0 (x4 + (4 : Int32))) fun v11 => Option.bind (q_aI g x0 (x4 + (5 : Int32))) fun v12 => q_b2 (fL_feed g x1 v8 v9 v10 v11 v12 x3) fun v13 g14 => Option.bind (q_aI g14 x0 (x4 + (1 : Int32))) fun v15 => Option.bind (q_aI g14 x0 (x4 + (2 : Int32))) fun v16 => Option.bind (q_aI g14 x0 (x4 + (3 : Int32))) fun v17 => Option.bind (q_aI g14 x0 (x4 + (4 : Int32))) fun v18 => Option.bind (q_aI g14 x0 (x4 + (5 : Int32))) fun v19 => Option.bind (q_ob 12 g14 x2) fun u20 => q_b2 (fX12_feed g14 x2 v15 v16 v17 v18 v19) fun v21 g22 => Option.bind (q_ob 12 g22 x2) fun u23 => Option.bind (fX12_thrown g22 x2) fun v24 => if v24 = v13 then (if ¬ v13 = 0 then (jL_law_349_23 g22 x0 x1 x2 x3 x4) else (Option.bind (q_aL g22 x3 (0 : Int32)) fun v27 => if (lg_cmp v27 (Int32.toInt64 v21)) = 0 then (jL_law_349_23 g22 x0 x1 x2 x3 x4) else (some (.inr (.inr ((0 : Int32), g22)))))) else (some (.inr (.inr ((0 : Int32), g22))))
theorem pjL_law_248_23 {d : Nat} {Q : ps_Rs → ps_G → Prop} {g : ps_G} {x0 : Nat} {x1 : Nat} {x2 : Nat} {x3 : Nat} {x4 : Int32} {x : (Int32 × ps_G) ⊕ ((ps_G) ⊕ (Int32 × ps_G))} (h : jL_law_248_23 g x0 x1 x2 x3 x4 = some x) (hh : ∀ s' : Int32 × ps_G, x = .inl s' → ps_At mL_law (d + 105) 23 [(0, .ref x0), (1, .ref x1), (2, .ref x2), (3, .ref x3), (4, .int s'.1)] [] s'.2 Q) (he : ∀ r' : ps_G, x = .inr (.inl r') → ps_At mL_law (d + 105) 3245 [] [] r' Q) (hr : ∀ v' : Int32 × ps_G, x = .inr (.inr v') → Q (.inl (some (.int v'.1))) v'.2) : ps_At mL_law (d + 105) 248 [(0, .ref x0), (1, .ref x1), (2, .ref x2), (3, .ref x3), (4, .int x4)] [] g Q := by
  unfold jL_law_248_23 at h
  refine sL_law_248 ?_
  replace h := q_be h
  obtain ⟨v8, hv, h⟩ := h
  replace hv := q_aI_e hv
  obtain ⟨_, _, cv8, iv8, yv8⟩ := hv
  replace h := q_be h
  obtain ⟨v9, hv, h⟩ := h
  replace hv := q_aI_e hv
  obtain ⟨_, _, cv9, iv9, yv9⟩ := hv
  replace h := q_be h
  obtain ⟨v10, hv, h⟩ := h
  replace hv := q_aI_e hv
  obtain ⟨_, _, cv10, iv10, yv10⟩ := hv
  replace h := q_be h
  obtain ⟨v11, hv, h⟩ := h
  replace hv := q_aI_e hv
  obtain ⟨_, _, cv11, iv11, yv11⟩ := hv
  replace h := q_be h
  obtain ⟨v12, hv, h⟩ := h
  replace hv := q_aI_e hv
  obtain ⟨_, _, cv12, iv12, yv12⟩ := hv
  replace h := q_b2_e h
  obtain ⟨v13, g14, hv, h⟩ := h
  refine ⟨⟨some _, rfl⟩, ⟨some _, rfl⟩, _, _, cv8, iv8, _, yv8, ⟨some _, rfl⟩, _, _, cv9, iv9, _, yv9, ⟨some _, rfl⟩, _, _, cv10, iv10, _, yv10, ⟨some _, rfl⟩, _, _, cv11, iv11, _, yv11, ⟨some _, rfl⟩, _, _, cv12, iv12, _, yv12, ⟨some _, rfl⟩, ?_⟩
  refine rL_feed hv ?_
  replace h := q_be h
  obtain ⟨v15, hv, h⟩ := h
  replace hv := q_aI_e hv
  obtain ⟨_, _, cv15, iv15, yv15⟩ := hv
  replace h := q_be h
  obtain ⟨v16, hv, h⟩ := h
  replace hv := q_aI_e hv
  obtain ⟨_, _, cv16, iv16, yv16⟩ := hv
  replace h := q_be h
  obtain ⟨v17, hv, h⟩ := h
  replace hv := q_aI_e hv
  obtain ⟨_, _, cv17, iv17, yv17⟩ := hv
  replace h := q_be h
  obtain ⟨v18, hv, h⟩ := h
  replace hv := q_aI_e hv
  obtain ⟨_, _, cv18, iv18, yv18⟩ := hv
  replace h := q_be h
  obtain ⟨v19, hv, h⟩ := h
  replace hv := q_aI_e hv
  obtain ⟨_, _, cv19, iv19, yv19⟩ := hv
  replace h := q_be h
  obtain ⟨u20, hv, h⟩ := h
  replace hv := q_ob_e hv
  obtain ⟨_, cu20⟩ := hv
  replace h := q_b2_e h
  obtain ⟨v21, g22, hv, h⟩ := h
  refine ⟨by decide, ⟨some _, rfl⟩, ⟨some _, rfl⟩, _, _, cv15, iv15, _, yv15, ⟨some _, rfl⟩, _, _, cv16, iv16, _, yv16, ⟨some _, rfl⟩, _, _, cv17, iv17, _, yv17, ⟨some _, rfl⟩, _, _, cv18, iv18, _, yv18, ⟨some _, rfl⟩, _, _, cv19, iv19, _, yv19, ⟨_, cu20⟩, ?_⟩
  refine rX12_feed hv ?_
  replace h := q_be h
  obtain ⟨u23, hv, h⟩ := h
  replace hv := q_ob_e hv
  obtain ⟨_, cu23⟩ := hv
  replace h := q_be h
  obtain ⟨v24, hv, h⟩ := h
  refine ⟨by decide, ⟨some _, rfl⟩, ⟨_, cu23⟩, ?_⟩
  refine rX12_thrown hv ?_
  refine And.intro (fun hc25 => ?_) (fun hc25 => ?_)
  · replace h := q_ifp (hc25) h
    refine sL_law_332 ?_
    refine And.intro (fun hc26 => ?_) (fun hc26 => ?_)
    · replace h := q_ifp (hc26) h
      exact ps_weak (pjL_law_349_23 h hh he hr) ⟨rfl, rfl, rfl, rfl, rfl, trivial⟩
    · replace h := q_ifn (hc26) h
      replace h := q_be h
      obtain ⟨v27, hv, h⟩ := h
      replace hv := q_aL_e hv
      obtain ⟨_, _, cv27, iv27, yv27⟩ := hv
      refine ⟨⟨some _, rfl⟩, _, _, cv27, iv27, _, yv27, ?_⟩
      refine And.intro (fun hc28 => ?_) (fun hc28 => ?_)
      · replace h := q_ifp (hc28) h
        exact ps_weak (pjL_law_349_23 h hh he hr) ⟨rfl, rfl, rfl, rfl, rfl, trivial⟩
      · replace h := q_ifn (hc28) h
        exact ⟨rfl, Or.inl rfl, hr ((0 : Int32), g22) (Option.some.inj h).symm⟩
  · replace h := q_ifn (hc25) h
    exact ⟨rfl, Or.inl rfl, hr ((0 : Int32), g22) (Option.some.inj h).symm⟩
noncomputable def jL_law_405_23 (g : ps_G) (x0 : Nat) (x1 : Nat) (x2 : Nat) (x3 : Nat) (x4 : Int32) : Option ((Int32 × ps_G) ⊕ ((ps_G) ⊕ (Int32 × ps_G))) := jL_law_3239_23 g x0 x1 x2 x3 x4
theorem pjL_law_405_23 {d : Nat} {Q : ps_Rs → ps_G → Prop} {g : ps_G} {x0 : Nat} {x1 : Nat} {x2 : Nat} {x3 : Nat} {x4 : Int32} {x : (Int32 × ps_G) ⊕ ((ps_G) ⊕ (Int32 × ps_G))} (h : jL_law_405_23 g x0 x1 x2 x3 x4 = some x) (hh : ∀ s' : Int32 × ps_G, x = .inl s' → ps_At mL_law (d + 105) 23 [(0, .ref x0), (1, .ref x1), (2, .ref x2), (3, .ref x3), (4, .int s'.1)] [] s'.2 Q) (he : ∀ r' : ps_G, x = .inr (.inl r') → ps_At mL_law (d + 105) 3245 [] [] r' Q) (hr : ∀ v' : Int32 × ps_G, x = .inr (.inr v') → Q (.inl (some (.int v'.1))) v'.2) : ps_At mL_law (d + 105) 405 [(0, .ref x0), (1, .ref x1), (2, .ref x2), (3, .ref x3), (4, .int x4)] [] g Q := by
  unfold jL_law_405_23 at h
  refine sL_law_405 ?_
  exact ps_weak (pjL_law_3239_23 h hh he hr) ⟨rfl, rfl, rfl, rfl, rfl, trivial⟩
noncomputable def jL_law_352_23 (g : ps_G) (x0 : Nat) (x1 : Nat) (x2 : Nat) (x3 : Nat) (x4 : Int32) : Option ((Int32 × ps_G) ⊕ ((ps_G) ⊕ (Int32 × ps_G))) := Option.bind (q_aI g x0 (x4 + (1 : Int32))) fun v36 => q_b2 (fL_end g x1 v36 x3) fun v37 g38 => Option.bind (q_aI g38 x0 (x4 + (1 : Int32))) fun v39 => Option.bind (q_ob 12 g38 x2) fun u40 => q_b2 (fX12_end g38 x2 v39) fun v41 g42 => Option.bind (q_ob 12 g42 x2) fun u43 => Option.bind (fX12_thrown g42 x2) fun v44 => if v44 = v37 then (if ¬ v37 = 0 then (jL_law_405_23 g42 x0 x1 x2 x3 x4) else (Option.bind (q_aL g42 x3 (0 : Int32)) fun v47 => if (lg_cmp v47 (Int32.toInt64 v41)) = 0 then (jL_law_405_23 g42 x0 x1 x2 x3 x4) else (some (.inr (.inr ((0 : Int32), g42)))))) else (some (.inr (.inr ((0 : Int32), g42))))
theorem pjL_law_352_23 {d : Nat} {Q : ps_Rs → ps_G → Prop} {g : ps_G} {x0 : Nat} {x1 : Nat} {x2 : Nat} {x3 : Nat} {x4 : Int32} {x : (Int32 × ps_G) ⊕ ((ps_G) ⊕ (Int32 × ps_G))} (h : jL_law_352_23 g x0 x1 x2 x3 x4 = some x) (hh : ∀ s' : Int32 × ps_G, x = .inl s' → ps_At mL_law (d + 105) 23 [(0, .ref x0), (1, .ref x1), (2, .ref x2), (3, .ref x3), (4, .int s'.1)] [] s'.2 Q) (he : ∀ r' : ps_G, x = .inr (.inl r') → ps_At mL_law (d + 105) 3245 [] [] r' Q) (hr : ∀ v' : Int32 × ps_G, x = .inr (.inr v') → Q (.inl (some (.int v'.1))) v'.2) : ps_At mL_law (d + 105) 352 [(0, .ref x0), (1, .ref x1), (2, .ref x2), (3, .ref x3), (4, .int x4)] [] g Q := by
  unfold jL_law_352_23 at h
  refine sL_law_352 ?_
  replace h := q_be h
  obtain ⟨v36, hv, h⟩ := h
  replace hv := q_aI_e hv
  obtain ⟨_, _, cv36, iv36, yv36⟩ := hv
  replace h := q_b2_e h
  obtain ⟨v37, g38, hv, h⟩ := h
  refine ⟨⟨some _, rfl⟩, ⟨some _, rfl⟩, _, _, cv36, iv36, _, yv36, ⟨some _, rfl⟩, ?_⟩
  refine rL_end hv ?_
  replace h := q_be h
  obtain ⟨v39, hv, h⟩ := h
  replace hv := q_aI_e hv
  obtain ⟨_, _, cv39, iv39, yv39⟩ := hv
  replace h := q_be h
  obtain ⟨u40, hv, h⟩ := h
  replace hv := q_ob_e hv
  obtain ⟨_, cu40⟩ := hv
  replace h := q_b2_e h
  obtain ⟨v41, g42, hv, h⟩ := h
  refine ⟨by decide, ⟨some _, rfl⟩, ⟨some _, rfl⟩, _, _, cv39, iv39, _, yv39, ⟨_, cu40⟩, ?_⟩
  refine rX12_end hv ?_
  replace h := q_be h
  obtain ⟨u43, hv, h⟩ := h
  replace hv := q_ob_e hv
  obtain ⟨_, cu43⟩ := hv
  replace h := q_be h
  obtain ⟨v44, hv, h⟩ := h
  refine ⟨by decide, ⟨some _, rfl⟩, ⟨_, cu43⟩, ?_⟩
  refine rX12_thrown hv ?_
  refine And.intro (fun hc45 => ?_) (fun hc45 => ?_)
  · replace h := q_ifp (hc45) h
    refine sL_law_388 ?_
    refine And.intro (fun hc46 => ?_) (fun hc46 => ?_)
    · replace h := q_ifp (hc46) h
      exact ps_weak (pjL_law_405_23 h hh he hr) ⟨rfl, rfl, rfl, rfl, rfl, trivial⟩
    · replace h := q_ifn (hc46) h
      replace h := q_be h
      obtain ⟨v47, hv, h⟩ := h
      replace hv := q_aL_e hv
      obtain ⟨_, _, cv47, iv47, yv47⟩ := hv
      refine ⟨⟨some _, rfl⟩, _, _, cv47, iv47, _, yv47, ?_⟩
      refine And.intro (fun hc48 => ?_) (fun hc48 => ?_)
      · replace h := q_ifp (hc48) h
        exact ps_weak (pjL_law_405_23 h hh he hr) ⟨rfl, rfl, rfl, rfl, rfl, trivial⟩
      · replace h := q_ifn (hc48) h
        exact ⟨rfl, Or.inl rfl, hr ((0 : Int32), g42) (Option.some.inj h).symm⟩
  · replace h := q_ifn (hc45) h
    exact ⟨rfl, Or.inl rfl, hr ((0 : Int32), g42) (Option.some.inj h).symm⟩
noncomputable def jL_law_408_23 (g : ps_G) (x0 : Nat) (x1 : Nat) (x2 : Nat) (x3 : Nat) (x4 : Int32) : Option ((Int32 × ps_G) ⊕ ((ps_G) ⊕ (Int32 × ps_G))) := Option.bind (q_aI g x0 (x4 + (1 : Int32))) fun v56 => Option.bind (q_ob 11 g x1) fun u57 => Option.bind (fX11_fault g x1 v56) fun v58 => Option.bind (q_aI g x0 (x4 + (1 : Int32))) fun v59 => Option.bind (q_ob 12 g x2) fun u60 => q_b2 (fX12_fault g x2 v59) fun v61 g62 => if v58 = v61 then (jL_law_3239_23 g62 x0 x1 x2 x3 x4) else (some (.inr (.inr ((0 : Int32), g62))))
theorem pjL_law_408_23 {d : Nat} {Q : ps_Rs → ps_G → Prop} {g : ps_G} {x0 : Nat} {x1 : Nat} {x2 : Nat} {x3 : Nat} {x4 : Int32} {x : (Int32 × ps_G) ⊕ ((ps_G) ⊕ (Int32 × ps_G))} (h : jL_law_408_23 g x0 x1 x2 x3 x4 = some x) (hh : ∀ s' : Int32 × ps_G, x = .inl s' → ps_At mL_law (d + 105) 23 [(0, .ref x0), (1, .ref x1), (2, .ref x2), (3, .ref x3), (4, .int s'.1)] [] s'.2 Q) (he : ∀ r' : ps_G, x = .inr (.inl r') → ps_At mL_law (d + 105) 3245 [] [] r' Q) (hr : ∀ v' : Int32 × ps_G, x = .inr (.inr v') → Q (.inl (some (.int v'.1))) v'.2) : ps_At mL_law (d + 105) 408 [(0, .ref x0), (1, .ref x1), (2, .ref x2), (3, .ref x3), (4, .int x4)] [] g Q := by
  unfold jL_law_408_23 at h
  refine sL_law_408 ?_
  replace h := q_be h
  obtain ⟨v56, hv, h⟩ := h
  replace hv := q_aI_e hv
  obtain ⟨_, _, cv56, iv56, yv56⟩ := hv
  replace h := q_be h
  obtain ⟨u57, hv, h⟩ := h
  replace hv := q_ob_e hv
  obtain ⟨_, cu57⟩ := hv
  replace h := q_be h
  obtain ⟨v58, hv, h⟩ := h
  refine ⟨⟨some _, rfl⟩, ⟨some _, rfl⟩, _, _, cv56, iv56, _, yv56, ⟨_, cu57⟩, ?_⟩
  refine rX11_fault hv ?_
  replace h := q_be h
  obtain ⟨v59, hv, h⟩ := h
  replace hv := q_aI_e hv
  obtain ⟨_, _, cv59, iv59, yv59⟩ := hv
  replace h := q_be h
  obtain ⟨u60, hv, h⟩ := h
  replace hv := q_ob_e hv
  obtain ⟨_, cu60⟩ := hv
  replace h := q_b2_e h
  obtain ⟨v61, g62, hv, h⟩ := h
  refine ⟨⟨some _, rfl⟩, ⟨some _, rfl⟩, _, _, cv59, iv59, _, yv59, ⟨_, cu60⟩, ?_⟩
  refine rX12_fault hv ?_
  refine And.intro (fun hc63 => ?_) (fun hc63 => ?_)
  · replace h := q_ifp (hc63) h
    exact ps_weak (pjL_law_3239_23 h hh he hr) ⟨rfl, rfl, rfl, rfl, rfl, trivial⟩
  · replace h := q_ifn (hc63) h
    exact ⟨rfl, Or.inl rfl, hr ((0 : Int32), g62) (Option.some.inj h).symm⟩
noncomputable def jL_law_433_23 (g : ps_G) (x0 : Nat) (x1 : Nat) (x2 : Nat) (x3 : Nat) (x4 : Int32) : Option ((Int32 × ps_G) ⊕ ((ps_G) ⊕ (Int32 × ps_G))) := Option.bind (q_aI g x0 (x4 + (1 : Int32))) fun v67 => Option.bind (q_aI g x0 (x4 + (2 : Int32))) fun v68 => q_b2 (fL_open g x1 v67 v68) fun v69 g70 => Option.bind (q_aI g70 x0 (x4 + (1 : Int32))) fun v71 => Option.bind (q_aI g70 x0 (x4 + (2 : Int32))) fun v72 => Option.bind (q_ob 12 g70 x2) fun u73 => Option.bind (fX12_open g70 x2 v71 v72) fun v74 => Option.bind (q_ob 12 v74 x2) fun u75 => Option.bind (fX12_thrown v74 x2) fun v76 => if v76 = v69 then (jL_law_3239_23 v74 x0 x1 x2 x3 x4) else (some (.inr (.inr ((0 : Int32), v74))))
theorem pjL_law_433_23 {d : Nat} {Q : ps_Rs → ps_G → Prop} {g : ps_G} {x0 : Nat} {x1 : Nat} {x2 : Nat} {x3 : Nat} {x4 : Int32} {x : (Int32 × ps_G) ⊕ ((ps_G) ⊕ (Int32 × ps_G))} (h : jL_law_433_23 g x0 x1 x2 x3 x4 = some x) (hh : ∀ s' : Int32 × ps_G, x = .inl s' → ps_At mL_law (d + 105) 23 [(0, .ref x0), (1, .ref x1), (2, .ref x2), (3, .ref x3), (4, .int s'.1)] [] s'.2 Q) (he : ∀ r' : ps_G, x = .inr (.inl r') → ps_At mL_law (d + 105) 3245 [] [] r' Q) (hr : ∀ v' : Int32 × ps_G, x = .inr (.inr v') → Q (.inl (some (.int v'.1))) v'.2) : ps_At mL_law (d + 105) 433 [(0, .ref x0), (1, .ref x1), (2, .ref x2), (3, .ref x3), (4, .int x4)] [] g Q := by
  unfold jL_law_433_23 at h
  refine sL_law_433 ?_
  replace h := q_be h
  obtain ⟨v67, hv, h⟩ := h
  replace hv := q_aI_e hv
  obtain ⟨_, _, cv67, iv67, yv67⟩ := hv
  replace h := q_be h
  obtain ⟨v68, hv, h⟩ := h
  replace hv := q_aI_e hv
  obtain ⟨_, _, cv68, iv68, yv68⟩ := hv
  replace h := q_b2_e h
  obtain ⟨v69, g70, hv, h⟩ := h
  refine ⟨⟨some _, rfl⟩, ⟨some _, rfl⟩, _, _, cv67, iv67, _, yv67, ⟨some _, rfl⟩, _, _, cv68, iv68, _, yv68, ?_⟩
  refine rL_open hv ?_
  replace h := q_be h
  obtain ⟨v71, hv, h⟩ := h
  replace hv := q_aI_e hv
  obtain ⟨_, _, cv71, iv71, yv71⟩ := hv
  replace h := q_be h
  obtain ⟨v72, hv, h⟩ := h
  replace hv := q_aI_e hv
  obtain ⟨_, _, cv72, iv72, yv72⟩ := hv
  replace h := q_be h
  obtain ⟨u73, hv, h⟩ := h
  replace hv := q_ob_e hv
  obtain ⟨_, cu73⟩ := hv
  replace h := q_be h
  obtain ⟨v74, hv, h⟩ := h
  refine ⟨by decide, ⟨some _, rfl⟩, ⟨some _, rfl⟩, _, _, cv71, iv71, _, yv71, ⟨some _, rfl⟩, _, _, cv72, iv72, _, yv72, ⟨_, cu73⟩, ?_⟩
  refine rX12_open hv ?_
  replace h := q_be h
  obtain ⟨u75, hv, h⟩ := h
  replace hv := q_ob_e hv
  obtain ⟨_, cu75⟩ := hv
  replace h := q_be h
  obtain ⟨v76, hv, h⟩ := h
  refine ⟨⟨some _, rfl⟩, ⟨_, cu75⟩, ?_⟩
  refine rX12_thrown hv ?_
  refine And.intro (fun hc77 => ?_) (fun hc77 => ?_)
  · replace h := q_ifp (hc77) h
    refine sL_law_478 ?_
    exact ps_weak (pjL_law_3239_23 h hh he hr) ⟨rfl, rfl, rfl, rfl, rfl, trivial⟩
  · replace h := q_ifn (hc77) h
    exact ⟨rfl, Or.inl rfl, hr ((0 : Int32), v74) (Option.some.inj h).symm⟩
noncomputable def jL_law_558_23 (g : ps_G) (x0 : Nat) (x1 : Nat) (x2 : Nat) (x3 : Nat) (x4 : Int32) : Option ((Int32 × ps_G) ⊕ ((ps_G) ⊕ (Int32 × ps_G))) := jL_law_3239_23 g x0 x1 x2 x3 x4
theorem pjL_law_558_23 {d : Nat} {Q : ps_Rs → ps_G → Prop} {g : ps_G} {x0 : Nat} {x1 : Nat} {x2 : Nat} {x3 : Nat} {x4 : Int32} {x : (Int32 × ps_G) ⊕ ((ps_G) ⊕ (Int32 × ps_G))} (h : jL_law_558_23 g x0 x1 x2 x3 x4 = some x) (hh : ∀ s' : Int32 × ps_G, x = .inl s' → ps_At mL_law (d + 105) 23 [(0, .ref x0), (1, .ref x1), (2, .ref x2), (3, .ref x3), (4, .int s'.1)] [] s'.2 Q) (he : ∀ r' : ps_G, x = .inr (.inl r') → ps_At mL_law (d + 105) 3245 [] [] r' Q) (hr : ∀ v' : Int32 × ps_G, x = .inr (.inr v') → Q (.inl (some (.int v'.1))) v'.2) : ps_At mL_law (d + 105) 558 [(0, .ref x0), (1, .ref x1), (2, .ref x2), (3, .ref x3), (4, .int x4)] [] g Q := by
  unfold jL_law_558_23 at h
  refine sL_law_558 ?_
  exact ps_weak (pjL_law_3239_23 h hh he hr) ⟨rfl, rfl, rfl, rfl, rfl, trivial⟩
noncomputable def jL_law_481_23 (g : ps_G) (x0 : Nat) (x1 : Nat) (x2 : Nat) (x3 : Nat) (x4 : Int32) : Option ((Int32 × ps_G) ⊕ ((ps_G) ⊕ (Int32 × ps_G))) := Option.bind (q_aI g x0 (x4 + (1 : Int32))) fun v81 => Option.bind (q_aI g x0 (x4 + (2 : Int32))) fun v82 => Option.bind (q_aI g x0 (x4 + (3 : Int32))) fun v83 => q_b2 (fL_layer g x1 v81 v82 v83 x3) fun v84 g85 => Option.bind (q_aI g85 x0 (x4 + (1 : Int32))) fun v86 => Option.bind (q_aI g85 x0 (x4 + (2 : Int32))) fun v87 => Option.bind (q_aI g85 x0 (x4 + (3 : Int32))) fun v88 => Option.bind (q_ob 12 g85 x2) fun u89 => q_b2 (fX12_layer g85 x2 v86 v87 v88) fun v90 g91 => Option.bind (q_ob 12 g91 x2) fun u92 => Option.bind (fX12_thrown g91 x2) fun v93 => if v93 = v84 then (if ¬ v84 = 0 then (jL_law_558_23 g91 x0 x1 x2 x3 x4) else (Option.bind (q_aL g91 x3 (0 : Int32)) fun v96 => if (lg_cmp v96 (Int32.toInt64 v90)) = 0 then (jL_law_558_23 g91 x0 x1 x2 x3 x4) else (some (.inr (.inr ((0 : Int32), g91)))))) else (some (.inr (.inr ((0 : Int32), g91))))
theorem pjL_law_481_23 {d : Nat} {Q : ps_Rs → ps_G → Prop} {g : ps_G} {x0 : Nat} {x1 : Nat} {x2 : Nat} {x3 : Nat} {x4 : Int32} {x : (Int32 × ps_G) ⊕ ((ps_G) ⊕ (Int32 × ps_G))} (h : jL_law_481_23 g x0 x1 x2 x3 x4 = some x) (hh : ∀ s' : Int32 × ps_G, x = .inl s' → ps_At mL_law (d + 105) 23 [(0, .ref x0), (1, .ref x1), (2, .ref x2), (3, .ref x3), (4, .int s'.1)] [] s'.2 Q) (he : ∀ r' : ps_G, x = .inr (.inl r') → ps_At mL_law (d + 105) 3245 [] [] r' Q) (hr : ∀ v' : Int32 × ps_G, x = .inr (.inr v') → Q (.inl (some (.int v'.1))) v'.2) : ps_At mL_law (d + 105) 481 [(0, .ref x0), (1, .ref x1), (2, .ref x2), (3, .ref x3), (4, .int x4)] [] g Q := by
  unfold jL_law_481_23 at h
  refine sL_law_481 ?_
  replace h := q_be h
  obtain ⟨v81, hv, h⟩ := h
  replace hv := q_aI_e hv
  obtain ⟨_, _, cv81, iv81, yv81⟩ := hv
  replace h := q_be h
  obtain ⟨v82, hv, h⟩ := h
  replace hv := q_aI_e hv
  obtain ⟨_, _, cv82, iv82, yv82⟩ := hv
  replace h := q_be h
  obtain ⟨v83, hv, h⟩ := h
  replace hv := q_aI_e hv
  obtain ⟨_, _, cv83, iv83, yv83⟩ := hv
  replace h := q_b2_e h
  obtain ⟨v84, g85, hv, h⟩ := h
  refine ⟨⟨some _, rfl⟩, ⟨some _, rfl⟩, _, _, cv81, iv81, _, yv81, ⟨some _, rfl⟩, _, _, cv82, iv82, _, yv82, ⟨some _, rfl⟩, _, _, cv83, iv83, _, yv83, ⟨some _, rfl⟩, ?_⟩
  refine rL_layer hv ?_
  replace h := q_be h
  obtain ⟨v86, hv, h⟩ := h
  replace hv := q_aI_e hv
  obtain ⟨_, _, cv86, iv86, yv86⟩ := hv
  replace h := q_be h
  obtain ⟨v87, hv, h⟩ := h
  replace hv := q_aI_e hv
  obtain ⟨_, _, cv87, iv87, yv87⟩ := hv
  replace h := q_be h
  obtain ⟨v88, hv, h⟩ := h
  replace hv := q_aI_e hv
  obtain ⟨_, _, cv88, iv88, yv88⟩ := hv
  replace h := q_be h
  obtain ⟨u89, hv, h⟩ := h
  replace hv := q_ob_e hv
  obtain ⟨_, cu89⟩ := hv
  replace h := q_b2_e h
  obtain ⟨v90, g91, hv, h⟩ := h
  refine ⟨by decide, ⟨some _, rfl⟩, ⟨some _, rfl⟩, _, _, cv86, iv86, _, yv86, ⟨some _, rfl⟩, _, _, cv87, iv87, _, yv87, ⟨some _, rfl⟩, _, _, cv88, iv88, _, yv88, ⟨_, cu89⟩, ?_⟩
  refine rX12_layer hv ?_
  replace h := q_be h
  obtain ⟨u92, hv, h⟩ := h
  replace hv := q_ob_e hv
  obtain ⟨_, cu92⟩ := hv
  replace h := q_be h
  obtain ⟨v93, hv, h⟩ := h
  refine ⟨by decide, ⟨some _, rfl⟩, ⟨_, cu92⟩, ?_⟩
  refine rX12_thrown hv ?_
  refine And.intro (fun hc94 => ?_) (fun hc94 => ?_)
  · replace h := q_ifp (hc94) h
    refine sL_law_541 ?_
    refine And.intro (fun hc95 => ?_) (fun hc95 => ?_)
    · replace h := q_ifp (hc95) h
      exact ps_weak (pjL_law_558_23 h hh he hr) ⟨rfl, rfl, rfl, rfl, rfl, trivial⟩
    · replace h := q_ifn (hc95) h
      replace h := q_be h
      obtain ⟨v96, hv, h⟩ := h
      replace hv := q_aL_e hv
      obtain ⟨_, _, cv96, iv96, yv96⟩ := hv
      refine ⟨⟨some _, rfl⟩, _, _, cv96, iv96, _, yv96, ?_⟩
      refine And.intro (fun hc97 => ?_) (fun hc97 => ?_)
      · replace h := q_ifp (hc97) h
        exact ps_weak (pjL_law_558_23 h hh he hr) ⟨rfl, rfl, rfl, rfl, rfl, trivial⟩
      · replace h := q_ifn (hc97) h
        exact ⟨rfl, Or.inl rfl, hr ((0 : Int32), g91) (Option.some.inj h).symm⟩
  · replace h := q_ifn (hc94) h
    exact ⟨rfl, Or.inl rfl, hr ((0 : Int32), g91) (Option.some.inj h).symm⟩
noncomputable def jL_law_561_23 (g : ps_G) (x0 : Nat) (x1 : Nat) (x2 : Nat) (x3 : Nat) (x4 : Int32) : Option ((Int32 × ps_G) ⊕ ((ps_G) ⊕ (Int32 × ps_G))) := Option.bind (q_aI g x0 (x4 + (1 : Int32))) fun v105 => q_b2 (fL_drop g x1 v105) fun v106 g107 => Option.bind (q_aI g107 x0 (x4 + (1 : Int32))) fun v108 => Option.bind (q_ob 12 g107 x2) fun u109 => Option.bind (fX12_drop g107 x2 v108) fun v110 => Option.bind (q_ob 12 v110 x2) fun u111 => Option.bind (fX12_thrown v110 x2) fun v112 => if v112 = v106 then (jL_law_3239_23 v110 x0 x1 x2 x3 x4) else (some (.inr (.inr ((0 : Int32), v110))))
theorem pjL_law_561_23 {d : Nat} {Q : ps_Rs → ps_G → Prop} {g : ps_G} {x0 : Nat} {x1 : Nat} {x2 : Nat} {x3 : Nat} {x4 : Int32} {x : (Int32 × ps_G) ⊕ ((ps_G) ⊕ (Int32 × ps_G))} (h : jL_law_561_23 g x0 x1 x2 x3 x4 = some x) (hh : ∀ s' : Int32 × ps_G, x = .inl s' → ps_At mL_law (d + 105) 23 [(0, .ref x0), (1, .ref x1), (2, .ref x2), (3, .ref x3), (4, .int s'.1)] [] s'.2 Q) (he : ∀ r' : ps_G, x = .inr (.inl r') → ps_At mL_law (d + 105) 3245 [] [] r' Q) (hr : ∀ v' : Int32 × ps_G, x = .inr (.inr v') → Q (.inl (some (.int v'.1))) v'.2) : ps_At mL_law (d + 105) 561 [(0, .ref x0), (1, .ref x1), (2, .ref x2), (3, .ref x3), (4, .int x4)] [] g Q := by
  unfold jL_law_561_23 at h
  refine sL_law_561 ?_
  replace h := q_be h
  obtain ⟨v105, hv, h⟩ := h
  replace hv := q_aI_e hv
  obtain ⟨_, _, cv105, iv105, yv105⟩ := hv
  replace h := q_b2_e h
  obtain ⟨v106, g107, hv, h⟩ := h
  refine ⟨⟨some _, rfl⟩, ⟨some _, rfl⟩, _, _, cv105, iv105, _, yv105, ?_⟩
  refine rL_drop hv ?_
  replace h := q_be h
  obtain ⟨v108, hv, h⟩ := h
  replace hv := q_aI_e hv
  obtain ⟨_, _, cv108, iv108, yv108⟩ := hv
  replace h := q_be h
  obtain ⟨u109, hv, h⟩ := h
  replace hv := q_ob_e hv
  obtain ⟨_, cu109⟩ := hv
  replace h := q_be h
  obtain ⟨v110, hv, h⟩ := h
  refine ⟨by decide, ⟨some _, rfl⟩, ⟨some _, rfl⟩, _, _, cv108, iv108, _, yv108, ⟨_, cu109⟩, ?_⟩
  refine rX12_drop hv ?_
  replace h := q_be h
  obtain ⟨u111, hv, h⟩ := h
  replace hv := q_ob_e hv
  obtain ⟨_, cu111⟩ := hv
  replace h := q_be h
  obtain ⟨v112, hv, h⟩ := h
  refine ⟨⟨some _, rfl⟩, ⟨_, cu111⟩, ?_⟩
  refine rX12_thrown hv ?_
  refine And.intro (fun hc113 => ?_) (fun hc113 => ?_)
  · replace h := q_ifp (hc113) h
    refine sL_law_594 ?_
    exact ps_weak (pjL_law_3239_23 h hh he hr) ⟨rfl, rfl, rfl, rfl, rfl, trivial⟩
  · replace h := q_ifn (hc113) h
    exact ⟨rfl, Or.inl rfl, hr ((0 : Int32), v110) (Option.some.inj h).symm⟩
noncomputable def jL_law_597_23 (g : ps_G) (x0 : Nat) (x1 : Nat) (x2 : Nat) (x3 : Nat) (x4 : Int32) : Option ((Int32 × ps_G) ⊕ ((ps_G) ⊕ (Int32 × ps_G))) := Option.bind (q_aI g x0 (x4 + (1 : Int32))) fun v117 => Option.bind (q_aI g x0 (x4 + (2 : Int32))) fun v118 => Option.bind (q_aI g x0 (x4 + (3 : Int32))) fun v119 => q_b2 (fL_move g x1 v117 v118 v119) fun v120 g121 => Option.bind (q_aI g121 x0 (x4 + (1 : Int32))) fun v122 => Option.bind (q_aI g121 x0 (x4 + (2 : Int32))) fun v123 => Option.bind (q_aI g121 x0 (x4 + (3 : Int32))) fun v124 => Option.bind (q_ob 12 g121 x2) fun u125 => Option.bind (fX12_move g121 x2 v122 v123 v124) fun v126 => Option.bind (q_ob 12 v126 x2) fun u127 => Option.bind (fX12_thrown v126 x2) fun v128 => if v128 = v120 then (jL_law_3239_23 v126 x0 x1 x2 x3 x4) else (some (.inr (.inr ((0 : Int32), v126))))
theorem pjL_law_597_23 {d : Nat} {Q : ps_Rs → ps_G → Prop} {g : ps_G} {x0 : Nat} {x1 : Nat} {x2 : Nat} {x3 : Nat} {x4 : Int32} {x : (Int32 × ps_G) ⊕ ((ps_G) ⊕ (Int32 × ps_G))} (h : jL_law_597_23 g x0 x1 x2 x3 x4 = some x) (hh : ∀ s' : Int32 × ps_G, x = .inl s' → ps_At mL_law (d + 105) 23 [(0, .ref x0), (1, .ref x1), (2, .ref x2), (3, .ref x3), (4, .int s'.1)] [] s'.2 Q) (he : ∀ r' : ps_G, x = .inr (.inl r') → ps_At mL_law (d + 105) 3245 [] [] r' Q) (hr : ∀ v' : Int32 × ps_G, x = .inr (.inr v') → Q (.inl (some (.int v'.1))) v'.2) : ps_At mL_law (d + 105) 597 [(0, .ref x0), (1, .ref x1), (2, .ref x2), (3, .ref x3), (4, .int x4)] [] g Q := by
  unfold jL_law_597_23 at h
  refine sL_law_597 ?_
  replace h := q_be h
  obtain ⟨v117, hv, h⟩ := h
  replace hv := q_aI_e hv
  obtain ⟨_, _, cv117, iv117, yv117⟩ := hv
  replace h := q_be h
  obtain ⟨v118, hv, h⟩ := h
  replace hv := q_aI_e hv
  obtain ⟨_, _, cv118, iv118, yv118⟩ := hv
  replace h := q_be h
  obtain ⟨v119, hv, h⟩ := h
  replace hv := q_aI_e hv
  obtain ⟨_, _, cv119, iv119, yv119⟩ := hv
  replace h := q_b2_e h
  obtain ⟨v120, g121, hv, h⟩ := h
  refine ⟨⟨some _, rfl⟩, ⟨some _, rfl⟩, _, _, cv117, iv117, _, yv117, ⟨some _, rfl⟩, _, _, cv118, iv118, _, yv118, ⟨some _, rfl⟩, _, _, cv119, iv119, _, yv119, ?_⟩
  refine rL_move hv ?_
  replace h := q_be h
  obtain ⟨v122, hv, h⟩ := h
  replace hv := q_aI_e hv
  obtain ⟨_, _, cv122, iv122, yv122⟩ := hv
  replace h := q_be h
  obtain ⟨v123, hv, h⟩ := h
  replace hv := q_aI_e hv
  obtain ⟨_, _, cv123, iv123, yv123⟩ := hv
  replace h := q_be h
  obtain ⟨v124, hv, h⟩ := h
  replace hv := q_aI_e hv
  obtain ⟨_, _, cv124, iv124, yv124⟩ := hv
  replace h := q_be h
  obtain ⟨u125, hv, h⟩ := h
  replace hv := q_ob_e hv
  obtain ⟨_, cu125⟩ := hv
  replace h := q_be h
  obtain ⟨v126, hv, h⟩ := h
  refine ⟨by decide, ⟨some _, rfl⟩, ⟨some _, rfl⟩, _, _, cv122, iv122, _, yv122, ⟨some _, rfl⟩, _, _, cv123, iv123, _, yv123, ⟨some _, rfl⟩, _, _, cv124, iv124, _, yv124, ⟨_, cu125⟩, ?_⟩
  refine rX12_move hv ?_
  replace h := q_be h
  obtain ⟨u127, hv, h⟩ := h
  replace hv := q_ob_e hv
  obtain ⟨_, cu127⟩ := hv
  replace h := q_be h
  obtain ⟨v128, hv, h⟩ := h
  refine ⟨⟨some _, rfl⟩, ⟨_, cu127⟩, ?_⟩
  refine rX12_thrown hv ?_
  refine And.intro (fun hc129 => ?_) (fun hc129 => ?_)
  · replace h := q_ifp (hc129) h
    refine sL_law_654 ?_
    exact ps_weak (pjL_law_3239_23 h hh he hr) ⟨rfl, rfl, rfl, rfl, rfl, trivial⟩
  · replace h := q_ifn (hc129) h
    exact ⟨rfl, Or.inl rfl, hr ((0 : Int32), v126) (Option.some.inj h).symm⟩
noncomputable def jL_law_657_23 (g : ps_G) (x0 : Nat) (x1 : Nat) (x2 : Nat) (x3 : Nat) (x4 : Int32) : Option ((Int32 × ps_G) ⊕ ((ps_G) ⊕ (Int32 × ps_G))) := Option.bind (q_aI g x0 (x4 + (1 : Int32))) fun v133 => Option.bind (q_aI g x0 (x4 + (2 : Int32))) fun v134 => Option.bind (q_aI g x0 (x4 + (3 : Int32))) fun v135 => q_b2 (fL_set g x1 v133 v134 v135) fun v136 g137 => Option.bind (q_aI g137 x0 (x4 + (1 : Int32))) fun v138 => Option.bind (q_aI g137 x0 (x4 + (2 : Int32))) fun v139 => Option.bind (q_aI g137 x0 (x4 + (3 : Int32))) fun v140 => Option.bind (q_ob 12 g137 x2) fun u141 => Option.bind (fX12_set g137 x2 v138 v139 v140) fun v142 => Option.bind (q_ob 12 v142 x2) fun u143 => Option.bind (fX12_thrown v142 x2) fun v144 => if v144 = v136 then (jL_law_3239_23 v142 x0 x1 x2 x3 x4) else (some (.inr (.inr ((0 : Int32), v142))))
theorem pjL_law_657_23 {d : Nat} {Q : ps_Rs → ps_G → Prop} {g : ps_G} {x0 : Nat} {x1 : Nat} {x2 : Nat} {x3 : Nat} {x4 : Int32} {x : (Int32 × ps_G) ⊕ ((ps_G) ⊕ (Int32 × ps_G))} (h : jL_law_657_23 g x0 x1 x2 x3 x4 = some x) (hh : ∀ s' : Int32 × ps_G, x = .inl s' → ps_At mL_law (d + 105) 23 [(0, .ref x0), (1, .ref x1), (2, .ref x2), (3, .ref x3), (4, .int s'.1)] [] s'.2 Q) (he : ∀ r' : ps_G, x = .inr (.inl r') → ps_At mL_law (d + 105) 3245 [] [] r' Q) (hr : ∀ v' : Int32 × ps_G, x = .inr (.inr v') → Q (.inl (some (.int v'.1))) v'.2) : ps_At mL_law (d + 105) 657 [(0, .ref x0), (1, .ref x1), (2, .ref x2), (3, .ref x3), (4, .int x4)] [] g Q := by
  unfold jL_law_657_23 at h
  refine sL_law_657 ?_
  replace h := q_be h
  obtain ⟨v133, hv, h⟩ := h
  replace hv := q_aI_e hv
  obtain ⟨_, _, cv133, iv133, yv133⟩ := hv
  replace h := q_be h
  obtain ⟨v134, hv, h⟩ := h
  replace hv := q_aI_e hv
  obtain ⟨_, _, cv134, iv134, yv134⟩ := hv
  replace h := q_be h
  obtain ⟨v135, hv, h⟩ := h
  replace hv := q_aI_e hv
  obtain ⟨_, _, cv135, iv135, yv135⟩ := hv
  replace h := q_b2_e h
  obtain ⟨v136, g137, hv, h⟩ := h
  refine ⟨⟨some _, rfl⟩, ⟨some _, rfl⟩, _, _, cv133, iv133, _, yv133, ⟨some _, rfl⟩, _, _, cv134, iv134, _, yv134, ⟨some _, rfl⟩, _, _, cv135, iv135, _, yv135, ?_⟩
  refine rL_set hv ?_
  replace h := q_be h
  obtain ⟨v138, hv, h⟩ := h
  replace hv := q_aI_e hv
  obtain ⟨_, _, cv138, iv138, yv138⟩ := hv
  replace h := q_be h
  obtain ⟨v139, hv, h⟩ := h
  replace hv := q_aI_e hv
  obtain ⟨_, _, cv139, iv139, yv139⟩ := hv
  replace h := q_be h
  obtain ⟨v140, hv, h⟩ := h
  replace hv := q_aI_e hv
  obtain ⟨_, _, cv140, iv140, yv140⟩ := hv
  replace h := q_be h
  obtain ⟨u141, hv, h⟩ := h
  replace hv := q_ob_e hv
  obtain ⟨_, cu141⟩ := hv
  replace h := q_be h
  obtain ⟨v142, hv, h⟩ := h
  refine ⟨by decide, ⟨some _, rfl⟩, ⟨some _, rfl⟩, _, _, cv138, iv138, _, yv138, ⟨some _, rfl⟩, _, _, cv139, iv139, _, yv139, ⟨some _, rfl⟩, _, _, cv140, iv140, _, yv140, ⟨_, cu141⟩, ?_⟩
  refine rX12_set hv ?_
  replace h := q_be h
  obtain ⟨u143, hv, h⟩ := h
  replace hv := q_ob_e hv
  obtain ⟨_, cu143⟩ := hv
  replace h := q_be h
  obtain ⟨v144, hv, h⟩ := h
  refine ⟨⟨some _, rfl⟩, ⟨_, cu143⟩, ?_⟩
  refine rX12_thrown hv ?_
  refine And.intro (fun hc145 => ?_) (fun hc145 => ?_)
  · replace h := q_ifp (hc145) h
    refine sL_law_714 ?_
    exact ps_weak (pjL_law_3239_23 h hh he hr) ⟨rfl, rfl, rfl, rfl, rfl, trivial⟩
  · replace h := q_ifn (hc145) h
    exact ⟨rfl, Or.inl rfl, hr ((0 : Int32), v142) (Option.some.inj h).symm⟩
noncomputable def jL_law_717_23 (g : ps_G) (x0 : Nat) (x1 : Nat) (x2 : Nat) (x3 : Nat) (x4 : Int32) : Option ((Int32 × ps_G) ⊕ ((ps_G) ⊕ (Int32 × ps_G))) := Option.bind (q_aI g x0 (x4 + (1 : Int32))) fun v149 => Option.bind (q_aI g x0 (x4 + (2 : Int32))) fun v150 => q_b2 (fL_mask g x1 v149 v150) fun v151 g152 => Option.bind (q_aI g152 x0 (x4 + (1 : Int32))) fun v153 => Option.bind (q_aI g152 x0 (x4 + (2 : Int32))) fun v154 => Option.bind (q_ob 12 g152 x2) fun u155 => Option.bind (fX12_mask g152 x2 v153 v154) fun v156 => Option.bind (q_ob 12 v156 x2) fun u157 => Option.bind (fX12_thrown v156 x2) fun v158 => if v158 = v151 then (jL_law_3239_23 v156 x0 x1 x2 x3 x4) else (some (.inr (.inr ((0 : Int32), v156))))
theorem pjL_law_717_23 {d : Nat} {Q : ps_Rs → ps_G → Prop} {g : ps_G} {x0 : Nat} {x1 : Nat} {x2 : Nat} {x3 : Nat} {x4 : Int32} {x : (Int32 × ps_G) ⊕ ((ps_G) ⊕ (Int32 × ps_G))} (h : jL_law_717_23 g x0 x1 x2 x3 x4 = some x) (hh : ∀ s' : Int32 × ps_G, x = .inl s' → ps_At mL_law (d + 105) 23 [(0, .ref x0), (1, .ref x1), (2, .ref x2), (3, .ref x3), (4, .int s'.1)] [] s'.2 Q) (he : ∀ r' : ps_G, x = .inr (.inl r') → ps_At mL_law (d + 105) 3245 [] [] r' Q) (hr : ∀ v' : Int32 × ps_G, x = .inr (.inr v') → Q (.inl (some (.int v'.1))) v'.2) : ps_At mL_law (d + 105) 717 [(0, .ref x0), (1, .ref x1), (2, .ref x2), (3, .ref x3), (4, .int x4)] [] g Q := by
  unfold jL_law_717_23 at h
  refine sL_law_717 ?_
  replace h := q_be h
  obtain ⟨v149, hv, h⟩ := h
  replace hv := q_aI_e hv
  obtain ⟨_, _, cv149, iv149, yv149⟩ := hv
  replace h := q_be h
  obtain ⟨v150, hv, h⟩ := h
  replace hv := q_aI_e hv
  obtain ⟨_, _, cv150, iv150, yv150⟩ := hv
  replace h := q_b2_e h
  obtain ⟨v151, g152, hv, h⟩ := h
  refine ⟨⟨some _, rfl⟩, ⟨some _, rfl⟩, _, _, cv149, iv149, _, yv149, ⟨some _, rfl⟩, _, _, cv150, iv150, _, yv150, ?_⟩
  refine rL_mask hv ?_
  replace h := q_be h
  obtain ⟨v153, hv, h⟩ := h
  replace hv := q_aI_e hv
  obtain ⟨_, _, cv153, iv153, yv153⟩ := hv
  replace h := q_be h
  obtain ⟨v154, hv, h⟩ := h
  replace hv := q_aI_e hv
  obtain ⟨_, _, cv154, iv154, yv154⟩ := hv
  replace h := q_be h
  obtain ⟨u155, hv, h⟩ := h
  replace hv := q_ob_e hv
  obtain ⟨_, cu155⟩ := hv
  replace h := q_be h
  obtain ⟨v156, hv, h⟩ := h
  refine ⟨by decide, ⟨some _, rfl⟩, ⟨some _, rfl⟩, _, _, cv153, iv153, _, yv153, ⟨some _, rfl⟩, _, _, cv154, iv154, _, yv154, ⟨_, cu155⟩, ?_⟩
  refine rX12_mask hv ?_
  replace h := q_be h
  obtain ⟨u157, hv, h⟩ := h
  replace hv := q_ob_e hv
  obtain ⟨_, cu157⟩ := hv
  replace h := q_be h
  obtain ⟨v158, hv, h⟩ := h
  refine ⟨⟨some _, rfl⟩, ⟨_, cu157⟩, ?_⟩
  refine rX12_thrown hv ?_
  refine And.intro (fun hc159 => ?_) (fun hc159 => ?_)
  · replace h := q_ifp (hc159) h
    refine sL_law_762 ?_
    exact ps_weak (pjL_law_3239_23 h hh he hr) ⟨rfl, rfl, rfl, rfl, rfl, trivial⟩
  · replace h := q_ifn (hc159) h
    exact ⟨rfl, Or.inl rfl, hr ((0 : Int32), v156) (Option.some.inj h).symm⟩
noncomputable def jL_law_765_23 (g : ps_G) (x0 : Nat) (x1 : Nat) (x2 : Nat) (x3 : Nat) (x4 : Int32) : Option ((Int32 × ps_G) ⊕ ((ps_G) ⊕ (Int32 × ps_G))) := Option.bind (q_aI g x0 (x4 + (1 : Int32))) fun v163 => Option.bind (q_aI g x0 (x4 + (2 : Int32))) fun v164 => Option.bind (q_aI g x0 (x4 + (3 : Int32))) fun v165 => q_b2 (fL_colours g x1 v163 v164 v165) fun v166 g167 => Option.bind (q_aI g167 x0 (x4 + (1 : Int32))) fun v168 => Option.bind (q_aI g167 x0 (x4 + (2 : Int32))) fun v169 => Option.bind (q_aI g167 x0 (x4 + (3 : Int32))) fun v170 => Option.bind (q_ob 12 g167 x2) fun u171 => Option.bind (fX12_colours g167 x2 v168 v169 v170) fun v172 => Option.bind (q_ob 12 v172 x2) fun u173 => Option.bind (fX12_thrown v172 x2) fun v174 => if v174 = v166 then (jL_law_3239_23 v172 x0 x1 x2 x3 x4) else (some (.inr (.inr ((0 : Int32), v172))))
theorem pjL_law_765_23 {d : Nat} {Q : ps_Rs → ps_G → Prop} {g : ps_G} {x0 : Nat} {x1 : Nat} {x2 : Nat} {x3 : Nat} {x4 : Int32} {x : (Int32 × ps_G) ⊕ ((ps_G) ⊕ (Int32 × ps_G))} (h : jL_law_765_23 g x0 x1 x2 x3 x4 = some x) (hh : ∀ s' : Int32 × ps_G, x = .inl s' → ps_At mL_law (d + 105) 23 [(0, .ref x0), (1, .ref x1), (2, .ref x2), (3, .ref x3), (4, .int s'.1)] [] s'.2 Q) (he : ∀ r' : ps_G, x = .inr (.inl r') → ps_At mL_law (d + 105) 3245 [] [] r' Q) (hr : ∀ v' : Int32 × ps_G, x = .inr (.inr v') → Q (.inl (some (.int v'.1))) v'.2) : ps_At mL_law (d + 105) 765 [(0, .ref x0), (1, .ref x1), (2, .ref x2), (3, .ref x3), (4, .int x4)] [] g Q := by
  unfold jL_law_765_23 at h
  refine sL_law_765 ?_
  replace h := q_be h
  obtain ⟨v163, hv, h⟩ := h
  replace hv := q_aI_e hv
  obtain ⟨_, _, cv163, iv163, yv163⟩ := hv
  replace h := q_be h
  obtain ⟨v164, hv, h⟩ := h
  replace hv := q_aI_e hv
  obtain ⟨_, _, cv164, iv164, yv164⟩ := hv
  replace h := q_be h
  obtain ⟨v165, hv, h⟩ := h
  replace hv := q_aI_e hv
  obtain ⟨_, _, cv165, iv165, yv165⟩ := hv
  replace h := q_b2_e h
  obtain ⟨v166, g167, hv, h⟩ := h
  refine ⟨⟨some _, rfl⟩, ⟨some _, rfl⟩, _, _, cv163, iv163, _, yv163, ⟨some _, rfl⟩, _, _, cv164, iv164, _, yv164, ⟨some _, rfl⟩, _, _, cv165, iv165, _, yv165, ?_⟩
  refine rL_colours hv ?_
  replace h := q_be h
  obtain ⟨v168, hv, h⟩ := h
  replace hv := q_aI_e hv
  obtain ⟨_, _, cv168, iv168, yv168⟩ := hv
  replace h := q_be h
  obtain ⟨v169, hv, h⟩ := h
  replace hv := q_aI_e hv
  obtain ⟨_, _, cv169, iv169, yv169⟩ := hv
  replace h := q_be h
  obtain ⟨v170, hv, h⟩ := h
  replace hv := q_aI_e hv
  obtain ⟨_, _, cv170, iv170, yv170⟩ := hv
  replace h := q_be h
  obtain ⟨u171, hv, h⟩ := h
  replace hv := q_ob_e hv
  obtain ⟨_, cu171⟩ := hv
  replace h := q_be h
  obtain ⟨v172, hv, h⟩ := h
  refine ⟨by decide, ⟨some _, rfl⟩, ⟨some _, rfl⟩, _, _, cv168, iv168, _, yv168, ⟨some _, rfl⟩, _, _, cv169, iv169, _, yv169, ⟨some _, rfl⟩, _, _, cv170, iv170, _, yv170, ⟨_, cu171⟩, ?_⟩
  refine rX12_colours hv ?_
  replace h := q_be h
  obtain ⟨u173, hv, h⟩ := h
  replace hv := q_ob_e hv
  obtain ⟨_, cu173⟩ := hv
  replace h := q_be h
  obtain ⟨v174, hv, h⟩ := h
  refine ⟨⟨some _, rfl⟩, ⟨_, cu173⟩, ?_⟩
  refine rX12_thrown hv ?_
  refine And.intro (fun hc175 => ?_) (fun hc175 => ?_)
  · replace h := q_ifp (hc175) h
    refine sL_law_822 ?_
    exact ps_weak (pjL_law_3239_23 h hh he hr) ⟨rfl, rfl, rfl, rfl, rfl, trivial⟩
  · replace h := q_ifn (hc175) h
    exact ⟨rfl, Or.inl rfl, hr ((0 : Int32), v172) (Option.some.inj h).symm⟩
noncomputable def jL_law_825_23 (g : ps_G) (x0 : Nat) (x1 : Nat) (x2 : Nat) (x3 : Nat) (x4 : Int32) : Option ((Int32 × ps_G) ⊕ ((ps_G) ⊕ (Int32 × ps_G))) := Option.bind (q_aI g x0 (x4 + (1 : Int32))) fun v179 => Option.bind (q_aI g x0 (x4 + (2 : Int32))) fun v180 => Option.bind (q_aI g x0 (x4 + (3 : Int32))) fun v181 => Option.bind (q_aI g x0 (x4 + (4 : Int32))) fun v182 => Option.bind (q_aI g x0 (x4 + (5 : Int32))) fun v183 => q_b2 (fL_ramp g x1 v179 v180 v181 v182 v183) fun v184 g185 => Option.bind (q_aI g185 x0 (x4 + (1 : Int32))) fun v186 => Option.bind (q_aI g185 x0 (x4 + (2 : Int32))) fun v187 => Option.bind (q_aI g185 x0 (x4 + (3 : Int32))) fun v188 => Option.bind (q_aI g185 x0 (x4 + (4 : Int32))) fun v189 => Option.bind (q_aI g185 x0 (x4 + (5 : Int32))) fun v190 => Option.bind (q_ob 12 g185 x2) fun u191 => Option.bind (fX12_ramp g185 x2 v186 v187 v188 v189 v190) fun v192 => Option.bind (q_ob 12 v192 x2) fun u193 => Option.bind (fX12_thrown v192 x2) fun v194 => if v194 = v184 then (jL_law_3239_23 v192 x0 x1 x2 x3 x4) else (some (.inr (.inr ((0 : Int32), v192))))
theorem pjL_law_825_23 {d : Nat} {Q : ps_Rs → ps_G → Prop} {g : ps_G} {x0 : Nat} {x1 : Nat} {x2 : Nat} {x3 : Nat} {x4 : Int32} {x : (Int32 × ps_G) ⊕ ((ps_G) ⊕ (Int32 × ps_G))} (h : jL_law_825_23 g x0 x1 x2 x3 x4 = some x) (hh : ∀ s' : Int32 × ps_G, x = .inl s' → ps_At mL_law (d + 105) 23 [(0, .ref x0), (1, .ref x1), (2, .ref x2), (3, .ref x3), (4, .int s'.1)] [] s'.2 Q) (he : ∀ r' : ps_G, x = .inr (.inl r') → ps_At mL_law (d + 105) 3245 [] [] r' Q) (hr : ∀ v' : Int32 × ps_G, x = .inr (.inr v') → Q (.inl (some (.int v'.1))) v'.2) : ps_At mL_law (d + 105) 825 [(0, .ref x0), (1, .ref x1), (2, .ref x2), (3, .ref x3), (4, .int x4)] [] g Q := by
  unfold jL_law_825_23 at h
  refine sL_law_825 ?_
  replace h := q_be h
  obtain ⟨v179, hv, h⟩ := h
  replace hv := q_aI_e hv
  obtain ⟨_, _, cv179, iv179, yv179⟩ := hv
  replace h := q_be h
  obtain ⟨v180, hv, h⟩ := h
  replace hv := q_aI_e hv
  obtain ⟨_, _, cv180, iv180, yv180⟩ := hv
  replace h := q_be h
  obtain ⟨v181, hv, h⟩ := h
  replace hv := q_aI_e hv
  obtain ⟨_, _, cv181, iv181, yv181⟩ := hv
  replace h := q_be h
  obtain ⟨v182, hv, h⟩ := h
  replace hv := q_aI_e hv
  obtain ⟨_, _, cv182, iv182, yv182⟩ := hv
  replace h := q_be h
  obtain ⟨v183, hv, h⟩ := h
  replace hv := q_aI_e hv
  obtain ⟨_, _, cv183, iv183, yv183⟩ := hv
  replace h := q_b2_e h
  obtain ⟨v184, g185, hv, h⟩ := h
  refine ⟨⟨some _, rfl⟩, ⟨some _, rfl⟩, _, _, cv179, iv179, _, yv179, ⟨some _, rfl⟩, _, _, cv180, iv180, _, yv180, ⟨some _, rfl⟩, _, _, cv181, iv181, _, yv181, ⟨some _, rfl⟩, _, _, cv182, iv182, _, yv182, ⟨some _, rfl⟩, _, _, cv183, iv183, _, yv183, ?_⟩
  refine rL_ramp hv ?_
  replace h := q_be h
  obtain ⟨v186, hv, h⟩ := h
  replace hv := q_aI_e hv
  obtain ⟨_, _, cv186, iv186, yv186⟩ := hv
  replace h := q_be h
  obtain ⟨v187, hv, h⟩ := h
  replace hv := q_aI_e hv
  obtain ⟨_, _, cv187, iv187, yv187⟩ := hv
  replace h := q_be h
  obtain ⟨v188, hv, h⟩ := h
  replace hv := q_aI_e hv
  obtain ⟨_, _, cv188, iv188, yv188⟩ := hv
  replace h := q_be h
  obtain ⟨v189, hv, h⟩ := h
  replace hv := q_aI_e hv
  obtain ⟨_, _, cv189, iv189, yv189⟩ := hv
  replace h := q_be h
  obtain ⟨v190, hv, h⟩ := h
  replace hv := q_aI_e hv
  obtain ⟨_, _, cv190, iv190, yv190⟩ := hv
  replace h := q_be h
  obtain ⟨u191, hv, h⟩ := h
  replace hv := q_ob_e hv
  obtain ⟨_, cu191⟩ := hv
  replace h := q_be h
  obtain ⟨v192, hv, h⟩ := h
  refine ⟨by decide, ⟨some _, rfl⟩, ⟨some _, rfl⟩, _, _, cv186, iv186, _, yv186, ⟨some _, rfl⟩, _, _, cv187, iv187, _, yv187, ⟨some _, rfl⟩, _, _, cv188, iv188, _, yv188, ⟨some _, rfl⟩, _, _, cv189, iv189, _, yv189, ⟨some _, rfl⟩, _, _, cv190, iv190, _, yv190, ⟨_, cu191⟩, ?_⟩
  refine rX12_ramp hv ?_
  replace h := q_be h
  obtain ⟨u193, hv, h⟩ := h
  replace hv := q_ob_e hv
  obtain ⟨_, cu193⟩ := hv
  replace h := q_be h
  obtain ⟨v194, hv, h⟩ := h
  refine ⟨⟨some _, rfl⟩, ⟨_, cu193⟩, ?_⟩
  refine rX12_thrown hv ?_
  refine And.intro (fun hc195 => ?_) (fun hc195 => ?_)
  · replace h := q_ifp (hc195) h
    refine sL_law_906 ?_
    exact ps_weak (pjL_law_3239_23 h hh he hr) ⟨rfl, rfl, rfl, rfl, rfl, trivial⟩
  · replace h := q_ifn (hc195) h
    exact ⟨rfl, Or.inl rfl, hr ((0 : Int32), v192) (Option.some.inj h).symm⟩
noncomputable def jL_law_909_23 (g : ps_G) (x0 : Nat) (x1 : Nat) (x2 : Nat) (x3 : Nat) (x4 : Int32) : Option ((Int32 × ps_G) ⊕ ((ps_G) ⊕ (Int32 × ps_G))) := Option.bind (q_aI g x0 (x4 + (1 : Int32))) fun v199 => Option.bind (q_aI g x0 (x4 + (2 : Int32))) fun v200 => q_b2 (fL_turn g x1 v199 v200) fun v201 g202 => Option.bind (q_aI g202 x0 (x4 + (1 : Int32))) fun v203 => Option.bind (q_aI g202 x0 (x4 + (2 : Int32))) fun v204 => Option.bind (q_ob 12 g202 x2) fun u205 => Option.bind (fX12_turn g202 x2 v203 v204) fun v206 => Option.bind (q_ob 12 v206 x2) fun u207 => Option.bind (fX12_thrown v206 x2) fun v208 => if v208 = v201 then (jL_law_3239_23 v206 x0 x1 x2 x3 x4) else (some (.inr (.inr ((0 : Int32), v206))))
theorem pjL_law_909_23 {d : Nat} {Q : ps_Rs → ps_G → Prop} {g : ps_G} {x0 : Nat} {x1 : Nat} {x2 : Nat} {x3 : Nat} {x4 : Int32} {x : (Int32 × ps_G) ⊕ ((ps_G) ⊕ (Int32 × ps_G))} (h : jL_law_909_23 g x0 x1 x2 x3 x4 = some x) (hh : ∀ s' : Int32 × ps_G, x = .inl s' → ps_At mL_law (d + 105) 23 [(0, .ref x0), (1, .ref x1), (2, .ref x2), (3, .ref x3), (4, .int s'.1)] [] s'.2 Q) (he : ∀ r' : ps_G, x = .inr (.inl r') → ps_At mL_law (d + 105) 3245 [] [] r' Q) (hr : ∀ v' : Int32 × ps_G, x = .inr (.inr v') → Q (.inl (some (.int v'.1))) v'.2) : ps_At mL_law (d + 105) 909 [(0, .ref x0), (1, .ref x1), (2, .ref x2), (3, .ref x3), (4, .int x4)] [] g Q := by
  unfold jL_law_909_23 at h
  refine sL_law_909 ?_
  replace h := q_be h
  obtain ⟨v199, hv, h⟩ := h
  replace hv := q_aI_e hv
  obtain ⟨_, _, cv199, iv199, yv199⟩ := hv
  replace h := q_be h
  obtain ⟨v200, hv, h⟩ := h
  replace hv := q_aI_e hv
  obtain ⟨_, _, cv200, iv200, yv200⟩ := hv
  replace h := q_b2_e h
  obtain ⟨v201, g202, hv, h⟩ := h
  refine ⟨⟨some _, rfl⟩, ⟨some _, rfl⟩, _, _, cv199, iv199, _, yv199, ⟨some _, rfl⟩, _, _, cv200, iv200, _, yv200, ?_⟩
  refine rL_turn hv ?_
  replace h := q_be h
  obtain ⟨v203, hv, h⟩ := h
  replace hv := q_aI_e hv
  obtain ⟨_, _, cv203, iv203, yv203⟩ := hv
  replace h := q_be h
  obtain ⟨v204, hv, h⟩ := h
  replace hv := q_aI_e hv
  obtain ⟨_, _, cv204, iv204, yv204⟩ := hv
  replace h := q_be h
  obtain ⟨u205, hv, h⟩ := h
  replace hv := q_ob_e hv
  obtain ⟨_, cu205⟩ := hv
  replace h := q_be h
  obtain ⟨v206, hv, h⟩ := h
  refine ⟨by decide, ⟨some _, rfl⟩, ⟨some _, rfl⟩, _, _, cv203, iv203, _, yv203, ⟨some _, rfl⟩, _, _, cv204, iv204, _, yv204, ⟨_, cu205⟩, ?_⟩
  refine rX12_turn hv ?_
  replace h := q_be h
  obtain ⟨u207, hv, h⟩ := h
  replace hv := q_ob_e hv
  obtain ⟨_, cu207⟩ := hv
  replace h := q_be h
  obtain ⟨v208, hv, h⟩ := h
  refine ⟨⟨some _, rfl⟩, ⟨_, cu207⟩, ?_⟩
  refine rX12_thrown hv ?_
  refine And.intro (fun hc209 => ?_) (fun hc209 => ?_)
  · replace h := q_ifp (hc209) h
    refine sL_law_954 ?_
    exact ps_weak (pjL_law_3239_23 h hh he hr) ⟨rfl, rfl, rfl, rfl, rfl, trivial⟩
  · replace h := q_ifn (hc209) h
    exact ⟨rfl, Or.inl rfl, hr ((0 : Int32), v206) (Option.some.inj h).symm⟩
noncomputable def jL_law_957_23 (g : ps_G) (x0 : Nat) (x1 : Nat) (x2 : Nat) (x3 : Nat) (x4 : Int32) : Option ((Int32 × ps_G) ⊕ ((ps_G) ⊕ (Int32 × ps_G))) := Option.bind (q_aI g x0 (x4 + (1 : Int32))) fun v213 => Option.bind (q_aI g x0 (x4 + (2 : Int32))) fun v214 => Option.bind (q_aI g x0 (x4 + (3 : Int32))) fun v215 => Option.bind (q_aI g x0 (x4 + (4 : Int32))) fun v216 => q_b2 (fL_scale g x1 v213 v214 v215 (if v216 = 0 then (0 : Int32) else (1 : Int32))) fun v220 g221 => Option.bind (q_aI g221 x0 (x4 + (1 : Int32))) fun v222 => Option.bind (q_aI g221 x0 (x4 + (2 : Int32))) fun v223 => Option.bind (q_aI g221 x0 (x4 + (3 : Int32))) fun v224 => Option.bind (q_aI g221 x0 (x4 + (4 : Int32))) fun v225 => Option.bind (q_ob 12 g221 x2) fun u229 => Option.bind (fX12_scale g221 x2 v222 v223 v224 (if v225 = 0 then (0 : Int32) else (1 : Int32))) fun v230 => Option.bind (q_ob 12 v230 x2) fun u231 => Option.bind (fX12_thrown v230 x2) fun v232 => if v232 = v220 then (jL_law_3239_23 v230 x0 x1 x2 x3 x4) else (some (.inr (.inr ((0 : Int32), v230))))
theorem pjL_law_957_23 {d : Nat} {Q : ps_Rs → ps_G → Prop} {g : ps_G} {x0 : Nat} {x1 : Nat} {x2 : Nat} {x3 : Nat} {x4 : Int32} {x : (Int32 × ps_G) ⊕ ((ps_G) ⊕ (Int32 × ps_G))} (h : jL_law_957_23 g x0 x1 x2 x3 x4 = some x) (hh : ∀ s' : Int32 × ps_G, x = .inl s' → ps_At mL_law (d + 105) 23 [(0, .ref x0), (1, .ref x1), (2, .ref x2), (3, .ref x3), (4, .int s'.1)] [] s'.2 Q) (he : ∀ r' : ps_G, x = .inr (.inl r') → ps_At mL_law (d + 105) 3245 [] [] r' Q) (hr : ∀ v' : Int32 × ps_G, x = .inr (.inr v') → Q (.inl (some (.int v'.1))) v'.2) : ps_At mL_law (d + 105) 957 [(0, .ref x0), (1, .ref x1), (2, .ref x2), (3, .ref x3), (4, .int x4)] [] g Q := by
  unfold jL_law_957_23 at h
  refine sL_law_957 ?_
  replace h := q_be h
  obtain ⟨v213, hv, h⟩ := h
  replace hv := q_aI_e hv
  obtain ⟨_, _, cv213, iv213, yv213⟩ := hv
  replace h := q_be h
  obtain ⟨v214, hv, h⟩ := h
  replace hv := q_aI_e hv
  obtain ⟨_, _, cv214, iv214, yv214⟩ := hv
  replace h := q_be h
  obtain ⟨v215, hv, h⟩ := h
  replace hv := q_aI_e hv
  obtain ⟨_, _, cv215, iv215, yv215⟩ := hv
  replace h := q_be h
  obtain ⟨v216, hv, h⟩ := h
  replace hv := q_aI_e hv
  obtain ⟨_, _, cv216, iv216, yv216⟩ := hv
  have kJ219 : ∀ w218 : Int32, w218 = (if v216 = 0 then (0 : Int32) else (1 : Int32)) → ps_At mL_law (d + 105) 990 [(0, .ref x0), (1, .ref x1), (2, .ref x2), (3, .ref x3), (4, .int x4)] [.int w218, .int v215, .int v214, .int v213, .ref x1] g Q := by
    rintro _ rfl
    refine sL_law_990 ?_
    replace h := q_b2_e h
    obtain ⟨v220, g221, hv, h⟩ := h
    refine rL_scale hv ?_
    replace h := q_be h
    obtain ⟨v222, hv, h⟩ := h
    replace hv := q_aI_e hv
    obtain ⟨_, _, cv222, iv222, yv222⟩ := hv
    replace h := q_be h
    obtain ⟨v223, hv, h⟩ := h
    replace hv := q_aI_e hv
    obtain ⟨_, _, cv223, iv223, yv223⟩ := hv
    replace h := q_be h
    obtain ⟨v224, hv, h⟩ := h
    replace hv := q_aI_e hv
    obtain ⟨_, _, cv224, iv224, yv224⟩ := hv
    replace h := q_be h
    obtain ⟨v225, hv, h⟩ := h
    replace hv := q_aI_e hv
    obtain ⟨_, _, cv225, iv225, yv225⟩ := hv
    have kJ228 : ∀ w227 : Int32, w227 = (if v225 = 0 then (0 : Int32) else (1 : Int32)) → ps_At mL_law (d + 105) 1028 [(0, .ref x0), (1, .ref x1), (2, .ref x2), (3, .ref x3), (4, .int x4), (5, .int v220)] [.int w227, .int v224, .int v223, .int v222, .ref x2] g221 Q := by
      rintro _ rfl
      refine sL_law_1028 ?_
      replace h := q_be h
      obtain ⟨u229, hv, h⟩ := h
      replace hv := q_ob_e hv
      obtain ⟨_, cu229⟩ := hv
      replace h := q_be h
      obtain ⟨v230, hv, h⟩ := h
      refine ⟨⟨_, cu229⟩, ?_⟩
      refine rX12_scale hv ?_
      replace h := q_be h
      obtain ⟨u231, hv, h⟩ := h
      replace hv := q_ob_e hv
      obtain ⟨_, cu231⟩ := hv
      replace h := q_be h
      obtain ⟨v232, hv, h⟩ := h
      refine ⟨⟨some _, rfl⟩, ⟨_, cu231⟩, ?_⟩
      refine rX12_thrown hv ?_
      refine And.intro (fun hc233 => ?_) (fun hc233 => ?_)
      · replace h := q_ifp (hc233) h
        refine sL_law_1042 ?_
        exact ps_weak (pjL_law_3239_23 h hh he hr) ⟨rfl, rfl, rfl, rfl, rfl, trivial⟩
      · replace h := q_ifn (hc233) h
        exact ⟨rfl, Or.inl rfl, hr ((0 : Int32), v230) (Option.some.inj h).symm⟩
    refine ⟨by decide, ⟨some _, rfl⟩, ⟨some _, rfl⟩, _, _, cv222, iv222, _, yv222, ⟨some _, rfl⟩, _, _, cv223, iv223, _, yv223, ⟨some _, rfl⟩, _, _, cv224, iv224, _, yv224, ⟨some _, rfl⟩, _, _, cv225, iv225, _, yv225, ?_⟩
    refine And.intro (fun hc226 => ?_) (fun hc226 => ?_)
    · refine sL_law_1027 ?_
      exact ps_weak (kJ228 _ (if_pos (hc226)).symm) ⟨rfl, rfl, rfl, rfl, rfl, rfl, trivial⟩
    · exact ps_weak (kJ228 _ (if_neg (hc226)).symm) ⟨rfl, rfl, rfl, rfl, rfl, rfl, trivial⟩
  refine ⟨⟨some _, rfl⟩, ⟨some _, rfl⟩, _, _, cv213, iv213, _, yv213, ⟨some _, rfl⟩, _, _, cv214, iv214, _, yv214, ⟨some _, rfl⟩, _, _, cv215, iv215, _, yv215, ⟨some _, rfl⟩, _, _, cv216, iv216, _, yv216, ?_⟩
  refine And.intro (fun hc217 => ?_) (fun hc217 => ?_)
  · refine sL_law_989 ?_
    exact ps_weak (kJ219 _ (if_pos (hc217)).symm) ⟨rfl, rfl, rfl, rfl, rfl, trivial⟩
  · exact ps_weak (kJ219 _ (if_neg (hc217)).symm) ⟨rfl, rfl, rfl, rfl, rfl, trivial⟩
noncomputable def jL_law_1045_23 (g : ps_G) (x0 : Nat) (x1 : Nat) (x2 : Nat) (x3 : Nat) (x4 : Int32) : Option ((Int32 × ps_G) ⊕ ((ps_G) ⊕ (Int32 × ps_G))) := Option.bind (q_aI g x0 (x4 + (1 : Int32))) fun v237 => q_b2 (fL_flat g x1 v237) fun v238 g239 => Option.bind (q_aI g239 x0 (x4 + (1 : Int32))) fun v240 => Option.bind (q_ob 12 g239 x2) fun u241 => Option.bind (fX12_flat g239 x2 v240) fun v242 => Option.bind (q_ob 12 v242 x2) fun u243 => Option.bind (fX12_thrown v242 x2) fun v244 => if v244 = v238 then (jL_law_3239_23 v242 x0 x1 x2 x3 x4) else (some (.inr (.inr ((0 : Int32), v242))))
theorem pjL_law_1045_23 {d : Nat} {Q : ps_Rs → ps_G → Prop} {g : ps_G} {x0 : Nat} {x1 : Nat} {x2 : Nat} {x3 : Nat} {x4 : Int32} {x : (Int32 × ps_G) ⊕ ((ps_G) ⊕ (Int32 × ps_G))} (h : jL_law_1045_23 g x0 x1 x2 x3 x4 = some x) (hh : ∀ s' : Int32 × ps_G, x = .inl s' → ps_At mL_law (d + 105) 23 [(0, .ref x0), (1, .ref x1), (2, .ref x2), (3, .ref x3), (4, .int s'.1)] [] s'.2 Q) (he : ∀ r' : ps_G, x = .inr (.inl r') → ps_At mL_law (d + 105) 3245 [] [] r' Q) (hr : ∀ v' : Int32 × ps_G, x = .inr (.inr v') → Q (.inl (some (.int v'.1))) v'.2) : ps_At mL_law (d + 105) 1045 [(0, .ref x0), (1, .ref x1), (2, .ref x2), (3, .ref x3), (4, .int x4)] [] g Q := by
  unfold jL_law_1045_23 at h
  refine sL_law_1045 ?_
  replace h := q_be h
  obtain ⟨v237, hv, h⟩ := h
  replace hv := q_aI_e hv
  obtain ⟨_, _, cv237, iv237, yv237⟩ := hv
  replace h := q_b2_e h
  obtain ⟨v238, g239, hv, h⟩ := h
  refine ⟨⟨some _, rfl⟩, ⟨some _, rfl⟩, _, _, cv237, iv237, _, yv237, ?_⟩
  refine rL_flat hv ?_
  replace h := q_be h
  obtain ⟨v240, hv, h⟩ := h
  replace hv := q_aI_e hv
  obtain ⟨_, _, cv240, iv240, yv240⟩ := hv
  replace h := q_be h
  obtain ⟨u241, hv, h⟩ := h
  replace hv := q_ob_e hv
  obtain ⟨_, cu241⟩ := hv
  replace h := q_be h
  obtain ⟨v242, hv, h⟩ := h
  refine ⟨by decide, ⟨some _, rfl⟩, ⟨some _, rfl⟩, _, _, cv240, iv240, _, yv240, ⟨_, cu241⟩, ?_⟩
  refine rX12_flat hv ?_
  replace h := q_be h
  obtain ⟨u243, hv, h⟩ := h
  replace hv := q_ob_e hv
  obtain ⟨_, cu243⟩ := hv
  replace h := q_be h
  obtain ⟨v244, hv, h⟩ := h
  refine ⟨⟨some _, rfl⟩, ⟨_, cu243⟩, ?_⟩
  refine rX12_thrown hv ?_
  refine And.intro (fun hc245 => ?_) (fun hc245 => ?_)
  · replace h := q_ifp (hc245) h
    refine sL_law_1078 ?_
    exact ps_weak (pjL_law_3239_23 h hh he hr) ⟨rfl, rfl, rfl, rfl, rfl, trivial⟩
  · replace h := q_ifn (hc245) h
    exact ⟨rfl, Or.inl rfl, hr ((0 : Int32), v242) (Option.some.inj h).symm⟩
noncomputable def jL_law_1146_23 (g : ps_G) (x0 : Nat) (x1 : Nat) (x2 : Nat) (x3 : Nat) (x4 : Int32) : Option ((Int32 × ps_G) ⊕ ((ps_G) ⊕ (Int32 × ps_G))) := jL_law_3239_23 g x0 x1 x2 x3 x4
theorem pjL_law_1146_23 {d : Nat} {Q : ps_Rs → ps_G → Prop} {g : ps_G} {x0 : Nat} {x1 : Nat} {x2 : Nat} {x3 : Nat} {x4 : Int32} {x : (Int32 × ps_G) ⊕ ((ps_G) ⊕ (Int32 × ps_G))} (h : jL_law_1146_23 g x0 x1 x2 x3 x4 = some x) (hh : ∀ s' : Int32 × ps_G, x = .inl s' → ps_At mL_law (d + 105) 23 [(0, .ref x0), (1, .ref x1), (2, .ref x2), (3, .ref x3), (4, .int s'.1)] [] s'.2 Q) (he : ∀ r' : ps_G, x = .inr (.inl r') → ps_At mL_law (d + 105) 3245 [] [] r' Q) (hr : ∀ v' : Int32 × ps_G, x = .inr (.inr v') → Q (.inl (some (.int v'.1))) v'.2) : ps_At mL_law (d + 105) 1146 [(0, .ref x0), (1, .ref x1), (2, .ref x2), (3, .ref x3), (4, .int x4)] [] g Q := by
  unfold jL_law_1146_23 at h
  refine sL_law_1146 ?_
  exact ps_weak (pjL_law_3239_23 h hh he hr) ⟨rfl, rfl, rfl, rfl, rfl, trivial⟩
noncomputable def jL_law_1081_23 (g : ps_G) (x0 : Nat) (x1 : Nat) (x2 : Nat) (x3 : Nat) (x4 : Int32) : Option ((Int32 × ps_G) ⊕ ((ps_G) ⊕ (Int32 × ps_G))) := Option.bind (q_aI g x0 (x4 + (1 : Int32))) fun v249 => Option.bind (q_aI g x0 (x4 + (2 : Int32))) fun v250 => q_b2 (fL_fill g x1 v249 v250 x3) fun v251 g252 => Option.bind (q_aI g252 x0 (x4 + (1 : Int32))) fun v253 => Option.bind (q_aI g252 x0 (x4 + (2 : Int32))) fun v254 => Option.bind (q_ob 12 g252 x2) fun u255 => q_b2 (fX12_fill g252 x2 v253 v254) fun v256 g257 => Option.bind (q_ob 12 g257 x2) fun u258 => Option.bind (fX12_thrown g257 x2) fun v259 => if v259 = v251 then (if ¬ v251 = 0 then (jL_law_1146_23 g257 x0 x1 x2 x3 x4) else (Option.bind (q_aL g257 x3 (0 : Int32)) fun v262 => if (lg_cmp v262 (Int32.toInt64 v256)) = 0 then (jL_law_1146_23 g257 x0 x1 x2 x3 x4) else (some (.inr (.inr ((0 : Int32), g257)))))) else (some (.inr (.inr ((0 : Int32), g257))))
theorem pjL_law_1081_23 {d : Nat} {Q : ps_Rs → ps_G → Prop} {g : ps_G} {x0 : Nat} {x1 : Nat} {x2 : Nat} {x3 : Nat} {x4 : Int32} {x : (Int32 × ps_G) ⊕ ((ps_G) ⊕ (Int32 × ps_G))} (h : jL_law_1081_23 g x0 x1 x2 x3 x4 = some x) (hh : ∀ s' : Int32 × ps_G, x = .inl s' → ps_At mL_law (d + 105) 23 [(0, .ref x0), (1, .ref x1), (2, .ref x2), (3, .ref x3), (4, .int s'.1)] [] s'.2 Q) (he : ∀ r' : ps_G, x = .inr (.inl r') → ps_At mL_law (d + 105) 3245 [] [] r' Q) (hr : ∀ v' : Int32 × ps_G, x = .inr (.inr v') → Q (.inl (some (.int v'.1))) v'.2) : ps_At mL_law (d + 105) 1081 [(0, .ref x0), (1, .ref x1), (2, .ref x2), (3, .ref x3), (4, .int x4)] [] g Q := by
  unfold jL_law_1081_23 at h
  refine sL_law_1081 ?_
  replace h := q_be h
  obtain ⟨v249, hv, h⟩ := h
  replace hv := q_aI_e hv
  obtain ⟨_, _, cv249, iv249, yv249⟩ := hv
  replace h := q_be h
  obtain ⟨v250, hv, h⟩ := h
  replace hv := q_aI_e hv
  obtain ⟨_, _, cv250, iv250, yv250⟩ := hv
  replace h := q_b2_e h
  obtain ⟨v251, g252, hv, h⟩ := h
  refine ⟨⟨some _, rfl⟩, ⟨some _, rfl⟩, _, _, cv249, iv249, _, yv249, ⟨some _, rfl⟩, _, _, cv250, iv250, _, yv250, ⟨some _, rfl⟩, ?_⟩
  refine rL_fill hv ?_
  replace h := q_be h
  obtain ⟨v253, hv, h⟩ := h
  replace hv := q_aI_e hv
  obtain ⟨_, _, cv253, iv253, yv253⟩ := hv
  replace h := q_be h
  obtain ⟨v254, hv, h⟩ := h
  replace hv := q_aI_e hv
  obtain ⟨_, _, cv254, iv254, yv254⟩ := hv
  replace h := q_be h
  obtain ⟨u255, hv, h⟩ := h
  replace hv := q_ob_e hv
  obtain ⟨_, cu255⟩ := hv
  replace h := q_b2_e h
  obtain ⟨v256, g257, hv, h⟩ := h
  refine ⟨by decide, ⟨some _, rfl⟩, ⟨some _, rfl⟩, _, _, cv253, iv253, _, yv253, ⟨some _, rfl⟩, _, _, cv254, iv254, _, yv254, ⟨_, cu255⟩, ?_⟩
  refine rX12_fill hv ?_
  replace h := q_be h
  obtain ⟨u258, hv, h⟩ := h
  replace hv := q_ob_e hv
  obtain ⟨_, cu258⟩ := hv
  replace h := q_be h
  obtain ⟨v259, hv, h⟩ := h
  refine ⟨by decide, ⟨some _, rfl⟩, ⟨_, cu258⟩, ?_⟩
  refine rX12_thrown hv ?_
  refine And.intro (fun hc260 => ?_) (fun hc260 => ?_)
  · replace h := q_ifp (hc260) h
    refine sL_law_1129 ?_
    refine And.intro (fun hc261 => ?_) (fun hc261 => ?_)
    · replace h := q_ifp (hc261) h
      exact ps_weak (pjL_law_1146_23 h hh he hr) ⟨rfl, rfl, rfl, rfl, rfl, trivial⟩
    · replace h := q_ifn (hc261) h
      replace h := q_be h
      obtain ⟨v262, hv, h⟩ := h
      replace hv := q_aL_e hv
      obtain ⟨_, _, cv262, iv262, yv262⟩ := hv
      refine ⟨⟨some _, rfl⟩, _, _, cv262, iv262, _, yv262, ?_⟩
      refine And.intro (fun hc263 => ?_) (fun hc263 => ?_)
      · replace h := q_ifp (hc263) h
        exact ps_weak (pjL_law_1146_23 h hh he hr) ⟨rfl, rfl, rfl, rfl, rfl, trivial⟩
      · replace h := q_ifn (hc263) h
        exact ⟨rfl, Or.inl rfl, hr ((0 : Int32), g257) (Option.some.inj h).symm⟩
  · replace h := q_ifn (hc260) h
    exact ⟨rfl, Or.inl rfl, hr ((0 : Int32), g257) (Option.some.inj h).symm⟩
noncomputable def jL_law_1149_23 (g : ps_G) (x0 : Nat) (x1 : Nat) (x2 : Nat) (x3 : Nat) (x4 : Int32) : Option ((Int32 × ps_G) ⊕ ((ps_G) ⊕ (Int32 × ps_G))) := Option.bind (q_aI g x0 (x4 + (1 : Int32))) fun v271 => q_b2 (fL_merge g x1 v271) fun v272 g273 => Option.bind (q_aI g273 x0 (x4 + (1 : Int32))) fun v274 => Option.bind (q_ob 12 g273 x2) fun u275 => Option.bind (fX12_merge g273 x2 v274) fun v276 => Option.bind (q_ob 12 v276 x2) fun u277 => Option.bind (fX12_thrown v276 x2) fun v278 => if v278 = v272 then (jL_law_3239_23 v276 x0 x1 x2 x3 x4) else (some (.inr (.inr ((0 : Int32), v276))))
theorem pjL_law_1149_23 {d : Nat} {Q : ps_Rs → ps_G → Prop} {g : ps_G} {x0 : Nat} {x1 : Nat} {x2 : Nat} {x3 : Nat} {x4 : Int32} {x : (Int32 × ps_G) ⊕ ((ps_G) ⊕ (Int32 × ps_G))} (h : jL_law_1149_23 g x0 x1 x2 x3 x4 = some x) (hh : ∀ s' : Int32 × ps_G, x = .inl s' → ps_At mL_law (d + 105) 23 [(0, .ref x0), (1, .ref x1), (2, .ref x2), (3, .ref x3), (4, .int s'.1)] [] s'.2 Q) (he : ∀ r' : ps_G, x = .inr (.inl r') → ps_At mL_law (d + 105) 3245 [] [] r' Q) (hr : ∀ v' : Int32 × ps_G, x = .inr (.inr v') → Q (.inl (some (.int v'.1))) v'.2) : ps_At mL_law (d + 105) 1149 [(0, .ref x0), (1, .ref x1), (2, .ref x2), (3, .ref x3), (4, .int x4)] [] g Q := by
  unfold jL_law_1149_23 at h
  refine sL_law_1149 ?_
  replace h := q_be h
  obtain ⟨v271, hv, h⟩ := h
  replace hv := q_aI_e hv
  obtain ⟨_, _, cv271, iv271, yv271⟩ := hv
  replace h := q_b2_e h
  obtain ⟨v272, g273, hv, h⟩ := h
  refine ⟨⟨some _, rfl⟩, ⟨some _, rfl⟩, _, _, cv271, iv271, _, yv271, ?_⟩
  refine rL_merge hv ?_
  replace h := q_be h
  obtain ⟨v274, hv, h⟩ := h
  replace hv := q_aI_e hv
  obtain ⟨_, _, cv274, iv274, yv274⟩ := hv
  replace h := q_be h
  obtain ⟨u275, hv, h⟩ := h
  replace hv := q_ob_e hv
  obtain ⟨_, cu275⟩ := hv
  replace h := q_be h
  obtain ⟨v276, hv, h⟩ := h
  refine ⟨by decide, ⟨some _, rfl⟩, ⟨some _, rfl⟩, _, _, cv274, iv274, _, yv274, ⟨_, cu275⟩, ?_⟩
  refine rX12_merge hv ?_
  replace h := q_be h
  obtain ⟨u277, hv, h⟩ := h
  replace hv := q_ob_e hv
  obtain ⟨_, cu277⟩ := hv
  replace h := q_be h
  obtain ⟨v278, hv, h⟩ := h
  refine ⟨⟨some _, rfl⟩, ⟨_, cu277⟩, ?_⟩
  refine rX12_thrown hv ?_
  refine And.intro (fun hc279 => ?_) (fun hc279 => ?_)
  · replace h := q_ifp (hc279) h
    refine sL_law_1182 ?_
    exact ps_weak (pjL_law_3239_23 h hh he hr) ⟨rfl, rfl, rfl, rfl, rfl, trivial⟩
  · replace h := q_ifn (hc279) h
    exact ⟨rfl, Or.inl rfl, hr ((0 : Int32), v276) (Option.some.inj h).symm⟩
noncomputable def jL_law_1250_23 (g : ps_G) (x0 : Nat) (x1 : Nat) (x2 : Nat) (x3 : Nat) (x4 : Int32) : Option ((Int32 × ps_G) ⊕ ((ps_G) ⊕ (Int32 × ps_G))) := jL_law_3239_23 g x0 x1 x2 x3 x4
theorem pjL_law_1250_23 {d : Nat} {Q : ps_Rs → ps_G → Prop} {g : ps_G} {x0 : Nat} {x1 : Nat} {x2 : Nat} {x3 : Nat} {x4 : Int32} {x : (Int32 × ps_G) ⊕ ((ps_G) ⊕ (Int32 × ps_G))} (h : jL_law_1250_23 g x0 x1 x2 x3 x4 = some x) (hh : ∀ s' : Int32 × ps_G, x = .inl s' → ps_At mL_law (d + 105) 23 [(0, .ref x0), (1, .ref x1), (2, .ref x2), (3, .ref x3), (4, .int s'.1)] [] s'.2 Q) (he : ∀ r' : ps_G, x = .inr (.inl r') → ps_At mL_law (d + 105) 3245 [] [] r' Q) (hr : ∀ v' : Int32 × ps_G, x = .inr (.inr v') → Q (.inl (some (.int v'.1))) v'.2) : ps_At mL_law (d + 105) 1250 [(0, .ref x0), (1, .ref x1), (2, .ref x2), (3, .ref x3), (4, .int x4)] [] g Q := by
  unfold jL_law_1250_23 at h
  refine sL_law_1250 ?_
  exact ps_weak (pjL_law_3239_23 h hh he hr) ⟨rfl, rfl, rfl, rfl, rfl, trivial⟩
noncomputable def jL_law_1185_23 (g : ps_G) (x0 : Nat) (x1 : Nat) (x2 : Nat) (x3 : Nat) (x4 : Int32) : Option ((Int32 × ps_G) ⊕ ((ps_G) ⊕ (Int32 × ps_G))) := Option.bind (q_aI g x0 (x4 + (1 : Int32))) fun v283 => Option.bind (q_aI g x0 (x4 + (2 : Int32))) fun v284 => q_b2 (fL_stroke g x1 v283 v284 x3) fun v285 g286 => Option.bind (q_aI g286 x0 (x4 + (1 : Int32))) fun v287 => Option.bind (q_aI g286 x0 (x4 + (2 : Int32))) fun v288 => Option.bind (q_ob 12 g286 x2) fun u289 => q_b2 (fX12_stroke g286 x2 v287 v288) fun v290 g291 => Option.bind (q_ob 12 g291 x2) fun u292 => Option.bind (fX12_thrown g291 x2) fun v293 => if v293 = v285 then (if ¬ v285 = 0 then (jL_law_1250_23 g291 x0 x1 x2 x3 x4) else (Option.bind (q_aL g291 x3 (0 : Int32)) fun v296 => if (lg_cmp v296 (Int32.toInt64 v290)) = 0 then (jL_law_1250_23 g291 x0 x1 x2 x3 x4) else (some (.inr (.inr ((0 : Int32), g291)))))) else (some (.inr (.inr ((0 : Int32), g291))))
theorem pjL_law_1185_23 {d : Nat} {Q : ps_Rs → ps_G → Prop} {g : ps_G} {x0 : Nat} {x1 : Nat} {x2 : Nat} {x3 : Nat} {x4 : Int32} {x : (Int32 × ps_G) ⊕ ((ps_G) ⊕ (Int32 × ps_G))} (h : jL_law_1185_23 g x0 x1 x2 x3 x4 = some x) (hh : ∀ s' : Int32 × ps_G, x = .inl s' → ps_At mL_law (d + 105) 23 [(0, .ref x0), (1, .ref x1), (2, .ref x2), (3, .ref x3), (4, .int s'.1)] [] s'.2 Q) (he : ∀ r' : ps_G, x = .inr (.inl r') → ps_At mL_law (d + 105) 3245 [] [] r' Q) (hr : ∀ v' : Int32 × ps_G, x = .inr (.inr v') → Q (.inl (some (.int v'.1))) v'.2) : ps_At mL_law (d + 105) 1185 [(0, .ref x0), (1, .ref x1), (2, .ref x2), (3, .ref x3), (4, .int x4)] [] g Q := by
  unfold jL_law_1185_23 at h
  refine sL_law_1185 ?_
  replace h := q_be h
  obtain ⟨v283, hv, h⟩ := h
  replace hv := q_aI_e hv
  obtain ⟨_, _, cv283, iv283, yv283⟩ := hv
  replace h := q_be h
  obtain ⟨v284, hv, h⟩ := h
  replace hv := q_aI_e hv
  obtain ⟨_, _, cv284, iv284, yv284⟩ := hv
  replace h := q_b2_e h
  obtain ⟨v285, g286, hv, h⟩ := h
  refine ⟨⟨some _, rfl⟩, ⟨some _, rfl⟩, _, _, cv283, iv283, _, yv283, ⟨some _, rfl⟩, _, _, cv284, iv284, _, yv284, ⟨some _, rfl⟩, ?_⟩
  refine rL_stroke hv ?_
  replace h := q_be h
  obtain ⟨v287, hv, h⟩ := h
  replace hv := q_aI_e hv
  obtain ⟨_, _, cv287, iv287, yv287⟩ := hv
  replace h := q_be h
  obtain ⟨v288, hv, h⟩ := h
  replace hv := q_aI_e hv
  obtain ⟨_, _, cv288, iv288, yv288⟩ := hv
  replace h := q_be h
  obtain ⟨u289, hv, h⟩ := h
  replace hv := q_ob_e hv
  obtain ⟨_, cu289⟩ := hv
  replace h := q_b2_e h
  obtain ⟨v290, g291, hv, h⟩ := h
  refine ⟨by decide, ⟨some _, rfl⟩, ⟨some _, rfl⟩, _, _, cv287, iv287, _, yv287, ⟨some _, rfl⟩, _, _, cv288, iv288, _, yv288, ⟨_, cu289⟩, ?_⟩
  refine rX12_stroke hv ?_
  replace h := q_be h
  obtain ⟨u292, hv, h⟩ := h
  replace hv := q_ob_e hv
  obtain ⟨_, cu292⟩ := hv
  replace h := q_be h
  obtain ⟨v293, hv, h⟩ := h
  refine ⟨by decide, ⟨some _, rfl⟩, ⟨_, cu292⟩, ?_⟩
  refine rX12_thrown hv ?_
  refine And.intro (fun hc294 => ?_) (fun hc294 => ?_)
  · replace h := q_ifp (hc294) h
    refine sL_law_1233 ?_
    refine And.intro (fun hc295 => ?_) (fun hc295 => ?_)
    · replace h := q_ifp (hc295) h
      exact ps_weak (pjL_law_1250_23 h hh he hr) ⟨rfl, rfl, rfl, rfl, rfl, trivial⟩
    · replace h := q_ifn (hc295) h
      replace h := q_be h
      obtain ⟨v296, hv, h⟩ := h
      replace hv := q_aL_e hv
      obtain ⟨_, _, cv296, iv296, yv296⟩ := hv
      refine ⟨⟨some _, rfl⟩, _, _, cv296, iv296, _, yv296, ?_⟩
      refine And.intro (fun hc297 => ?_) (fun hc297 => ?_)
      · replace h := q_ifp (hc297) h
        exact ps_weak (pjL_law_1250_23 h hh he hr) ⟨rfl, rfl, rfl, rfl, rfl, trivial⟩
      · replace h := q_ifn (hc297) h
        exact ⟨rfl, Or.inl rfl, hr ((0 : Int32), g291) (Option.some.inj h).symm⟩
  · replace h := q_ifn (hc294) h
    exact ⟨rfl, Or.inl rfl, hr ((0 : Int32), g291) (Option.some.inj h).symm⟩
noncomputable def jL_law_1330_23 (g : ps_G) (x0 : Nat) (x1 : Nat) (x2 : Nat) (x3 : Nat) (x4 : Int32) : Option ((Int32 × ps_G) ⊕ ((ps_G) ⊕ (Int32 × ps_G))) := jL_law_3239_23 g x0 x1 x2 x3 x4
theorem pjL_law_1330_23 {d : Nat} {Q : ps_Rs → ps_G → Prop} {g : ps_G} {x0 : Nat} {x1 : Nat} {x2 : Nat} {x3 : Nat} {x4 : Int32} {x : (Int32 × ps_G) ⊕ ((ps_G) ⊕ (Int32 × ps_G))} (h : jL_law_1330_23 g x0 x1 x2 x3 x4 = some x) (hh : ∀ s' : Int32 × ps_G, x = .inl s' → ps_At mL_law (d + 105) 23 [(0, .ref x0), (1, .ref x1), (2, .ref x2), (3, .ref x3), (4, .int s'.1)] [] s'.2 Q) (he : ∀ r' : ps_G, x = .inr (.inl r') → ps_At mL_law (d + 105) 3245 [] [] r' Q) (hr : ∀ v' : Int32 × ps_G, x = .inr (.inr v') → Q (.inl (some (.int v'.1))) v'.2) : ps_At mL_law (d + 105) 1330 [(0, .ref x0), (1, .ref x1), (2, .ref x2), (3, .ref x3), (4, .int x4)] [] g Q := by
  unfold jL_law_1330_23 at h
  refine sL_law_1330 ?_
  exact ps_weak (pjL_law_3239_23 h hh he hr) ⟨rfl, rfl, rfl, rfl, rfl, trivial⟩
noncomputable def jL_law_1253_23 (g : ps_G) (x0 : Nat) (x1 : Nat) (x2 : Nat) (x3 : Nat) (x4 : Int32) : Option ((Int32 × ps_G) ⊕ ((ps_G) ⊕ (Int32 × ps_G))) := Option.bind (q_aI g x0 (x4 + (1 : Int32))) fun v305 => Option.bind (q_aI g x0 (x4 + (2 : Int32))) fun v306 => Option.bind (q_aI g x0 (x4 + (3 : Int32))) fun v307 => q_b2 (fL_filter g x1 v305 v306 v307 x3) fun v308 g309 => Option.bind (q_aI g309 x0 (x4 + (1 : Int32))) fun v310 => Option.bind (q_aI g309 x0 (x4 + (2 : Int32))) fun v311 => Option.bind (q_aI g309 x0 (x4 + (3 : Int32))) fun v312 => Option.bind (q_ob 12 g309 x2) fun u313 => q_b2 (fX12_filter g309 x2 v310 v311 v312) fun v314 g315 => Option.bind (q_ob 12 g315 x2) fun u316 => Option.bind (fX12_thrown g315 x2) fun v317 => if v317 = v308 then (if ¬ v308 = 0 then (jL_law_1330_23 g315 x0 x1 x2 x3 x4) else (Option.bind (q_aL g315 x3 (0 : Int32)) fun v320 => if (lg_cmp v320 (Int32.toInt64 v314)) = 0 then (jL_law_1330_23 g315 x0 x1 x2 x3 x4) else (some (.inr (.inr ((0 : Int32), g315)))))) else (some (.inr (.inr ((0 : Int32), g315))))
theorem pjL_law_1253_23 {d : Nat} {Q : ps_Rs → ps_G → Prop} {g : ps_G} {x0 : Nat} {x1 : Nat} {x2 : Nat} {x3 : Nat} {x4 : Int32} {x : (Int32 × ps_G) ⊕ ((ps_G) ⊕ (Int32 × ps_G))} (h : jL_law_1253_23 g x0 x1 x2 x3 x4 = some x) (hh : ∀ s' : Int32 × ps_G, x = .inl s' → ps_At mL_law (d + 105) 23 [(0, .ref x0), (1, .ref x1), (2, .ref x2), (3, .ref x3), (4, .int s'.1)] [] s'.2 Q) (he : ∀ r' : ps_G, x = .inr (.inl r') → ps_At mL_law (d + 105) 3245 [] [] r' Q) (hr : ∀ v' : Int32 × ps_G, x = .inr (.inr v') → Q (.inl (some (.int v'.1))) v'.2) : ps_At mL_law (d + 105) 1253 [(0, .ref x0), (1, .ref x1), (2, .ref x2), (3, .ref x3), (4, .int x4)] [] g Q := by
  unfold jL_law_1253_23 at h
  refine sL_law_1253 ?_
  replace h := q_be h
  obtain ⟨v305, hv, h⟩ := h
  replace hv := q_aI_e hv
  obtain ⟨_, _, cv305, iv305, yv305⟩ := hv
  replace h := q_be h
  obtain ⟨v306, hv, h⟩ := h
  replace hv := q_aI_e hv
  obtain ⟨_, _, cv306, iv306, yv306⟩ := hv
  replace h := q_be h
  obtain ⟨v307, hv, h⟩ := h
  replace hv := q_aI_e hv
  obtain ⟨_, _, cv307, iv307, yv307⟩ := hv
  replace h := q_b2_e h
  obtain ⟨v308, g309, hv, h⟩ := h
  refine ⟨⟨some _, rfl⟩, ⟨some _, rfl⟩, _, _, cv305, iv305, _, yv305, ⟨some _, rfl⟩, _, _, cv306, iv306, _, yv306, ⟨some _, rfl⟩, _, _, cv307, iv307, _, yv307, ⟨some _, rfl⟩, ?_⟩
  refine rL_filter hv ?_
  replace h := q_be h
  obtain ⟨v310, hv, h⟩ := h
  replace hv := q_aI_e hv
  obtain ⟨_, _, cv310, iv310, yv310⟩ := hv
  replace h := q_be h
  obtain ⟨v311, hv, h⟩ := h
  replace hv := q_aI_e hv
  obtain ⟨_, _, cv311, iv311, yv311⟩ := hv
  replace h := q_be h
  obtain ⟨v312, hv, h⟩ := h
  replace hv := q_aI_e hv
  obtain ⟨_, _, cv312, iv312, yv312⟩ := hv
  replace h := q_be h
  obtain ⟨u313, hv, h⟩ := h
  replace hv := q_ob_e hv
  obtain ⟨_, cu313⟩ := hv
  replace h := q_b2_e h
  obtain ⟨v314, g315, hv, h⟩ := h
  refine ⟨by decide, ⟨some _, rfl⟩, ⟨some _, rfl⟩, _, _, cv310, iv310, _, yv310, ⟨some _, rfl⟩, _, _, cv311, iv311, _, yv311, ⟨some _, rfl⟩, _, _, cv312, iv312, _, yv312, ⟨_, cu313⟩, ?_⟩
  refine rX12_filter hv ?_
  replace h := q_be h
  obtain ⟨u316, hv, h⟩ := h
  replace hv := q_ob_e hv
  obtain ⟨_, cu316⟩ := hv
  replace h := q_be h
  obtain ⟨v317, hv, h⟩ := h
  refine ⟨by decide, ⟨some _, rfl⟩, ⟨_, cu316⟩, ?_⟩
  refine rX12_thrown hv ?_
  refine And.intro (fun hc318 => ?_) (fun hc318 => ?_)
  · replace h := q_ifp (hc318) h
    refine sL_law_1313 ?_
    refine And.intro (fun hc319 => ?_) (fun hc319 => ?_)
    · replace h := q_ifp (hc319) h
      exact ps_weak (pjL_law_1330_23 h hh he hr) ⟨rfl, rfl, rfl, rfl, rfl, trivial⟩
    · replace h := q_ifn (hc319) h
      replace h := q_be h
      obtain ⟨v320, hv, h⟩ := h
      replace hv := q_aL_e hv
      obtain ⟨_, _, cv320, iv320, yv320⟩ := hv
      refine ⟨⟨some _, rfl⟩, _, _, cv320, iv320, _, yv320, ?_⟩
      refine And.intro (fun hc321 => ?_) (fun hc321 => ?_)
      · replace h := q_ifp (hc321) h
        exact ps_weak (pjL_law_1330_23 h hh he hr) ⟨rfl, rfl, rfl, rfl, rfl, trivial⟩
      · replace h := q_ifn (hc321) h
        exact ⟨rfl, Or.inl rfl, hr ((0 : Int32), g315) (Option.some.inj h).symm⟩
  · replace h := q_ifn (hc318) h
    exact ⟨rfl, Or.inl rfl, hr ((0 : Int32), g315) (Option.some.inj h).symm⟩
noncomputable def jL_law_1410_23 (g : ps_G) (x0 : Nat) (x1 : Nat) (x2 : Nat) (x3 : Nat) (x4 : Int32) : Option ((Int32 × ps_G) ⊕ ((ps_G) ⊕ (Int32 × ps_G))) := jL_law_3239_23 g x0 x1 x2 x3 x4
theorem pjL_law_1410_23 {d : Nat} {Q : ps_Rs → ps_G → Prop} {g : ps_G} {x0 : Nat} {x1 : Nat} {x2 : Nat} {x3 : Nat} {x4 : Int32} {x : (Int32 × ps_G) ⊕ ((ps_G) ⊕ (Int32 × ps_G))} (h : jL_law_1410_23 g x0 x1 x2 x3 x4 = some x) (hh : ∀ s' : Int32 × ps_G, x = .inl s' → ps_At mL_law (d + 105) 23 [(0, .ref x0), (1, .ref x1), (2, .ref x2), (3, .ref x3), (4, .int s'.1)] [] s'.2 Q) (he : ∀ r' : ps_G, x = .inr (.inl r') → ps_At mL_law (d + 105) 3245 [] [] r' Q) (hr : ∀ v' : Int32 × ps_G, x = .inr (.inr v') → Q (.inl (some (.int v'.1))) v'.2) : ps_At mL_law (d + 105) 1410 [(0, .ref x0), (1, .ref x1), (2, .ref x2), (3, .ref x3), (4, .int x4)] [] g Q := by
  unfold jL_law_1410_23 at h
  refine sL_law_1410 ?_
  exact ps_weak (pjL_law_3239_23 h hh he hr) ⟨rfl, rfl, rfl, rfl, rfl, trivial⟩
noncomputable def jL_law_1333_23 (g : ps_G) (x0 : Nat) (x1 : Nat) (x2 : Nat) (x3 : Nat) (x4 : Int32) : Option ((Int32 × ps_G) ⊕ ((ps_G) ⊕ (Int32 × ps_G))) := Option.bind (q_aI g x0 (x4 + (1 : Int32))) fun v329 => Option.bind (q_aI g x0 (x4 + (2 : Int32))) fun v330 => Option.bind (q_aI g x0 (x4 + (3 : Int32))) fun v331 => q_b2 (fL_path g x1 v329 v330 v331 x3) fun v332 g333 => Option.bind (q_aI g333 x0 (x4 + (1 : Int32))) fun v334 => Option.bind (q_aI g333 x0 (x4 + (2 : Int32))) fun v335 => Option.bind (q_aI g333 x0 (x4 + (3 : Int32))) fun v336 => Option.bind (q_ob 12 g333 x2) fun u337 => q_b2 (fX12_path g333 x2 v334 v335 v336) fun v338 g339 => Option.bind (q_ob 12 g339 x2) fun u340 => Option.bind (fX12_thrown g339 x2) fun v341 => if v341 = v332 then (if ¬ v332 = 0 then (jL_law_1410_23 g339 x0 x1 x2 x3 x4) else (Option.bind (q_aL g339 x3 (0 : Int32)) fun v344 => if (lg_cmp v344 (Int32.toInt64 v338)) = 0 then (jL_law_1410_23 g339 x0 x1 x2 x3 x4) else (some (.inr (.inr ((0 : Int32), g339)))))) else (some (.inr (.inr ((0 : Int32), g339))))
theorem pjL_law_1333_23 {d : Nat} {Q : ps_Rs → ps_G → Prop} {g : ps_G} {x0 : Nat} {x1 : Nat} {x2 : Nat} {x3 : Nat} {x4 : Int32} {x : (Int32 × ps_G) ⊕ ((ps_G) ⊕ (Int32 × ps_G))} (h : jL_law_1333_23 g x0 x1 x2 x3 x4 = some x) (hh : ∀ s' : Int32 × ps_G, x = .inl s' → ps_At mL_law (d + 105) 23 [(0, .ref x0), (1, .ref x1), (2, .ref x2), (3, .ref x3), (4, .int s'.1)] [] s'.2 Q) (he : ∀ r' : ps_G, x = .inr (.inl r') → ps_At mL_law (d + 105) 3245 [] [] r' Q) (hr : ∀ v' : Int32 × ps_G, x = .inr (.inr v') → Q (.inl (some (.int v'.1))) v'.2) : ps_At mL_law (d + 105) 1333 [(0, .ref x0), (1, .ref x1), (2, .ref x2), (3, .ref x3), (4, .int x4)] [] g Q := by
  unfold jL_law_1333_23 at h
  refine sL_law_1333 ?_
  replace h := q_be h
  obtain ⟨v329, hv, h⟩ := h
  replace hv := q_aI_e hv
  obtain ⟨_, _, cv329, iv329, yv329⟩ := hv
  replace h := q_be h
  obtain ⟨v330, hv, h⟩ := h
  replace hv := q_aI_e hv
  obtain ⟨_, _, cv330, iv330, yv330⟩ := hv
  replace h := q_be h
  obtain ⟨v331, hv, h⟩ := h
  replace hv := q_aI_e hv
  obtain ⟨_, _, cv331, iv331, yv331⟩ := hv
  replace h := q_b2_e h
  obtain ⟨v332, g333, hv, h⟩ := h
  refine ⟨⟨some _, rfl⟩, ⟨some _, rfl⟩, _, _, cv329, iv329, _, yv329, ⟨some _, rfl⟩, _, _, cv330, iv330, _, yv330, ⟨some _, rfl⟩, _, _, cv331, iv331, _, yv331, ⟨some _, rfl⟩, ?_⟩
  refine rL_path hv ?_
  replace h := q_be h
  obtain ⟨v334, hv, h⟩ := h
  replace hv := q_aI_e hv
  obtain ⟨_, _, cv334, iv334, yv334⟩ := hv
  replace h := q_be h
  obtain ⟨v335, hv, h⟩ := h
  replace hv := q_aI_e hv
  obtain ⟨_, _, cv335, iv335, yv335⟩ := hv
  replace h := q_be h
  obtain ⟨v336, hv, h⟩ := h
  replace hv := q_aI_e hv
  obtain ⟨_, _, cv336, iv336, yv336⟩ := hv
  replace h := q_be h
  obtain ⟨u337, hv, h⟩ := h
  replace hv := q_ob_e hv
  obtain ⟨_, cu337⟩ := hv
  replace h := q_b2_e h
  obtain ⟨v338, g339, hv, h⟩ := h
  refine ⟨by decide, ⟨some _, rfl⟩, ⟨some _, rfl⟩, _, _, cv334, iv334, _, yv334, ⟨some _, rfl⟩, _, _, cv335, iv335, _, yv335, ⟨some _, rfl⟩, _, _, cv336, iv336, _, yv336, ⟨_, cu337⟩, ?_⟩
  refine rX12_path hv ?_
  replace h := q_be h
  obtain ⟨u340, hv, h⟩ := h
  replace hv := q_ob_e hv
  obtain ⟨_, cu340⟩ := hv
  replace h := q_be h
  obtain ⟨v341, hv, h⟩ := h
  refine ⟨by decide, ⟨some _, rfl⟩, ⟨_, cu340⟩, ?_⟩
  refine rX12_thrown hv ?_
  refine And.intro (fun hc342 => ?_) (fun hc342 => ?_)
  · replace h := q_ifp (hc342) h
    refine sL_law_1393 ?_
    refine And.intro (fun hc343 => ?_) (fun hc343 => ?_)
    · replace h := q_ifp (hc343) h
      exact ps_weak (pjL_law_1410_23 h hh he hr) ⟨rfl, rfl, rfl, rfl, rfl, trivial⟩
    · replace h := q_ifn (hc343) h
      replace h := q_be h
      obtain ⟨v344, hv, h⟩ := h
      replace hv := q_aL_e hv
      obtain ⟨_, _, cv344, iv344, yv344⟩ := hv
      refine ⟨⟨some _, rfl⟩, _, _, cv344, iv344, _, yv344, ?_⟩
      refine And.intro (fun hc345 => ?_) (fun hc345 => ?_)
      · replace h := q_ifp (hc345) h
        exact ps_weak (pjL_law_1410_23 h hh he hr) ⟨rfl, rfl, rfl, rfl, rfl, trivial⟩
      · replace h := q_ifn (hc345) h
        exact ⟨rfl, Or.inl rfl, hr ((0 : Int32), g339) (Option.some.inj h).symm⟩
  · replace h := q_ifn (hc342) h
    exact ⟨rfl, Or.inl rfl, hr ((0 : Int32), g339) (Option.some.inj h).symm⟩
noncomputable def jL_law_1490_23 (g : ps_G) (x0 : Nat) (x1 : Nat) (x2 : Nat) (x3 : Nat) (x4 : Int32) : Option ((Int32 × ps_G) ⊕ ((ps_G) ⊕ (Int32 × ps_G))) := jL_law_3239_23 g x0 x1 x2 x3 x4
theorem pjL_law_1490_23 {d : Nat} {Q : ps_Rs → ps_G → Prop} {g : ps_G} {x0 : Nat} {x1 : Nat} {x2 : Nat} {x3 : Nat} {x4 : Int32} {x : (Int32 × ps_G) ⊕ ((ps_G) ⊕ (Int32 × ps_G))} (h : jL_law_1490_23 g x0 x1 x2 x3 x4 = some x) (hh : ∀ s' : Int32 × ps_G, x = .inl s' → ps_At mL_law (d + 105) 23 [(0, .ref x0), (1, .ref x1), (2, .ref x2), (3, .ref x3), (4, .int s'.1)] [] s'.2 Q) (he : ∀ r' : ps_G, x = .inr (.inl r') → ps_At mL_law (d + 105) 3245 [] [] r' Q) (hr : ∀ v' : Int32 × ps_G, x = .inr (.inr v') → Q (.inl (some (.int v'.1))) v'.2) : ps_At mL_law (d + 105) 1490 [(0, .ref x0), (1, .ref x1), (2, .ref x2), (3, .ref x3), (4, .int x4)] [] g Q := by
  unfold jL_law_1490_23 at h
  refine sL_law_1490 ?_
  exact ps_weak (pjL_law_3239_23 h hh he hr) ⟨rfl, rfl, rfl, rfl, rfl, trivial⟩
noncomputable def jL_law_1413_23 (g : ps_G) (x0 : Nat) (x1 : Nat) (x2 : Nat) (x3 : Nat) (x4 : Int32) : Option ((Int32 × ps_G) ⊕ ((ps_G) ⊕ (Int32 × ps_G))) := Option.bind (q_aI g x0 (x4 + (1 : Int32))) fun v353 => Option.bind (q_aI g x0 (x4 + (2 : Int32))) fun v354 => Option.bind (q_aI g x0 (x4 + (3 : Int32))) fun v355 => q_b2 (fL_text g x1 v353 v354 v355 x3) fun v356 g357 => Option.bind (q_aI g357 x0 (x4 + (1 : Int32))) fun v358 => Option.bind (q_aI g357 x0 (x4 + (2 : Int32))) fun v359 => Option.bind (q_aI g357 x0 (x4 + (3 : Int32))) fun v360 => Option.bind (q_ob 12 g357 x2) fun u361 => q_b2 (fX12_text g357 x2 v358 v359 v360) fun v362 g363 => Option.bind (q_ob 12 g363 x2) fun u364 => Option.bind (fX12_thrown g363 x2) fun v365 => if v365 = v356 then (if ¬ v356 = 0 then (jL_law_1490_23 g363 x0 x1 x2 x3 x4) else (Option.bind (q_aL g363 x3 (0 : Int32)) fun v368 => if (lg_cmp v368 (Int32.toInt64 v362)) = 0 then (jL_law_1490_23 g363 x0 x1 x2 x3 x4) else (some (.inr (.inr ((0 : Int32), g363)))))) else (some (.inr (.inr ((0 : Int32), g363))))
theorem pjL_law_1413_23 {d : Nat} {Q : ps_Rs → ps_G → Prop} {g : ps_G} {x0 : Nat} {x1 : Nat} {x2 : Nat} {x3 : Nat} {x4 : Int32} {x : (Int32 × ps_G) ⊕ ((ps_G) ⊕ (Int32 × ps_G))} (h : jL_law_1413_23 g x0 x1 x2 x3 x4 = some x) (hh : ∀ s' : Int32 × ps_G, x = .inl s' → ps_At mL_law (d + 105) 23 [(0, .ref x0), (1, .ref x1), (2, .ref x2), (3, .ref x3), (4, .int s'.1)] [] s'.2 Q) (he : ∀ r' : ps_G, x = .inr (.inl r') → ps_At mL_law (d + 105) 3245 [] [] r' Q) (hr : ∀ v' : Int32 × ps_G, x = .inr (.inr v') → Q (.inl (some (.int v'.1))) v'.2) : ps_At mL_law (d + 105) 1413 [(0, .ref x0), (1, .ref x1), (2, .ref x2), (3, .ref x3), (4, .int x4)] [] g Q := by
  unfold jL_law_1413_23 at h
  refine sL_law_1413 ?_
  replace h := q_be h
  obtain ⟨v353, hv, h⟩ := h
  replace hv := q_aI_e hv
  obtain ⟨_, _, cv353, iv353, yv353⟩ := hv
  replace h := q_be h
  obtain ⟨v354, hv, h⟩ := h
  replace hv := q_aI_e hv
  obtain ⟨_, _, cv354, iv354, yv354⟩ := hv
  replace h := q_be h
  obtain ⟨v355, hv, h⟩ := h
  replace hv := q_aI_e hv
  obtain ⟨_, _, cv355, iv355, yv355⟩ := hv
  replace h := q_b2_e h
  obtain ⟨v356, g357, hv, h⟩ := h
  refine ⟨⟨some _, rfl⟩, ⟨some _, rfl⟩, _, _, cv353, iv353, _, yv353, ⟨some _, rfl⟩, _, _, cv354, iv354, _, yv354, ⟨some _, rfl⟩, _, _, cv355, iv355, _, yv355, ⟨some _, rfl⟩, ?_⟩
  refine rL_text hv ?_
  replace h := q_be h
  obtain ⟨v358, hv, h⟩ := h
  replace hv := q_aI_e hv
  obtain ⟨_, _, cv358, iv358, yv358⟩ := hv
  replace h := q_be h
  obtain ⟨v359, hv, h⟩ := h
  replace hv := q_aI_e hv
  obtain ⟨_, _, cv359, iv359, yv359⟩ := hv
  replace h := q_be h
  obtain ⟨v360, hv, h⟩ := h
  replace hv := q_aI_e hv
  obtain ⟨_, _, cv360, iv360, yv360⟩ := hv
  replace h := q_be h
  obtain ⟨u361, hv, h⟩ := h
  replace hv := q_ob_e hv
  obtain ⟨_, cu361⟩ := hv
  replace h := q_b2_e h
  obtain ⟨v362, g363, hv, h⟩ := h
  refine ⟨by decide, ⟨some _, rfl⟩, ⟨some _, rfl⟩, _, _, cv358, iv358, _, yv358, ⟨some _, rfl⟩, _, _, cv359, iv359, _, yv359, ⟨some _, rfl⟩, _, _, cv360, iv360, _, yv360, ⟨_, cu361⟩, ?_⟩
  refine rX12_text hv ?_
  replace h := q_be h
  obtain ⟨u364, hv, h⟩ := h
  replace hv := q_ob_e hv
  obtain ⟨_, cu364⟩ := hv
  replace h := q_be h
  obtain ⟨v365, hv, h⟩ := h
  refine ⟨by decide, ⟨some _, rfl⟩, ⟨_, cu364⟩, ?_⟩
  refine rX12_thrown hv ?_
  refine And.intro (fun hc366 => ?_) (fun hc366 => ?_)
  · replace h := q_ifp (hc366) h
    refine sL_law_1473 ?_
    refine And.intro (fun hc367 => ?_) (fun hc367 => ?_)
    · replace h := q_ifp (hc367) h
      exact ps_weak (pjL_law_1490_23 h hh he hr) ⟨rfl, rfl, rfl, rfl, rfl, trivial⟩
    · replace h := q_ifn (hc367) h
      replace h := q_be h
      obtain ⟨v368, hv, h⟩ := h
      replace hv := q_aL_e hv
      obtain ⟨_, _, cv368, iv368, yv368⟩ := hv
      refine ⟨⟨some _, rfl⟩, _, _, cv368, iv368, _, yv368, ?_⟩
      refine And.intro (fun hc369 => ?_) (fun hc369 => ?_)
      · replace h := q_ifp (hc369) h
        exact ps_weak (pjL_law_1490_23 h hh he hr) ⟨rfl, rfl, rfl, rfl, rfl, trivial⟩
      · replace h := q_ifn (hc369) h
        exact ⟨rfl, Or.inl rfl, hr ((0 : Int32), g363) (Option.some.inj h).symm⟩
  · replace h := q_ifn (hc366) h
    exact ⟨rfl, Or.inl rfl, hr ((0 : Int32), g363) (Option.some.inj h).symm⟩
noncomputable def jL_law_1493_23 (g : ps_G) (x0 : Nat) (x1 : Nat) (x2 : Nat) (x3 : Nat) (x4 : Int32) : Option ((Int32 × ps_G) ⊕ ((ps_G) ⊕ (Int32 × ps_G))) := Option.bind (q_aI g x0 (x4 + (1 : Int32))) fun v377 => Option.bind (q_aI g x0 (x4 + (2 : Int32))) fun v378 => Option.bind (q_aI g x0 (x4 + (3 : Int32))) fun v379 => q_b2 (fL_convert g x1 v377 v378 v379) fun v380 g381 => Option.bind (q_aI g381 x0 (x4 + (1 : Int32))) fun v382 => Option.bind (q_aI g381 x0 (x4 + (2 : Int32))) fun v383 => Option.bind (q_aI g381 x0 (x4 + (3 : Int32))) fun v384 => Option.bind (q_ob 12 g381 x2) fun u385 => Option.bind (fX12_convert g381 x2 v382 v383 v384) fun v386 => Option.bind (q_ob 12 v386 x2) fun u387 => Option.bind (fX12_thrown v386 x2) fun v388 => if v388 = v380 then (jL_law_3239_23 v386 x0 x1 x2 x3 x4) else (some (.inr (.inr ((0 : Int32), v386))))
theorem pjL_law_1493_23 {d : Nat} {Q : ps_Rs → ps_G → Prop} {g : ps_G} {x0 : Nat} {x1 : Nat} {x2 : Nat} {x3 : Nat} {x4 : Int32} {x : (Int32 × ps_G) ⊕ ((ps_G) ⊕ (Int32 × ps_G))} (h : jL_law_1493_23 g x0 x1 x2 x3 x4 = some x) (hh : ∀ s' : Int32 × ps_G, x = .inl s' → ps_At mL_law (d + 105) 23 [(0, .ref x0), (1, .ref x1), (2, .ref x2), (3, .ref x3), (4, .int s'.1)] [] s'.2 Q) (he : ∀ r' : ps_G, x = .inr (.inl r') → ps_At mL_law (d + 105) 3245 [] [] r' Q) (hr : ∀ v' : Int32 × ps_G, x = .inr (.inr v') → Q (.inl (some (.int v'.1))) v'.2) : ps_At mL_law (d + 105) 1493 [(0, .ref x0), (1, .ref x1), (2, .ref x2), (3, .ref x3), (4, .int x4)] [] g Q := by
  unfold jL_law_1493_23 at h
  refine sL_law_1493 ?_
  replace h := q_be h
  obtain ⟨v377, hv, h⟩ := h
  replace hv := q_aI_e hv
  obtain ⟨_, _, cv377, iv377, yv377⟩ := hv
  replace h := q_be h
  obtain ⟨v378, hv, h⟩ := h
  replace hv := q_aI_e hv
  obtain ⟨_, _, cv378, iv378, yv378⟩ := hv
  replace h := q_be h
  obtain ⟨v379, hv, h⟩ := h
  replace hv := q_aI_e hv
  obtain ⟨_, _, cv379, iv379, yv379⟩ := hv
  replace h := q_b2_e h
  obtain ⟨v380, g381, hv, h⟩ := h
  refine ⟨⟨some _, rfl⟩, ⟨some _, rfl⟩, _, _, cv377, iv377, _, yv377, ⟨some _, rfl⟩, _, _, cv378, iv378, _, yv378, ⟨some _, rfl⟩, _, _, cv379, iv379, _, yv379, ?_⟩
  refine rL_convert hv ?_
  replace h := q_be h
  obtain ⟨v382, hv, h⟩ := h
  replace hv := q_aI_e hv
  obtain ⟨_, _, cv382, iv382, yv382⟩ := hv
  replace h := q_be h
  obtain ⟨v383, hv, h⟩ := h
  replace hv := q_aI_e hv
  obtain ⟨_, _, cv383, iv383, yv383⟩ := hv
  replace h := q_be h
  obtain ⟨v384, hv, h⟩ := h
  replace hv := q_aI_e hv
  obtain ⟨_, _, cv384, iv384, yv384⟩ := hv
  replace h := q_be h
  obtain ⟨u385, hv, h⟩ := h
  replace hv := q_ob_e hv
  obtain ⟨_, cu385⟩ := hv
  replace h := q_be h
  obtain ⟨v386, hv, h⟩ := h
  refine ⟨by decide, ⟨some _, rfl⟩, ⟨some _, rfl⟩, _, _, cv382, iv382, _, yv382, ⟨some _, rfl⟩, _, _, cv383, iv383, _, yv383, ⟨some _, rfl⟩, _, _, cv384, iv384, _, yv384, ⟨_, cu385⟩, ?_⟩
  refine rX12_convert hv ?_
  replace h := q_be h
  obtain ⟨u387, hv, h⟩ := h
  replace hv := q_ob_e hv
  obtain ⟨_, cu387⟩ := hv
  replace h := q_be h
  obtain ⟨v388, hv, h⟩ := h
  refine ⟨⟨some _, rfl⟩, ⟨_, cu387⟩, ?_⟩
  refine rX12_thrown hv ?_
  refine And.intro (fun hc389 => ?_) (fun hc389 => ?_)
  · replace h := q_ifp (hc389) h
    refine sL_law_1550 ?_
    exact ps_weak (pjL_law_3239_23 h hh he hr) ⟨rfl, rfl, rfl, rfl, rfl, trivial⟩
  · replace h := q_ifn (hc389) h
    exact ⟨rfl, Or.inl rfl, hr ((0 : Int32), v386) (Option.some.inj h).symm⟩
noncomputable def jL_law_1646_23 (g : ps_G) (x0 : Nat) (x1 : Nat) (x2 : Nat) (x3 : Nat) (x4 : Int32) : Option ((Int32 × ps_G) ⊕ ((ps_G) ⊕ (Int32 × ps_G))) := jL_law_3239_23 g x0 x1 x2 x3 x4
theorem pjL_law_1646_23 {d : Nat} {Q : ps_Rs → ps_G → Prop} {g : ps_G} {x0 : Nat} {x1 : Nat} {x2 : Nat} {x3 : Nat} {x4 : Int32} {x : (Int32 × ps_G) ⊕ ((ps_G) ⊕ (Int32 × ps_G))} (h : jL_law_1646_23 g x0 x1 x2 x3 x4 = some x) (hh : ∀ s' : Int32 × ps_G, x = .inl s' → ps_At mL_law (d + 105) 23 [(0, .ref x0), (1, .ref x1), (2, .ref x2), (3, .ref x3), (4, .int s'.1)] [] s'.2 Q) (he : ∀ r' : ps_G, x = .inr (.inl r') → ps_At mL_law (d + 105) 3245 [] [] r' Q) (hr : ∀ v' : Int32 × ps_G, x = .inr (.inr v') → Q (.inl (some (.int v'.1))) v'.2) : ps_At mL_law (d + 105) 1646 [(0, .ref x0), (1, .ref x1), (2, .ref x2), (3, .ref x3), (4, .int x4)] [] g Q := by
  unfold jL_law_1646_23 at h
  refine sL_law_1646 ?_
  exact ps_weak (pjL_law_3239_23 h hh he hr) ⟨rfl, rfl, rfl, rfl, rfl, trivial⟩
noncomputable def jL_law_1553_23 (g : ps_G) (x0 : Nat) (x1 : Nat) (x2 : Nat) (x3 : Nat) (x4 : Int32) : Option ((Int32 × ps_G) ⊕ ((ps_G) ⊕ (Int32 × ps_G))) := Option.bind (q_aI g x0 (x4 + (1 : Int32))) fun v393 => Option.bind (q_aI g x0 (x4 + (2 : Int32))) fun v394 => Option.bind (q_aI g x0 (x4 + (3 : Int32))) fun v395 => q_b2 (fL_few g x1 v393 v394 (if v395 = 0 then (0 : Int32) else (1 : Int32)) x3) fun v399 g400 => Option.bind (q_aI g400 x0 (x4 + (1 : Int32))) fun v401 => Option.bind (q_aI g400 x0 (x4 + (2 : Int32))) fun v402 => Option.bind (q_aI g400 x0 (x4 + (3 : Int32))) fun v403 => Option.bind (q_ob 12 g400 x2) fun u407 => q_b2 (fX12_few g400 x2 v401 v402 (if v403 = 0 then (0 : Int32) else (1 : Int32))) fun v408 g409 => Option.bind (q_ob 12 g409 x2) fun u410 => Option.bind (fX12_thrown g409 x2) fun v411 => if v411 = v399 then (if ¬ v399 = 0 then (jL_law_1646_23 g409 x0 x1 x2 x3 x4) else (Option.bind (q_aL g409 x3 (0 : Int32)) fun v414 => if (lg_cmp v414 (Int32.toInt64 v408)) = 0 then (jL_law_1646_23 g409 x0 x1 x2 x3 x4) else (some (.inr (.inr ((0 : Int32), g409)))))) else (some (.inr (.inr ((0 : Int32), g409))))
theorem pjL_law_1553_23 {d : Nat} {Q : ps_Rs → ps_G → Prop} {g : ps_G} {x0 : Nat} {x1 : Nat} {x2 : Nat} {x3 : Nat} {x4 : Int32} {x : (Int32 × ps_G) ⊕ ((ps_G) ⊕ (Int32 × ps_G))} (h : jL_law_1553_23 g x0 x1 x2 x3 x4 = some x) (hh : ∀ s' : Int32 × ps_G, x = .inl s' → ps_At mL_law (d + 105) 23 [(0, .ref x0), (1, .ref x1), (2, .ref x2), (3, .ref x3), (4, .int s'.1)] [] s'.2 Q) (he : ∀ r' : ps_G, x = .inr (.inl r') → ps_At mL_law (d + 105) 3245 [] [] r' Q) (hr : ∀ v' : Int32 × ps_G, x = .inr (.inr v') → Q (.inl (some (.int v'.1))) v'.2) : ps_At mL_law (d + 105) 1553 [(0, .ref x0), (1, .ref x1), (2, .ref x2), (3, .ref x3), (4, .int x4)] [] g Q := by
  unfold jL_law_1553_23 at h
  refine sL_law_1553 ?_
  replace h := q_be h
  obtain ⟨v393, hv, h⟩ := h
  replace hv := q_aI_e hv
  obtain ⟨_, _, cv393, iv393, yv393⟩ := hv
  replace h := q_be h
  obtain ⟨v394, hv, h⟩ := h
  replace hv := q_aI_e hv
  obtain ⟨_, _, cv394, iv394, yv394⟩ := hv
  replace h := q_be h
  obtain ⟨v395, hv, h⟩ := h
  replace hv := q_aI_e hv
  obtain ⟨_, _, cv395, iv395, yv395⟩ := hv
  have kJ398 : ∀ w397 : Int32, w397 = (if v395 = 0 then (0 : Int32) else (1 : Int32)) → ps_At mL_law (d + 105) 1580 [(0, .ref x0), (1, .ref x1), (2, .ref x2), (3, .ref x3), (4, .int x4)] [.int w397, .int v394, .int v393, .ref x1] g Q := by
    rintro _ rfl
    refine sL_law_1580 ?_
    replace h := q_b2_e h
    obtain ⟨v399, g400, hv, h⟩ := h
    refine ⟨⟨some _, rfl⟩, ?_⟩
    refine rL_few hv ?_
    replace h := q_be h
    obtain ⟨v401, hv, h⟩ := h
    replace hv := q_aI_e hv
    obtain ⟨_, _, cv401, iv401, yv401⟩ := hv
    replace h := q_be h
    obtain ⟨v402, hv, h⟩ := h
    replace hv := q_aI_e hv
    obtain ⟨_, _, cv402, iv402, yv402⟩ := hv
    replace h := q_be h
    obtain ⟨v403, hv, h⟩ := h
    replace hv := q_aI_e hv
    obtain ⟨_, _, cv403, iv403, yv403⟩ := hv
    have kJ406 : ∀ w405 : Int32, w405 = (if v403 = 0 then (0 : Int32) else (1 : Int32)) → ps_At mL_law (d + 105) 1613 [(0, .ref x0), (1, .ref x1), (2, .ref x2), (3, .ref x3), (4, .int x4), (5, .int v399)] [.int w405, .int v402, .int v401, .ref x2] g400 Q := by
      rintro _ rfl
      refine sL_law_1613 ?_
      replace h := q_be h
      obtain ⟨u407, hv, h⟩ := h
      replace hv := q_ob_e hv
      obtain ⟨_, cu407⟩ := hv
      replace h := q_b2_e h
      obtain ⟨v408, g409, hv, h⟩ := h
      refine ⟨⟨_, cu407⟩, ?_⟩
      refine rX12_few hv ?_
      replace h := q_be h
      obtain ⟨u410, hv, h⟩ := h
      replace hv := q_ob_e hv
      obtain ⟨_, cu410⟩ := hv
      replace h := q_be h
      obtain ⟨v411, hv, h⟩ := h
      refine ⟨by decide, ⟨some _, rfl⟩, ⟨_, cu410⟩, ?_⟩
      refine rX12_thrown hv ?_
      refine And.intro (fun hc412 => ?_) (fun hc412 => ?_)
      · replace h := q_ifp (hc412) h
        refine sL_law_1629 ?_
        refine And.intro (fun hc413 => ?_) (fun hc413 => ?_)
        · replace h := q_ifp (hc413) h
          exact ps_weak (pjL_law_1646_23 h hh he hr) ⟨rfl, rfl, rfl, rfl, rfl, trivial⟩
        · replace h := q_ifn (hc413) h
          replace h := q_be h
          obtain ⟨v414, hv, h⟩ := h
          replace hv := q_aL_e hv
          obtain ⟨_, _, cv414, iv414, yv414⟩ := hv
          refine ⟨⟨some _, rfl⟩, _, _, cv414, iv414, _, yv414, ?_⟩
          refine And.intro (fun hc415 => ?_) (fun hc415 => ?_)
          · replace h := q_ifp (hc415) h
            exact ps_weak (pjL_law_1646_23 h hh he hr) ⟨rfl, rfl, rfl, rfl, rfl, trivial⟩
          · replace h := q_ifn (hc415) h
            exact ⟨rfl, Or.inl rfl, hr ((0 : Int32), g409) (Option.some.inj h).symm⟩
      · replace h := q_ifn (hc412) h
        exact ⟨rfl, Or.inl rfl, hr ((0 : Int32), g409) (Option.some.inj h).symm⟩
    refine ⟨by decide, ⟨some _, rfl⟩, ⟨some _, rfl⟩, _, _, cv401, iv401, _, yv401, ⟨some _, rfl⟩, _, _, cv402, iv402, _, yv402, ⟨some _, rfl⟩, _, _, cv403, iv403, _, yv403, ?_⟩
    refine And.intro (fun hc404 => ?_) (fun hc404 => ?_)
    · refine sL_law_1612 ?_
      exact ps_weak (kJ406 _ (if_pos (hc404)).symm) ⟨rfl, rfl, rfl, rfl, rfl, rfl, trivial⟩
    · exact ps_weak (kJ406 _ (if_neg (hc404)).symm) ⟨rfl, rfl, rfl, rfl, rfl, rfl, trivial⟩
  refine ⟨⟨some _, rfl⟩, ⟨some _, rfl⟩, _, _, cv393, iv393, _, yv393, ⟨some _, rfl⟩, _, _, cv394, iv394, _, yv394, ⟨some _, rfl⟩, _, _, cv395, iv395, _, yv395, ?_⟩
  refine And.intro (fun hc396 => ?_) (fun hc396 => ?_)
  · refine sL_law_1579 ?_
    exact ps_weak (kJ398 _ (if_pos (hc396)).symm) ⟨rfl, rfl, rfl, rfl, rfl, trivial⟩
  · exact ps_weak (kJ398 _ (if_neg (hc396)).symm) ⟨rfl, rfl, rfl, rfl, rfl, trivial⟩
noncomputable def jL_law_1690_23 (g : ps_G) (x0 : Nat) (x1 : Nat) (x2 : Nat) (x3 : Nat) (x4 : Int32) : Option ((Int32 × ps_G) ⊕ ((ps_G) ⊕ (Int32 × ps_G))) := jL_law_3239_23 g x0 x1 x2 x3 x4
theorem pjL_law_1690_23 {d : Nat} {Q : ps_Rs → ps_G → Prop} {g : ps_G} {x0 : Nat} {x1 : Nat} {x2 : Nat} {x3 : Nat} {x4 : Int32} {x : (Int32 × ps_G) ⊕ ((ps_G) ⊕ (Int32 × ps_G))} (h : jL_law_1690_23 g x0 x1 x2 x3 x4 = some x) (hh : ∀ s' : Int32 × ps_G, x = .inl s' → ps_At mL_law (d + 105) 23 [(0, .ref x0), (1, .ref x1), (2, .ref x2), (3, .ref x3), (4, .int s'.1)] [] s'.2 Q) (he : ∀ r' : ps_G, x = .inr (.inl r') → ps_At mL_law (d + 105) 3245 [] [] r' Q) (hr : ∀ v' : Int32 × ps_G, x = .inr (.inr v') → Q (.inl (some (.int v'.1))) v'.2) : ps_At mL_law (d + 105) 1690 [(0, .ref x0), (1, .ref x1), (2, .ref x2), (3, .ref x3), (4, .int x4)] [] g Q := by
  unfold jL_law_1690_23 at h
  refine sL_law_1690 ?_
  exact ps_weak (pjL_law_3239_23 h hh he hr) ⟨rfl, rfl, rfl, rfl, rfl, trivial⟩
noncomputable def jL_law_1649_23 (g : ps_G) (x0 : Nat) (x1 : Nat) (x2 : Nat) (x3 : Nat) (x4 : Int32) : Option ((Int32 × ps_G) ⊕ ((ps_G) ⊕ (Int32 × ps_G))) := q_b2 (fL_raw g x1 x3) fun v423 g424 => Option.bind (q_ob 12 g424 x2) fun u425 => q_b2 (fX12_raw g424 x2) fun v426 g427 => Option.bind (q_ob 12 g427 x2) fun u428 => Option.bind (fX12_thrown g427 x2) fun v429 => if v429 = v423 then (if ¬ v423 = 0 then (jL_law_1690_23 g427 x0 x1 x2 x3 x4) else (Option.bind (q_aL g427 x3 (0 : Int32)) fun v432 => if (lg_cmp v432 (Int32.toInt64 v426)) = 0 then (jL_law_1690_23 g427 x0 x1 x2 x3 x4) else (some (.inr (.inr ((0 : Int32), g427)))))) else (some (.inr (.inr ((0 : Int32), g427))))
theorem pjL_law_1649_23 {d : Nat} {Q : ps_Rs → ps_G → Prop} {g : ps_G} {x0 : Nat} {x1 : Nat} {x2 : Nat} {x3 : Nat} {x4 : Int32} {x : (Int32 × ps_G) ⊕ ((ps_G) ⊕ (Int32 × ps_G))} (h : jL_law_1649_23 g x0 x1 x2 x3 x4 = some x) (hh : ∀ s' : Int32 × ps_G, x = .inl s' → ps_At mL_law (d + 105) 23 [(0, .ref x0), (1, .ref x1), (2, .ref x2), (3, .ref x3), (4, .int s'.1)] [] s'.2 Q) (he : ∀ r' : ps_G, x = .inr (.inl r') → ps_At mL_law (d + 105) 3245 [] [] r' Q) (hr : ∀ v' : Int32 × ps_G, x = .inr (.inr v') → Q (.inl (some (.int v'.1))) v'.2) : ps_At mL_law (d + 105) 1649 [(0, .ref x0), (1, .ref x1), (2, .ref x2), (3, .ref x3), (4, .int x4)] [] g Q := by
  unfold jL_law_1649_23 at h
  refine sL_law_1649 ?_
  replace h := q_b2_e h
  obtain ⟨v423, g424, hv, h⟩ := h
  refine ⟨⟨some _, rfl⟩, ⟨some _, rfl⟩, ?_⟩
  refine rL_raw hv ?_
  replace h := q_be h
  obtain ⟨u425, hv, h⟩ := h
  replace hv := q_ob_e hv
  obtain ⟨_, cu425⟩ := hv
  replace h := q_b2_e h
  obtain ⟨v426, g427, hv, h⟩ := h
  refine ⟨by decide, ⟨some _, rfl⟩, ⟨_, cu425⟩, ?_⟩
  refine rX12_raw hv ?_
  replace h := q_be h
  obtain ⟨u428, hv, h⟩ := h
  replace hv := q_ob_e hv
  obtain ⟨_, cu428⟩ := hv
  replace h := q_be h
  obtain ⟨v429, hv, h⟩ := h
  refine ⟨by decide, ⟨some _, rfl⟩, ⟨_, cu428⟩, ?_⟩
  refine rX12_thrown hv ?_
  refine And.intro (fun hc430 => ?_) (fun hc430 => ?_)
  · replace h := q_ifp (hc430) h
    refine sL_law_1673 ?_
    refine And.intro (fun hc431 => ?_) (fun hc431 => ?_)
    · replace h := q_ifp (hc431) h
      exact ps_weak (pjL_law_1690_23 h hh he hr) ⟨rfl, rfl, rfl, rfl, rfl, trivial⟩
    · replace h := q_ifn (hc431) h
      replace h := q_be h
      obtain ⟨v432, hv, h⟩ := h
      replace hv := q_aL_e hv
      obtain ⟨_, _, cv432, iv432, yv432⟩ := hv
      refine ⟨⟨some _, rfl⟩, _, _, cv432, iv432, _, yv432, ?_⟩
      refine And.intro (fun hc433 => ?_) (fun hc433 => ?_)
      · replace h := q_ifp (hc433) h
        exact ps_weak (pjL_law_1690_23 h hh he hr) ⟨rfl, rfl, rfl, rfl, rfl, trivial⟩
      · replace h := q_ifn (hc433) h
        exact ⟨rfl, Or.inl rfl, hr ((0 : Int32), g427) (Option.some.inj h).symm⟩
  · replace h := q_ifn (hc430) h
    exact ⟨rfl, Or.inl rfl, hr ((0 : Int32), g427) (Option.some.inj h).symm⟩
noncomputable def jL_law_1734_23 (g : ps_G) (x0 : Nat) (x1 : Nat) (x2 : Nat) (x3 : Nat) (x4 : Int32) : Option ((Int32 × ps_G) ⊕ ((ps_G) ⊕ (Int32 × ps_G))) := jL_law_3239_23 g x0 x1 x2 x3 x4
theorem pjL_law_1734_23 {d : Nat} {Q : ps_Rs → ps_G → Prop} {g : ps_G} {x0 : Nat} {x1 : Nat} {x2 : Nat} {x3 : Nat} {x4 : Int32} {x : (Int32 × ps_G) ⊕ ((ps_G) ⊕ (Int32 × ps_G))} (h : jL_law_1734_23 g x0 x1 x2 x3 x4 = some x) (hh : ∀ s' : Int32 × ps_G, x = .inl s' → ps_At mL_law (d + 105) 23 [(0, .ref x0), (1, .ref x1), (2, .ref x2), (3, .ref x3), (4, .int s'.1)] [] s'.2 Q) (he : ∀ r' : ps_G, x = .inr (.inl r') → ps_At mL_law (d + 105) 3245 [] [] r' Q) (hr : ∀ v' : Int32 × ps_G, x = .inr (.inr v') → Q (.inl (some (.int v'.1))) v'.2) : ps_At mL_law (d + 105) 1734 [(0, .ref x0), (1, .ref x1), (2, .ref x2), (3, .ref x3), (4, .int x4)] [] g Q := by
  unfold jL_law_1734_23 at h
  refine sL_law_1734 ?_
  exact ps_weak (pjL_law_3239_23 h hh he hr) ⟨rfl, rfl, rfl, rfl, rfl, trivial⟩
noncomputable def jL_law_1693_23 (g : ps_G) (x0 : Nat) (x1 : Nat) (x2 : Nat) (x3 : Nat) (x4 : Int32) : Option ((Int32 × ps_G) ⊕ ((ps_G) ⊕ (Int32 × ps_G))) := q_b2 (fL_png g x1 x3) fun v441 g442 => Option.bind (q_ob 12 g442 x2) fun u443 => q_b2 (fX12_png g442 x2) fun v444 g445 => Option.bind (q_ob 12 g445 x2) fun u446 => Option.bind (fX12_thrown g445 x2) fun v447 => if v447 = v441 then (if ¬ v441 = 0 then (jL_law_1734_23 g445 x0 x1 x2 x3 x4) else (Option.bind (q_aL g445 x3 (0 : Int32)) fun v450 => if (lg_cmp v450 (Int32.toInt64 v444)) = 0 then (jL_law_1734_23 g445 x0 x1 x2 x3 x4) else (some (.inr (.inr ((0 : Int32), g445)))))) else (some (.inr (.inr ((0 : Int32), g445))))
theorem pjL_law_1693_23 {d : Nat} {Q : ps_Rs → ps_G → Prop} {g : ps_G} {x0 : Nat} {x1 : Nat} {x2 : Nat} {x3 : Nat} {x4 : Int32} {x : (Int32 × ps_G) ⊕ ((ps_G) ⊕ (Int32 × ps_G))} (h : jL_law_1693_23 g x0 x1 x2 x3 x4 = some x) (hh : ∀ s' : Int32 × ps_G, x = .inl s' → ps_At mL_law (d + 105) 23 [(0, .ref x0), (1, .ref x1), (2, .ref x2), (3, .ref x3), (4, .int s'.1)] [] s'.2 Q) (he : ∀ r' : ps_G, x = .inr (.inl r') → ps_At mL_law (d + 105) 3245 [] [] r' Q) (hr : ∀ v' : Int32 × ps_G, x = .inr (.inr v') → Q (.inl (some (.int v'.1))) v'.2) : ps_At mL_law (d + 105) 1693 [(0, .ref x0), (1, .ref x1), (2, .ref x2), (3, .ref x3), (4, .int x4)] [] g Q := by
  unfold jL_law_1693_23 at h
  refine sL_law_1693 ?_
  replace h := q_b2_e h
  obtain ⟨v441, g442, hv, h⟩ := h
  refine ⟨⟨some _, rfl⟩, ⟨some _, rfl⟩, ?_⟩
  refine rL_png hv ?_
  replace h := q_be h
  obtain ⟨u443, hv, h⟩ := h
  replace hv := q_ob_e hv
  obtain ⟨_, cu443⟩ := hv
  replace h := q_b2_e h
  obtain ⟨v444, g445, hv, h⟩ := h
  refine ⟨by decide, ⟨some _, rfl⟩, ⟨_, cu443⟩, ?_⟩
  refine rX12_png hv ?_
  replace h := q_be h
  obtain ⟨u446, hv, h⟩ := h
  replace hv := q_ob_e hv
  obtain ⟨_, cu446⟩ := hv
  replace h := q_be h
  obtain ⟨v447, hv, h⟩ := h
  refine ⟨by decide, ⟨some _, rfl⟩, ⟨_, cu446⟩, ?_⟩
  refine rX12_thrown hv ?_
  refine And.intro (fun hc448 => ?_) (fun hc448 => ?_)
  · replace h := q_ifp (hc448) h
    refine sL_law_1717 ?_
    refine And.intro (fun hc449 => ?_) (fun hc449 => ?_)
    · replace h := q_ifp (hc449) h
      exact ps_weak (pjL_law_1734_23 h hh he hr) ⟨rfl, rfl, rfl, rfl, rfl, trivial⟩
    · replace h := q_ifn (hc449) h
      replace h := q_be h
      obtain ⟨v450, hv, h⟩ := h
      replace hv := q_aL_e hv
      obtain ⟨_, _, cv450, iv450, yv450⟩ := hv
      refine ⟨⟨some _, rfl⟩, _, _, cv450, iv450, _, yv450, ?_⟩
      refine And.intro (fun hc451 => ?_) (fun hc451 => ?_)
      · replace h := q_ifp (hc451) h
        exact ps_weak (pjL_law_1734_23 h hh he hr) ⟨rfl, rfl, rfl, rfl, rfl, trivial⟩
      · replace h := q_ifn (hc451) h
        exact ⟨rfl, Or.inl rfl, hr ((0 : Int32), g445) (Option.some.inj h).symm⟩
  · replace h := q_ifn (hc448) h
    exact ⟨rfl, Or.inl rfl, hr ((0 : Int32), g445) (Option.some.inj h).symm⟩
noncomputable def jL_law_1852_23 (g : ps_G) (x0 : Nat) (x1 : Nat) (x2 : Nat) (x3 : Nat) (x4 : Int32) : Option ((Int32 × ps_G) ⊕ ((ps_G) ⊕ (Int32 × ps_G))) := jL_law_3239_23 g x0 x1 x2 x3 x4
theorem pjL_law_1852_23 {d : Nat} {Q : ps_Rs → ps_G → Prop} {g : ps_G} {x0 : Nat} {x1 : Nat} {x2 : Nat} {x3 : Nat} {x4 : Int32} {x : (Int32 × ps_G) ⊕ ((ps_G) ⊕ (Int32 × ps_G))} (h : jL_law_1852_23 g x0 x1 x2 x3 x4 = some x) (hh : ∀ s' : Int32 × ps_G, x = .inl s' → ps_At mL_law (d + 105) 23 [(0, .ref x0), (1, .ref x1), (2, .ref x2), (3, .ref x3), (4, .int s'.1)] [] s'.2 Q) (he : ∀ r' : ps_G, x = .inr (.inl r') → ps_At mL_law (d + 105) 3245 [] [] r' Q) (hr : ∀ v' : Int32 × ps_G, x = .inr (.inr v') → Q (.inl (some (.int v'.1))) v'.2) : ps_At mL_law (d + 105) 1852 [(0, .ref x0), (1, .ref x1), (2, .ref x2), (3, .ref x3), (4, .int x4)] [] g Q := by
  unfold jL_law_1852_23 at h
  refine sL_law_1852 ?_
  exact ps_weak (pjL_law_3239_23 h hh he hr) ⟨rfl, rfl, rfl, rfl, rfl, trivial⟩
noncomputable def jL_law_1737_23 (g : ps_G) (x0 : Nat) (x1 : Nat) (x2 : Nat) (x3 : Nat) (x4 : Int32) : Option ((Int32 × ps_G) ⊕ ((ps_G) ⊕ (Int32 × ps_G))) := Option.bind (q_aI g x0 (x4 + (1 : Int32))) fun v459 => Option.bind (q_aI g x0 (x4 + (2 : Int32))) fun v460 => Option.bind (q_aI g x0 (x4 + (3 : Int32))) fun v461 => Option.bind (q_aI g x0 (x4 + (4 : Int32))) fun v462 => Option.bind (q_aI g x0 (x4 + (5 : Int32))) fun v463 => Option.bind (q_aI g x0 (x4 + (6 : Int32))) fun v464 => q_b2 (fL_select g x1 v459 v460 v461 v462 v463 v464 x3) fun v465 g466 => Option.bind (q_aI g466 x0 (x4 + (1 : Int32))) fun v467 => Option.bind (q_aI g466 x0 (x4 + (2 : Int32))) fun v468 => Option.bind (q_aI g466 x0 (x4 + (3 : Int32))) fun v469 => Option.bind (q_aI g466 x0 (x4 + (4 : Int32))) fun v470 => Option.bind (q_aI g466 x0 (x4 + (5 : Int32))) fun v471 => Option.bind (q_aI g466 x0 (x4 + (6 : Int32))) fun v472 => Option.bind (q_ob 12 g466 x2) fun u473 => q_b2 (fX12_select g466 x2 v467 v468 v469 v470 v471 v472) fun v474 g475 => Option.bind (q_ob 12 g475 x2) fun u476 => Option.bind (fX12_thrown g475 x2) fun v477 => if v477 = v465 then (if ¬ v465 = 0 then (jL_law_1852_23 g475 x0 x1 x2 x3 x4) else (Option.bind (q_aL g475 x3 (0 : Int32)) fun v480 => if (lg_cmp v480 (Int32.toInt64 v474)) = 0 then (jL_law_1852_23 g475 x0 x1 x2 x3 x4) else (some (.inr (.inr ((0 : Int32), g475)))))) else (some (.inr (.inr ((0 : Int32), g475))))
theorem pjL_law_1737_23 {d : Nat} {Q : ps_Rs → ps_G → Prop} {g : ps_G} {x0 : Nat} {x1 : Nat} {x2 : Nat} {x3 : Nat} {x4 : Int32} {x : (Int32 × ps_G) ⊕ ((ps_G) ⊕ (Int32 × ps_G))} (h : jL_law_1737_23 g x0 x1 x2 x3 x4 = some x) (hh : ∀ s' : Int32 × ps_G, x = .inl s' → ps_At mL_law (d + 105) 23 [(0, .ref x0), (1, .ref x1), (2, .ref x2), (3, .ref x3), (4, .int s'.1)] [] s'.2 Q) (he : ∀ r' : ps_G, x = .inr (.inl r') → ps_At mL_law (d + 105) 3245 [] [] r' Q) (hr : ∀ v' : Int32 × ps_G, x = .inr (.inr v') → Q (.inl (some (.int v'.1))) v'.2) : ps_At mL_law (d + 105) 1737 [(0, .ref x0), (1, .ref x1), (2, .ref x2), (3, .ref x3), (4, .int x4)] [] g Q := by
  unfold jL_law_1737_23 at h
  refine sL_law_1737 ?_
  replace h := q_be h
  obtain ⟨v459, hv, h⟩ := h
  replace hv := q_aI_e hv
  obtain ⟨_, _, cv459, iv459, yv459⟩ := hv
  replace h := q_be h
  obtain ⟨v460, hv, h⟩ := h
  replace hv := q_aI_e hv
  obtain ⟨_, _, cv460, iv460, yv460⟩ := hv
  replace h := q_be h
  obtain ⟨v461, hv, h⟩ := h
  replace hv := q_aI_e hv
  obtain ⟨_, _, cv461, iv461, yv461⟩ := hv
  replace h := q_be h
  obtain ⟨v462, hv, h⟩ := h
  replace hv := q_aI_e hv
  obtain ⟨_, _, cv462, iv462, yv462⟩ := hv
  replace h := q_be h
  obtain ⟨v463, hv, h⟩ := h
  replace hv := q_aI_e hv
  obtain ⟨_, _, cv463, iv463, yv463⟩ := hv
  replace h := q_be h
  obtain ⟨v464, hv, h⟩ := h
  replace hv := q_aI_e hv
  obtain ⟨_, _, cv464, iv464, yv464⟩ := hv
  refine ⟨⟨some _, rfl⟩, ⟨some _, rfl⟩, _, _, cv459, iv459, _, yv459, ⟨some _, rfl⟩, _, _, cv460, iv460, _, yv460, ⟨some _, rfl⟩, _, _, cv461, iv461, _, yv461, ⟨some _, rfl⟩, _, _, cv462, iv462, _, yv462, ⟨some _, rfl⟩, _, _, cv463, iv463, _, yv463, ⟨some _, rfl⟩, _, _, cv464, iv464, _, yv464, ?_⟩
  replace h := q_b2_e h
  obtain ⟨v465, g466, hv, h⟩ := h
  refine ⟨⟨some _, rfl⟩, ?_⟩
  refine rL_select hv ?_
  replace h := q_be h
  obtain ⟨v467, hv, h⟩ := h
  replace hv := q_aI_e hv
  obtain ⟨_, _, cv467, iv467, yv467⟩ := hv
  replace h := q_be h
  obtain ⟨v468, hv, h⟩ := h
  replace hv := q_aI_e hv
  obtain ⟨_, _, cv468, iv468, yv468⟩ := hv
  replace h := q_be h
  obtain ⟨v469, hv, h⟩ := h
  replace hv := q_aI_e hv
  obtain ⟨_, _, cv469, iv469, yv469⟩ := hv
  replace h := q_be h
  obtain ⟨v470, hv, h⟩ := h
  replace hv := q_aI_e hv
  obtain ⟨_, _, cv470, iv470, yv470⟩ := hv
  replace h := q_be h
  obtain ⟨v471, hv, h⟩ := h
  replace hv := q_aI_e hv
  obtain ⟨_, _, cv471, iv471, yv471⟩ := hv
  replace h := q_be h
  obtain ⟨v472, hv, h⟩ := h
  replace hv := q_aI_e hv
  obtain ⟨_, _, cv472, iv472, yv472⟩ := hv
  refine ⟨by decide, ⟨some _, rfl⟩, ⟨some _, rfl⟩, _, _, cv467, iv467, _, yv467, ⟨some _, rfl⟩, _, _, cv468, iv468, _, yv468, ⟨some _, rfl⟩, _, _, cv469, iv469, _, yv469, ⟨some _, rfl⟩, _, _, cv470, iv470, _, yv470, ⟨some _, rfl⟩, _, _, cv471, iv471, _, yv471, ⟨some _, rfl⟩, _, _, cv472, iv472, _, yv472, ?_⟩
  replace h := q_be h
  obtain ⟨u473, hv, h⟩ := h
  replace hv := q_ob_e hv
  obtain ⟨_, cu473⟩ := hv
  replace h := q_b2_e h
  obtain ⟨v474, g475, hv, h⟩ := h
  refine ⟨⟨_, cu473⟩, ?_⟩
  refine rX12_select hv ?_
  replace h := q_be h
  obtain ⟨u476, hv, h⟩ := h
  replace hv := q_ob_e hv
  obtain ⟨_, cu476⟩ := hv
  replace h := q_be h
  obtain ⟨v477, hv, h⟩ := h
  refine ⟨by decide, ⟨some _, rfl⟩, ⟨_, cu476⟩, ?_⟩
  refine rX12_thrown hv ?_
  refine And.intro (fun hc478 => ?_) (fun hc478 => ?_)
  · replace h := q_ifp (hc478) h
    refine sL_law_1835 ?_
    refine And.intro (fun hc479 => ?_) (fun hc479 => ?_)
    · replace h := q_ifp (hc479) h
      exact ps_weak (pjL_law_1852_23 h hh he hr) ⟨rfl, rfl, rfl, rfl, rfl, trivial⟩
    · replace h := q_ifn (hc479) h
      replace h := q_be h
      obtain ⟨v480, hv, h⟩ := h
      replace hv := q_aL_e hv
      obtain ⟨_, _, cv480, iv480, yv480⟩ := hv
      refine ⟨⟨some _, rfl⟩, _, _, cv480, iv480, _, yv480, ?_⟩
      refine And.intro (fun hc481 => ?_) (fun hc481 => ?_)
      · replace h := q_ifp (hc481) h
        exact ps_weak (pjL_law_1852_23 h hh he hr) ⟨rfl, rfl, rfl, rfl, rfl, trivial⟩
      · replace h := q_ifn (hc481) h
        exact ⟨rfl, Or.inl rfl, hr ((0 : Int32), g475) (Option.some.inj h).symm⟩
  · replace h := q_ifn (hc478) h
    exact ⟨rfl, Or.inl rfl, hr ((0 : Int32), g475) (Option.some.inj h).symm⟩
noncomputable def jL_law_1920_23 (g : ps_G) (x0 : Nat) (x1 : Nat) (x2 : Nat) (x3 : Nat) (x4 : Int32) : Option ((Int32 × ps_G) ⊕ ((ps_G) ⊕ (Int32 × ps_G))) := jL_law_3239_23 g x0 x1 x2 x3 x4
theorem pjL_law_1920_23 {d : Nat} {Q : ps_Rs → ps_G → Prop} {g : ps_G} {x0 : Nat} {x1 : Nat} {x2 : Nat} {x3 : Nat} {x4 : Int32} {x : (Int32 × ps_G) ⊕ ((ps_G) ⊕ (Int32 × ps_G))} (h : jL_law_1920_23 g x0 x1 x2 x3 x4 = some x) (hh : ∀ s' : Int32 × ps_G, x = .inl s' → ps_At mL_law (d + 105) 23 [(0, .ref x0), (1, .ref x1), (2, .ref x2), (3, .ref x3), (4, .int s'.1)] [] s'.2 Q) (he : ∀ r' : ps_G, x = .inr (.inl r') → ps_At mL_law (d + 105) 3245 [] [] r' Q) (hr : ∀ v' : Int32 × ps_G, x = .inr (.inr v') → Q (.inl (some (.int v'.1))) v'.2) : ps_At mL_law (d + 105) 1920 [(0, .ref x0), (1, .ref x1), (2, .ref x2), (3, .ref x3), (4, .int x4)] [] g Q := by
  unfold jL_law_1920_23 at h
  refine sL_law_1920 ?_
  exact ps_weak (pjL_law_3239_23 h hh he hr) ⟨rfl, rfl, rfl, rfl, rfl, trivial⟩
noncomputable def jL_law_1855_23 (g : ps_G) (x0 : Nat) (x1 : Nat) (x2 : Nat) (x3 : Nat) (x4 : Int32) : Option ((Int32 × ps_G) ⊕ ((ps_G) ⊕ (Int32 × ps_G))) := Option.bind (q_aI g x0 (x4 + (1 : Int32))) fun v489 => Option.bind (q_aI g x0 (x4 + (2 : Int32))) fun v490 => q_b2 (fL_reselect g x1 v489 v490 x3) fun v491 g492 => Option.bind (q_aI g492 x0 (x4 + (1 : Int32))) fun v493 => Option.bind (q_aI g492 x0 (x4 + (2 : Int32))) fun v494 => Option.bind (q_ob 12 g492 x2) fun u495 => q_b2 (fX12_reselect g492 x2 v493 v494) fun v496 g497 => Option.bind (q_ob 12 g497 x2) fun u498 => Option.bind (fX12_thrown g497 x2) fun v499 => if v499 = v491 then (if ¬ v491 = 0 then (jL_law_1920_23 g497 x0 x1 x2 x3 x4) else (Option.bind (q_aL g497 x3 (0 : Int32)) fun v502 => if (lg_cmp v502 (Int32.toInt64 v496)) = 0 then (jL_law_1920_23 g497 x0 x1 x2 x3 x4) else (some (.inr (.inr ((0 : Int32), g497)))))) else (some (.inr (.inr ((0 : Int32), g497))))
theorem pjL_law_1855_23 {d : Nat} {Q : ps_Rs → ps_G → Prop} {g : ps_G} {x0 : Nat} {x1 : Nat} {x2 : Nat} {x3 : Nat} {x4 : Int32} {x : (Int32 × ps_G) ⊕ ((ps_G) ⊕ (Int32 × ps_G))} (h : jL_law_1855_23 g x0 x1 x2 x3 x4 = some x) (hh : ∀ s' : Int32 × ps_G, x = .inl s' → ps_At mL_law (d + 105) 23 [(0, .ref x0), (1, .ref x1), (2, .ref x2), (3, .ref x3), (4, .int s'.1)] [] s'.2 Q) (he : ∀ r' : ps_G, x = .inr (.inl r') → ps_At mL_law (d + 105) 3245 [] [] r' Q) (hr : ∀ v' : Int32 × ps_G, x = .inr (.inr v') → Q (.inl (some (.int v'.1))) v'.2) : ps_At mL_law (d + 105) 1855 [(0, .ref x0), (1, .ref x1), (2, .ref x2), (3, .ref x3), (4, .int x4)] [] g Q := by
  unfold jL_law_1855_23 at h
  refine sL_law_1855 ?_
  replace h := q_be h
  obtain ⟨v489, hv, h⟩ := h
  replace hv := q_aI_e hv
  obtain ⟨_, _, cv489, iv489, yv489⟩ := hv
  replace h := q_be h
  obtain ⟨v490, hv, h⟩ := h
  replace hv := q_aI_e hv
  obtain ⟨_, _, cv490, iv490, yv490⟩ := hv
  replace h := q_b2_e h
  obtain ⟨v491, g492, hv, h⟩ := h
  refine ⟨⟨some _, rfl⟩, ⟨some _, rfl⟩, _, _, cv489, iv489, _, yv489, ⟨some _, rfl⟩, _, _, cv490, iv490, _, yv490, ⟨some _, rfl⟩, ?_⟩
  refine rL_reselect hv ?_
  replace h := q_be h
  obtain ⟨v493, hv, h⟩ := h
  replace hv := q_aI_e hv
  obtain ⟨_, _, cv493, iv493, yv493⟩ := hv
  replace h := q_be h
  obtain ⟨v494, hv, h⟩ := h
  replace hv := q_aI_e hv
  obtain ⟨_, _, cv494, iv494, yv494⟩ := hv
  replace h := q_be h
  obtain ⟨u495, hv, h⟩ := h
  replace hv := q_ob_e hv
  obtain ⟨_, cu495⟩ := hv
  replace h := q_b2_e h
  obtain ⟨v496, g497, hv, h⟩ := h
  refine ⟨by decide, ⟨some _, rfl⟩, ⟨some _, rfl⟩, _, _, cv493, iv493, _, yv493, ⟨some _, rfl⟩, _, _, cv494, iv494, _, yv494, ⟨_, cu495⟩, ?_⟩
  refine rX12_reselect hv ?_
  replace h := q_be h
  obtain ⟨u498, hv, h⟩ := h
  replace hv := q_ob_e hv
  obtain ⟨_, cu498⟩ := hv
  replace h := q_be h
  obtain ⟨v499, hv, h⟩ := h
  refine ⟨by decide, ⟨some _, rfl⟩, ⟨_, cu498⟩, ?_⟩
  refine rX12_thrown hv ?_
  refine And.intro (fun hc500 => ?_) (fun hc500 => ?_)
  · replace h := q_ifp (hc500) h
    refine sL_law_1903 ?_
    refine And.intro (fun hc501 => ?_) (fun hc501 => ?_)
    · replace h := q_ifp (hc501) h
      exact ps_weak (pjL_law_1920_23 h hh he hr) ⟨rfl, rfl, rfl, rfl, rfl, trivial⟩
    · replace h := q_ifn (hc501) h
      replace h := q_be h
      obtain ⟨v502, hv, h⟩ := h
      replace hv := q_aL_e hv
      obtain ⟨_, _, cv502, iv502, yv502⟩ := hv
      refine ⟨⟨some _, rfl⟩, _, _, cv502, iv502, _, yv502, ?_⟩
      refine And.intro (fun hc503 => ?_) (fun hc503 => ?_)
      · replace h := q_ifp (hc503) h
        exact ps_weak (pjL_law_1920_23 h hh he hr) ⟨rfl, rfl, rfl, rfl, rfl, trivial⟩
      · replace h := q_ifn (hc503) h
        exact ⟨rfl, Or.inl rfl, hr ((0 : Int32), g497) (Option.some.inj h).symm⟩
  · replace h := q_ifn (hc500) h
    exact ⟨rfl, Or.inl rfl, hr ((0 : Int32), g497) (Option.some.inj h).symm⟩
noncomputable def jL_law_1988_23 (g : ps_G) (x0 : Nat) (x1 : Nat) (x2 : Nat) (x3 : Nat) (x4 : Int32) : Option ((Int32 × ps_G) ⊕ ((ps_G) ⊕ (Int32 × ps_G))) := jL_law_3239_23 g x0 x1 x2 x3 x4
theorem pjL_law_1988_23 {d : Nat} {Q : ps_Rs → ps_G → Prop} {g : ps_G} {x0 : Nat} {x1 : Nat} {x2 : Nat} {x3 : Nat} {x4 : Int32} {x : (Int32 × ps_G) ⊕ ((ps_G) ⊕ (Int32 × ps_G))} (h : jL_law_1988_23 g x0 x1 x2 x3 x4 = some x) (hh : ∀ s' : Int32 × ps_G, x = .inl s' → ps_At mL_law (d + 105) 23 [(0, .ref x0), (1, .ref x1), (2, .ref x2), (3, .ref x3), (4, .int s'.1)] [] s'.2 Q) (he : ∀ r' : ps_G, x = .inr (.inl r') → ps_At mL_law (d + 105) 3245 [] [] r' Q) (hr : ∀ v' : Int32 × ps_G, x = .inr (.inr v') → Q (.inl (some (.int v'.1))) v'.2) : ps_At mL_law (d + 105) 1988 [(0, .ref x0), (1, .ref x1), (2, .ref x2), (3, .ref x3), (4, .int x4)] [] g Q := by
  unfold jL_law_1988_23 at h
  refine sL_law_1988 ?_
  exact ps_weak (pjL_law_3239_23 h hh he hr) ⟨rfl, rfl, rfl, rfl, rfl, trivial⟩
noncomputable def jL_law_1923_23 (g : ps_G) (x0 : Nat) (x1 : Nat) (x2 : Nat) (x3 : Nat) (x4 : Int32) : Option ((Int32 × ps_G) ⊕ ((ps_G) ⊕ (Int32 × ps_G))) := Option.bind (q_aI g x0 (x4 + (1 : Int32))) fun v511 => Option.bind (q_aI g x0 (x4 + (2 : Int32))) fun v512 => q_b2 (fL_selected g x1 v511 v512 x3) fun v513 g514 => Option.bind (q_aI g514 x0 (x4 + (1 : Int32))) fun v515 => Option.bind (q_aI g514 x0 (x4 + (2 : Int32))) fun v516 => Option.bind (q_ob 12 g514 x2) fun u517 => q_b2 (fX12_selected g514 x2 v515 v516) fun v518 g519 => Option.bind (q_ob 12 g519 x2) fun u520 => Option.bind (fX12_thrown g519 x2) fun v521 => if v521 = v513 then (if ¬ v513 = 0 then (jL_law_1988_23 g519 x0 x1 x2 x3 x4) else (Option.bind (q_aL g519 x3 (0 : Int32)) fun v524 => if (lg_cmp v524 (Int32.toInt64 v518)) = 0 then (jL_law_1988_23 g519 x0 x1 x2 x3 x4) else (some (.inr (.inr ((0 : Int32), g519)))))) else (some (.inr (.inr ((0 : Int32), g519))))
theorem pjL_law_1923_23 {d : Nat} {Q : ps_Rs → ps_G → Prop} {g : ps_G} {x0 : Nat} {x1 : Nat} {x2 : Nat} {x3 : Nat} {x4 : Int32} {x : (Int32 × ps_G) ⊕ ((ps_G) ⊕ (Int32 × ps_G))} (h : jL_law_1923_23 g x0 x1 x2 x3 x4 = some x) (hh : ∀ s' : Int32 × ps_G, x = .inl s' → ps_At mL_law (d + 105) 23 [(0, .ref x0), (1, .ref x1), (2, .ref x2), (3, .ref x3), (4, .int s'.1)] [] s'.2 Q) (he : ∀ r' : ps_G, x = .inr (.inl r') → ps_At mL_law (d + 105) 3245 [] [] r' Q) (hr : ∀ v' : Int32 × ps_G, x = .inr (.inr v') → Q (.inl (some (.int v'.1))) v'.2) : ps_At mL_law (d + 105) 1923 [(0, .ref x0), (1, .ref x1), (2, .ref x2), (3, .ref x3), (4, .int x4)] [] g Q := by
  unfold jL_law_1923_23 at h
  refine sL_law_1923 ?_
  replace h := q_be h
  obtain ⟨v511, hv, h⟩ := h
  replace hv := q_aI_e hv
  obtain ⟨_, _, cv511, iv511, yv511⟩ := hv
  replace h := q_be h
  obtain ⟨v512, hv, h⟩ := h
  replace hv := q_aI_e hv
  obtain ⟨_, _, cv512, iv512, yv512⟩ := hv
  replace h := q_b2_e h
  obtain ⟨v513, g514, hv, h⟩ := h
  refine ⟨⟨some _, rfl⟩, ⟨some _, rfl⟩, _, _, cv511, iv511, _, yv511, ⟨some _, rfl⟩, _, _, cv512, iv512, _, yv512, ⟨some _, rfl⟩, ?_⟩
  refine rL_selected hv ?_
  replace h := q_be h
  obtain ⟨v515, hv, h⟩ := h
  replace hv := q_aI_e hv
  obtain ⟨_, _, cv515, iv515, yv515⟩ := hv
  replace h := q_be h
  obtain ⟨v516, hv, h⟩ := h
  replace hv := q_aI_e hv
  obtain ⟨_, _, cv516, iv516, yv516⟩ := hv
  replace h := q_be h
  obtain ⟨u517, hv, h⟩ := h
  replace hv := q_ob_e hv
  obtain ⟨_, cu517⟩ := hv
  replace h := q_b2_e h
  obtain ⟨v518, g519, hv, h⟩ := h
  refine ⟨by decide, ⟨some _, rfl⟩, ⟨some _, rfl⟩, _, _, cv515, iv515, _, yv515, ⟨some _, rfl⟩, _, _, cv516, iv516, _, yv516, ⟨_, cu517⟩, ?_⟩
  refine rX12_selected hv ?_
  replace h := q_be h
  obtain ⟨u520, hv, h⟩ := h
  replace hv := q_ob_e hv
  obtain ⟨_, cu520⟩ := hv
  replace h := q_be h
  obtain ⟨v521, hv, h⟩ := h
  refine ⟨by decide, ⟨some _, rfl⟩, ⟨_, cu520⟩, ?_⟩
  refine rX12_thrown hv ?_
  refine And.intro (fun hc522 => ?_) (fun hc522 => ?_)
  · replace h := q_ifp (hc522) h
    refine sL_law_1971 ?_
    refine And.intro (fun hc523 => ?_) (fun hc523 => ?_)
    · replace h := q_ifp (hc523) h
      exact ps_weak (pjL_law_1988_23 h hh he hr) ⟨rfl, rfl, rfl, rfl, rfl, trivial⟩
    · replace h := q_ifn (hc523) h
      replace h := q_be h
      obtain ⟨v524, hv, h⟩ := h
      replace hv := q_aL_e hv
      obtain ⟨_, _, cv524, iv524, yv524⟩ := hv
      refine ⟨⟨some _, rfl⟩, _, _, cv524, iv524, _, yv524, ?_⟩
      refine And.intro (fun hc525 => ?_) (fun hc525 => ?_)
      · replace h := q_ifp (hc525) h
        exact ps_weak (pjL_law_1988_23 h hh he hr) ⟨rfl, rfl, rfl, rfl, rfl, trivial⟩
      · replace h := q_ifn (hc525) h
        exact ⟨rfl, Or.inl rfl, hr ((0 : Int32), g519) (Option.some.inj h).symm⟩
  · replace h := q_ifn (hc522) h
    exact ⟨rfl, Or.inl rfl, hr ((0 : Int32), g519) (Option.some.inj h).symm⟩
noncomputable def jL_law_1991_23 (g : ps_G) (x0 : Nat) (x1 : Nat) (x2 : Nat) (x3 : Nat) (x4 : Int32) : Option ((Int32 × ps_G) ⊕ ((ps_G) ⊕ (Int32 × ps_G))) := Option.bind (q_aI g x0 (x4 + (1 : Int32))) fun v533 => Option.bind (q_ob 11 g x1) fun u534 => Option.bind (fX11_front g x1 v533) fun v535 => Option.bind (q_aI v535 x0 (x4 + (1 : Int32))) fun v536 => Option.bind (q_ob 12 v535 x2) fun u537 => Option.bind (fX12_front v535 x2 v536) fun v538 => jL_law_3239_23 v538 x0 x1 x2 x3 x4
theorem pjL_law_1991_23 {d : Nat} {Q : ps_Rs → ps_G → Prop} {g : ps_G} {x0 : Nat} {x1 : Nat} {x2 : Nat} {x3 : Nat} {x4 : Int32} {x : (Int32 × ps_G) ⊕ ((ps_G) ⊕ (Int32 × ps_G))} (h : jL_law_1991_23 g x0 x1 x2 x3 x4 = some x) (hh : ∀ s' : Int32 × ps_G, x = .inl s' → ps_At mL_law (d + 105) 23 [(0, .ref x0), (1, .ref x1), (2, .ref x2), (3, .ref x3), (4, .int s'.1)] [] s'.2 Q) (he : ∀ r' : ps_G, x = .inr (.inl r') → ps_At mL_law (d + 105) 3245 [] [] r' Q) (hr : ∀ v' : Int32 × ps_G, x = .inr (.inr v') → Q (.inl (some (.int v'.1))) v'.2) : ps_At mL_law (d + 105) 1991 [(0, .ref x0), (1, .ref x1), (2, .ref x2), (3, .ref x3), (4, .int x4)] [] g Q := by
  unfold jL_law_1991_23 at h
  refine sL_law_1991 ?_
  replace h := q_be h
  obtain ⟨v533, hv, h⟩ := h
  replace hv := q_aI_e hv
  obtain ⟨_, _, cv533, iv533, yv533⟩ := hv
  replace h := q_be h
  obtain ⟨u534, hv, h⟩ := h
  replace hv := q_ob_e hv
  obtain ⟨_, cu534⟩ := hv
  replace h := q_be h
  obtain ⟨v535, hv, h⟩ := h
  refine ⟨⟨some _, rfl⟩, ⟨some _, rfl⟩, _, _, cv533, iv533, _, yv533, ⟨_, cu534⟩, ?_⟩
  refine rX11_front hv ?_
  replace h := q_be h
  obtain ⟨v536, hv, h⟩ := h
  replace hv := q_aI_e hv
  obtain ⟨_, _, cv536, iv536, yv536⟩ := hv
  replace h := q_be h
  obtain ⟨u537, hv, h⟩ := h
  replace hv := q_ob_e hv
  obtain ⟨_, cu537⟩ := hv
  replace h := q_be h
  obtain ⟨v538, hv, h⟩ := h
  refine ⟨⟨some _, rfl⟩, ⟨some _, rfl⟩, _, _, cv536, iv536, _, yv536, ⟨_, cu537⟩, ?_⟩
  refine rX12_front hv ?_
  exact ps_weak (pjL_law_3239_23 h hh he hr) ⟨rfl, rfl, rfl, rfl, rfl, trivial⟩
noncomputable def jL_law_2014_23 (g : ps_G) (x0 : Nat) (x1 : Nat) (x2 : Nat) (x3 : Nat) (x4 : Int32) : Option ((Int32 × ps_G) ⊕ ((ps_G) ⊕ (Int32 × ps_G))) := Option.bind (q_aI g x0 (x4 + (1 : Int32))) fun v540 => Option.bind (q_aI g x0 (x4 + (2 : Int32))) fun v541 => Option.bind (q_aI g x0 (x4 + (3 : Int32))) fun v542 => Option.bind (q_aI g x0 (x4 + (4 : Int32))) fun v543 => Option.bind (q_aI g x0 (x4 + (5 : Int32))) fun v544 => q_b2 (fL_brush g x1 v540 v541 v542 v543 v544) fun v545 g546 => Option.bind (q_aI g546 x0 (x4 + (1 : Int32))) fun v547 => Option.bind (q_aI g546 x0 (x4 + (2 : Int32))) fun v548 => Option.bind (q_aI g546 x0 (x4 + (3 : Int32))) fun v549 => Option.bind (q_aI g546 x0 (x4 + (4 : Int32))) fun v550 => Option.bind (q_aI g546 x0 (x4 + (5 : Int32))) fun v551 => Option.bind (q_ob 12 g546 x2) fun u552 => Option.bind (fX12_brush g546 x2 v547 v548 v549 v550 v551) fun v553 => Option.bind (q_ob 12 v553 x2) fun u554 => Option.bind (fX12_thrown v553 x2) fun v555 => if v555 = v545 then (jL_law_3239_23 v553 x0 x1 x2 x3 x4) else (some (.inr (.inr ((0 : Int32), v553))))
theorem pjL_law_2014_23 {d : Nat} {Q : ps_Rs → ps_G → Prop} {g : ps_G} {x0 : Nat} {x1 : Nat} {x2 : Nat} {x3 : Nat} {x4 : Int32} {x : (Int32 × ps_G) ⊕ ((ps_G) ⊕ (Int32 × ps_G))} (h : jL_law_2014_23 g x0 x1 x2 x3 x4 = some x) (hh : ∀ s' : Int32 × ps_G, x = .inl s' → ps_At mL_law (d + 105) 23 [(0, .ref x0), (1, .ref x1), (2, .ref x2), (3, .ref x3), (4, .int s'.1)] [] s'.2 Q) (he : ∀ r' : ps_G, x = .inr (.inl r') → ps_At mL_law (d + 105) 3245 [] [] r' Q) (hr : ∀ v' : Int32 × ps_G, x = .inr (.inr v') → Q (.inl (some (.int v'.1))) v'.2) : ps_At mL_law (d + 105) 2014 [(0, .ref x0), (1, .ref x1), (2, .ref x2), (3, .ref x3), (4, .int x4)] [] g Q := by
  unfold jL_law_2014_23 at h
  refine sL_law_2014 ?_
  replace h := q_be h
  obtain ⟨v540, hv, h⟩ := h
  replace hv := q_aI_e hv
  obtain ⟨_, _, cv540, iv540, yv540⟩ := hv
  replace h := q_be h
  obtain ⟨v541, hv, h⟩ := h
  replace hv := q_aI_e hv
  obtain ⟨_, _, cv541, iv541, yv541⟩ := hv
  replace h := q_be h
  obtain ⟨v542, hv, h⟩ := h
  replace hv := q_aI_e hv
  obtain ⟨_, _, cv542, iv542, yv542⟩ := hv
  replace h := q_be h
  obtain ⟨v543, hv, h⟩ := h
  replace hv := q_aI_e hv
  obtain ⟨_, _, cv543, iv543, yv543⟩ := hv
  replace h := q_be h
  obtain ⟨v544, hv, h⟩ := h
  replace hv := q_aI_e hv
  obtain ⟨_, _, cv544, iv544, yv544⟩ := hv
  replace h := q_b2_e h
  obtain ⟨v545, g546, hv, h⟩ := h
  refine ⟨⟨some _, rfl⟩, ⟨some _, rfl⟩, _, _, cv540, iv540, _, yv540, ⟨some _, rfl⟩, _, _, cv541, iv541, _, yv541, ⟨some _, rfl⟩, _, _, cv542, iv542, _, yv542, ⟨some _, rfl⟩, _, _, cv543, iv543, _, yv543, ⟨some _, rfl⟩, _, _, cv544, iv544, _, yv544, ?_⟩
  refine rL_brush hv ?_
  replace h := q_be h
  obtain ⟨v547, hv, h⟩ := h
  replace hv := q_aI_e hv
  obtain ⟨_, _, cv547, iv547, yv547⟩ := hv
  replace h := q_be h
  obtain ⟨v548, hv, h⟩ := h
  replace hv := q_aI_e hv
  obtain ⟨_, _, cv548, iv548, yv548⟩ := hv
  replace h := q_be h
  obtain ⟨v549, hv, h⟩ := h
  replace hv := q_aI_e hv
  obtain ⟨_, _, cv549, iv549, yv549⟩ := hv
  replace h := q_be h
  obtain ⟨v550, hv, h⟩ := h
  replace hv := q_aI_e hv
  obtain ⟨_, _, cv550, iv550, yv550⟩ := hv
  replace h := q_be h
  obtain ⟨v551, hv, h⟩ := h
  replace hv := q_aI_e hv
  obtain ⟨_, _, cv551, iv551, yv551⟩ := hv
  replace h := q_be h
  obtain ⟨u552, hv, h⟩ := h
  replace hv := q_ob_e hv
  obtain ⟨_, cu552⟩ := hv
  replace h := q_be h
  obtain ⟨v553, hv, h⟩ := h
  refine ⟨by decide, ⟨some _, rfl⟩, ⟨some _, rfl⟩, _, _, cv547, iv547, _, yv547, ⟨some _, rfl⟩, _, _, cv548, iv548, _, yv548, ⟨some _, rfl⟩, _, _, cv549, iv549, _, yv549, ⟨some _, rfl⟩, _, _, cv550, iv550, _, yv550, ⟨some _, rfl⟩, _, _, cv551, iv551, _, yv551, ⟨_, cu552⟩, ?_⟩
  refine rX12_brush hv ?_
  replace h := q_be h
  obtain ⟨u554, hv, h⟩ := h
  replace hv := q_ob_e hv
  obtain ⟨_, cu554⟩ := hv
  replace h := q_be h
  obtain ⟨v555, hv, h⟩ := h
  refine ⟨⟨some _, rfl⟩, ⟨_, cu554⟩, ?_⟩
  refine rX12_thrown hv ?_
  refine And.intro (fun hc556 => ?_) (fun hc556 => ?_)
  · replace h := q_ifp (hc556) h
    refine sL_law_2095 ?_
    exact ps_weak (pjL_law_3239_23 h hh he hr) ⟨rfl, rfl, rfl, rfl, rfl, trivial⟩
  · replace h := q_ifn (hc556) h
    exact ⟨rfl, Or.inl rfl, hr ((0 : Int32), v553) (Option.some.inj h).symm⟩
noncomputable def jL_law_2098_23 (g : ps_G) (x0 : Nat) (x1 : Nat) (x2 : Nat) (x3 : Nat) (x4 : Int32) : Option ((Int32 × ps_G) ⊕ ((ps_G) ⊕ (Int32 × ps_G))) := Option.bind (q_aI g x0 (x4 + (1 : Int32))) fun v560 => Option.bind (q_aI g x0 (x4 + (2 : Int32))) fun v561 => q_b2 (fL_source g x1 v560 v561) fun v562 g563 => Option.bind (q_aI g563 x0 (x4 + (1 : Int32))) fun v564 => Option.bind (q_aI g563 x0 (x4 + (2 : Int32))) fun v565 => Option.bind (q_ob 12 g563 x2) fun u566 => Option.bind (fX12_source g563 x2 v564 v565) fun v567 => Option.bind (q_ob 12 v567 x2) fun u568 => Option.bind (fX12_thrown v567 x2) fun v569 => if v569 = v562 then (jL_law_3239_23 v567 x0 x1 x2 x3 x4) else (some (.inr (.inr ((0 : Int32), v567))))
theorem pjL_law_2098_23 {d : Nat} {Q : ps_Rs → ps_G → Prop} {g : ps_G} {x0 : Nat} {x1 : Nat} {x2 : Nat} {x3 : Nat} {x4 : Int32} {x : (Int32 × ps_G) ⊕ ((ps_G) ⊕ (Int32 × ps_G))} (h : jL_law_2098_23 g x0 x1 x2 x3 x4 = some x) (hh : ∀ s' : Int32 × ps_G, x = .inl s' → ps_At mL_law (d + 105) 23 [(0, .ref x0), (1, .ref x1), (2, .ref x2), (3, .ref x3), (4, .int s'.1)] [] s'.2 Q) (he : ∀ r' : ps_G, x = .inr (.inl r') → ps_At mL_law (d + 105) 3245 [] [] r' Q) (hr : ∀ v' : Int32 × ps_G, x = .inr (.inr v') → Q (.inl (some (.int v'.1))) v'.2) : ps_At mL_law (d + 105) 2098 [(0, .ref x0), (1, .ref x1), (2, .ref x2), (3, .ref x3), (4, .int x4)] [] g Q := by
  unfold jL_law_2098_23 at h
  refine sL_law_2098 ?_
  replace h := q_be h
  obtain ⟨v560, hv, h⟩ := h
  replace hv := q_aI_e hv
  obtain ⟨_, _, cv560, iv560, yv560⟩ := hv
  replace h := q_be h
  obtain ⟨v561, hv, h⟩ := h
  replace hv := q_aI_e hv
  obtain ⟨_, _, cv561, iv561, yv561⟩ := hv
  replace h := q_b2_e h
  obtain ⟨v562, g563, hv, h⟩ := h
  refine ⟨⟨some _, rfl⟩, ⟨some _, rfl⟩, _, _, cv560, iv560, _, yv560, ⟨some _, rfl⟩, _, _, cv561, iv561, _, yv561, ?_⟩
  refine rL_source hv ?_
  replace h := q_be h
  obtain ⟨v564, hv, h⟩ := h
  replace hv := q_aI_e hv
  obtain ⟨_, _, cv564, iv564, yv564⟩ := hv
  replace h := q_be h
  obtain ⟨v565, hv, h⟩ := h
  replace hv := q_aI_e hv
  obtain ⟨_, _, cv565, iv565, yv565⟩ := hv
  replace h := q_be h
  obtain ⟨u566, hv, h⟩ := h
  replace hv := q_ob_e hv
  obtain ⟨_, cu566⟩ := hv
  replace h := q_be h
  obtain ⟨v567, hv, h⟩ := h
  refine ⟨by decide, ⟨some _, rfl⟩, ⟨some _, rfl⟩, _, _, cv564, iv564, _, yv564, ⟨some _, rfl⟩, _, _, cv565, iv565, _, yv565, ⟨_, cu566⟩, ?_⟩
  refine rX12_source hv ?_
  replace h := q_be h
  obtain ⟨u568, hv, h⟩ := h
  replace hv := q_ob_e hv
  obtain ⟨_, cu568⟩ := hv
  replace h := q_be h
  obtain ⟨v569, hv, h⟩ := h
  refine ⟨⟨some _, rfl⟩, ⟨_, cu568⟩, ?_⟩
  refine rX12_thrown hv ?_
  refine And.intro (fun hc570 => ?_) (fun hc570 => ?_)
  · replace h := q_ifp (hc570) h
    refine sL_law_2143 ?_
    exact ps_weak (pjL_law_3239_23 h hh he hr) ⟨rfl, rfl, rfl, rfl, rfl, trivial⟩
  · replace h := q_ifn (hc570) h
    exact ⟨rfl, Or.inl rfl, hr ((0 : Int32), v567) (Option.some.inj h).symm⟩
noncomputable def jL_law_2223_23 (g : ps_G) (x0 : Nat) (x1 : Nat) (x2 : Nat) (x3 : Nat) (x4 : Int32) : Option ((Int32 × ps_G) ⊕ ((ps_G) ⊕ (Int32 × ps_G))) := jL_law_3239_23 g x0 x1 x2 x3 x4
theorem pjL_law_2223_23 {d : Nat} {Q : ps_Rs → ps_G → Prop} {g : ps_G} {x0 : Nat} {x1 : Nat} {x2 : Nat} {x3 : Nat} {x4 : Int32} {x : (Int32 × ps_G) ⊕ ((ps_G) ⊕ (Int32 × ps_G))} (h : jL_law_2223_23 g x0 x1 x2 x3 x4 = some x) (hh : ∀ s' : Int32 × ps_G, x = .inl s' → ps_At mL_law (d + 105) 23 [(0, .ref x0), (1, .ref x1), (2, .ref x2), (3, .ref x3), (4, .int s'.1)] [] s'.2 Q) (he : ∀ r' : ps_G, x = .inr (.inl r') → ps_At mL_law (d + 105) 3245 [] [] r' Q) (hr : ∀ v' : Int32 × ps_G, x = .inr (.inr v') → Q (.inl (some (.int v'.1))) v'.2) : ps_At mL_law (d + 105) 2223 [(0, .ref x0), (1, .ref x1), (2, .ref x2), (3, .ref x3), (4, .int x4)] [] g Q := by
  unfold jL_law_2223_23 at h
  refine sL_law_2223 ?_
  exact ps_weak (pjL_law_3239_23 h hh he hr) ⟨rfl, rfl, rfl, rfl, rfl, trivial⟩
noncomputable def jL_law_2146_23 (g : ps_G) (x0 : Nat) (x1 : Nat) (x2 : Nat) (x3 : Nat) (x4 : Int32) : Option ((Int32 × ps_G) ⊕ ((ps_G) ⊕ (Int32 × ps_G))) := Option.bind (q_aI g x0 (x4 + (1 : Int32))) fun v574 => Option.bind (q_aI g x0 (x4 + (2 : Int32))) fun v575 => Option.bind (q_aI g x0 (x4 + (3 : Int32))) fun v576 => q_b2 (fL_point g x1 v574 v575 v576 x3) fun v577 g578 => Option.bind (q_aI g578 x0 (x4 + (1 : Int32))) fun v579 => Option.bind (q_aI g578 x0 (x4 + (2 : Int32))) fun v580 => Option.bind (q_aI g578 x0 (x4 + (3 : Int32))) fun v581 => Option.bind (q_ob 12 g578 x2) fun u582 => q_b2 (fX12_point g578 x2 v579 v580 v581) fun v583 g584 => Option.bind (q_ob 12 g584 x2) fun u585 => Option.bind (fX12_thrown g584 x2) fun v586 => if v586 = v577 then (if ¬ v577 = 0 then (jL_law_2223_23 g584 x0 x1 x2 x3 x4) else (Option.bind (q_aL g584 x3 (0 : Int32)) fun v589 => if (lg_cmp v589 (Int32.toInt64 v583)) = 0 then (jL_law_2223_23 g584 x0 x1 x2 x3 x4) else (some (.inr (.inr ((0 : Int32), g584)))))) else (some (.inr (.inr ((0 : Int32), g584))))
theorem pjL_law_2146_23 {d : Nat} {Q : ps_Rs → ps_G → Prop} {g : ps_G} {x0 : Nat} {x1 : Nat} {x2 : Nat} {x3 : Nat} {x4 : Int32} {x : (Int32 × ps_G) ⊕ ((ps_G) ⊕ (Int32 × ps_G))} (h : jL_law_2146_23 g x0 x1 x2 x3 x4 = some x) (hh : ∀ s' : Int32 × ps_G, x = .inl s' → ps_At mL_law (d + 105) 23 [(0, .ref x0), (1, .ref x1), (2, .ref x2), (3, .ref x3), (4, .int s'.1)] [] s'.2 Q) (he : ∀ r' : ps_G, x = .inr (.inl r') → ps_At mL_law (d + 105) 3245 [] [] r' Q) (hr : ∀ v' : Int32 × ps_G, x = .inr (.inr v') → Q (.inl (some (.int v'.1))) v'.2) : ps_At mL_law (d + 105) 2146 [(0, .ref x0), (1, .ref x1), (2, .ref x2), (3, .ref x3), (4, .int x4)] [] g Q := by
  unfold jL_law_2146_23 at h
  refine sL_law_2146 ?_
  replace h := q_be h
  obtain ⟨v574, hv, h⟩ := h
  replace hv := q_aI_e hv
  obtain ⟨_, _, cv574, iv574, yv574⟩ := hv
  replace h := q_be h
  obtain ⟨v575, hv, h⟩ := h
  replace hv := q_aI_e hv
  obtain ⟨_, _, cv575, iv575, yv575⟩ := hv
  replace h := q_be h
  obtain ⟨v576, hv, h⟩ := h
  replace hv := q_aI_e hv
  obtain ⟨_, _, cv576, iv576, yv576⟩ := hv
  replace h := q_b2_e h
  obtain ⟨v577, g578, hv, h⟩ := h
  refine ⟨⟨some _, rfl⟩, ⟨some _, rfl⟩, _, _, cv574, iv574, _, yv574, ⟨some _, rfl⟩, _, _, cv575, iv575, _, yv575, ⟨some _, rfl⟩, _, _, cv576, iv576, _, yv576, ⟨some _, rfl⟩, ?_⟩
  refine rL_point hv ?_
  replace h := q_be h
  obtain ⟨v579, hv, h⟩ := h
  replace hv := q_aI_e hv
  obtain ⟨_, _, cv579, iv579, yv579⟩ := hv
  replace h := q_be h
  obtain ⟨v580, hv, h⟩ := h
  replace hv := q_aI_e hv
  obtain ⟨_, _, cv580, iv580, yv580⟩ := hv
  replace h := q_be h
  obtain ⟨v581, hv, h⟩ := h
  replace hv := q_aI_e hv
  obtain ⟨_, _, cv581, iv581, yv581⟩ := hv
  replace h := q_be h
  obtain ⟨u582, hv, h⟩ := h
  replace hv := q_ob_e hv
  obtain ⟨_, cu582⟩ := hv
  replace h := q_b2_e h
  obtain ⟨v583, g584, hv, h⟩ := h
  refine ⟨by decide, ⟨some _, rfl⟩, ⟨some _, rfl⟩, _, _, cv579, iv579, _, yv579, ⟨some _, rfl⟩, _, _, cv580, iv580, _, yv580, ⟨some _, rfl⟩, _, _, cv581, iv581, _, yv581, ⟨_, cu582⟩, ?_⟩
  refine rX12_point hv ?_
  replace h := q_be h
  obtain ⟨u585, hv, h⟩ := h
  replace hv := q_ob_e hv
  obtain ⟨_, cu585⟩ := hv
  replace h := q_be h
  obtain ⟨v586, hv, h⟩ := h
  refine ⟨by decide, ⟨some _, rfl⟩, ⟨_, cu585⟩, ?_⟩
  refine rX12_thrown hv ?_
  refine And.intro (fun hc587 => ?_) (fun hc587 => ?_)
  · replace h := q_ifp (hc587) h
    refine sL_law_2206 ?_
    refine And.intro (fun hc588 => ?_) (fun hc588 => ?_)
    · replace h := q_ifp (hc588) h
      exact ps_weak (pjL_law_2223_23 h hh he hr) ⟨rfl, rfl, rfl, rfl, rfl, trivial⟩
    · replace h := q_ifn (hc588) h
      replace h := q_be h
      obtain ⟨v589, hv, h⟩ := h
      replace hv := q_aL_e hv
      obtain ⟨_, _, cv589, iv589, yv589⟩ := hv
      refine ⟨⟨some _, rfl⟩, _, _, cv589, iv589, _, yv589, ?_⟩
      refine And.intro (fun hc590 => ?_) (fun hc590 => ?_)
      · replace h := q_ifp (hc590) h
        exact ps_weak (pjL_law_2223_23 h hh he hr) ⟨rfl, rfl, rfl, rfl, rfl, trivial⟩
      · replace h := q_ifn (hc590) h
        exact ⟨rfl, Or.inl rfl, hr ((0 : Int32), g584) (Option.some.inj h).symm⟩
  · replace h := q_ifn (hc587) h
    exact ⟨rfl, Or.inl rfl, hr ((0 : Int32), g584) (Option.some.inj h).symm⟩
noncomputable def jL_law_2315_23 (g : ps_G) (x0 : Nat) (x1 : Nat) (x2 : Nat) (x3 : Nat) (x4 : Int32) : Option ((Int32 × ps_G) ⊕ ((ps_G) ⊕ (Int32 × ps_G))) := jL_law_3239_23 g x0 x1 x2 x3 x4
theorem pjL_law_2315_23 {d : Nat} {Q : ps_Rs → ps_G → Prop} {g : ps_G} {x0 : Nat} {x1 : Nat} {x2 : Nat} {x3 : Nat} {x4 : Int32} {x : (Int32 × ps_G) ⊕ ((ps_G) ⊕ (Int32 × ps_G))} (h : jL_law_2315_23 g x0 x1 x2 x3 x4 = some x) (hh : ∀ s' : Int32 × ps_G, x = .inl s' → ps_At mL_law (d + 105) 23 [(0, .ref x0), (1, .ref x1), (2, .ref x2), (3, .ref x3), (4, .int s'.1)] [] s'.2 Q) (he : ∀ r' : ps_G, x = .inr (.inl r') → ps_At mL_law (d + 105) 3245 [] [] r' Q) (hr : ∀ v' : Int32 × ps_G, x = .inr (.inr v') → Q (.inl (some (.int v'.1))) v'.2) : ps_At mL_law (d + 105) 2315 [(0, .ref x0), (1, .ref x1), (2, .ref x2), (3, .ref x3), (4, .int x4)] [] g Q := by
  unfold jL_law_2315_23 at h
  refine sL_law_2315 ?_
  exact ps_weak (pjL_law_3239_23 h hh he hr) ⟨rfl, rfl, rfl, rfl, rfl, trivial⟩
noncomputable def jL_law_2226_23 (g : ps_G) (x0 : Nat) (x1 : Nat) (x2 : Nat) (x3 : Nat) (x4 : Int32) : Option ((Int32 × ps_G) ⊕ ((ps_G) ⊕ (Int32 × ps_G))) := Option.bind (q_aI g x0 (x4 + (1 : Int32))) fun v598 => Option.bind (q_aI g x0 (x4 + (2 : Int32))) fun v599 => Option.bind (q_aI g x0 (x4 + (3 : Int32))) fun v600 => Option.bind (q_aI g x0 (x4 + (4 : Int32))) fun v601 => q_b2 (fL_curve g x1 v598 v599 v600 v601 x3) fun v602 g603 => Option.bind (q_aI g603 x0 (x4 + (1 : Int32))) fun v604 => Option.bind (q_aI g603 x0 (x4 + (2 : Int32))) fun v605 => Option.bind (q_aI g603 x0 (x4 + (3 : Int32))) fun v606 => Option.bind (q_aI g603 x0 (x4 + (4 : Int32))) fun v607 => Option.bind (q_ob 12 g603 x2) fun u608 => q_b2 (fX12_curve g603 x2 v604 v605 v606 v607) fun v609 g610 => Option.bind (q_ob 12 g610 x2) fun u611 => Option.bind (fX12_thrown g610 x2) fun v612 => if v612 = v602 then (if ¬ v602 = 0 then (jL_law_2315_23 g610 x0 x1 x2 x3 x4) else (Option.bind (q_aL g610 x3 (0 : Int32)) fun v615 => if (lg_cmp v615 (Int32.toInt64 v609)) = 0 then (jL_law_2315_23 g610 x0 x1 x2 x3 x4) else (some (.inr (.inr ((0 : Int32), g610)))))) else (some (.inr (.inr ((0 : Int32), g610))))
theorem pjL_law_2226_23 {d : Nat} {Q : ps_Rs → ps_G → Prop} {g : ps_G} {x0 : Nat} {x1 : Nat} {x2 : Nat} {x3 : Nat} {x4 : Int32} {x : (Int32 × ps_G) ⊕ ((ps_G) ⊕ (Int32 × ps_G))} (h : jL_law_2226_23 g x0 x1 x2 x3 x4 = some x) (hh : ∀ s' : Int32 × ps_G, x = .inl s' → ps_At mL_law (d + 105) 23 [(0, .ref x0), (1, .ref x1), (2, .ref x2), (3, .ref x3), (4, .int s'.1)] [] s'.2 Q) (he : ∀ r' : ps_G, x = .inr (.inl r') → ps_At mL_law (d + 105) 3245 [] [] r' Q) (hr : ∀ v' : Int32 × ps_G, x = .inr (.inr v') → Q (.inl (some (.int v'.1))) v'.2) : ps_At mL_law (d + 105) 2226 [(0, .ref x0), (1, .ref x1), (2, .ref x2), (3, .ref x3), (4, .int x4)] [] g Q := by
  unfold jL_law_2226_23 at h
  refine sL_law_2226 ?_
  replace h := q_be h
  obtain ⟨v598, hv, h⟩ := h
  replace hv := q_aI_e hv
  obtain ⟨_, _, cv598, iv598, yv598⟩ := hv
  replace h := q_be h
  obtain ⟨v599, hv, h⟩ := h
  replace hv := q_aI_e hv
  obtain ⟨_, _, cv599, iv599, yv599⟩ := hv
  replace h := q_be h
  obtain ⟨v600, hv, h⟩ := h
  replace hv := q_aI_e hv
  obtain ⟨_, _, cv600, iv600, yv600⟩ := hv
  replace h := q_be h
  obtain ⟨v601, hv, h⟩ := h
  replace hv := q_aI_e hv
  obtain ⟨_, _, cv601, iv601, yv601⟩ := hv
  replace h := q_b2_e h
  obtain ⟨v602, g603, hv, h⟩ := h
  refine ⟨⟨some _, rfl⟩, ⟨some _, rfl⟩, _, _, cv598, iv598, _, yv598, ⟨some _, rfl⟩, _, _, cv599, iv599, _, yv599, ⟨some _, rfl⟩, _, _, cv600, iv600, _, yv600, ⟨some _, rfl⟩, _, _, cv601, iv601, _, yv601, ⟨some _, rfl⟩, ?_⟩
  refine rL_curve hv ?_
  replace h := q_be h
  obtain ⟨v604, hv, h⟩ := h
  replace hv := q_aI_e hv
  obtain ⟨_, _, cv604, iv604, yv604⟩ := hv
  replace h := q_be h
  obtain ⟨v605, hv, h⟩ := h
  replace hv := q_aI_e hv
  obtain ⟨_, _, cv605, iv605, yv605⟩ := hv
  replace h := q_be h
  obtain ⟨v606, hv, h⟩ := h
  replace hv := q_aI_e hv
  obtain ⟨_, _, cv606, iv606, yv606⟩ := hv
  replace h := q_be h
  obtain ⟨v607, hv, h⟩ := h
  replace hv := q_aI_e hv
  obtain ⟨_, _, cv607, iv607, yv607⟩ := hv
  replace h := q_be h
  obtain ⟨u608, hv, h⟩ := h
  replace hv := q_ob_e hv
  obtain ⟨_, cu608⟩ := hv
  replace h := q_b2_e h
  obtain ⟨v609, g610, hv, h⟩ := h
  refine ⟨by decide, ⟨some _, rfl⟩, ⟨some _, rfl⟩, _, _, cv604, iv604, _, yv604, ⟨some _, rfl⟩, _, _, cv605, iv605, _, yv605, ⟨some _, rfl⟩, _, _, cv606, iv606, _, yv606, ⟨some _, rfl⟩, _, _, cv607, iv607, _, yv607, ⟨_, cu608⟩, ?_⟩
  refine rX12_curve hv ?_
  replace h := q_be h
  obtain ⟨u611, hv, h⟩ := h
  replace hv := q_ob_e hv
  obtain ⟨_, cu611⟩ := hv
  replace h := q_be h
  obtain ⟨v612, hv, h⟩ := h
  refine ⟨by decide, ⟨some _, rfl⟩, ⟨_, cu611⟩, ?_⟩
  refine rX12_thrown hv ?_
  refine And.intro (fun hc613 => ?_) (fun hc613 => ?_)
  · replace h := q_ifp (hc613) h
    refine sL_law_2298 ?_
    refine And.intro (fun hc614 => ?_) (fun hc614 => ?_)
    · replace h := q_ifp (hc614) h
      exact ps_weak (pjL_law_2315_23 h hh he hr) ⟨rfl, rfl, rfl, rfl, rfl, trivial⟩
    · replace h := q_ifn (hc614) h
      replace h := q_be h
      obtain ⟨v615, hv, h⟩ := h
      replace hv := q_aL_e hv
      obtain ⟨_, _, cv615, iv615, yv615⟩ := hv
      refine ⟨⟨some _, rfl⟩, _, _, cv615, iv615, _, yv615, ?_⟩
      refine And.intro (fun hc616 => ?_) (fun hc616 => ?_)
      · replace h := q_ifp (hc616) h
        exact ps_weak (pjL_law_2315_23 h hh he hr) ⟨rfl, rfl, rfl, rfl, rfl, trivial⟩
      · replace h := q_ifn (hc616) h
        exact ⟨rfl, Or.inl rfl, hr ((0 : Int32), g610) (Option.some.inj h).symm⟩
  · replace h := q_ifn (hc613) h
    exact ⟨rfl, Or.inl rfl, hr ((0 : Int32), g610) (Option.some.inj h).symm⟩
noncomputable def jL_law_2318_23 (g : ps_G) (x0 : Nat) (x1 : Nat) (x2 : Nat) (x3 : Nat) (x4 : Int32) : Option ((Int32 × ps_G) ⊕ ((ps_G) ⊕ (Int32 × ps_G))) := Option.bind (q_aI g x0 (x4 + (1 : Int32))) fun v624 => Option.bind (q_aI g x0 (x4 + (2 : Int32))) fun v625 => q_b2 (fL_kernel g x1 v624 v625) fun v626 g627 => Option.bind (q_aI g627 x0 (x4 + (1 : Int32))) fun v628 => Option.bind (q_aI g627 x0 (x4 + (2 : Int32))) fun v629 => Option.bind (q_ob 12 g627 x2) fun u630 => Option.bind (fX12_kernel g627 x2 v628 v629) fun v631 => Option.bind (q_ob 12 v631 x2) fun u632 => Option.bind (fX12_thrown v631 x2) fun v633 => if v633 = v626 then (jL_law_3239_23 v631 x0 x1 x2 x3 x4) else (some (.inr (.inr ((0 : Int32), v631))))
theorem pjL_law_2318_23 {d : Nat} {Q : ps_Rs → ps_G → Prop} {g : ps_G} {x0 : Nat} {x1 : Nat} {x2 : Nat} {x3 : Nat} {x4 : Int32} {x : (Int32 × ps_G) ⊕ ((ps_G) ⊕ (Int32 × ps_G))} (h : jL_law_2318_23 g x0 x1 x2 x3 x4 = some x) (hh : ∀ s' : Int32 × ps_G, x = .inl s' → ps_At mL_law (d + 105) 23 [(0, .ref x0), (1, .ref x1), (2, .ref x2), (3, .ref x3), (4, .int s'.1)] [] s'.2 Q) (he : ∀ r' : ps_G, x = .inr (.inl r') → ps_At mL_law (d + 105) 3245 [] [] r' Q) (hr : ∀ v' : Int32 × ps_G, x = .inr (.inr v') → Q (.inl (some (.int v'.1))) v'.2) : ps_At mL_law (d + 105) 2318 [(0, .ref x0), (1, .ref x1), (2, .ref x2), (3, .ref x3), (4, .int x4)] [] g Q := by
  unfold jL_law_2318_23 at h
  refine sL_law_2318 ?_
  replace h := q_be h
  obtain ⟨v624, hv, h⟩ := h
  replace hv := q_aI_e hv
  obtain ⟨_, _, cv624, iv624, yv624⟩ := hv
  replace h := q_be h
  obtain ⟨v625, hv, h⟩ := h
  replace hv := q_aI_e hv
  obtain ⟨_, _, cv625, iv625, yv625⟩ := hv
  replace h := q_b2_e h
  obtain ⟨v626, g627, hv, h⟩ := h
  refine ⟨⟨some _, rfl⟩, ⟨some _, rfl⟩, _, _, cv624, iv624, _, yv624, ⟨some _, rfl⟩, _, _, cv625, iv625, _, yv625, ?_⟩
  refine rL_kernel hv ?_
  replace h := q_be h
  obtain ⟨v628, hv, h⟩ := h
  replace hv := q_aI_e hv
  obtain ⟨_, _, cv628, iv628, yv628⟩ := hv
  replace h := q_be h
  obtain ⟨v629, hv, h⟩ := h
  replace hv := q_aI_e hv
  obtain ⟨_, _, cv629, iv629, yv629⟩ := hv
  replace h := q_be h
  obtain ⟨u630, hv, h⟩ := h
  replace hv := q_ob_e hv
  obtain ⟨_, cu630⟩ := hv
  replace h := q_be h
  obtain ⟨v631, hv, h⟩ := h
  refine ⟨by decide, ⟨some _, rfl⟩, ⟨some _, rfl⟩, _, _, cv628, iv628, _, yv628, ⟨some _, rfl⟩, _, _, cv629, iv629, _, yv629, ⟨_, cu630⟩, ?_⟩
  refine rX12_kernel hv ?_
  replace h := q_be h
  obtain ⟨u632, hv, h⟩ := h
  replace hv := q_ob_e hv
  obtain ⟨_, cu632⟩ := hv
  replace h := q_be h
  obtain ⟨v633, hv, h⟩ := h
  refine ⟨⟨some _, rfl⟩, ⟨_, cu632⟩, ?_⟩
  refine rX12_thrown hv ?_
  refine And.intro (fun hc634 => ?_) (fun hc634 => ?_)
  · replace h := q_ifp (hc634) h
    refine sL_law_2363 ?_
    exact ps_weak (pjL_law_3239_23 h hh he hr) ⟨rfl, rfl, rfl, rfl, rfl, trivial⟩
  · replace h := q_ifn (hc634) h
    exact ⟨rfl, Or.inl rfl, hr ((0 : Int32), v631) (Option.some.inj h).symm⟩
noncomputable def jL_law_2366_23 (g : ps_G) (x0 : Nat) (x1 : Nat) (x2 : Nat) (x3 : Nat) (x4 : Int32) : Option ((Int32 × ps_G) ⊕ ((ps_G) ⊕ (Int32 × ps_G))) := Option.bind (q_aI g x0 (x4 + (1 : Int32))) fun v638 => Option.bind (q_aI g x0 (x4 + (2 : Int32))) fun v639 => Option.bind (q_aI g x0 (x4 + (3 : Int32))) fun v640 => q_b2 (fL_profile g x1 v638 v639 v640) fun v641 g642 => Option.bind (q_aI g642 x0 (x4 + (1 : Int32))) fun v643 => Option.bind (q_aI g642 x0 (x4 + (2 : Int32))) fun v644 => Option.bind (q_aI g642 x0 (x4 + (3 : Int32))) fun v645 => Option.bind (q_ob 12 g642 x2) fun u646 => Option.bind (fX12_profile g642 x2 v643 v644 v645) fun v647 => Option.bind (q_ob 12 v647 x2) fun u648 => Option.bind (fX12_thrown v647 x2) fun v649 => if v649 = v641 then (jL_law_3239_23 v647 x0 x1 x2 x3 x4) else (some (.inr (.inr ((0 : Int32), v647))))
theorem pjL_law_2366_23 {d : Nat} {Q : ps_Rs → ps_G → Prop} {g : ps_G} {x0 : Nat} {x1 : Nat} {x2 : Nat} {x3 : Nat} {x4 : Int32} {x : (Int32 × ps_G) ⊕ ((ps_G) ⊕ (Int32 × ps_G))} (h : jL_law_2366_23 g x0 x1 x2 x3 x4 = some x) (hh : ∀ s' : Int32 × ps_G, x = .inl s' → ps_At mL_law (d + 105) 23 [(0, .ref x0), (1, .ref x1), (2, .ref x2), (3, .ref x3), (4, .int s'.1)] [] s'.2 Q) (he : ∀ r' : ps_G, x = .inr (.inl r') → ps_At mL_law (d + 105) 3245 [] [] r' Q) (hr : ∀ v' : Int32 × ps_G, x = .inr (.inr v') → Q (.inl (some (.int v'.1))) v'.2) : ps_At mL_law (d + 105) 2366 [(0, .ref x0), (1, .ref x1), (2, .ref x2), (3, .ref x3), (4, .int x4)] [] g Q := by
  unfold jL_law_2366_23 at h
  refine sL_law_2366 ?_
  replace h := q_be h
  obtain ⟨v638, hv, h⟩ := h
  replace hv := q_aI_e hv
  obtain ⟨_, _, cv638, iv638, yv638⟩ := hv
  replace h := q_be h
  obtain ⟨v639, hv, h⟩ := h
  replace hv := q_aI_e hv
  obtain ⟨_, _, cv639, iv639, yv639⟩ := hv
  replace h := q_be h
  obtain ⟨v640, hv, h⟩ := h
  replace hv := q_aI_e hv
  obtain ⟨_, _, cv640, iv640, yv640⟩ := hv
  replace h := q_b2_e h
  obtain ⟨v641, g642, hv, h⟩ := h
  refine ⟨⟨some _, rfl⟩, ⟨some _, rfl⟩, _, _, cv638, iv638, _, yv638, ⟨some _, rfl⟩, _, _, cv639, iv639, _, yv639, ⟨some _, rfl⟩, _, _, cv640, iv640, _, yv640, ?_⟩
  refine rL_profile hv ?_
  replace h := q_be h
  obtain ⟨v643, hv, h⟩ := h
  replace hv := q_aI_e hv
  obtain ⟨_, _, cv643, iv643, yv643⟩ := hv
  replace h := q_be h
  obtain ⟨v644, hv, h⟩ := h
  replace hv := q_aI_e hv
  obtain ⟨_, _, cv644, iv644, yv644⟩ := hv
  replace h := q_be h
  obtain ⟨v645, hv, h⟩ := h
  replace hv := q_aI_e hv
  obtain ⟨_, _, cv645, iv645, yv645⟩ := hv
  replace h := q_be h
  obtain ⟨u646, hv, h⟩ := h
  replace hv := q_ob_e hv
  obtain ⟨_, cu646⟩ := hv
  replace h := q_be h
  obtain ⟨v647, hv, h⟩ := h
  refine ⟨by decide, ⟨some _, rfl⟩, ⟨some _, rfl⟩, _, _, cv643, iv643, _, yv643, ⟨some _, rfl⟩, _, _, cv644, iv644, _, yv644, ⟨some _, rfl⟩, _, _, cv645, iv645, _, yv645, ⟨_, cu646⟩, ?_⟩
  refine rX12_profile hv ?_
  replace h := q_be h
  obtain ⟨u648, hv, h⟩ := h
  replace hv := q_ob_e hv
  obtain ⟨_, cu648⟩ := hv
  replace h := q_be h
  obtain ⟨v649, hv, h⟩ := h
  refine ⟨⟨some _, rfl⟩, ⟨_, cu648⟩, ?_⟩
  refine rX12_thrown hv ?_
  refine And.intro (fun hc650 => ?_) (fun hc650 => ?_)
  · replace h := q_ifp (hc650) h
    refine sL_law_2423 ?_
    exact ps_weak (pjL_law_3239_23 h hh he hr) ⟨rfl, rfl, rfl, rfl, rfl, trivial⟩
  · replace h := q_ifn (hc650) h
    exact ⟨rfl, Or.inl rfl, hr ((0 : Int32), v647) (Option.some.inj h).symm⟩
noncomputable def jL_law_2426_23 (g : ps_G) (x0 : Nat) (x1 : Nat) (x2 : Nat) (x3 : Nat) (x4 : Int32) : Option ((Int32 × ps_G) ⊕ ((ps_G) ⊕ (Int32 × ps_G))) := Option.bind (q_aI g x0 (x4 + (1 : Int32))) fun v654 => Option.bind (q_aI g x0 (x4 + (2 : Int32))) fun v655 => q_b2 (fL_develop g x1 v654 v655) fun v656 g657 => Option.bind (q_aI g657 x0 (x4 + (1 : Int32))) fun v658 => Option.bind (q_aI g657 x0 (x4 + (2 : Int32))) fun v659 => Option.bind (q_ob 12 g657 x2) fun u660 => Option.bind (fX12_develop g657 x2 v658 v659) fun v661 => Option.bind (q_ob 12 v661 x2) fun u662 => Option.bind (fX12_thrown v661 x2) fun v663 => if v663 = v656 then (jL_law_3239_23 v661 x0 x1 x2 x3 x4) else (some (.inr (.inr ((0 : Int32), v661))))
theorem pjL_law_2426_23 {d : Nat} {Q : ps_Rs → ps_G → Prop} {g : ps_G} {x0 : Nat} {x1 : Nat} {x2 : Nat} {x3 : Nat} {x4 : Int32} {x : (Int32 × ps_G) ⊕ ((ps_G) ⊕ (Int32 × ps_G))} (h : jL_law_2426_23 g x0 x1 x2 x3 x4 = some x) (hh : ∀ s' : Int32 × ps_G, x = .inl s' → ps_At mL_law (d + 105) 23 [(0, .ref x0), (1, .ref x1), (2, .ref x2), (3, .ref x3), (4, .int s'.1)] [] s'.2 Q) (he : ∀ r' : ps_G, x = .inr (.inl r') → ps_At mL_law (d + 105) 3245 [] [] r' Q) (hr : ∀ v' : Int32 × ps_G, x = .inr (.inr v') → Q (.inl (some (.int v'.1))) v'.2) : ps_At mL_law (d + 105) 2426 [(0, .ref x0), (1, .ref x1), (2, .ref x2), (3, .ref x3), (4, .int x4)] [] g Q := by
  unfold jL_law_2426_23 at h
  refine sL_law_2426 ?_
  replace h := q_be h
  obtain ⟨v654, hv, h⟩ := h
  replace hv := q_aI_e hv
  obtain ⟨_, _, cv654, iv654, yv654⟩ := hv
  replace h := q_be h
  obtain ⟨v655, hv, h⟩ := h
  replace hv := q_aI_e hv
  obtain ⟨_, _, cv655, iv655, yv655⟩ := hv
  replace h := q_b2_e h
  obtain ⟨v656, g657, hv, h⟩ := h
  refine ⟨⟨some _, rfl⟩, ⟨some _, rfl⟩, _, _, cv654, iv654, _, yv654, ⟨some _, rfl⟩, _, _, cv655, iv655, _, yv655, ?_⟩
  refine rL_develop hv ?_
  replace h := q_be h
  obtain ⟨v658, hv, h⟩ := h
  replace hv := q_aI_e hv
  obtain ⟨_, _, cv658, iv658, yv658⟩ := hv
  replace h := q_be h
  obtain ⟨v659, hv, h⟩ := h
  replace hv := q_aI_e hv
  obtain ⟨_, _, cv659, iv659, yv659⟩ := hv
  replace h := q_be h
  obtain ⟨u660, hv, h⟩ := h
  replace hv := q_ob_e hv
  obtain ⟨_, cu660⟩ := hv
  replace h := q_be h
  obtain ⟨v661, hv, h⟩ := h
  refine ⟨by decide, ⟨some _, rfl⟩, ⟨some _, rfl⟩, _, _, cv658, iv658, _, yv658, ⟨some _, rfl⟩, _, _, cv659, iv659, _, yv659, ⟨_, cu660⟩, ?_⟩
  refine rX12_develop hv ?_
  replace h := q_be h
  obtain ⟨u662, hv, h⟩ := h
  replace hv := q_ob_e hv
  obtain ⟨_, cu662⟩ := hv
  replace h := q_be h
  obtain ⟨v663, hv, h⟩ := h
  refine ⟨⟨some _, rfl⟩, ⟨_, cu662⟩, ?_⟩
  refine rX12_thrown hv ?_
  refine And.intro (fun hc664 => ?_) (fun hc664 => ?_)
  · replace h := q_ifp (hc664) h
    refine sL_law_2471 ?_
    exact ps_weak (pjL_law_3239_23 h hh he hr) ⟨rfl, rfl, rfl, rfl, rfl, trivial⟩
  · replace h := q_ifn (hc664) h
    exact ⟨rfl, Or.inl rfl, hr ((0 : Int32), v661) (Option.some.inj h).symm⟩
noncomputable def jL_law_2563_23 (g : ps_G) (x0 : Nat) (x1 : Nat) (x2 : Nat) (x3 : Nat) (x4 : Int32) : Option ((Int32 × ps_G) ⊕ ((ps_G) ⊕ (Int32 × ps_G))) := jL_law_3239_23 g x0 x1 x2 x3 x4
theorem pjL_law_2563_23 {d : Nat} {Q : ps_Rs → ps_G → Prop} {g : ps_G} {x0 : Nat} {x1 : Nat} {x2 : Nat} {x3 : Nat} {x4 : Int32} {x : (Int32 × ps_G) ⊕ ((ps_G) ⊕ (Int32 × ps_G))} (h : jL_law_2563_23 g x0 x1 x2 x3 x4 = some x) (hh : ∀ s' : Int32 × ps_G, x = .inl s' → ps_At mL_law (d + 105) 23 [(0, .ref x0), (1, .ref x1), (2, .ref x2), (3, .ref x3), (4, .int s'.1)] [] s'.2 Q) (he : ∀ r' : ps_G, x = .inr (.inl r') → ps_At mL_law (d + 105) 3245 [] [] r' Q) (hr : ∀ v' : Int32 × ps_G, x = .inr (.inr v') → Q (.inl (some (.int v'.1))) v'.2) : ps_At mL_law (d + 105) 2563 [(0, .ref x0), (1, .ref x1), (2, .ref x2), (3, .ref x3), (4, .int x4)] [] g Q := by
  unfold jL_law_2563_23 at h
  refine sL_law_2563 ?_
  exact ps_weak (pjL_law_3239_23 h hh he hr) ⟨rfl, rfl, rfl, rfl, rfl, trivial⟩
noncomputable def jL_law_2474_23 (g : ps_G) (x0 : Nat) (x1 : Nat) (x2 : Nat) (x3 : Nat) (x4 : Int32) : Option ((Int32 × ps_G) ⊕ ((ps_G) ⊕ (Int32 × ps_G))) := Option.bind (q_aI g x0 (x4 + (1 : Int32))) fun v668 => Option.bind (q_aI g x0 (x4 + (2 : Int32))) fun v669 => Option.bind (q_aI g x0 (x4 + (3 : Int32))) fun v670 => Option.bind (q_aI g x0 (x4 + (4 : Int32))) fun v671 => q_b2 (fL_step g x1 v668 v669 v670 v671 x3) fun v672 g673 => Option.bind (q_aI g673 x0 (x4 + (1 : Int32))) fun v674 => Option.bind (q_aI g673 x0 (x4 + (2 : Int32))) fun v675 => Option.bind (q_aI g673 x0 (x4 + (3 : Int32))) fun v676 => Option.bind (q_aI g673 x0 (x4 + (4 : Int32))) fun v677 => Option.bind (q_ob 12 g673 x2) fun u678 => q_b2 (fX12_step g673 x2 v674 v675 v676 v677) fun v679 g680 => Option.bind (q_ob 12 g680 x2) fun u681 => Option.bind (fX12_thrown g680 x2) fun v682 => if v682 = v672 then (if ¬ v672 = 0 then (jL_law_2563_23 g680 x0 x1 x2 x3 x4) else (Option.bind (q_aL g680 x3 (0 : Int32)) fun v685 => if (lg_cmp v685 (Int32.toInt64 v679)) = 0 then (jL_law_2563_23 g680 x0 x1 x2 x3 x4) else (some (.inr (.inr ((0 : Int32), g680)))))) else (some (.inr (.inr ((0 : Int32), g680))))
theorem pjL_law_2474_23 {d : Nat} {Q : ps_Rs → ps_G → Prop} {g : ps_G} {x0 : Nat} {x1 : Nat} {x2 : Nat} {x3 : Nat} {x4 : Int32} {x : (Int32 × ps_G) ⊕ ((ps_G) ⊕ (Int32 × ps_G))} (h : jL_law_2474_23 g x0 x1 x2 x3 x4 = some x) (hh : ∀ s' : Int32 × ps_G, x = .inl s' → ps_At mL_law (d + 105) 23 [(0, .ref x0), (1, .ref x1), (2, .ref x2), (3, .ref x3), (4, .int s'.1)] [] s'.2 Q) (he : ∀ r' : ps_G, x = .inr (.inl r') → ps_At mL_law (d + 105) 3245 [] [] r' Q) (hr : ∀ v' : Int32 × ps_G, x = .inr (.inr v') → Q (.inl (some (.int v'.1))) v'.2) : ps_At mL_law (d + 105) 2474 [(0, .ref x0), (1, .ref x1), (2, .ref x2), (3, .ref x3), (4, .int x4)] [] g Q := by
  unfold jL_law_2474_23 at h
  refine sL_law_2474 ?_
  replace h := q_be h
  obtain ⟨v668, hv, h⟩ := h
  replace hv := q_aI_e hv
  obtain ⟨_, _, cv668, iv668, yv668⟩ := hv
  replace h := q_be h
  obtain ⟨v669, hv, h⟩ := h
  replace hv := q_aI_e hv
  obtain ⟨_, _, cv669, iv669, yv669⟩ := hv
  replace h := q_be h
  obtain ⟨v670, hv, h⟩ := h
  replace hv := q_aI_e hv
  obtain ⟨_, _, cv670, iv670, yv670⟩ := hv
  replace h := q_be h
  obtain ⟨v671, hv, h⟩ := h
  replace hv := q_aI_e hv
  obtain ⟨_, _, cv671, iv671, yv671⟩ := hv
  replace h := q_b2_e h
  obtain ⟨v672, g673, hv, h⟩ := h
  refine ⟨⟨some _, rfl⟩, ⟨some _, rfl⟩, _, _, cv668, iv668, _, yv668, ⟨some _, rfl⟩, _, _, cv669, iv669, _, yv669, ⟨some _, rfl⟩, _, _, cv670, iv670, _, yv670, ⟨some _, rfl⟩, _, _, cv671, iv671, _, yv671, ⟨some _, rfl⟩, ?_⟩
  refine rL_step hv ?_
  replace h := q_be h
  obtain ⟨v674, hv, h⟩ := h
  replace hv := q_aI_e hv
  obtain ⟨_, _, cv674, iv674, yv674⟩ := hv
  replace h := q_be h
  obtain ⟨v675, hv, h⟩ := h
  replace hv := q_aI_e hv
  obtain ⟨_, _, cv675, iv675, yv675⟩ := hv
  replace h := q_be h
  obtain ⟨v676, hv, h⟩ := h
  replace hv := q_aI_e hv
  obtain ⟨_, _, cv676, iv676, yv676⟩ := hv
  replace h := q_be h
  obtain ⟨v677, hv, h⟩ := h
  replace hv := q_aI_e hv
  obtain ⟨_, _, cv677, iv677, yv677⟩ := hv
  replace h := q_be h
  obtain ⟨u678, hv, h⟩ := h
  replace hv := q_ob_e hv
  obtain ⟨_, cu678⟩ := hv
  replace h := q_b2_e h
  obtain ⟨v679, g680, hv, h⟩ := h
  refine ⟨by decide, ⟨some _, rfl⟩, ⟨some _, rfl⟩, _, _, cv674, iv674, _, yv674, ⟨some _, rfl⟩, _, _, cv675, iv675, _, yv675, ⟨some _, rfl⟩, _, _, cv676, iv676, _, yv676, ⟨some _, rfl⟩, _, _, cv677, iv677, _, yv677, ⟨_, cu678⟩, ?_⟩
  refine rX12_step hv ?_
  replace h := q_be h
  obtain ⟨u681, hv, h⟩ := h
  replace hv := q_ob_e hv
  obtain ⟨_, cu681⟩ := hv
  replace h := q_be h
  obtain ⟨v682, hv, h⟩ := h
  refine ⟨by decide, ⟨some _, rfl⟩, ⟨_, cu681⟩, ?_⟩
  refine rX12_thrown hv ?_
  refine And.intro (fun hc683 => ?_) (fun hc683 => ?_)
  · replace h := q_ifp (hc683) h
    refine sL_law_2546 ?_
    refine And.intro (fun hc684 => ?_) (fun hc684 => ?_)
    · replace h := q_ifp (hc684) h
      exact ps_weak (pjL_law_2563_23 h hh he hr) ⟨rfl, rfl, rfl, rfl, rfl, trivial⟩
    · replace h := q_ifn (hc684) h
      replace h := q_be h
      obtain ⟨v685, hv, h⟩ := h
      replace hv := q_aL_e hv
      obtain ⟨_, _, cv685, iv685, yv685⟩ := hv
      refine ⟨⟨some _, rfl⟩, _, _, cv685, iv685, _, yv685, ?_⟩
      refine And.intro (fun hc686 => ?_) (fun hc686 => ?_)
      · replace h := q_ifp (hc686) h
        exact ps_weak (pjL_law_2563_23 h hh he hr) ⟨rfl, rfl, rfl, rfl, rfl, trivial⟩
      · replace h := q_ifn (hc686) h
        exact ⟨rfl, Or.inl rfl, hr ((0 : Int32), g680) (Option.some.inj h).symm⟩
  · replace h := q_ifn (hc683) h
    exact ⟨rfl, Or.inl rfl, hr ((0 : Int32), g680) (Option.some.inj h).symm⟩
noncomputable def jL_law_2566_23 (g : ps_G) (x0 : Nat) (x1 : Nat) (x2 : Nat) (x3 : Nat) (x4 : Int32) : Option ((Int32 × ps_G) ⊕ ((ps_G) ⊕ (Int32 × ps_G))) := Option.bind (q_aI g x0 (x4 + (1 : Int32))) fun v694 => Option.bind (q_aI g x0 (x4 + (2 : Int32))) fun v695 => Option.bind (q_aI g x0 (x4 + (3 : Int32))) fun v696 => q_b2 (fL_glyph g x1 v694 v695 v696) fun v697 g698 => Option.bind (q_aI g698 x0 (x4 + (1 : Int32))) fun v699 => Option.bind (q_aI g698 x0 (x4 + (2 : Int32))) fun v700 => Option.bind (q_aI g698 x0 (x4 + (3 : Int32))) fun v701 => Option.bind (q_ob 12 g698 x2) fun u702 => Option.bind (fX12_glyph g698 x2 v699 v700 v701) fun v703 => Option.bind (q_ob 12 v703 x2) fun u704 => Option.bind (fX12_thrown v703 x2) fun v705 => if v705 = v697 then (jL_law_3239_23 v703 x0 x1 x2 x3 x4) else (some (.inr (.inr ((0 : Int32), v703))))
theorem pjL_law_2566_23 {d : Nat} {Q : ps_Rs → ps_G → Prop} {g : ps_G} {x0 : Nat} {x1 : Nat} {x2 : Nat} {x3 : Nat} {x4 : Int32} {x : (Int32 × ps_G) ⊕ ((ps_G) ⊕ (Int32 × ps_G))} (h : jL_law_2566_23 g x0 x1 x2 x3 x4 = some x) (hh : ∀ s' : Int32 × ps_G, x = .inl s' → ps_At mL_law (d + 105) 23 [(0, .ref x0), (1, .ref x1), (2, .ref x2), (3, .ref x3), (4, .int s'.1)] [] s'.2 Q) (he : ∀ r' : ps_G, x = .inr (.inl r') → ps_At mL_law (d + 105) 3245 [] [] r' Q) (hr : ∀ v' : Int32 × ps_G, x = .inr (.inr v') → Q (.inl (some (.int v'.1))) v'.2) : ps_At mL_law (d + 105) 2566 [(0, .ref x0), (1, .ref x1), (2, .ref x2), (3, .ref x3), (4, .int x4)] [] g Q := by
  unfold jL_law_2566_23 at h
  refine sL_law_2566 ?_
  replace h := q_be h
  obtain ⟨v694, hv, h⟩ := h
  replace hv := q_aI_e hv
  obtain ⟨_, _, cv694, iv694, yv694⟩ := hv
  replace h := q_be h
  obtain ⟨v695, hv, h⟩ := h
  replace hv := q_aI_e hv
  obtain ⟨_, _, cv695, iv695, yv695⟩ := hv
  replace h := q_be h
  obtain ⟨v696, hv, h⟩ := h
  replace hv := q_aI_e hv
  obtain ⟨_, _, cv696, iv696, yv696⟩ := hv
  replace h := q_b2_e h
  obtain ⟨v697, g698, hv, h⟩ := h
  refine ⟨⟨some _, rfl⟩, ⟨some _, rfl⟩, _, _, cv694, iv694, _, yv694, ⟨some _, rfl⟩, _, _, cv695, iv695, _, yv695, ⟨some _, rfl⟩, _, _, cv696, iv696, _, yv696, ?_⟩
  refine rL_glyph hv ?_
  replace h := q_be h
  obtain ⟨v699, hv, h⟩ := h
  replace hv := q_aI_e hv
  obtain ⟨_, _, cv699, iv699, yv699⟩ := hv
  replace h := q_be h
  obtain ⟨v700, hv, h⟩ := h
  replace hv := q_aI_e hv
  obtain ⟨_, _, cv700, iv700, yv700⟩ := hv
  replace h := q_be h
  obtain ⟨v701, hv, h⟩ := h
  replace hv := q_aI_e hv
  obtain ⟨_, _, cv701, iv701, yv701⟩ := hv
  replace h := q_be h
  obtain ⟨u702, hv, h⟩ := h
  replace hv := q_ob_e hv
  obtain ⟨_, cu702⟩ := hv
  replace h := q_be h
  obtain ⟨v703, hv, h⟩ := h
  refine ⟨by decide, ⟨some _, rfl⟩, ⟨some _, rfl⟩, _, _, cv699, iv699, _, yv699, ⟨some _, rfl⟩, _, _, cv700, iv700, _, yv700, ⟨some _, rfl⟩, _, _, cv701, iv701, _, yv701, ⟨_, cu702⟩, ?_⟩
  refine rX12_glyph hv ?_
  replace h := q_be h
  obtain ⟨u704, hv, h⟩ := h
  replace hv := q_ob_e hv
  obtain ⟨_, cu704⟩ := hv
  replace h := q_be h
  obtain ⟨v705, hv, h⟩ := h
  refine ⟨⟨some _, rfl⟩, ⟨_, cu704⟩, ?_⟩
  refine rX12_thrown hv ?_
  refine And.intro (fun hc706 => ?_) (fun hc706 => ?_)
  · replace h := q_ifp (hc706) h
    refine sL_law_2623 ?_
    exact ps_weak (pjL_law_3239_23 h hh he hr) ⟨rfl, rfl, rfl, rfl, rfl, trivial⟩
  · replace h := q_ifn (hc706) h
    exact ⟨rfl, Or.inl rfl, hr ((0 : Int32), v703) (Option.some.inj h).symm⟩
noncomputable def jL_law_2691_23 (g : ps_G) (x0 : Nat) (x1 : Nat) (x2 : Nat) (x3 : Nat) (x4 : Int32) : Option ((Int32 × ps_G) ⊕ ((ps_G) ⊕ (Int32 × ps_G))) := jL_law_3239_23 g x0 x1 x2 x3 x4
theorem pjL_law_2691_23 {d : Nat} {Q : ps_Rs → ps_G → Prop} {g : ps_G} {x0 : Nat} {x1 : Nat} {x2 : Nat} {x3 : Nat} {x4 : Int32} {x : (Int32 × ps_G) ⊕ ((ps_G) ⊕ (Int32 × ps_G))} (h : jL_law_2691_23 g x0 x1 x2 x3 x4 = some x) (hh : ∀ s' : Int32 × ps_G, x = .inl s' → ps_At mL_law (d + 105) 23 [(0, .ref x0), (1, .ref x1), (2, .ref x2), (3, .ref x3), (4, .int s'.1)] [] s'.2 Q) (he : ∀ r' : ps_G, x = .inr (.inl r') → ps_At mL_law (d + 105) 3245 [] [] r' Q) (hr : ∀ v' : Int32 × ps_G, x = .inr (.inr v') → Q (.inl (some (.int v'.1))) v'.2) : ps_At mL_law (d + 105) 2691 [(0, .ref x0), (1, .ref x1), (2, .ref x2), (3, .ref x3), (4, .int x4)] [] g Q := by
  unfold jL_law_2691_23 at h
  refine sL_law_2691 ?_
  exact ps_weak (pjL_law_3239_23 h hh he hr) ⟨rfl, rfl, rfl, rfl, rfl, trivial⟩
noncomputable def jL_law_2626_23 (g : ps_G) (x0 : Nat) (x1 : Nat) (x2 : Nat) (x3 : Nat) (x4 : Int32) : Option ((Int32 × ps_G) ⊕ ((ps_G) ⊕ (Int32 × ps_G))) := Option.bind (q_aI g x0 (x4 + (1 : Int32))) fun v710 => Option.bind (q_aI g x0 (x4 + (2 : Int32))) fun v711 => q_b2 (fL_see g x1 v710 v711 x3) fun v712 g713 => Option.bind (q_aI g713 x0 (x4 + (1 : Int32))) fun v714 => Option.bind (q_aI g713 x0 (x4 + (2 : Int32))) fun v715 => Option.bind (q_ob 12 g713 x2) fun u716 => q_b2 (fX12_see g713 x2 v714 v715) fun v717 g718 => Option.bind (q_ob 12 g718 x2) fun u719 => Option.bind (fX12_thrown g718 x2) fun v720 => if v720 = v712 then (if ¬ v712 = 0 then (jL_law_2691_23 g718 x0 x1 x2 x3 x4) else (Option.bind (q_aL g718 x3 (0 : Int32)) fun v723 => if (lg_cmp v723 (Int32.toInt64 v717)) = 0 then (jL_law_2691_23 g718 x0 x1 x2 x3 x4) else (some (.inr (.inr ((0 : Int32), g718)))))) else (some (.inr (.inr ((0 : Int32), g718))))
theorem pjL_law_2626_23 {d : Nat} {Q : ps_Rs → ps_G → Prop} {g : ps_G} {x0 : Nat} {x1 : Nat} {x2 : Nat} {x3 : Nat} {x4 : Int32} {x : (Int32 × ps_G) ⊕ ((ps_G) ⊕ (Int32 × ps_G))} (h : jL_law_2626_23 g x0 x1 x2 x3 x4 = some x) (hh : ∀ s' : Int32 × ps_G, x = .inl s' → ps_At mL_law (d + 105) 23 [(0, .ref x0), (1, .ref x1), (2, .ref x2), (3, .ref x3), (4, .int s'.1)] [] s'.2 Q) (he : ∀ r' : ps_G, x = .inr (.inl r') → ps_At mL_law (d + 105) 3245 [] [] r' Q) (hr : ∀ v' : Int32 × ps_G, x = .inr (.inr v') → Q (.inl (some (.int v'.1))) v'.2) : ps_At mL_law (d + 105) 2626 [(0, .ref x0), (1, .ref x1), (2, .ref x2), (3, .ref x3), (4, .int x4)] [] g Q := by
  unfold jL_law_2626_23 at h
  refine sL_law_2626 ?_
  replace h := q_be h
  obtain ⟨v710, hv, h⟩ := h
  replace hv := q_aI_e hv
  obtain ⟨_, _, cv710, iv710, yv710⟩ := hv
  replace h := q_be h
  obtain ⟨v711, hv, h⟩ := h
  replace hv := q_aI_e hv
  obtain ⟨_, _, cv711, iv711, yv711⟩ := hv
  replace h := q_b2_e h
  obtain ⟨v712, g713, hv, h⟩ := h
  refine ⟨⟨some _, rfl⟩, ⟨some _, rfl⟩, _, _, cv710, iv710, _, yv710, ⟨some _, rfl⟩, _, _, cv711, iv711, _, yv711, ⟨some _, rfl⟩, ?_⟩
  refine rL_see hv ?_
  replace h := q_be h
  obtain ⟨v714, hv, h⟩ := h
  replace hv := q_aI_e hv
  obtain ⟨_, _, cv714, iv714, yv714⟩ := hv
  replace h := q_be h
  obtain ⟨v715, hv, h⟩ := h
  replace hv := q_aI_e hv
  obtain ⟨_, _, cv715, iv715, yv715⟩ := hv
  replace h := q_be h
  obtain ⟨u716, hv, h⟩ := h
  replace hv := q_ob_e hv
  obtain ⟨_, cu716⟩ := hv
  replace h := q_b2_e h
  obtain ⟨v717, g718, hv, h⟩ := h
  refine ⟨by decide, ⟨some _, rfl⟩, ⟨some _, rfl⟩, _, _, cv714, iv714, _, yv714, ⟨some _, rfl⟩, _, _, cv715, iv715, _, yv715, ⟨_, cu716⟩, ?_⟩
  refine rX12_see hv ?_
  replace h := q_be h
  obtain ⟨u719, hv, h⟩ := h
  replace hv := q_ob_e hv
  obtain ⟨_, cu719⟩ := hv
  replace h := q_be h
  obtain ⟨v720, hv, h⟩ := h
  refine ⟨by decide, ⟨some _, rfl⟩, ⟨_, cu719⟩, ?_⟩
  refine rX12_thrown hv ?_
  refine And.intro (fun hc721 => ?_) (fun hc721 => ?_)
  · replace h := q_ifp (hc721) h
    refine sL_law_2674 ?_
    refine And.intro (fun hc722 => ?_) (fun hc722 => ?_)
    · replace h := q_ifp (hc722) h
      exact ps_weak (pjL_law_2691_23 h hh he hr) ⟨rfl, rfl, rfl, rfl, rfl, trivial⟩
    · replace h := q_ifn (hc722) h
      replace h := q_be h
      obtain ⟨v723, hv, h⟩ := h
      replace hv := q_aL_e hv
      obtain ⟨_, _, cv723, iv723, yv723⟩ := hv
      refine ⟨⟨some _, rfl⟩, _, _, cv723, iv723, _, yv723, ?_⟩
      refine And.intro (fun hc724 => ?_) (fun hc724 => ?_)
      · replace h := q_ifp (hc724) h
        exact ps_weak (pjL_law_2691_23 h hh he hr) ⟨rfl, rfl, rfl, rfl, rfl, trivial⟩
      · replace h := q_ifn (hc724) h
        exact ⟨rfl, Or.inl rfl, hr ((0 : Int32), g718) (Option.some.inj h).symm⟩
  · replace h := q_ifn (hc721) h
    exact ⟨rfl, Or.inl rfl, hr ((0 : Int32), g718) (Option.some.inj h).symm⟩
noncomputable def jL_law_2771_23 (g : ps_G) (x0 : Nat) (x1 : Nat) (x2 : Nat) (x3 : Nat) (x4 : Int32) : Option ((Int32 × ps_G) ⊕ ((ps_G) ⊕ (Int32 × ps_G))) := jL_law_3239_23 g x0 x1 x2 x3 x4
theorem pjL_law_2771_23 {d : Nat} {Q : ps_Rs → ps_G → Prop} {g : ps_G} {x0 : Nat} {x1 : Nat} {x2 : Nat} {x3 : Nat} {x4 : Int32} {x : (Int32 × ps_G) ⊕ ((ps_G) ⊕ (Int32 × ps_G))} (h : jL_law_2771_23 g x0 x1 x2 x3 x4 = some x) (hh : ∀ s' : Int32 × ps_G, x = .inl s' → ps_At mL_law (d + 105) 23 [(0, .ref x0), (1, .ref x1), (2, .ref x2), (3, .ref x3), (4, .int s'.1)] [] s'.2 Q) (he : ∀ r' : ps_G, x = .inr (.inl r') → ps_At mL_law (d + 105) 3245 [] [] r' Q) (hr : ∀ v' : Int32 × ps_G, x = .inr (.inr v') → Q (.inl (some (.int v'.1))) v'.2) : ps_At mL_law (d + 105) 2771 [(0, .ref x0), (1, .ref x1), (2, .ref x2), (3, .ref x3), (4, .int x4)] [] g Q := by
  unfold jL_law_2771_23 at h
  refine sL_law_2771 ?_
  exact ps_weak (pjL_law_3239_23 h hh he hr) ⟨rfl, rfl, rfl, rfl, rfl, trivial⟩
noncomputable def jL_law_2694_23 (g : ps_G) (x0 : Nat) (x1 : Nat) (x2 : Nat) (x3 : Nat) (x4 : Int32) : Option ((Int32 × ps_G) ⊕ ((ps_G) ⊕ (Int32 × ps_G))) := Option.bind (q_aI g x0 (x4 + (1 : Int32))) fun v732 => Option.bind (q_aI g x0 (x4 + (2 : Int32))) fun v733 => Option.bind (q_aI g x0 (x4 + (3 : Int32))) fun v734 => q_b2 (fL_zoomed g x1 v732 v733 v734 x3) fun v735 g736 => Option.bind (q_aI g736 x0 (x4 + (1 : Int32))) fun v737 => Option.bind (q_aI g736 x0 (x4 + (2 : Int32))) fun v738 => Option.bind (q_aI g736 x0 (x4 + (3 : Int32))) fun v739 => Option.bind (q_ob 12 g736 x2) fun u740 => q_b2 (fX12_zoomed g736 x2 v737 v738 v739) fun v741 g742 => Option.bind (q_ob 12 g742 x2) fun u743 => Option.bind (fX12_thrown g742 x2) fun v744 => if v744 = v735 then (if ¬ v735 = 0 then (jL_law_2771_23 g742 x0 x1 x2 x3 x4) else (Option.bind (q_aL g742 x3 (0 : Int32)) fun v747 => if (lg_cmp v747 (Int32.toInt64 v741)) = 0 then (jL_law_2771_23 g742 x0 x1 x2 x3 x4) else (some (.inr (.inr ((0 : Int32), g742)))))) else (some (.inr (.inr ((0 : Int32), g742))))
theorem pjL_law_2694_23 {d : Nat} {Q : ps_Rs → ps_G → Prop} {g : ps_G} {x0 : Nat} {x1 : Nat} {x2 : Nat} {x3 : Nat} {x4 : Int32} {x : (Int32 × ps_G) ⊕ ((ps_G) ⊕ (Int32 × ps_G))} (h : jL_law_2694_23 g x0 x1 x2 x3 x4 = some x) (hh : ∀ s' : Int32 × ps_G, x = .inl s' → ps_At mL_law (d + 105) 23 [(0, .ref x0), (1, .ref x1), (2, .ref x2), (3, .ref x3), (4, .int s'.1)] [] s'.2 Q) (he : ∀ r' : ps_G, x = .inr (.inl r') → ps_At mL_law (d + 105) 3245 [] [] r' Q) (hr : ∀ v' : Int32 × ps_G, x = .inr (.inr v') → Q (.inl (some (.int v'.1))) v'.2) : ps_At mL_law (d + 105) 2694 [(0, .ref x0), (1, .ref x1), (2, .ref x2), (3, .ref x3), (4, .int x4)] [] g Q := by
  unfold jL_law_2694_23 at h
  refine sL_law_2694 ?_
  replace h := q_be h
  obtain ⟨v732, hv, h⟩ := h
  replace hv := q_aI_e hv
  obtain ⟨_, _, cv732, iv732, yv732⟩ := hv
  replace h := q_be h
  obtain ⟨v733, hv, h⟩ := h
  replace hv := q_aI_e hv
  obtain ⟨_, _, cv733, iv733, yv733⟩ := hv
  replace h := q_be h
  obtain ⟨v734, hv, h⟩ := h
  replace hv := q_aI_e hv
  obtain ⟨_, _, cv734, iv734, yv734⟩ := hv
  replace h := q_b2_e h
  obtain ⟨v735, g736, hv, h⟩ := h
  refine ⟨⟨some _, rfl⟩, ⟨some _, rfl⟩, _, _, cv732, iv732, _, yv732, ⟨some _, rfl⟩, _, _, cv733, iv733, _, yv733, ⟨some _, rfl⟩, _, _, cv734, iv734, _, yv734, ⟨some _, rfl⟩, ?_⟩
  refine rL_zoomed hv ?_
  replace h := q_be h
  obtain ⟨v737, hv, h⟩ := h
  replace hv := q_aI_e hv
  obtain ⟨_, _, cv737, iv737, yv737⟩ := hv
  replace h := q_be h
  obtain ⟨v738, hv, h⟩ := h
  replace hv := q_aI_e hv
  obtain ⟨_, _, cv738, iv738, yv738⟩ := hv
  replace h := q_be h
  obtain ⟨v739, hv, h⟩ := h
  replace hv := q_aI_e hv
  obtain ⟨_, _, cv739, iv739, yv739⟩ := hv
  replace h := q_be h
  obtain ⟨u740, hv, h⟩ := h
  replace hv := q_ob_e hv
  obtain ⟨_, cu740⟩ := hv
  replace h := q_b2_e h
  obtain ⟨v741, g742, hv, h⟩ := h
  refine ⟨by decide, ⟨some _, rfl⟩, ⟨some _, rfl⟩, _, _, cv737, iv737, _, yv737, ⟨some _, rfl⟩, _, _, cv738, iv738, _, yv738, ⟨some _, rfl⟩, _, _, cv739, iv739, _, yv739, ⟨_, cu740⟩, ?_⟩
  refine rX12_zoomed hv ?_
  replace h := q_be h
  obtain ⟨u743, hv, h⟩ := h
  replace hv := q_ob_e hv
  obtain ⟨_, cu743⟩ := hv
  replace h := q_be h
  obtain ⟨v744, hv, h⟩ := h
  refine ⟨by decide, ⟨some _, rfl⟩, ⟨_, cu743⟩, ?_⟩
  refine rX12_thrown hv ?_
  refine And.intro (fun hc745 => ?_) (fun hc745 => ?_)
  · replace h := q_ifp (hc745) h
    refine sL_law_2754 ?_
    refine And.intro (fun hc746 => ?_) (fun hc746 => ?_)
    · replace h := q_ifp (hc746) h
      exact ps_weak (pjL_law_2771_23 h hh he hr) ⟨rfl, rfl, rfl, rfl, rfl, trivial⟩
    · replace h := q_ifn (hc746) h
      replace h := q_be h
      obtain ⟨v747, hv, h⟩ := h
      replace hv := q_aL_e hv
      obtain ⟨_, _, cv747, iv747, yv747⟩ := hv
      refine ⟨⟨some _, rfl⟩, _, _, cv747, iv747, _, yv747, ?_⟩
      refine And.intro (fun hc748 => ?_) (fun hc748 => ?_)
      · replace h := q_ifp (hc748) h
        exact ps_weak (pjL_law_2771_23 h hh he hr) ⟨rfl, rfl, rfl, rfl, rfl, trivial⟩
      · replace h := q_ifn (hc748) h
        exact ⟨rfl, Or.inl rfl, hr ((0 : Int32), g742) (Option.some.inj h).symm⟩
  · replace h := q_ifn (hc745) h
    exact ⟨rfl, Or.inl rfl, hr ((0 : Int32), g742) (Option.some.inj h).symm⟩
noncomputable def jL_law_2774_23 (g : ps_G) (x0 : Nat) (x1 : Nat) (x2 : Nat) (x3 : Nat) (x4 : Int32) : Option ((Int32 × ps_G) ⊕ ((ps_G) ⊕ (Int32 × ps_G))) := Option.bind (q_ob 11 g x1) fun u756 => q_b2 (fX11_hash g x1) fun v757 g758 => Option.bind (q_ob 12 g758 x2) fun u759 => q_b2 (fX12_hash g758 x2) fun v760 g761 => if v757 = v760 then (jL_law_3239_23 g761 x0 x1 x2 x3 x4) else (some (.inr (.inr ((0 : Int32), g761))))
theorem pjL_law_2774_23 {d : Nat} {Q : ps_Rs → ps_G → Prop} {g : ps_G} {x0 : Nat} {x1 : Nat} {x2 : Nat} {x3 : Nat} {x4 : Int32} {x : (Int32 × ps_G) ⊕ ((ps_G) ⊕ (Int32 × ps_G))} (h : jL_law_2774_23 g x0 x1 x2 x3 x4 = some x) (hh : ∀ s' : Int32 × ps_G, x = .inl s' → ps_At mL_law (d + 105) 23 [(0, .ref x0), (1, .ref x1), (2, .ref x2), (3, .ref x3), (4, .int s'.1)] [] s'.2 Q) (he : ∀ r' : ps_G, x = .inr (.inl r') → ps_At mL_law (d + 105) 3245 [] [] r' Q) (hr : ∀ v' : Int32 × ps_G, x = .inr (.inr v') → Q (.inl (some (.int v'.1))) v'.2) : ps_At mL_law (d + 105) 2774 [(0, .ref x0), (1, .ref x1), (2, .ref x2), (3, .ref x3), (4, .int x4)] [] g Q := by
  unfold jL_law_2774_23 at h
  refine sL_law_2774 ?_
  replace h := q_be h
  obtain ⟨u756, hv, h⟩ := h
  replace hv := q_ob_e hv
  obtain ⟨_, cu756⟩ := hv
  replace h := q_b2_e h
  obtain ⟨v757, g758, hv, h⟩ := h
  refine ⟨⟨some _, rfl⟩, ⟨_, cu756⟩, ?_⟩
  refine rX11_hash hv ?_
  replace h := q_be h
  obtain ⟨u759, hv, h⟩ := h
  replace hv := q_ob_e hv
  obtain ⟨_, cu759⟩ := hv
  replace h := q_b2_e h
  obtain ⟨v760, g761, hv, h⟩ := h
  refine ⟨⟨some _, rfl⟩, ⟨_, cu759⟩, ?_⟩
  refine rX12_hash hv ?_
  refine And.intro (fun hc762 => ?_) (fun hc762 => ?_)
  · replace h := q_ifp (hc762) h
    exact ps_weak (pjL_law_3239_23 h hh he hr) ⟨rfl, rfl, rfl, rfl, rfl, trivial⟩
  · replace h := q_ifn (hc762) h
    exact ⟨rfl, Or.inl rfl, hr ((0 : Int32), g761) (Option.some.inj h).symm⟩
noncomputable def jL_law_2864_23 (g : ps_G) (x0 : Nat) (x1 : Nat) (x2 : Nat) (x3 : Nat) (x4 : Int32) : Option ((Int32 × ps_G) ⊕ ((ps_G) ⊕ (Int32 × ps_G))) := jL_law_3239_23 g x0 x1 x2 x3 x4
theorem pjL_law_2864_23 {d : Nat} {Q : ps_Rs → ps_G → Prop} {g : ps_G} {x0 : Nat} {x1 : Nat} {x2 : Nat} {x3 : Nat} {x4 : Int32} {x : (Int32 × ps_G) ⊕ ((ps_G) ⊕ (Int32 × ps_G))} (h : jL_law_2864_23 g x0 x1 x2 x3 x4 = some x) (hh : ∀ s' : Int32 × ps_G, x = .inl s' → ps_At mL_law (d + 105) 23 [(0, .ref x0), (1, .ref x1), (2, .ref x2), (3, .ref x3), (4, .int s'.1)] [] s'.2 Q) (he : ∀ r' : ps_G, x = .inr (.inl r') → ps_At mL_law (d + 105) 3245 [] [] r' Q) (hr : ∀ v' : Int32 × ps_G, x = .inr (.inr v') → Q (.inl (some (.int v'.1))) v'.2) : ps_At mL_law (d + 105) 2864 [(0, .ref x0), (1, .ref x1), (2, .ref x2), (3, .ref x3), (4, .int x4)] [] g Q := by
  unfold jL_law_2864_23 at h
  refine sL_law_2864 ?_
  exact ps_weak (pjL_law_3239_23 h hh he hr) ⟨rfl, rfl, rfl, rfl, rfl, trivial⟩
noncomputable def jL_law_2787_23 (g : ps_G) (x0 : Nat) (x1 : Nat) (x2 : Nat) (x3 : Nat) (x4 : Int32) : Option ((Int32 × ps_G) ⊕ ((ps_G) ⊕ (Int32 × ps_G))) := Option.bind (q_aI g x0 (x4 + (1 : Int32))) fun v766 => Option.bind (q_aI g x0 (x4 + (2 : Int32))) fun v767 => Option.bind (q_aI g x0 (x4 + (3 : Int32))) fun v768 => q_b2 (fL_pixel g x1 v766 v767 v768 x3) fun v769 g770 => Option.bind (q_aI g770 x0 (x4 + (1 : Int32))) fun v771 => Option.bind (q_aI g770 x0 (x4 + (2 : Int32))) fun v772 => Option.bind (q_aI g770 x0 (x4 + (3 : Int32))) fun v773 => Option.bind (q_ob 12 g770 x2) fun u774 => q_b2 (fX12_pixel g770 x2 v771 v772 v773) fun v775 g776 => Option.bind (q_ob 12 g776 x2) fun u777 => Option.bind (fX12_thrown g776 x2) fun v778 => if v778 = v769 then (if ¬ v769 = 0 then (jL_law_2864_23 g776 x0 x1 x2 x3 x4) else (Option.bind (q_aL g776 x3 (0 : Int32)) fun v781 => if (lg_cmp v781 (Int32.toInt64 v775)) = 0 then (jL_law_2864_23 g776 x0 x1 x2 x3 x4) else (some (.inr (.inr ((0 : Int32), g776)))))) else (some (.inr (.inr ((0 : Int32), g776))))
theorem pjL_law_2787_23 {d : Nat} {Q : ps_Rs → ps_G → Prop} {g : ps_G} {x0 : Nat} {x1 : Nat} {x2 : Nat} {x3 : Nat} {x4 : Int32} {x : (Int32 × ps_G) ⊕ ((ps_G) ⊕ (Int32 × ps_G))} (h : jL_law_2787_23 g x0 x1 x2 x3 x4 = some x) (hh : ∀ s' : Int32 × ps_G, x = .inl s' → ps_At mL_law (d + 105) 23 [(0, .ref x0), (1, .ref x1), (2, .ref x2), (3, .ref x3), (4, .int s'.1)] [] s'.2 Q) (he : ∀ r' : ps_G, x = .inr (.inl r') → ps_At mL_law (d + 105) 3245 [] [] r' Q) (hr : ∀ v' : Int32 × ps_G, x = .inr (.inr v') → Q (.inl (some (.int v'.1))) v'.2) : ps_At mL_law (d + 105) 2787 [(0, .ref x0), (1, .ref x1), (2, .ref x2), (3, .ref x3), (4, .int x4)] [] g Q := by
  unfold jL_law_2787_23 at h
  refine sL_law_2787 ?_
  replace h := q_be h
  obtain ⟨v766, hv, h⟩ := h
  replace hv := q_aI_e hv
  obtain ⟨_, _, cv766, iv766, yv766⟩ := hv
  replace h := q_be h
  obtain ⟨v767, hv, h⟩ := h
  replace hv := q_aI_e hv
  obtain ⟨_, _, cv767, iv767, yv767⟩ := hv
  replace h := q_be h
  obtain ⟨v768, hv, h⟩ := h
  replace hv := q_aI_e hv
  obtain ⟨_, _, cv768, iv768, yv768⟩ := hv
  replace h := q_b2_e h
  obtain ⟨v769, g770, hv, h⟩ := h
  refine ⟨⟨some _, rfl⟩, ⟨some _, rfl⟩, _, _, cv766, iv766, _, yv766, ⟨some _, rfl⟩, _, _, cv767, iv767, _, yv767, ⟨some _, rfl⟩, _, _, cv768, iv768, _, yv768, ⟨some _, rfl⟩, ?_⟩
  refine rL_pixel hv ?_
  replace h := q_be h
  obtain ⟨v771, hv, h⟩ := h
  replace hv := q_aI_e hv
  obtain ⟨_, _, cv771, iv771, yv771⟩ := hv
  replace h := q_be h
  obtain ⟨v772, hv, h⟩ := h
  replace hv := q_aI_e hv
  obtain ⟨_, _, cv772, iv772, yv772⟩ := hv
  replace h := q_be h
  obtain ⟨v773, hv, h⟩ := h
  replace hv := q_aI_e hv
  obtain ⟨_, _, cv773, iv773, yv773⟩ := hv
  replace h := q_be h
  obtain ⟨u774, hv, h⟩ := h
  replace hv := q_ob_e hv
  obtain ⟨_, cu774⟩ := hv
  replace h := q_b2_e h
  obtain ⟨v775, g776, hv, h⟩ := h
  refine ⟨by decide, ⟨some _, rfl⟩, ⟨some _, rfl⟩, _, _, cv771, iv771, _, yv771, ⟨some _, rfl⟩, _, _, cv772, iv772, _, yv772, ⟨some _, rfl⟩, _, _, cv773, iv773, _, yv773, ⟨_, cu774⟩, ?_⟩
  refine rX12_pixel hv ?_
  replace h := q_be h
  obtain ⟨u777, hv, h⟩ := h
  replace hv := q_ob_e hv
  obtain ⟨_, cu777⟩ := hv
  replace h := q_be h
  obtain ⟨v778, hv, h⟩ := h
  refine ⟨by decide, ⟨some _, rfl⟩, ⟨_, cu777⟩, ?_⟩
  refine rX12_thrown hv ?_
  refine And.intro (fun hc779 => ?_) (fun hc779 => ?_)
  · replace h := q_ifp (hc779) h
    refine sL_law_2847 ?_
    refine And.intro (fun hc780 => ?_) (fun hc780 => ?_)
    · replace h := q_ifp (hc780) h
      exact ps_weak (pjL_law_2864_23 h hh he hr) ⟨rfl, rfl, rfl, rfl, rfl, trivial⟩
    · replace h := q_ifn (hc780) h
      replace h := q_be h
      obtain ⟨v781, hv, h⟩ := h
      replace hv := q_aL_e hv
      obtain ⟨_, _, cv781, iv781, yv781⟩ := hv
      refine ⟨⟨some _, rfl⟩, _, _, cv781, iv781, _, yv781, ?_⟩
      refine And.intro (fun hc782 => ?_) (fun hc782 => ?_)
      · replace h := q_ifp (hc782) h
        exact ps_weak (pjL_law_2864_23 h hh he hr) ⟨rfl, rfl, rfl, rfl, rfl, trivial⟩
      · replace h := q_ifn (hc782) h
        exact ⟨rfl, Or.inl rfl, hr ((0 : Int32), g776) (Option.some.inj h).symm⟩
  · replace h := q_ifn (hc779) h
    exact ⟨rfl, Or.inl rfl, hr ((0 : Int32), g776) (Option.some.inj h).symm⟩
noncomputable def jL_law_2944_23 (g : ps_G) (x0 : Nat) (x1 : Nat) (x2 : Nat) (x3 : Nat) (x4 : Int32) : Option ((Int32 × ps_G) ⊕ ((ps_G) ⊕ (Int32 × ps_G))) := jL_law_3239_23 g x0 x1 x2 x3 x4
theorem pjL_law_2944_23 {d : Nat} {Q : ps_Rs → ps_G → Prop} {g : ps_G} {x0 : Nat} {x1 : Nat} {x2 : Nat} {x3 : Nat} {x4 : Int32} {x : (Int32 × ps_G) ⊕ ((ps_G) ⊕ (Int32 × ps_G))} (h : jL_law_2944_23 g x0 x1 x2 x3 x4 = some x) (hh : ∀ s' : Int32 × ps_G, x = .inl s' → ps_At mL_law (d + 105) 23 [(0, .ref x0), (1, .ref x1), (2, .ref x2), (3, .ref x3), (4, .int s'.1)] [] s'.2 Q) (he : ∀ r' : ps_G, x = .inr (.inl r') → ps_At mL_law (d + 105) 3245 [] [] r' Q) (hr : ∀ v' : Int32 × ps_G, x = .inr (.inr v') → Q (.inl (some (.int v'.1))) v'.2) : ps_At mL_law (d + 105) 2944 [(0, .ref x0), (1, .ref x1), (2, .ref x2), (3, .ref x3), (4, .int x4)] [] g Q := by
  unfold jL_law_2944_23 at h
  refine sL_law_2944 ?_
  exact ps_weak (pjL_law_3239_23 h hh he hr) ⟨rfl, rfl, rfl, rfl, rfl, trivial⟩
noncomputable def jL_law_2867_23 (g : ps_G) (x0 : Nat) (x1 : Nat) (x2 : Nat) (x3 : Nat) (x4 : Int32) : Option ((Int32 × ps_G) ⊕ ((ps_G) ⊕ (Int32 × ps_G))) := Option.bind (q_aI g x0 (x4 + (1 : Int32))) fun v790 => Option.bind (q_aI g x0 (x4 + (2 : Int32))) fun v791 => Option.bind (q_aI g x0 (x4 + (3 : Int32))) fun v792 => q_b2 (fL_masked g x1 v790 v791 v792 x3) fun v793 g794 => Option.bind (q_aI g794 x0 (x4 + (1 : Int32))) fun v795 => Option.bind (q_aI g794 x0 (x4 + (2 : Int32))) fun v796 => Option.bind (q_aI g794 x0 (x4 + (3 : Int32))) fun v797 => Option.bind (q_ob 12 g794 x2) fun u798 => q_b2 (fX12_masked g794 x2 v795 v796 v797) fun v799 g800 => Option.bind (q_ob 12 g800 x2) fun u801 => Option.bind (fX12_thrown g800 x2) fun v802 => if v802 = v793 then (if ¬ v793 = 0 then (jL_law_2944_23 g800 x0 x1 x2 x3 x4) else (Option.bind (q_aL g800 x3 (0 : Int32)) fun v805 => if (lg_cmp v805 (Int32.toInt64 v799)) = 0 then (jL_law_2944_23 g800 x0 x1 x2 x3 x4) else (some (.inr (.inr ((0 : Int32), g800)))))) else (some (.inr (.inr ((0 : Int32), g800))))
theorem pjL_law_2867_23 {d : Nat} {Q : ps_Rs → ps_G → Prop} {g : ps_G} {x0 : Nat} {x1 : Nat} {x2 : Nat} {x3 : Nat} {x4 : Int32} {x : (Int32 × ps_G) ⊕ ((ps_G) ⊕ (Int32 × ps_G))} (h : jL_law_2867_23 g x0 x1 x2 x3 x4 = some x) (hh : ∀ s' : Int32 × ps_G, x = .inl s' → ps_At mL_law (d + 105) 23 [(0, .ref x0), (1, .ref x1), (2, .ref x2), (3, .ref x3), (4, .int s'.1)] [] s'.2 Q) (he : ∀ r' : ps_G, x = .inr (.inl r') → ps_At mL_law (d + 105) 3245 [] [] r' Q) (hr : ∀ v' : Int32 × ps_G, x = .inr (.inr v') → Q (.inl (some (.int v'.1))) v'.2) : ps_At mL_law (d + 105) 2867 [(0, .ref x0), (1, .ref x1), (2, .ref x2), (3, .ref x3), (4, .int x4)] [] g Q := by
  unfold jL_law_2867_23 at h
  refine sL_law_2867 ?_
  replace h := q_be h
  obtain ⟨v790, hv, h⟩ := h
  replace hv := q_aI_e hv
  obtain ⟨_, _, cv790, iv790, yv790⟩ := hv
  replace h := q_be h
  obtain ⟨v791, hv, h⟩ := h
  replace hv := q_aI_e hv
  obtain ⟨_, _, cv791, iv791, yv791⟩ := hv
  replace h := q_be h
  obtain ⟨v792, hv, h⟩ := h
  replace hv := q_aI_e hv
  obtain ⟨_, _, cv792, iv792, yv792⟩ := hv
  replace h := q_b2_e h
  obtain ⟨v793, g794, hv, h⟩ := h
  refine ⟨⟨some _, rfl⟩, ⟨some _, rfl⟩, _, _, cv790, iv790, _, yv790, ⟨some _, rfl⟩, _, _, cv791, iv791, _, yv791, ⟨some _, rfl⟩, _, _, cv792, iv792, _, yv792, ⟨some _, rfl⟩, ?_⟩
  refine rL_masked hv ?_
  replace h := q_be h
  obtain ⟨v795, hv, h⟩ := h
  replace hv := q_aI_e hv
  obtain ⟨_, _, cv795, iv795, yv795⟩ := hv
  replace h := q_be h
  obtain ⟨v796, hv, h⟩ := h
  replace hv := q_aI_e hv
  obtain ⟨_, _, cv796, iv796, yv796⟩ := hv
  replace h := q_be h
  obtain ⟨v797, hv, h⟩ := h
  replace hv := q_aI_e hv
  obtain ⟨_, _, cv797, iv797, yv797⟩ := hv
  replace h := q_be h
  obtain ⟨u798, hv, h⟩ := h
  replace hv := q_ob_e hv
  obtain ⟨_, cu798⟩ := hv
  replace h := q_b2_e h
  obtain ⟨v799, g800, hv, h⟩ := h
  refine ⟨by decide, ⟨some _, rfl⟩, ⟨some _, rfl⟩, _, _, cv795, iv795, _, yv795, ⟨some _, rfl⟩, _, _, cv796, iv796, _, yv796, ⟨some _, rfl⟩, _, _, cv797, iv797, _, yv797, ⟨_, cu798⟩, ?_⟩
  refine rX12_masked hv ?_
  replace h := q_be h
  obtain ⟨u801, hv, h⟩ := h
  replace hv := q_ob_e hv
  obtain ⟨_, cu801⟩ := hv
  replace h := q_be h
  obtain ⟨v802, hv, h⟩ := h
  refine ⟨by decide, ⟨some _, rfl⟩, ⟨_, cu801⟩, ?_⟩
  refine rX12_thrown hv ?_
  refine And.intro (fun hc803 => ?_) (fun hc803 => ?_)
  · replace h := q_ifp (hc803) h
    refine sL_law_2927 ?_
    refine And.intro (fun hc804 => ?_) (fun hc804 => ?_)
    · replace h := q_ifp (hc804) h
      exact ps_weak (pjL_law_2944_23 h hh he hr) ⟨rfl, rfl, rfl, rfl, rfl, trivial⟩
    · replace h := q_ifn (hc804) h
      replace h := q_be h
      obtain ⟨v805, hv, h⟩ := h
      replace hv := q_aL_e hv
      obtain ⟨_, _, cv805, iv805, yv805⟩ := hv
      refine ⟨⟨some _, rfl⟩, _, _, cv805, iv805, _, yv805, ?_⟩
      refine And.intro (fun hc806 => ?_) (fun hc806 => ?_)
      · replace h := q_ifp (hc806) h
        exact ps_weak (pjL_law_2944_23 h hh he hr) ⟨rfl, rfl, rfl, rfl, rfl, trivial⟩
      · replace h := q_ifn (hc806) h
        exact ⟨rfl, Or.inl rfl, hr ((0 : Int32), g800) (Option.some.inj h).symm⟩
  · replace h := q_ifn (hc803) h
    exact ⟨rfl, Or.inl rfl, hr ((0 : Int32), g800) (Option.some.inj h).symm⟩
noncomputable def jL_law_3012_23 (g : ps_G) (x0 : Nat) (x1 : Nat) (x2 : Nat) (x3 : Nat) (x4 : Int32) : Option ((Int32 × ps_G) ⊕ ((ps_G) ⊕ (Int32 × ps_G))) := jL_law_3239_23 g x0 x1 x2 x3 x4
theorem pjL_law_3012_23 {d : Nat} {Q : ps_Rs → ps_G → Prop} {g : ps_G} {x0 : Nat} {x1 : Nat} {x2 : Nat} {x3 : Nat} {x4 : Int32} {x : (Int32 × ps_G) ⊕ ((ps_G) ⊕ (Int32 × ps_G))} (h : jL_law_3012_23 g x0 x1 x2 x3 x4 = some x) (hh : ∀ s' : Int32 × ps_G, x = .inl s' → ps_At mL_law (d + 105) 23 [(0, .ref x0), (1, .ref x1), (2, .ref x2), (3, .ref x3), (4, .int s'.1)] [] s'.2 Q) (he : ∀ r' : ps_G, x = .inr (.inl r') → ps_At mL_law (d + 105) 3245 [] [] r' Q) (hr : ∀ v' : Int32 × ps_G, x = .inr (.inr v') → Q (.inl (some (.int v'.1))) v'.2) : ps_At mL_law (d + 105) 3012 [(0, .ref x0), (1, .ref x1), (2, .ref x2), (3, .ref x3), (4, .int x4)] [] g Q := by
  unfold jL_law_3012_23 at h
  refine sL_law_3012 ?_
  exact ps_weak (pjL_law_3239_23 h hh he hr) ⟨rfl, rfl, rfl, rfl, rfl, trivial⟩
noncomputable def jL_law_2947_23 (g : ps_G) (x0 : Nat) (x1 : Nat) (x2 : Nat) (x3 : Nat) (x4 : Int32) : Option ((Int32 × ps_G) ⊕ ((ps_G) ⊕ (Int32 × ps_G))) := Option.bind (q_aI g x0 (x4 + (1 : Int32))) fun v814 => Option.bind (q_aI g x0 (x4 + (2 : Int32))) fun v815 => q_b2 (fL_about g x1 v814 v815 x3) fun v816 g817 => Option.bind (q_aI g817 x0 (x4 + (1 : Int32))) fun v818 => Option.bind (q_aI g817 x0 (x4 + (2 : Int32))) fun v819 => Option.bind (q_ob 12 g817 x2) fun u820 => q_b2 (fX12_about g817 x2 v818 v819) fun v821 g822 => Option.bind (q_ob 12 g822 x2) fun u823 => Option.bind (fX12_thrown g822 x2) fun v824 => if v824 = v816 then (if ¬ v816 = 0 then (jL_law_3012_23 g822 x0 x1 x2 x3 x4) else (Option.bind (q_aL g822 x3 (0 : Int32)) fun v827 => if (lg_cmp v827 (Int32.toInt64 v821)) = 0 then (jL_law_3012_23 g822 x0 x1 x2 x3 x4) else (some (.inr (.inr ((0 : Int32), g822)))))) else (some (.inr (.inr ((0 : Int32), g822))))
theorem pjL_law_2947_23 {d : Nat} {Q : ps_Rs → ps_G → Prop} {g : ps_G} {x0 : Nat} {x1 : Nat} {x2 : Nat} {x3 : Nat} {x4 : Int32} {x : (Int32 × ps_G) ⊕ ((ps_G) ⊕ (Int32 × ps_G))} (h : jL_law_2947_23 g x0 x1 x2 x3 x4 = some x) (hh : ∀ s' : Int32 × ps_G, x = .inl s' → ps_At mL_law (d + 105) 23 [(0, .ref x0), (1, .ref x1), (2, .ref x2), (3, .ref x3), (4, .int s'.1)] [] s'.2 Q) (he : ∀ r' : ps_G, x = .inr (.inl r') → ps_At mL_law (d + 105) 3245 [] [] r' Q) (hr : ∀ v' : Int32 × ps_G, x = .inr (.inr v') → Q (.inl (some (.int v'.1))) v'.2) : ps_At mL_law (d + 105) 2947 [(0, .ref x0), (1, .ref x1), (2, .ref x2), (3, .ref x3), (4, .int x4)] [] g Q := by
  unfold jL_law_2947_23 at h
  refine sL_law_2947 ?_
  replace h := q_be h
  obtain ⟨v814, hv, h⟩ := h
  replace hv := q_aI_e hv
  obtain ⟨_, _, cv814, iv814, yv814⟩ := hv
  replace h := q_be h
  obtain ⟨v815, hv, h⟩ := h
  replace hv := q_aI_e hv
  obtain ⟨_, _, cv815, iv815, yv815⟩ := hv
  replace h := q_b2_e h
  obtain ⟨v816, g817, hv, h⟩ := h
  refine ⟨⟨some _, rfl⟩, ⟨some _, rfl⟩, _, _, cv814, iv814, _, yv814, ⟨some _, rfl⟩, _, _, cv815, iv815, _, yv815, ⟨some _, rfl⟩, ?_⟩
  refine rL_about hv ?_
  replace h := q_be h
  obtain ⟨v818, hv, h⟩ := h
  replace hv := q_aI_e hv
  obtain ⟨_, _, cv818, iv818, yv818⟩ := hv
  replace h := q_be h
  obtain ⟨v819, hv, h⟩ := h
  replace hv := q_aI_e hv
  obtain ⟨_, _, cv819, iv819, yv819⟩ := hv
  replace h := q_be h
  obtain ⟨u820, hv, h⟩ := h
  replace hv := q_ob_e hv
  obtain ⟨_, cu820⟩ := hv
  replace h := q_b2_e h
  obtain ⟨v821, g822, hv, h⟩ := h
  refine ⟨by decide, ⟨some _, rfl⟩, ⟨some _, rfl⟩, _, _, cv818, iv818, _, yv818, ⟨some _, rfl⟩, _, _, cv819, iv819, _, yv819, ⟨_, cu820⟩, ?_⟩
  refine rX12_about hv ?_
  replace h := q_be h
  obtain ⟨u823, hv, h⟩ := h
  replace hv := q_ob_e hv
  obtain ⟨_, cu823⟩ := hv
  replace h := q_be h
  obtain ⟨v824, hv, h⟩ := h
  refine ⟨by decide, ⟨some _, rfl⟩, ⟨_, cu823⟩, ?_⟩
  refine rX12_thrown hv ?_
  refine And.intro (fun hc825 => ?_) (fun hc825 => ?_)
  · replace h := q_ifp (hc825) h
    refine sL_law_2995 ?_
    refine And.intro (fun hc826 => ?_) (fun hc826 => ?_)
    · replace h := q_ifp (hc826) h
      exact ps_weak (pjL_law_3012_23 h hh he hr) ⟨rfl, rfl, rfl, rfl, rfl, trivial⟩
    · replace h := q_ifn (hc826) h
      replace h := q_be h
      obtain ⟨v827, hv, h⟩ := h
      replace hv := q_aL_e hv
      obtain ⟨_, _, cv827, iv827, yv827⟩ := hv
      refine ⟨⟨some _, rfl⟩, _, _, cv827, iv827, _, yv827, ?_⟩
      refine And.intro (fun hc828 => ?_) (fun hc828 => ?_)
      · replace h := q_ifp (hc828) h
        exact ps_weak (pjL_law_3012_23 h hh he hr) ⟨rfl, rfl, rfl, rfl, rfl, trivial⟩
      · replace h := q_ifn (hc828) h
        exact ⟨rfl, Or.inl rfl, hr ((0 : Int32), g822) (Option.some.inj h).symm⟩
  · replace h := q_ifn (hc825) h
    exact ⟨rfl, Or.inl rfl, hr ((0 : Int32), g822) (Option.some.inj h).symm⟩
noncomputable def jL_law_3068_23 (g : ps_G) (x0 : Nat) (x1 : Nat) (x2 : Nat) (x3 : Nat) (x4 : Int32) : Option ((Int32 × ps_G) ⊕ ((ps_G) ⊕ (Int32 × ps_G))) := jL_law_3239_23 g x0 x1 x2 x3 x4
theorem pjL_law_3068_23 {d : Nat} {Q : ps_Rs → ps_G → Prop} {g : ps_G} {x0 : Nat} {x1 : Nat} {x2 : Nat} {x3 : Nat} {x4 : Int32} {x : (Int32 × ps_G) ⊕ ((ps_G) ⊕ (Int32 × ps_G))} (h : jL_law_3068_23 g x0 x1 x2 x3 x4 = some x) (hh : ∀ s' : Int32 × ps_G, x = .inl s' → ps_At mL_law (d + 105) 23 [(0, .ref x0), (1, .ref x1), (2, .ref x2), (3, .ref x3), (4, .int s'.1)] [] s'.2 Q) (he : ∀ r' : ps_G, x = .inr (.inl r') → ps_At mL_law (d + 105) 3245 [] [] r' Q) (hr : ∀ v' : Int32 × ps_G, x = .inr (.inr v') → Q (.inl (some (.int v'.1))) v'.2) : ps_At mL_law (d + 105) 3068 [(0, .ref x0), (1, .ref x1), (2, .ref x2), (3, .ref x3), (4, .int x4)] [] g Q := by
  unfold jL_law_3068_23 at h
  refine sL_law_3068 ?_
  exact ps_weak (pjL_law_3239_23 h hh he hr) ⟨rfl, rfl, rfl, rfl, rfl, trivial⟩
noncomputable def jL_law_3015_23 (g : ps_G) (x0 : Nat) (x1 : Nat) (x2 : Nat) (x3 : Nat) (x4 : Int32) : Option ((Int32 × ps_G) ⊕ ((ps_G) ⊕ (Int32 × ps_G))) := Option.bind (q_aI g x0 (x4 + (1 : Int32))) fun v836 => q_b2 (fL_made g x1 v836 x3) fun v837 g838 => Option.bind (q_aI g838 x0 (x4 + (1 : Int32))) fun v839 => Option.bind (q_ob 12 g838 x2) fun u840 => q_b2 (fX12_made g838 x2 v839) fun v841 g842 => Option.bind (q_ob 12 g842 x2) fun u843 => Option.bind (fX12_thrown g842 x2) fun v844 => if v844 = v837 then (if ¬ v837 = 0 then (jL_law_3068_23 g842 x0 x1 x2 x3 x4) else (Option.bind (q_aL g842 x3 (0 : Int32)) fun v847 => if (lg_cmp v847 (Int32.toInt64 v841)) = 0 then (jL_law_3068_23 g842 x0 x1 x2 x3 x4) else (some (.inr (.inr ((0 : Int32), g842)))))) else (some (.inr (.inr ((0 : Int32), g842))))
theorem pjL_law_3015_23 {d : Nat} {Q : ps_Rs → ps_G → Prop} {g : ps_G} {x0 : Nat} {x1 : Nat} {x2 : Nat} {x3 : Nat} {x4 : Int32} {x : (Int32 × ps_G) ⊕ ((ps_G) ⊕ (Int32 × ps_G))} (h : jL_law_3015_23 g x0 x1 x2 x3 x4 = some x) (hh : ∀ s' : Int32 × ps_G, x = .inl s' → ps_At mL_law (d + 105) 23 [(0, .ref x0), (1, .ref x1), (2, .ref x2), (3, .ref x3), (4, .int s'.1)] [] s'.2 Q) (he : ∀ r' : ps_G, x = .inr (.inl r') → ps_At mL_law (d + 105) 3245 [] [] r' Q) (hr : ∀ v' : Int32 × ps_G, x = .inr (.inr v') → Q (.inl (some (.int v'.1))) v'.2) : ps_At mL_law (d + 105) 3015 [(0, .ref x0), (1, .ref x1), (2, .ref x2), (3, .ref x3), (4, .int x4)] [] g Q := by
  unfold jL_law_3015_23 at h
  refine sL_law_3015 ?_
  replace h := q_be h
  obtain ⟨v836, hv, h⟩ := h
  replace hv := q_aI_e hv
  obtain ⟨_, _, cv836, iv836, yv836⟩ := hv
  replace h := q_b2_e h
  obtain ⟨v837, g838, hv, h⟩ := h
  refine ⟨⟨some _, rfl⟩, ⟨some _, rfl⟩, _, _, cv836, iv836, _, yv836, ⟨some _, rfl⟩, ?_⟩
  refine rL_made hv ?_
  replace h := q_be h
  obtain ⟨v839, hv, h⟩ := h
  replace hv := q_aI_e hv
  obtain ⟨_, _, cv839, iv839, yv839⟩ := hv
  replace h := q_be h
  obtain ⟨u840, hv, h⟩ := h
  replace hv := q_ob_e hv
  obtain ⟨_, cu840⟩ := hv
  replace h := q_b2_e h
  obtain ⟨v841, g842, hv, h⟩ := h
  refine ⟨by decide, ⟨some _, rfl⟩, ⟨some _, rfl⟩, _, _, cv839, iv839, _, yv839, ⟨_, cu840⟩, ?_⟩
  refine rX12_made hv ?_
  replace h := q_be h
  obtain ⟨u843, hv, h⟩ := h
  replace hv := q_ob_e hv
  obtain ⟨_, cu843⟩ := hv
  replace h := q_be h
  obtain ⟨v844, hv, h⟩ := h
  refine ⟨by decide, ⟨some _, rfl⟩, ⟨_, cu843⟩, ?_⟩
  refine rX12_thrown hv ?_
  refine And.intro (fun hc845 => ?_) (fun hc845 => ?_)
  · replace h := q_ifp (hc845) h
    refine sL_law_3051 ?_
    refine And.intro (fun hc846 => ?_) (fun hc846 => ?_)
    · replace h := q_ifp (hc846) h
      exact ps_weak (pjL_law_3068_23 h hh he hr) ⟨rfl, rfl, rfl, rfl, rfl, trivial⟩
    · replace h := q_ifn (hc846) h
      replace h := q_be h
      obtain ⟨v847, hv, h⟩ := h
      replace hv := q_aL_e hv
      obtain ⟨_, _, cv847, iv847, yv847⟩ := hv
      refine ⟨⟨some _, rfl⟩, _, _, cv847, iv847, _, yv847, ?_⟩
      refine And.intro (fun hc848 => ?_) (fun hc848 => ?_)
      · replace h := q_ifp (hc848) h
        exact ps_weak (pjL_law_3068_23 h hh he hr) ⟨rfl, rfl, rfl, rfl, rfl, trivial⟩
      · replace h := q_ifn (hc848) h
        exact ⟨rfl, Or.inl rfl, hr ((0 : Int32), g842) (Option.some.inj h).symm⟩
  · replace h := q_ifn (hc845) h
    exact ⟨rfl, Or.inl rfl, hr ((0 : Int32), g842) (Option.some.inj h).symm⟩
noncomputable def jL_law_3123_23 (g : ps_G) (x0 : Nat) (x1 : Nat) (x2 : Nat) (x3 : Nat) (x4 : Int32) : Option ((Int32 × ps_G) ⊕ ((ps_G) ⊕ (Int32 × ps_G))) := jL_law_3239_23 g x0 x1 x2 x3 x4
theorem pjL_law_3123_23 {d : Nat} {Q : ps_Rs → ps_G → Prop} {g : ps_G} {x0 : Nat} {x1 : Nat} {x2 : Nat} {x3 : Nat} {x4 : Int32} {x : (Int32 × ps_G) ⊕ ((ps_G) ⊕ (Int32 × ps_G))} (h : jL_law_3123_23 g x0 x1 x2 x3 x4 = some x) (hh : ∀ s' : Int32 × ps_G, x = .inl s' → ps_At mL_law (d + 105) 23 [(0, .ref x0), (1, .ref x1), (2, .ref x2), (3, .ref x3), (4, .int s'.1)] [] s'.2 Q) (he : ∀ r' : ps_G, x = .inr (.inl r') → ps_At mL_law (d + 105) 3245 [] [] r' Q) (hr : ∀ v' : Int32 × ps_G, x = .inr (.inr v') → Q (.inl (some (.int v'.1))) v'.2) : ps_At mL_law (d + 105) 3123 [(0, .ref x0), (1, .ref x1), (2, .ref x2), (3, .ref x3), (4, .int x4)] [] g Q := by
  unfold jL_law_3123_23 at h
  refine sL_law_3123 ?_
  exact ps_weak (pjL_law_3239_23 h hh he hr) ⟨rfl, rfl, rfl, rfl, rfl, trivial⟩
noncomputable def jL_law_3071_23 (g : ps_G) (x0 : Nat) (x1 : Nat) (x2 : Nat) (x3 : Nat) (x4 : Int32) : Option ((Int32 × ps_G) ⊕ ((ps_G) ⊕ (Int32 × ps_G))) := Option.bind (q_aI g x0 (x4 + (1 : Int32))) fun v856 => q_b2 (fL_octets g x1 v856 x3) fun v857 g858 => Option.bind (q_aI g858 x0 (x4 + (1 : Int32))) fun v859 => Option.bind (q_ob 12 g858 x2) fun u860 => q_b2 (fX12_octets g858 x2 v859) fun v861 g862 => Option.bind (q_ob 12 g862 x2) fun u863 => Option.bind (fX12_thrown g862 x2) fun v864 => if v864 = v857 then (if ¬ v857 = 0 then (jL_law_3123_23 g862 x0 x1 x2 x3 x4) else (Option.bind (q_aL g862 x3 (0 : Int32)) fun v867 => if (lg_cmp v867 v861) = 0 then (jL_law_3123_23 g862 x0 x1 x2 x3 x4) else (some (.inr (.inr ((0 : Int32), g862)))))) else (some (.inr (.inr ((0 : Int32), g862))))
theorem pjL_law_3071_23 {d : Nat} {Q : ps_Rs → ps_G → Prop} {g : ps_G} {x0 : Nat} {x1 : Nat} {x2 : Nat} {x3 : Nat} {x4 : Int32} {x : (Int32 × ps_G) ⊕ ((ps_G) ⊕ (Int32 × ps_G))} (h : jL_law_3071_23 g x0 x1 x2 x3 x4 = some x) (hh : ∀ s' : Int32 × ps_G, x = .inl s' → ps_At mL_law (d + 105) 23 [(0, .ref x0), (1, .ref x1), (2, .ref x2), (3, .ref x3), (4, .int s'.1)] [] s'.2 Q) (he : ∀ r' : ps_G, x = .inr (.inl r') → ps_At mL_law (d + 105) 3245 [] [] r' Q) (hr : ∀ v' : Int32 × ps_G, x = .inr (.inr v') → Q (.inl (some (.int v'.1))) v'.2) : ps_At mL_law (d + 105) 3071 [(0, .ref x0), (1, .ref x1), (2, .ref x2), (3, .ref x3), (4, .int x4)] [] g Q := by
  unfold jL_law_3071_23 at h
  refine sL_law_3071 ?_
  replace h := q_be h
  obtain ⟨v856, hv, h⟩ := h
  replace hv := q_aI_e hv
  obtain ⟨_, _, cv856, iv856, yv856⟩ := hv
  replace h := q_b2_e h
  obtain ⟨v857, g858, hv, h⟩ := h
  refine ⟨⟨some _, rfl⟩, ⟨some _, rfl⟩, _, _, cv856, iv856, _, yv856, ⟨some _, rfl⟩, ?_⟩
  refine rL_octets hv ?_
  replace h := q_be h
  obtain ⟨v859, hv, h⟩ := h
  replace hv := q_aI_e hv
  obtain ⟨_, _, cv859, iv859, yv859⟩ := hv
  replace h := q_be h
  obtain ⟨u860, hv, h⟩ := h
  replace hv := q_ob_e hv
  obtain ⟨_, cu860⟩ := hv
  replace h := q_b2_e h
  obtain ⟨v861, g862, hv, h⟩ := h
  refine ⟨by decide, ⟨some _, rfl⟩, ⟨some _, rfl⟩, _, _, cv859, iv859, _, yv859, ⟨_, cu860⟩, ?_⟩
  refine rX12_octets hv ?_
  replace h := q_be h
  obtain ⟨u863, hv, h⟩ := h
  replace hv := q_ob_e hv
  obtain ⟨_, cu863⟩ := hv
  replace h := q_be h
  obtain ⟨v864, hv, h⟩ := h
  refine ⟨by decide, ⟨some _, rfl⟩, ⟨_, cu863⟩, ?_⟩
  refine rX12_thrown hv ?_
  refine And.intro (fun hc865 => ?_) (fun hc865 => ?_)
  · replace h := q_ifp (hc865) h
    refine sL_law_3107 ?_
    refine And.intro (fun hc866 => ?_) (fun hc866 => ?_)
    · replace h := q_ifp (hc866) h
      exact ps_weak (pjL_law_3123_23 h hh he hr) ⟨rfl, rfl, rfl, rfl, rfl, trivial⟩
    · replace h := q_ifn (hc866) h
      replace h := q_be h
      obtain ⟨v867, hv, h⟩ := h
      replace hv := q_aL_e hv
      obtain ⟨_, _, cv867, iv867, yv867⟩ := hv
      refine ⟨⟨some _, rfl⟩, _, _, cv867, iv867, _, yv867, ?_⟩
      refine And.intro (fun hc868 => ?_) (fun hc868 => ?_)
      · replace h := q_ifp (hc868) h
        exact ps_weak (pjL_law_3123_23 h hh he hr) ⟨rfl, rfl, rfl, rfl, rfl, trivial⟩
      · replace h := q_ifn (hc868) h
        exact ⟨rfl, Or.inl rfl, hr ((0 : Int32), g862) (Option.some.inj h).symm⟩
  · replace h := q_ifn (hc865) h
    exact ⟨rfl, Or.inl rfl, hr ((0 : Int32), g862) (Option.some.inj h).symm⟩
noncomputable def jL_law_3167_23 (g : ps_G) (x0 : Nat) (x1 : Nat) (x2 : Nat) (x3 : Nat) (x4 : Int32) : Option ((Int32 × ps_G) ⊕ ((ps_G) ⊕ (Int32 × ps_G))) := jL_law_3239_23 g x0 x1 x2 x3 x4
theorem pjL_law_3167_23 {d : Nat} {Q : ps_Rs → ps_G → Prop} {g : ps_G} {x0 : Nat} {x1 : Nat} {x2 : Nat} {x3 : Nat} {x4 : Int32} {x : (Int32 × ps_G) ⊕ ((ps_G) ⊕ (Int32 × ps_G))} (h : jL_law_3167_23 g x0 x1 x2 x3 x4 = some x) (hh : ∀ s' : Int32 × ps_G, x = .inl s' → ps_At mL_law (d + 105) 23 [(0, .ref x0), (1, .ref x1), (2, .ref x2), (3, .ref x3), (4, .int s'.1)] [] s'.2 Q) (he : ∀ r' : ps_G, x = .inr (.inl r') → ps_At mL_law (d + 105) 3245 [] [] r' Q) (hr : ∀ v' : Int32 × ps_G, x = .inr (.inr v') → Q (.inl (some (.int v'.1))) v'.2) : ps_At mL_law (d + 105) 3167 [(0, .ref x0), (1, .ref x1), (2, .ref x2), (3, .ref x3), (4, .int x4)] [] g Q := by
  unfold jL_law_3167_23 at h
  refine sL_law_3167 ?_
  exact ps_weak (pjL_law_3239_23 h hh he hr) ⟨rfl, rfl, rfl, rfl, rfl, trivial⟩
noncomputable def jL_law_3126_23 (g : ps_G) (x0 : Nat) (x1 : Nat) (x2 : Nat) (x3 : Nat) (x4 : Int32) : Option ((Int32 × ps_G) ⊕ ((ps_G) ⊕ (Int32 × ps_G))) := q_b2 (fL_undo g x1 x3) fun v876 g877 => Option.bind (q_ob 12 g877 x2) fun u878 => q_b2 (fX12_undo g877 x2) fun v879 g880 => Option.bind (q_ob 12 g880 x2) fun u881 => Option.bind (fX12_thrown g880 x2) fun v882 => if v882 = v876 then (if ¬ v876 = 0 then (jL_law_3167_23 g880 x0 x1 x2 x3 x4) else (Option.bind (q_aL g880 x3 (0 : Int32)) fun v885 => if (lg_cmp v885 (Int32.toInt64 v879)) = 0 then (jL_law_3167_23 g880 x0 x1 x2 x3 x4) else (some (.inr (.inr ((0 : Int32), g880)))))) else (some (.inr (.inr ((0 : Int32), g880))))
theorem pjL_law_3126_23 {d : Nat} {Q : ps_Rs → ps_G → Prop} {g : ps_G} {x0 : Nat} {x1 : Nat} {x2 : Nat} {x3 : Nat} {x4 : Int32} {x : (Int32 × ps_G) ⊕ ((ps_G) ⊕ (Int32 × ps_G))} (h : jL_law_3126_23 g x0 x1 x2 x3 x4 = some x) (hh : ∀ s' : Int32 × ps_G, x = .inl s' → ps_At mL_law (d + 105) 23 [(0, .ref x0), (1, .ref x1), (2, .ref x2), (3, .ref x3), (4, .int s'.1)] [] s'.2 Q) (he : ∀ r' : ps_G, x = .inr (.inl r') → ps_At mL_law (d + 105) 3245 [] [] r' Q) (hr : ∀ v' : Int32 × ps_G, x = .inr (.inr v') → Q (.inl (some (.int v'.1))) v'.2) : ps_At mL_law (d + 105) 3126 [(0, .ref x0), (1, .ref x1), (2, .ref x2), (3, .ref x3), (4, .int x4)] [] g Q := by
  unfold jL_law_3126_23 at h
  refine sL_law_3126 ?_
  replace h := q_b2_e h
  obtain ⟨v876, g877, hv, h⟩ := h
  refine ⟨⟨some _, rfl⟩, ⟨some _, rfl⟩, ?_⟩
  refine rL_undo hv ?_
  replace h := q_be h
  obtain ⟨u878, hv, h⟩ := h
  replace hv := q_ob_e hv
  obtain ⟨_, cu878⟩ := hv
  replace h := q_b2_e h
  obtain ⟨v879, g880, hv, h⟩ := h
  refine ⟨by decide, ⟨some _, rfl⟩, ⟨_, cu878⟩, ?_⟩
  refine rX12_undo hv ?_
  replace h := q_be h
  obtain ⟨u881, hv, h⟩ := h
  replace hv := q_ob_e hv
  obtain ⟨_, cu881⟩ := hv
  replace h := q_be h
  obtain ⟨v882, hv, h⟩ := h
  refine ⟨by decide, ⟨some _, rfl⟩, ⟨_, cu881⟩, ?_⟩
  refine rX12_thrown hv ?_
  refine And.intro (fun hc883 => ?_) (fun hc883 => ?_)
  · replace h := q_ifp (hc883) h
    refine sL_law_3150 ?_
    refine And.intro (fun hc884 => ?_) (fun hc884 => ?_)
    · replace h := q_ifp (hc884) h
      exact ps_weak (pjL_law_3167_23 h hh he hr) ⟨rfl, rfl, rfl, rfl, rfl, trivial⟩
    · replace h := q_ifn (hc884) h
      replace h := q_be h
      obtain ⟨v885, hv, h⟩ := h
      replace hv := q_aL_e hv
      obtain ⟨_, _, cv885, iv885, yv885⟩ := hv
      refine ⟨⟨some _, rfl⟩, _, _, cv885, iv885, _, yv885, ?_⟩
      refine And.intro (fun hc886 => ?_) (fun hc886 => ?_)
      · replace h := q_ifp (hc886) h
        exact ps_weak (pjL_law_3167_23 h hh he hr) ⟨rfl, rfl, rfl, rfl, rfl, trivial⟩
      · replace h := q_ifn (hc886) h
        exact ⟨rfl, Or.inl rfl, hr ((0 : Int32), g880) (Option.some.inj h).symm⟩
  · replace h := q_ifn (hc883) h
    exact ⟨rfl, Or.inl rfl, hr ((0 : Int32), g880) (Option.some.inj h).symm⟩
noncomputable def jL_law_3211_23 (g : ps_G) (x0 : Nat) (x1 : Nat) (x2 : Nat) (x3 : Nat) (x4 : Int32) : Option ((Int32 × ps_G) ⊕ ((ps_G) ⊕ (Int32 × ps_G))) := jL_law_3239_23 g x0 x1 x2 x3 x4
theorem pjL_law_3211_23 {d : Nat} {Q : ps_Rs → ps_G → Prop} {g : ps_G} {x0 : Nat} {x1 : Nat} {x2 : Nat} {x3 : Nat} {x4 : Int32} {x : (Int32 × ps_G) ⊕ ((ps_G) ⊕ (Int32 × ps_G))} (h : jL_law_3211_23 g x0 x1 x2 x3 x4 = some x) (hh : ∀ s' : Int32 × ps_G, x = .inl s' → ps_At mL_law (d + 105) 23 [(0, .ref x0), (1, .ref x1), (2, .ref x2), (3, .ref x3), (4, .int s'.1)] [] s'.2 Q) (he : ∀ r' : ps_G, x = .inr (.inl r') → ps_At mL_law (d + 105) 3245 [] [] r' Q) (hr : ∀ v' : Int32 × ps_G, x = .inr (.inr v') → Q (.inl (some (.int v'.1))) v'.2) : ps_At mL_law (d + 105) 3211 [(0, .ref x0), (1, .ref x1), (2, .ref x2), (3, .ref x3), (4, .int x4)] [] g Q := by
  unfold jL_law_3211_23 at h
  refine sL_law_3211 ?_
  exact ps_weak (pjL_law_3239_23 h hh he hr) ⟨rfl, rfl, rfl, rfl, rfl, trivial⟩
noncomputable def jL_law_3170_23 (g : ps_G) (x0 : Nat) (x1 : Nat) (x2 : Nat) (x3 : Nat) (x4 : Int32) : Option ((Int32 × ps_G) ⊕ ((ps_G) ⊕ (Int32 × ps_G))) := q_b2 (fL_redo g x1 x3) fun v894 g895 => Option.bind (q_ob 12 g895 x2) fun u896 => q_b2 (fX12_redo g895 x2) fun v897 g898 => Option.bind (q_ob 12 g898 x2) fun u899 => Option.bind (fX12_thrown g898 x2) fun v900 => if v900 = v894 then (if ¬ v894 = 0 then (jL_law_3211_23 g898 x0 x1 x2 x3 x4) else (Option.bind (q_aL g898 x3 (0 : Int32)) fun v903 => if (lg_cmp v903 (Int32.toInt64 v897)) = 0 then (jL_law_3211_23 g898 x0 x1 x2 x3 x4) else (some (.inr (.inr ((0 : Int32), g898)))))) else (some (.inr (.inr ((0 : Int32), g898))))
theorem pjL_law_3170_23 {d : Nat} {Q : ps_Rs → ps_G → Prop} {g : ps_G} {x0 : Nat} {x1 : Nat} {x2 : Nat} {x3 : Nat} {x4 : Int32} {x : (Int32 × ps_G) ⊕ ((ps_G) ⊕ (Int32 × ps_G))} (h : jL_law_3170_23 g x0 x1 x2 x3 x4 = some x) (hh : ∀ s' : Int32 × ps_G, x = .inl s' → ps_At mL_law (d + 105) 23 [(0, .ref x0), (1, .ref x1), (2, .ref x2), (3, .ref x3), (4, .int s'.1)] [] s'.2 Q) (he : ∀ r' : ps_G, x = .inr (.inl r') → ps_At mL_law (d + 105) 3245 [] [] r' Q) (hr : ∀ v' : Int32 × ps_G, x = .inr (.inr v') → Q (.inl (some (.int v'.1))) v'.2) : ps_At mL_law (d + 105) 3170 [(0, .ref x0), (1, .ref x1), (2, .ref x2), (3, .ref x3), (4, .int x4)] [] g Q := by
  unfold jL_law_3170_23 at h
  refine sL_law_3170 ?_
  replace h := q_b2_e h
  obtain ⟨v894, g895, hv, h⟩ := h
  refine ⟨⟨some _, rfl⟩, ⟨some _, rfl⟩, ?_⟩
  refine rL_redo hv ?_
  replace h := q_be h
  obtain ⟨u896, hv, h⟩ := h
  replace hv := q_ob_e hv
  obtain ⟨_, cu896⟩ := hv
  replace h := q_b2_e h
  obtain ⟨v897, g898, hv, h⟩ := h
  refine ⟨by decide, ⟨some _, rfl⟩, ⟨_, cu896⟩, ?_⟩
  refine rX12_redo hv ?_
  replace h := q_be h
  obtain ⟨u899, hv, h⟩ := h
  replace hv := q_ob_e hv
  obtain ⟨_, cu899⟩ := hv
  replace h := q_be h
  obtain ⟨v900, hv, h⟩ := h
  refine ⟨by decide, ⟨some _, rfl⟩, ⟨_, cu899⟩, ?_⟩
  refine rX12_thrown hv ?_
  refine And.intro (fun hc901 => ?_) (fun hc901 => ?_)
  · replace h := q_ifp (hc901) h
    refine sL_law_3194 ?_
    refine And.intro (fun hc902 => ?_) (fun hc902 => ?_)
    · replace h := q_ifp (hc902) h
      exact ps_weak (pjL_law_3211_23 h hh he hr) ⟨rfl, rfl, rfl, rfl, rfl, trivial⟩
    · replace h := q_ifn (hc902) h
      replace h := q_be h
      obtain ⟨v903, hv, h⟩ := h
      replace hv := q_aL_e hv
      obtain ⟨_, _, cv903, iv903, yv903⟩ := hv
      refine ⟨⟨some _, rfl⟩, _, _, cv903, iv903, _, yv903, ?_⟩
      refine And.intro (fun hc904 => ?_) (fun hc904 => ?_)
      · replace h := q_ifp (hc904) h
        exact ps_weak (pjL_law_3211_23 h hh he hr) ⟨rfl, rfl, rfl, rfl, rfl, trivial⟩
      · replace h := q_ifn (hc904) h
        exact ⟨rfl, Or.inl rfl, hr ((0 : Int32), g898) (Option.some.inj h).symm⟩
  · replace h := q_ifn (hc901) h
    exact ⟨rfl, Or.inl rfl, hr ((0 : Int32), g898) (Option.some.inj h).symm⟩
noncomputable def jL_law_3214_23 (g : ps_G) (x0 : Nat) (x1 : Nat) (x2 : Nat) (x3 : Nat) (x4 : Int32) : Option ((Int32 × ps_G) ⊕ ((ps_G) ⊕ (Int32 × ps_G))) := Option.bind (q_aI g x0 (x4 + (1 : Int32))) fun v912 => Option.bind (q_ob 11 g x1) fun u913 => Option.bind (fX11_count g x1 v912) fun v914 => Option.bind (q_aI g x0 (x4 + (1 : Int32))) fun v915 => Option.bind (q_ob 12 g x2) fun u916 => q_b2 (fX12_count g x2 v915) fun v917 g918 => if v914 = v917 then (jL_law_3239_23 g918 x0 x1 x2 x3 x4) else (some (.inr (.inr ((0 : Int32), g918))))
theorem pjL_law_3214_23 {d : Nat} {Q : ps_Rs → ps_G → Prop} {g : ps_G} {x0 : Nat} {x1 : Nat} {x2 : Nat} {x3 : Nat} {x4 : Int32} {x : (Int32 × ps_G) ⊕ ((ps_G) ⊕ (Int32 × ps_G))} (h : jL_law_3214_23 g x0 x1 x2 x3 x4 = some x) (hh : ∀ s' : Int32 × ps_G, x = .inl s' → ps_At mL_law (d + 105) 23 [(0, .ref x0), (1, .ref x1), (2, .ref x2), (3, .ref x3), (4, .int s'.1)] [] s'.2 Q) (he : ∀ r' : ps_G, x = .inr (.inl r') → ps_At mL_law (d + 105) 3245 [] [] r' Q) (hr : ∀ v' : Int32 × ps_G, x = .inr (.inr v') → Q (.inl (some (.int v'.1))) v'.2) : ps_At mL_law (d + 105) 3214 [(0, .ref x0), (1, .ref x1), (2, .ref x2), (3, .ref x3), (4, .int x4)] [] g Q := by
  unfold jL_law_3214_23 at h
  refine sL_law_3214 ?_
  replace h := q_be h
  obtain ⟨v912, hv, h⟩ := h
  replace hv := q_aI_e hv
  obtain ⟨_, _, cv912, iv912, yv912⟩ := hv
  replace h := q_be h
  obtain ⟨u913, hv, h⟩ := h
  replace hv := q_ob_e hv
  obtain ⟨_, cu913⟩ := hv
  replace h := q_be h
  obtain ⟨v914, hv, h⟩ := h
  refine ⟨⟨some _, rfl⟩, ⟨some _, rfl⟩, _, _, cv912, iv912, _, yv912, ⟨_, cu913⟩, ?_⟩
  refine rX11_count hv ?_
  replace h := q_be h
  obtain ⟨v915, hv, h⟩ := h
  replace hv := q_aI_e hv
  obtain ⟨_, _, cv915, iv915, yv915⟩ := hv
  replace h := q_be h
  obtain ⟨u916, hv, h⟩ := h
  replace hv := q_ob_e hv
  obtain ⟨_, cu916⟩ := hv
  replace h := q_b2_e h
  obtain ⟨v917, g918, hv, h⟩ := h
  refine ⟨⟨some _, rfl⟩, ⟨some _, rfl⟩, _, _, cv915, iv915, _, yv915, ⟨_, cu916⟩, ?_⟩
  refine rX12_count hv ?_
  refine And.intro (fun hc919 => ?_) (fun hc919 => ?_)
  · replace h := q_ifp (hc919) h
    exact ps_weak (pjL_law_3239_23 h hh he hr) ⟨rfl, rfl, rfl, rfl, rfl, trivial⟩
  · replace h := q_ifn (hc919) h
    exact ⟨rfl, Or.inl rfl, hr ((0 : Int32), g918) (Option.some.inj h).symm⟩
noncomputable def bL_law_23 (x0 : Nat) (x1 : Nat) (x2 : Nat) (x3 : Nat) (x4 : Int32) (g : ps_G) : Option ((Int32 × ps_G) ⊕ ((ps_G) ⊕ (Int32 × ps_G))) := Option.bind (q_len g x0) fun v4 => if (v4 - (7 : Int32)) < x4 then (some (.inr (.inl g))) else (Option.bind (q_aI g x0 x4) fun v6 => if (v6 &&& (63 : Int32)) = 0 then (jL_law_248_23 g x0 x1 x2 x3 x4) else (if (v6 &&& (63 : Int32)) = 1 then (jL_law_352_23 g x0 x1 x2 x3 x4) else (if (v6 &&& (63 : Int32)) = 2 then (jL_law_408_23 g x0 x1 x2 x3 x4) else (if (v6 &&& (63 : Int32)) = 3 then (jL_law_433_23 g x0 x1 x2 x3 x4) else (if (v6 &&& (63 : Int32)) = 4 then (jL_law_481_23 g x0 x1 x2 x3 x4) else (if (v6 &&& (63 : Int32)) = 5 then (jL_law_561_23 g x0 x1 x2 x3 x4) else (if (v6 &&& (63 : Int32)) = 6 then (jL_law_597_23 g x0 x1 x2 x3 x4) else (if (v6 &&& (63 : Int32)) = 7 then (jL_law_657_23 g x0 x1 x2 x3 x4) else (if (v6 &&& (63 : Int32)) = 8 then (jL_law_717_23 g x0 x1 x2 x3 x4) else (if (v6 &&& (63 : Int32)) = 9 then (jL_law_765_23 g x0 x1 x2 x3 x4) else (if (v6 &&& (63 : Int32)) = 10 then (jL_law_825_23 g x0 x1 x2 x3 x4) else (if (v6 &&& (63 : Int32)) = 11 then (jL_law_909_23 g x0 x1 x2 x3 x4) else (if (v6 &&& (63 : Int32)) = 12 then (jL_law_957_23 g x0 x1 x2 x3 x4) else (if (v6 &&& (63 : Int32)) = 13 then (jL_law_1045_23 g x0 x1 x2 x3 x4) else (if (v6 &&& (63 : Int32)) = 14 then (jL_law_1081_23 g x0 x1 x2 x3 x4) else (if (v6 &&& (63 : Int32)) = 15 then (jL_law_1149_23 g x0 x1 x2 x3 x4) else (if (v6 &&& (63 : Int32)) = 16 then (jL_law_1185_23 g x0 x1 x2 x3 x4) else (if (v6 &&& (63 : Int32)) = 17 then (jL_law_1253_23 g x0 x1 x2 x3 x4) else (if (v6 &&& (63 : Int32)) = 18 then (jL_law_1333_23 g x0 x1 x2 x3 x4) else (if (v6 &&& (63 : Int32)) = 19 then (jL_law_1413_23 g x0 x1 x2 x3 x4) else (if (v6 &&& (63 : Int32)) = 20 then (jL_law_1493_23 g x0 x1 x2 x3 x4) else (if (v6 &&& (63 : Int32)) = 21 then (jL_law_1553_23 g x0 x1 x2 x3 x4) else (if (v6 &&& (63 : Int32)) = 22 then (jL_law_1649_23 g x0 x1 x2 x3 x4) else (if (v6 &&& (63 : Int32)) = 23 then (jL_law_1693_23 g x0 x1 x2 x3 x4) else (if (v6 &&& (63 : Int32)) = 24 then (jL_law_1737_23 g x0 x1 x2 x3 x4) else (if (v6 &&& (63 : Int32)) = 25 then (jL_law_1855_23 g x0 x1 x2 x3 x4) else (if (v6 &&& (63 : Int32)) = 26 then (jL_law_1923_23 g x0 x1 x2 x3 x4) else (if (v6 &&& (63 : Int32)) = 27 then (jL_law_1991_23 g x0 x1 x2 x3 x4) else (if (v6 &&& (63 : Int32)) = 28 then (jL_law_2014_23 g x0 x1 x2 x3 x4) else (if (v6 &&& (63 : Int32)) = 29 then (jL_law_2098_23 g x0 x1 x2 x3 x4) else (if (v6 &&& (63 : Int32)) = 30 then (jL_law_2146_23 g x0 x1 x2 x3 x4) else (if (v6 &&& (63 : Int32)) = 31 then (jL_law_2226_23 g x0 x1 x2 x3 x4) else (if (v6 &&& (63 : Int32)) = 32 then (jL_law_2318_23 g x0 x1 x2 x3 x4) else (if (v6 &&& (63 : Int32)) = 33 then (jL_law_2366_23 g x0 x1 x2 x3 x4) else (if (v6 &&& (63 : Int32)) = 34 then (jL_law_2426_23 g x0 x1 x2 x3 x4) else (if (v6 &&& (63 : Int32)) = 35 then (jL_law_2474_23 g x0 x1 x2 x3 x4) else (if (v6 &&& (63 : Int32)) = 36 then (jL_law_2566_23 g x0 x1 x2 x3 x4) else (if (v6 &&& (63 : Int32)) = 37 then (jL_law_2626_23 g x0 x1 x2 x3 x4) else (if (v6 &&& (63 : Int32)) = 38 then (jL_law_2694_23 g x0 x1 x2 x3 x4) else (if (v6 &&& (63 : Int32)) = 39 then (jL_law_2774_23 g x0 x1 x2 x3 x4) else (if (v6 &&& (63 : Int32)) = 40 then (jL_law_2787_23 g x0 x1 x2 x3 x4) else (if (v6 &&& (63 : Int32)) = 41 then (jL_law_2867_23 g x0 x1 x2 x3 x4) else (if (v6 &&& (63 : Int32)) = 42 then (jL_law_2947_23 g x0 x1 x2 x3 x4) else (if (v6 &&& (63 : Int32)) = 43 then (jL_law_3015_23 g x0 x1 x2 x3 x4) else (if (v6 &&& (63 : Int32)) = 44 then (jL_law_3071_23 g x0 x1 x2 x3 x4) else (if (v6 &&& (63 : Int32)) = 45 then (jL_law_3126_23 g x0 x1 x2 x3 x4) else (if (v6 &&& (63 : Int32)) = 46 then (jL_law_3170_23 g x0 x1 x2 x3 x4) else (if (v6 &&& (63 : Int32)) = 47 then (jL_law_3214_23 g x0 x1 x2 x3 x4) else (jL_law_3239_23 g x0 x1 x2 x3 x4)))))))))))))))))))))))))))))))))))))))))))))))))
theorem pbL_law_23 {d : Nat} {Q : ps_Rs → ps_G → Prop}  {x0 : Nat} {x1 : Nat} {x2 : Nat} {x3 : Nat} {x4 : Int32} {g : ps_G} {x : (Int32 × ps_G) ⊕ ((ps_G) ⊕ (Int32 × ps_G))} (h : bL_law_23 x0 x1 x2 x3 x4 g = some x) (hh : ∀ s' : Int32 × ps_G, x = .inl s' → ps_At mL_law (d + 105) 23 [(0, .ref x0), (1, .ref x1), (2, .ref x2), (3, .ref x3), (4, .int s'.1)] [] s'.2 Q) (he : ∀ r' : ps_G, x = .inr (.inl r') → ps_At mL_law (d + 105) 3245 [] [] r' Q) (hr : ∀ v' : Int32 × ps_G, x = .inr (.inr v') → Q (.inl (some (.int v'.1))) v'.2) : ps_At mL_law (d + 105) 23 [(0, .ref x0), (1, .ref x1), (2, .ref x2), (3, .ref x3), (4, .int x4)] [] g Q := by
  unfold bL_law_23 at h
  refine sL_law_23 ?_
  replace h := q_be h
  obtain ⟨v4, hv, h⟩ := h
  replace hv := q_len_e hv
  obtain ⟨_, _, cv4, qv4, yv4⟩ := hv
  refine ⟨⟨some _, rfl⟩, _, _, cv4, qv4, _, yv4, ?_⟩
  refine And.intro (fun hc5 => ?_) (fun hc5 => ?_)
  · replace h := q_ifp (hc5) h
    exact ps_weak (he g (Option.some.inj h).symm) trivial
  · replace h := q_ifn (hc5) h
    replace h := q_be h
    obtain ⟨v6, hv, h⟩ := h
    replace hv := q_aI_e hv
    obtain ⟨_, _, cv6, iv6, yv6⟩ := hv
    refine ⟨⟨some _, rfl⟩, _, _, cv6, iv6, _, yv6, ?_⟩
    refine sL_law_40 ?_
    by_cases hc7 : (v6 &&& (63 : Int32)) = 0
    · replace h := q_ifp hc7 h
      have eT : ps_tsel 40 3199 0 47 #[208, 312, 368, 393, 441, 521, 557, 617, 677, 725, 785, 869, 917, 1005, 1041, 1109, 1145, 1213, 1293, 1373, 1453, 1513, 1609, 1653, 1697, 1815, 1883, 1951, 1974, 2058, 2106, 2186, 2278, 2326, 2386, 2434, 2526, 2586, 2654, 2734, 2747, 2827, 2907, 2975, 3031, 3086, 3130, 3174] (v6 &&& (63 : Int32)) = 248 := by
        rw [hc7]; decide +kernel
      refine ps_at_eq eT ?_
      exact ps_weak (pjL_law_248_23 h hh he hr) ⟨rfl, rfl, rfl, rfl, rfl, trivial⟩
    replace h := q_ifn hc7 h
    by_cases hc35 : (v6 &&& (63 : Int32)) = 1
    · replace h := q_ifp hc35 h
      have eT : ps_tsel 40 3199 0 47 #[208, 312, 368, 393, 441, 521, 557, 617, 677, 725, 785, 869, 917, 1005, 1041, 1109, 1145, 1213, 1293, 1373, 1453, 1513, 1609, 1653, 1697, 1815, 1883, 1951, 1974, 2058, 2106, 2186, 2278, 2326, 2386, 2434, 2526, 2586, 2654, 2734, 2747, 2827, 2907, 2975, 3031, 3086, 3130, 3174] (v6 &&& (63 : Int32)) = 352 := by
        rw [hc35]; decide +kernel
      refine ps_at_eq eT ?_
      exact ps_weak (pjL_law_352_23 h hh he hr) ⟨rfl, rfl, rfl, rfl, rfl, trivial⟩
    replace h := q_ifn hc35 h
    by_cases hc55 : (v6 &&& (63 : Int32)) = 2
    · replace h := q_ifp hc55 h
      have eT : ps_tsel 40 3199 0 47 #[208, 312, 368, 393, 441, 521, 557, 617, 677, 725, 785, 869, 917, 1005, 1041, 1109, 1145, 1213, 1293, 1373, 1453, 1513, 1609, 1653, 1697, 1815, 1883, 1951, 1974, 2058, 2106, 2186, 2278, 2326, 2386, 2434, 2526, 2586, 2654, 2734, 2747, 2827, 2907, 2975, 3031, 3086, 3130, 3174] (v6 &&& (63 : Int32)) = 408 := by
        rw [hc55]; decide +kernel
      refine ps_at_eq eT ?_
      exact ps_weak (pjL_law_408_23 h hh he hr) ⟨rfl, rfl, rfl, rfl, rfl, trivial⟩
    replace h := q_ifn hc55 h
    by_cases hc66 : (v6 &&& (63 : Int32)) = 3
    · replace h := q_ifp hc66 h
      have eT : ps_tsel 40 3199 0 47 #[208, 312, 368, 393, 441, 521, 557, 617, 677, 725, 785, 869, 917, 1005, 1041, 1109, 1145, 1213, 1293, 1373, 1453, 1513, 1609, 1653, 1697, 1815, 1883, 1951, 1974, 2058, 2106, 2186, 2278, 2326, 2386, 2434, 2526, 2586, 2654, 2734, 2747, 2827, 2907, 2975, 3031, 3086, 3130, 3174] (v6 &&& (63 : Int32)) = 433 := by
        rw [hc66]; decide +kernel
      refine ps_at_eq eT ?_
      exact ps_weak (pjL_law_433_23 h hh he hr) ⟨rfl, rfl, rfl, rfl, rfl, trivial⟩
    replace h := q_ifn hc66 h
    by_cases hc80 : (v6 &&& (63 : Int32)) = 4
    · replace h := q_ifp hc80 h
      have eT : ps_tsel 40 3199 0 47 #[208, 312, 368, 393, 441, 521, 557, 617, 677, 725, 785, 869, 917, 1005, 1041, 1109, 1145, 1213, 1293, 1373, 1453, 1513, 1609, 1653, 1697, 1815, 1883, 1951, 1974, 2058, 2106, 2186, 2278, 2326, 2386, 2434, 2526, 2586, 2654, 2734, 2747, 2827, 2907, 2975, 3031, 3086, 3130, 3174] (v6 &&& (63 : Int32)) = 481 := by
        rw [hc80]; decide +kernel
      refine ps_at_eq eT ?_
      exact ps_weak (pjL_law_481_23 h hh he hr) ⟨rfl, rfl, rfl, rfl, rfl, trivial⟩
    replace h := q_ifn hc80 h
    by_cases hc104 : (v6 &&& (63 : Int32)) = 5
    · replace h := q_ifp hc104 h
      have eT : ps_tsel 40 3199 0 47 #[208, 312, 368, 393, 441, 521, 557, 617, 677, 725, 785, 869, 917, 1005, 1041, 1109, 1145, 1213, 1293, 1373, 1453, 1513, 1609, 1653, 1697, 1815, 1883, 1951, 1974, 2058, 2106, 2186, 2278, 2326, 2386, 2434, 2526, 2586, 2654, 2734, 2747, 2827, 2907, 2975, 3031, 3086, 3130, 3174] (v6 &&& (63 : Int32)) = 561 := by
        rw [hc104]; decide +kernel
      refine ps_at_eq eT ?_
      exact ps_weak (pjL_law_561_23 h hh he hr) ⟨rfl, rfl, rfl, rfl, rfl, trivial⟩
    replace h := q_ifn hc104 h
    by_cases hc116 : (v6 &&& (63 : Int32)) = 6
    · replace h := q_ifp hc116 h
      have eT : ps_tsel 40 3199 0 47 #[208, 312, 368, 393, 441, 521, 557, 617, 677, 725, 785, 869, 917, 1005, 1041, 1109, 1145, 1213, 1293, 1373, 1453, 1513, 1609, 1653, 1697, 1815, 1883, 1951, 1974, 2058, 2106, 2186, 2278, 2326, 2386, 2434, 2526, 2586, 2654, 2734, 2747, 2827, 2907, 2975, 3031, 3086, 3130, 3174] (v6 &&& (63 : Int32)) = 597 := by
        rw [hc116]; decide +kernel
      refine ps_at_eq eT ?_
      exact ps_weak (pjL_law_597_23 h hh he hr) ⟨rfl, rfl, rfl, rfl, rfl, trivial⟩
    replace h := q_ifn hc116 h
    by_cases hc132 : (v6 &&& (63 : Int32)) = 7
    · replace h := q_ifp hc132 h
      have eT : ps_tsel 40 3199 0 47 #[208, 312, 368, 393, 441, 521, 557, 617, 677, 725, 785, 869, 917, 1005, 1041, 1109, 1145, 1213, 1293, 1373, 1453, 1513, 1609, 1653, 1697, 1815, 1883, 1951, 1974, 2058, 2106, 2186, 2278, 2326, 2386, 2434, 2526, 2586, 2654, 2734, 2747, 2827, 2907, 2975, 3031, 3086, 3130, 3174] (v6 &&& (63 : Int32)) = 657 := by
        rw [hc132]; decide +kernel
      refine ps_at_eq eT ?_
      exact ps_weak (pjL_law_657_23 h hh he hr) ⟨rfl, rfl, rfl, rfl, rfl, trivial⟩
    replace h := q_ifn hc132 h
    by_cases hc148 : (v6 &&& (63 : Int32)) = 8
    · replace h := q_ifp hc148 h
      have eT : ps_tsel 40 3199 0 47 #[208, 312, 368, 393, 441, 521, 557, 617, 677, 725, 785, 869, 917, 1005, 1041, 1109, 1145, 1213, 1293, 1373, 1453, 1513, 1609, 1653, 1697, 1815, 1883, 1951, 1974, 2058, 2106, 2186, 2278, 2326, 2386, 2434, 2526, 2586, 2654, 2734, 2747, 2827, 2907, 2975, 3031, 3086, 3130, 3174] (v6 &&& (63 : Int32)) = 717 := by
        rw [hc148]; decide +kernel
      refine ps_at_eq eT ?_
      exact ps_weak (pjL_law_717_23 h hh he hr) ⟨rfl, rfl, rfl, rfl, rfl, trivial⟩
    replace h := q_ifn hc148 h
    by_cases hc162 : (v6 &&& (63 : Int32)) = 9
    · replace h := q_ifp hc162 h
      have eT : ps_tsel 40 3199 0 47 #[208, 312, 368, 393, 441, 521, 557, 617, 677, 725, 785, 869, 917, 1005, 1041, 1109, 1145, 1213, 1293, 1373, 1453, 1513, 1609, 1653, 1697, 1815, 1883, 1951, 1974, 2058, 2106, 2186, 2278, 2326, 2386, 2434, 2526, 2586, 2654, 2734, 2747, 2827, 2907, 2975, 3031, 3086, 3130, 3174] (v6 &&& (63 : Int32)) = 765 := by
        rw [hc162]; decide +kernel
      refine ps_at_eq eT ?_
      exact ps_weak (pjL_law_765_23 h hh he hr) ⟨rfl, rfl, rfl, rfl, rfl, trivial⟩
    replace h := q_ifn hc162 h
    by_cases hc178 : (v6 &&& (63 : Int32)) = 10
    · replace h := q_ifp hc178 h
      have eT : ps_tsel 40 3199 0 47 #[208, 312, 368, 393, 441, 521, 557, 617, 677, 725, 785, 869, 917, 1005, 1041, 1109, 1145, 1213, 1293, 1373, 1453, 1513, 1609, 1653, 1697, 1815, 1883, 1951, 1974, 2058, 2106, 2186, 2278, 2326, 2386, 2434, 2526, 2586, 2654, 2734, 2747, 2827, 2907, 2975, 3031, 3086, 3130, 3174] (v6 &&& (63 : Int32)) = 825 := by
        rw [hc178]; decide +kernel
      refine ps_at_eq eT ?_
      exact ps_weak (pjL_law_825_23 h hh he hr) ⟨rfl, rfl, rfl, rfl, rfl, trivial⟩
    replace h := q_ifn hc178 h
    by_cases hc198 : (v6 &&& (63 : Int32)) = 11
    · replace h := q_ifp hc198 h
      have eT : ps_tsel 40 3199 0 47 #[208, 312, 368, 393, 441, 521, 557, 617, 677, 725, 785, 869, 917, 1005, 1041, 1109, 1145, 1213, 1293, 1373, 1453, 1513, 1609, 1653, 1697, 1815, 1883, 1951, 1974, 2058, 2106, 2186, 2278, 2326, 2386, 2434, 2526, 2586, 2654, 2734, 2747, 2827, 2907, 2975, 3031, 3086, 3130, 3174] (v6 &&& (63 : Int32)) = 909 := by
        rw [hc198]; decide +kernel
      refine ps_at_eq eT ?_
      exact ps_weak (pjL_law_909_23 h hh he hr) ⟨rfl, rfl, rfl, rfl, rfl, trivial⟩
    replace h := q_ifn hc198 h
    by_cases hc212 : (v6 &&& (63 : Int32)) = 12
    · replace h := q_ifp hc212 h
      have eT : ps_tsel 40 3199 0 47 #[208, 312, 368, 393, 441, 521, 557, 617, 677, 725, 785, 869, 917, 1005, 1041, 1109, 1145, 1213, 1293, 1373, 1453, 1513, 1609, 1653, 1697, 1815, 1883, 1951, 1974, 2058, 2106, 2186, 2278, 2326, 2386, 2434, 2526, 2586, 2654, 2734, 2747, 2827, 2907, 2975, 3031, 3086, 3130, 3174] (v6 &&& (63 : Int32)) = 957 := by
        rw [hc212]; decide +kernel
      refine ps_at_eq eT ?_
      exact ps_weak (pjL_law_957_23 h hh he hr) ⟨rfl, rfl, rfl, rfl, rfl, trivial⟩
    replace h := q_ifn hc212 h
    by_cases hc236 : (v6 &&& (63 : Int32)) = 13
    · replace h := q_ifp hc236 h
      have eT : ps_tsel 40 3199 0 47 #[208, 312, 368, 393, 441, 521, 557, 617, 677, 725, 785, 869, 917, 1005, 1041, 1109, 1145, 1213, 1293, 1373, 1453, 1513, 1609, 1653, 1697, 1815, 1883, 1951, 1974, 2058, 2106, 2186, 2278, 2326, 2386, 2434, 2526, 2586, 2654, 2734, 2747, 2827, 2907, 2975, 3031, 3086, 3130, 3174] (v6 &&& (63 : Int32)) = 1045 := by
        rw [hc236]; decide +kernel
      refine ps_at_eq eT ?_
      exact ps_weak (pjL_law_1045_23 h hh he hr) ⟨rfl, rfl, rfl, rfl, rfl, trivial⟩
    replace h := q_ifn hc236 h
    by_cases hc248 : (v6 &&& (63 : Int32)) = 14
    · replace h := q_ifp hc248 h
      have eT : ps_tsel 40 3199 0 47 #[208, 312, 368, 393, 441, 521, 557, 617, 677, 725, 785, 869, 917, 1005, 1041, 1109, 1145, 1213, 1293, 1373, 1453, 1513, 1609, 1653, 1697, 1815, 1883, 1951, 1974, 2058, 2106, 2186, 2278, 2326, 2386, 2434, 2526, 2586, 2654, 2734, 2747, 2827, 2907, 2975, 3031, 3086, 3130, 3174] (v6 &&& (63 : Int32)) = 1081 := by
        rw [hc248]; decide +kernel
      refine ps_at_eq eT ?_
      exact ps_weak (pjL_law_1081_23 h hh he hr) ⟨rfl, rfl, rfl, rfl, rfl, trivial⟩
    replace h := q_ifn hc248 h
    by_cases hc270 : (v6 &&& (63 : Int32)) = 15
    · replace h := q_ifp hc270 h
      have eT : ps_tsel 40 3199 0 47 #[208, 312, 368, 393, 441, 521, 557, 617, 677, 725, 785, 869, 917, 1005, 1041, 1109, 1145, 1213, 1293, 1373, 1453, 1513, 1609, 1653, 1697, 1815, 1883, 1951, 1974, 2058, 2106, 2186, 2278, 2326, 2386, 2434, 2526, 2586, 2654, 2734, 2747, 2827, 2907, 2975, 3031, 3086, 3130, 3174] (v6 &&& (63 : Int32)) = 1149 := by
        rw [hc270]; decide +kernel
      refine ps_at_eq eT ?_
      exact ps_weak (pjL_law_1149_23 h hh he hr) ⟨rfl, rfl, rfl, rfl, rfl, trivial⟩
    replace h := q_ifn hc270 h
    by_cases hc282 : (v6 &&& (63 : Int32)) = 16
    · replace h := q_ifp hc282 h
      have eT : ps_tsel 40 3199 0 47 #[208, 312, 368, 393, 441, 521, 557, 617, 677, 725, 785, 869, 917, 1005, 1041, 1109, 1145, 1213, 1293, 1373, 1453, 1513, 1609, 1653, 1697, 1815, 1883, 1951, 1974, 2058, 2106, 2186, 2278, 2326, 2386, 2434, 2526, 2586, 2654, 2734, 2747, 2827, 2907, 2975, 3031, 3086, 3130, 3174] (v6 &&& (63 : Int32)) = 1185 := by
        rw [hc282]; decide +kernel
      refine ps_at_eq eT ?_
      exact ps_weak (pjL_law_1185_23 h hh he hr) ⟨rfl, rfl, rfl, rfl, rfl, trivial⟩
    replace h := q_ifn hc282 h
    by_cases hc304 : (v6 &&& (63 : Int32)) = 17
    · replace h := q_ifp hc304 h
      have eT : ps_tsel 40 3199 0 47 #[208, 312, 368, 393, 441, 521, 557, 617, 677, 725, 785, 869, 917, 1005, 1041, 1109, 1145, 1213, 1293, 1373, 1453, 1513, 1609, 1653, 1697, 1815, 1883, 1951, 1974, 2058, 2106, 2186, 2278, 2326, 2386, 2434, 2526, 2586, 2654, 2734, 2747, 2827, 2907, 2975, 3031, 3086, 3130, 3174] (v6 &&& (63 : Int32)) = 1253 := by
        rw [hc304]; decide +kernel
      refine ps_at_eq eT ?_
      exact ps_weak (pjL_law_1253_23 h hh he hr) ⟨rfl, rfl, rfl, rfl, rfl, trivial⟩
    replace h := q_ifn hc304 h
    by_cases hc328 : (v6 &&& (63 : Int32)) = 18
    · replace h := q_ifp hc328 h
      have eT : ps_tsel 40 3199 0 47 #[208, 312, 368, 393, 441, 521, 557, 617, 677, 725, 785, 869, 917, 1005, 1041, 1109, 1145, 1213, 1293, 1373, 1453, 1513, 1609, 1653, 1697, 1815, 1883, 1951, 1974, 2058, 2106, 2186, 2278, 2326, 2386, 2434, 2526, 2586, 2654, 2734, 2747, 2827, 2907, 2975, 3031, 3086, 3130, 3174] (v6 &&& (63 : Int32)) = 1333 := by
        rw [hc328]; decide +kernel
      refine ps_at_eq eT ?_
      exact ps_weak (pjL_law_1333_23 h hh he hr) ⟨rfl, rfl, rfl, rfl, rfl, trivial⟩
    replace h := q_ifn hc328 h
    by_cases hc352 : (v6 &&& (63 : Int32)) = 19
    · replace h := q_ifp hc352 h
      have eT : ps_tsel 40 3199 0 47 #[208, 312, 368, 393, 441, 521, 557, 617, 677, 725, 785, 869, 917, 1005, 1041, 1109, 1145, 1213, 1293, 1373, 1453, 1513, 1609, 1653, 1697, 1815, 1883, 1951, 1974, 2058, 2106, 2186, 2278, 2326, 2386, 2434, 2526, 2586, 2654, 2734, 2747, 2827, 2907, 2975, 3031, 3086, 3130, 3174] (v6 &&& (63 : Int32)) = 1413 := by
        rw [hc352]; decide +kernel
      refine ps_at_eq eT ?_
      exact ps_weak (pjL_law_1413_23 h hh he hr) ⟨rfl, rfl, rfl, rfl, rfl, trivial⟩
    replace h := q_ifn hc352 h
    by_cases hc376 : (v6 &&& (63 : Int32)) = 20
    · replace h := q_ifp hc376 h
      have eT : ps_tsel 40 3199 0 47 #[208, 312, 368, 393, 441, 521, 557, 617, 677, 725, 785, 869, 917, 1005, 1041, 1109, 1145, 1213, 1293, 1373, 1453, 1513, 1609, 1653, 1697, 1815, 1883, 1951, 1974, 2058, 2106, 2186, 2278, 2326, 2386, 2434, 2526, 2586, 2654, 2734, 2747, 2827, 2907, 2975, 3031, 3086, 3130, 3174] (v6 &&& (63 : Int32)) = 1493 := by
        rw [hc376]; decide +kernel
      refine ps_at_eq eT ?_
      exact ps_weak (pjL_law_1493_23 h hh he hr) ⟨rfl, rfl, rfl, rfl, rfl, trivial⟩
    replace h := q_ifn hc376 h
    by_cases hc392 : (v6 &&& (63 : Int32)) = 21
    · replace h := q_ifp hc392 h
      have eT : ps_tsel 40 3199 0 47 #[208, 312, 368, 393, 441, 521, 557, 617, 677, 725, 785, 869, 917, 1005, 1041, 1109, 1145, 1213, 1293, 1373, 1453, 1513, 1609, 1653, 1697, 1815, 1883, 1951, 1974, 2058, 2106, 2186, 2278, 2326, 2386, 2434, 2526, 2586, 2654, 2734, 2747, 2827, 2907, 2975, 3031, 3086, 3130, 3174] (v6 &&& (63 : Int32)) = 1553 := by
        rw [hc392]; decide +kernel
      refine ps_at_eq eT ?_
      exact ps_weak (pjL_law_1553_23 h hh he hr) ⟨rfl, rfl, rfl, rfl, rfl, trivial⟩
    replace h := q_ifn hc392 h
    by_cases hc422 : (v6 &&& (63 : Int32)) = 22
    · replace h := q_ifp hc422 h
      have eT : ps_tsel 40 3199 0 47 #[208, 312, 368, 393, 441, 521, 557, 617, 677, 725, 785, 869, 917, 1005, 1041, 1109, 1145, 1213, 1293, 1373, 1453, 1513, 1609, 1653, 1697, 1815, 1883, 1951, 1974, 2058, 2106, 2186, 2278, 2326, 2386, 2434, 2526, 2586, 2654, 2734, 2747, 2827, 2907, 2975, 3031, 3086, 3130, 3174] (v6 &&& (63 : Int32)) = 1649 := by
        rw [hc422]; decide +kernel
      refine ps_at_eq eT ?_
      exact ps_weak (pjL_law_1649_23 h hh he hr) ⟨rfl, rfl, rfl, rfl, rfl, trivial⟩
    replace h := q_ifn hc422 h
    by_cases hc440 : (v6 &&& (63 : Int32)) = 23
    · replace h := q_ifp hc440 h
      have eT : ps_tsel 40 3199 0 47 #[208, 312, 368, 393, 441, 521, 557, 617, 677, 725, 785, 869, 917, 1005, 1041, 1109, 1145, 1213, 1293, 1373, 1453, 1513, 1609, 1653, 1697, 1815, 1883, 1951, 1974, 2058, 2106, 2186, 2278, 2326, 2386, 2434, 2526, 2586, 2654, 2734, 2747, 2827, 2907, 2975, 3031, 3086, 3130, 3174] (v6 &&& (63 : Int32)) = 1693 := by
        rw [hc440]; decide +kernel
      refine ps_at_eq eT ?_
      exact ps_weak (pjL_law_1693_23 h hh he hr) ⟨rfl, rfl, rfl, rfl, rfl, trivial⟩
    replace h := q_ifn hc440 h
    by_cases hc458 : (v6 &&& (63 : Int32)) = 24
    · replace h := q_ifp hc458 h
      have eT : ps_tsel 40 3199 0 47 #[208, 312, 368, 393, 441, 521, 557, 617, 677, 725, 785, 869, 917, 1005, 1041, 1109, 1145, 1213, 1293, 1373, 1453, 1513, 1609, 1653, 1697, 1815, 1883, 1951, 1974, 2058, 2106, 2186, 2278, 2326, 2386, 2434, 2526, 2586, 2654, 2734, 2747, 2827, 2907, 2975, 3031, 3086, 3130, 3174] (v6 &&& (63 : Int32)) = 1737 := by
        rw [hc458]; decide +kernel
      refine ps_at_eq eT ?_
      exact ps_weak (pjL_law_1737_23 h hh he hr) ⟨rfl, rfl, rfl, rfl, rfl, trivial⟩
    replace h := q_ifn hc458 h
    by_cases hc488 : (v6 &&& (63 : Int32)) = 25
    · replace h := q_ifp hc488 h
      have eT : ps_tsel 40 3199 0 47 #[208, 312, 368, 393, 441, 521, 557, 617, 677, 725, 785, 869, 917, 1005, 1041, 1109, 1145, 1213, 1293, 1373, 1453, 1513, 1609, 1653, 1697, 1815, 1883, 1951, 1974, 2058, 2106, 2186, 2278, 2326, 2386, 2434, 2526, 2586, 2654, 2734, 2747, 2827, 2907, 2975, 3031, 3086, 3130, 3174] (v6 &&& (63 : Int32)) = 1855 := by
        rw [hc488]; decide +kernel
      refine ps_at_eq eT ?_
      exact ps_weak (pjL_law_1855_23 h hh he hr) ⟨rfl, rfl, rfl, rfl, rfl, trivial⟩
    replace h := q_ifn hc488 h
    by_cases hc510 : (v6 &&& (63 : Int32)) = 26
    · replace h := q_ifp hc510 h
      have eT : ps_tsel 40 3199 0 47 #[208, 312, 368, 393, 441, 521, 557, 617, 677, 725, 785, 869, 917, 1005, 1041, 1109, 1145, 1213, 1293, 1373, 1453, 1513, 1609, 1653, 1697, 1815, 1883, 1951, 1974, 2058, 2106, 2186, 2278, 2326, 2386, 2434, 2526, 2586, 2654, 2734, 2747, 2827, 2907, 2975, 3031, 3086, 3130, 3174] (v6 &&& (63 : Int32)) = 1923 := by
        rw [hc510]; decide +kernel
      refine ps_at_eq eT ?_
      exact ps_weak (pjL_law_1923_23 h hh he hr) ⟨rfl, rfl, rfl, rfl, rfl, trivial⟩
    replace h := q_ifn hc510 h
    by_cases hc532 : (v6 &&& (63 : Int32)) = 27
    · replace h := q_ifp hc532 h
      have eT : ps_tsel 40 3199 0 47 #[208, 312, 368, 393, 441, 521, 557, 617, 677, 725, 785, 869, 917, 1005, 1041, 1109, 1145, 1213, 1293, 1373, 1453, 1513, 1609, 1653, 1697, 1815, 1883, 1951, 1974, 2058, 2106, 2186, 2278, 2326, 2386, 2434, 2526, 2586, 2654, 2734, 2747, 2827, 2907, 2975, 3031, 3086, 3130, 3174] (v6 &&& (63 : Int32)) = 1991 := by
        rw [hc532]; decide +kernel
      refine ps_at_eq eT ?_
      exact ps_weak (pjL_law_1991_23 h hh he hr) ⟨rfl, rfl, rfl, rfl, rfl, trivial⟩
    replace h := q_ifn hc532 h
    by_cases hc539 : (v6 &&& (63 : Int32)) = 28
    · replace h := q_ifp hc539 h
      have eT : ps_tsel 40 3199 0 47 #[208, 312, 368, 393, 441, 521, 557, 617, 677, 725, 785, 869, 917, 1005, 1041, 1109, 1145, 1213, 1293, 1373, 1453, 1513, 1609, 1653, 1697, 1815, 1883, 1951, 1974, 2058, 2106, 2186, 2278, 2326, 2386, 2434, 2526, 2586, 2654, 2734, 2747, 2827, 2907, 2975, 3031, 3086, 3130, 3174] (v6 &&& (63 : Int32)) = 2014 := by
        rw [hc539]; decide +kernel
      refine ps_at_eq eT ?_
      exact ps_weak (pjL_law_2014_23 h hh he hr) ⟨rfl, rfl, rfl, rfl, rfl, trivial⟩
    replace h := q_ifn hc539 h
    by_cases hc559 : (v6 &&& (63 : Int32)) = 29
    · replace h := q_ifp hc559 h
      have eT : ps_tsel 40 3199 0 47 #[208, 312, 368, 393, 441, 521, 557, 617, 677, 725, 785, 869, 917, 1005, 1041, 1109, 1145, 1213, 1293, 1373, 1453, 1513, 1609, 1653, 1697, 1815, 1883, 1951, 1974, 2058, 2106, 2186, 2278, 2326, 2386, 2434, 2526, 2586, 2654, 2734, 2747, 2827, 2907, 2975, 3031, 3086, 3130, 3174] (v6 &&& (63 : Int32)) = 2098 := by
        rw [hc559]; decide +kernel
      refine ps_at_eq eT ?_
      exact ps_weak (pjL_law_2098_23 h hh he hr) ⟨rfl, rfl, rfl, rfl, rfl, trivial⟩
    replace h := q_ifn hc559 h
    by_cases hc573 : (v6 &&& (63 : Int32)) = 30
    · replace h := q_ifp hc573 h
      have eT : ps_tsel 40 3199 0 47 #[208, 312, 368, 393, 441, 521, 557, 617, 677, 725, 785, 869, 917, 1005, 1041, 1109, 1145, 1213, 1293, 1373, 1453, 1513, 1609, 1653, 1697, 1815, 1883, 1951, 1974, 2058, 2106, 2186, 2278, 2326, 2386, 2434, 2526, 2586, 2654, 2734, 2747, 2827, 2907, 2975, 3031, 3086, 3130, 3174] (v6 &&& (63 : Int32)) = 2146 := by
        rw [hc573]; decide +kernel
      refine ps_at_eq eT ?_
      exact ps_weak (pjL_law_2146_23 h hh he hr) ⟨rfl, rfl, rfl, rfl, rfl, trivial⟩
    replace h := q_ifn hc573 h
    by_cases hc597 : (v6 &&& (63 : Int32)) = 31
    · replace h := q_ifp hc597 h
      have eT : ps_tsel 40 3199 0 47 #[208, 312, 368, 393, 441, 521, 557, 617, 677, 725, 785, 869, 917, 1005, 1041, 1109, 1145, 1213, 1293, 1373, 1453, 1513, 1609, 1653, 1697, 1815, 1883, 1951, 1974, 2058, 2106, 2186, 2278, 2326, 2386, 2434, 2526, 2586, 2654, 2734, 2747, 2827, 2907, 2975, 3031, 3086, 3130, 3174] (v6 &&& (63 : Int32)) = 2226 := by
        rw [hc597]; decide +kernel
      refine ps_at_eq eT ?_
      exact ps_weak (pjL_law_2226_23 h hh he hr) ⟨rfl, rfl, rfl, rfl, rfl, trivial⟩
    replace h := q_ifn hc597 h
    by_cases hc623 : (v6 &&& (63 : Int32)) = 32
    · replace h := q_ifp hc623 h
      have eT : ps_tsel 40 3199 0 47 #[208, 312, 368, 393, 441, 521, 557, 617, 677, 725, 785, 869, 917, 1005, 1041, 1109, 1145, 1213, 1293, 1373, 1453, 1513, 1609, 1653, 1697, 1815, 1883, 1951, 1974, 2058, 2106, 2186, 2278, 2326, 2386, 2434, 2526, 2586, 2654, 2734, 2747, 2827, 2907, 2975, 3031, 3086, 3130, 3174] (v6 &&& (63 : Int32)) = 2318 := by
        rw [hc623]; decide +kernel
      refine ps_at_eq eT ?_
      exact ps_weak (pjL_law_2318_23 h hh he hr) ⟨rfl, rfl, rfl, rfl, rfl, trivial⟩
    replace h := q_ifn hc623 h
    by_cases hc637 : (v6 &&& (63 : Int32)) = 33
    · replace h := q_ifp hc637 h
      have eT : ps_tsel 40 3199 0 47 #[208, 312, 368, 393, 441, 521, 557, 617, 677, 725, 785, 869, 917, 1005, 1041, 1109, 1145, 1213, 1293, 1373, 1453, 1513, 1609, 1653, 1697, 1815, 1883, 1951, 1974, 2058, 2106, 2186, 2278, 2326, 2386, 2434, 2526, 2586, 2654, 2734, 2747, 2827, 2907, 2975, 3031, 3086, 3130, 3174] (v6 &&& (63 : Int32)) = 2366 := by
        rw [hc637]; decide +kernel
      refine ps_at_eq eT ?_
      exact ps_weak (pjL_law_2366_23 h hh he hr) ⟨rfl, rfl, rfl, rfl, rfl, trivial⟩
    replace h := q_ifn hc637 h
    by_cases hc653 : (v6 &&& (63 : Int32)) = 34
    · replace h := q_ifp hc653 h
      have eT : ps_tsel 40 3199 0 47 #[208, 312, 368, 393, 441, 521, 557, 617, 677, 725, 785, 869, 917, 1005, 1041, 1109, 1145, 1213, 1293, 1373, 1453, 1513, 1609, 1653, 1697, 1815, 1883, 1951, 1974, 2058, 2106, 2186, 2278, 2326, 2386, 2434, 2526, 2586, 2654, 2734, 2747, 2827, 2907, 2975, 3031, 3086, 3130, 3174] (v6 &&& (63 : Int32)) = 2426 := by
        rw [hc653]; decide +kernel
      refine ps_at_eq eT ?_
      exact ps_weak (pjL_law_2426_23 h hh he hr) ⟨rfl, rfl, rfl, rfl, rfl, trivial⟩
    replace h := q_ifn hc653 h
    by_cases hc667 : (v6 &&& (63 : Int32)) = 35
    · replace h := q_ifp hc667 h
      have eT : ps_tsel 40 3199 0 47 #[208, 312, 368, 393, 441, 521, 557, 617, 677, 725, 785, 869, 917, 1005, 1041, 1109, 1145, 1213, 1293, 1373, 1453, 1513, 1609, 1653, 1697, 1815, 1883, 1951, 1974, 2058, 2106, 2186, 2278, 2326, 2386, 2434, 2526, 2586, 2654, 2734, 2747, 2827, 2907, 2975, 3031, 3086, 3130, 3174] (v6 &&& (63 : Int32)) = 2474 := by
        rw [hc667]; decide +kernel
      refine ps_at_eq eT ?_
      exact ps_weak (pjL_law_2474_23 h hh he hr) ⟨rfl, rfl, rfl, rfl, rfl, trivial⟩
    replace h := q_ifn hc667 h
    by_cases hc693 : (v6 &&& (63 : Int32)) = 36
    · replace h := q_ifp hc693 h
      have eT : ps_tsel 40 3199 0 47 #[208, 312, 368, 393, 441, 521, 557, 617, 677, 725, 785, 869, 917, 1005, 1041, 1109, 1145, 1213, 1293, 1373, 1453, 1513, 1609, 1653, 1697, 1815, 1883, 1951, 1974, 2058, 2106, 2186, 2278, 2326, 2386, 2434, 2526, 2586, 2654, 2734, 2747, 2827, 2907, 2975, 3031, 3086, 3130, 3174] (v6 &&& (63 : Int32)) = 2566 := by
        rw [hc693]; decide +kernel
      refine ps_at_eq eT ?_
      exact ps_weak (pjL_law_2566_23 h hh he hr) ⟨rfl, rfl, rfl, rfl, rfl, trivial⟩
    replace h := q_ifn hc693 h
    by_cases hc709 : (v6 &&& (63 : Int32)) = 37
    · replace h := q_ifp hc709 h
      have eT : ps_tsel 40 3199 0 47 #[208, 312, 368, 393, 441, 521, 557, 617, 677, 725, 785, 869, 917, 1005, 1041, 1109, 1145, 1213, 1293, 1373, 1453, 1513, 1609, 1653, 1697, 1815, 1883, 1951, 1974, 2058, 2106, 2186, 2278, 2326, 2386, 2434, 2526, 2586, 2654, 2734, 2747, 2827, 2907, 2975, 3031, 3086, 3130, 3174] (v6 &&& (63 : Int32)) = 2626 := by
        rw [hc709]; decide +kernel
      refine ps_at_eq eT ?_
      exact ps_weak (pjL_law_2626_23 h hh he hr) ⟨rfl, rfl, rfl, rfl, rfl, trivial⟩
    replace h := q_ifn hc709 h
    by_cases hc731 : (v6 &&& (63 : Int32)) = 38
    · replace h := q_ifp hc731 h
      have eT : ps_tsel 40 3199 0 47 #[208, 312, 368, 393, 441, 521, 557, 617, 677, 725, 785, 869, 917, 1005, 1041, 1109, 1145, 1213, 1293, 1373, 1453, 1513, 1609, 1653, 1697, 1815, 1883, 1951, 1974, 2058, 2106, 2186, 2278, 2326, 2386, 2434, 2526, 2586, 2654, 2734, 2747, 2827, 2907, 2975, 3031, 3086, 3130, 3174] (v6 &&& (63 : Int32)) = 2694 := by
        rw [hc731]; decide +kernel
      refine ps_at_eq eT ?_
      exact ps_weak (pjL_law_2694_23 h hh he hr) ⟨rfl, rfl, rfl, rfl, rfl, trivial⟩
    replace h := q_ifn hc731 h
    by_cases hc755 : (v6 &&& (63 : Int32)) = 39
    · replace h := q_ifp hc755 h
      have eT : ps_tsel 40 3199 0 47 #[208, 312, 368, 393, 441, 521, 557, 617, 677, 725, 785, 869, 917, 1005, 1041, 1109, 1145, 1213, 1293, 1373, 1453, 1513, 1609, 1653, 1697, 1815, 1883, 1951, 1974, 2058, 2106, 2186, 2278, 2326, 2386, 2434, 2526, 2586, 2654, 2734, 2747, 2827, 2907, 2975, 3031, 3086, 3130, 3174] (v6 &&& (63 : Int32)) = 2774 := by
        rw [hc755]; decide +kernel
      refine ps_at_eq eT ?_
      exact ps_weak (pjL_law_2774_23 h hh he hr) ⟨rfl, rfl, rfl, rfl, rfl, trivial⟩
    replace h := q_ifn hc755 h
    by_cases hc765 : (v6 &&& (63 : Int32)) = 40
    · replace h := q_ifp hc765 h
      have eT : ps_tsel 40 3199 0 47 #[208, 312, 368, 393, 441, 521, 557, 617, 677, 725, 785, 869, 917, 1005, 1041, 1109, 1145, 1213, 1293, 1373, 1453, 1513, 1609, 1653, 1697, 1815, 1883, 1951, 1974, 2058, 2106, 2186, 2278, 2326, 2386, 2434, 2526, 2586, 2654, 2734, 2747, 2827, 2907, 2975, 3031, 3086, 3130, 3174] (v6 &&& (63 : Int32)) = 2787 := by
        rw [hc765]; decide +kernel
      refine ps_at_eq eT ?_
      exact ps_weak (pjL_law_2787_23 h hh he hr) ⟨rfl, rfl, rfl, rfl, rfl, trivial⟩
    replace h := q_ifn hc765 h
    by_cases hc789 : (v6 &&& (63 : Int32)) = 41
    · replace h := q_ifp hc789 h
      have eT : ps_tsel 40 3199 0 47 #[208, 312, 368, 393, 441, 521, 557, 617, 677, 725, 785, 869, 917, 1005, 1041, 1109, 1145, 1213, 1293, 1373, 1453, 1513, 1609, 1653, 1697, 1815, 1883, 1951, 1974, 2058, 2106, 2186, 2278, 2326, 2386, 2434, 2526, 2586, 2654, 2734, 2747, 2827, 2907, 2975, 3031, 3086, 3130, 3174] (v6 &&& (63 : Int32)) = 2867 := by
        rw [hc789]; decide +kernel
      refine ps_at_eq eT ?_
      exact ps_weak (pjL_law_2867_23 h hh he hr) ⟨rfl, rfl, rfl, rfl, rfl, trivial⟩
    replace h := q_ifn hc789 h
    by_cases hc813 : (v6 &&& (63 : Int32)) = 42
    · replace h := q_ifp hc813 h
      have eT : ps_tsel 40 3199 0 47 #[208, 312, 368, 393, 441, 521, 557, 617, 677, 725, 785, 869, 917, 1005, 1041, 1109, 1145, 1213, 1293, 1373, 1453, 1513, 1609, 1653, 1697, 1815, 1883, 1951, 1974, 2058, 2106, 2186, 2278, 2326, 2386, 2434, 2526, 2586, 2654, 2734, 2747, 2827, 2907, 2975, 3031, 3086, 3130, 3174] (v6 &&& (63 : Int32)) = 2947 := by
        rw [hc813]; decide +kernel
      refine ps_at_eq eT ?_
      exact ps_weak (pjL_law_2947_23 h hh he hr) ⟨rfl, rfl, rfl, rfl, rfl, trivial⟩
    replace h := q_ifn hc813 h
    by_cases hc835 : (v6 &&& (63 : Int32)) = 43
    · replace h := q_ifp hc835 h
      have eT : ps_tsel 40 3199 0 47 #[208, 312, 368, 393, 441, 521, 557, 617, 677, 725, 785, 869, 917, 1005, 1041, 1109, 1145, 1213, 1293, 1373, 1453, 1513, 1609, 1653, 1697, 1815, 1883, 1951, 1974, 2058, 2106, 2186, 2278, 2326, 2386, 2434, 2526, 2586, 2654, 2734, 2747, 2827, 2907, 2975, 3031, 3086, 3130, 3174] (v6 &&& (63 : Int32)) = 3015 := by
        rw [hc835]; decide +kernel
      refine ps_at_eq eT ?_
      exact ps_weak (pjL_law_3015_23 h hh he hr) ⟨rfl, rfl, rfl, rfl, rfl, trivial⟩
    replace h := q_ifn hc835 h
    by_cases hc855 : (v6 &&& (63 : Int32)) = 44
    · replace h := q_ifp hc855 h
      have eT : ps_tsel 40 3199 0 47 #[208, 312, 368, 393, 441, 521, 557, 617, 677, 725, 785, 869, 917, 1005, 1041, 1109, 1145, 1213, 1293, 1373, 1453, 1513, 1609, 1653, 1697, 1815, 1883, 1951, 1974, 2058, 2106, 2186, 2278, 2326, 2386, 2434, 2526, 2586, 2654, 2734, 2747, 2827, 2907, 2975, 3031, 3086, 3130, 3174] (v6 &&& (63 : Int32)) = 3071 := by
        rw [hc855]; decide +kernel
      refine ps_at_eq eT ?_
      exact ps_weak (pjL_law_3071_23 h hh he hr) ⟨rfl, rfl, rfl, rfl, rfl, trivial⟩
    replace h := q_ifn hc855 h
    by_cases hc875 : (v6 &&& (63 : Int32)) = 45
    · replace h := q_ifp hc875 h
      have eT : ps_tsel 40 3199 0 47 #[208, 312, 368, 393, 441, 521, 557, 617, 677, 725, 785, 869, 917, 1005, 1041, 1109, 1145, 1213, 1293, 1373, 1453, 1513, 1609, 1653, 1697, 1815, 1883, 1951, 1974, 2058, 2106, 2186, 2278, 2326, 2386, 2434, 2526, 2586, 2654, 2734, 2747, 2827, 2907, 2975, 3031, 3086, 3130, 3174] (v6 &&& (63 : Int32)) = 3126 := by
        rw [hc875]; decide +kernel
      refine ps_at_eq eT ?_
      exact ps_weak (pjL_law_3126_23 h hh he hr) ⟨rfl, rfl, rfl, rfl, rfl, trivial⟩
    replace h := q_ifn hc875 h
    by_cases hc893 : (v6 &&& (63 : Int32)) = 46
    · replace h := q_ifp hc893 h
      have eT : ps_tsel 40 3199 0 47 #[208, 312, 368, 393, 441, 521, 557, 617, 677, 725, 785, 869, 917, 1005, 1041, 1109, 1145, 1213, 1293, 1373, 1453, 1513, 1609, 1653, 1697, 1815, 1883, 1951, 1974, 2058, 2106, 2186, 2278, 2326, 2386, 2434, 2526, 2586, 2654, 2734, 2747, 2827, 2907, 2975, 3031, 3086, 3130, 3174] (v6 &&& (63 : Int32)) = 3170 := by
        rw [hc893]; decide +kernel
      refine ps_at_eq eT ?_
      exact ps_weak (pjL_law_3170_23 h hh he hr) ⟨rfl, rfl, rfl, rfl, rfl, trivial⟩
    replace h := q_ifn hc893 h
    by_cases hc911 : (v6 &&& (63 : Int32)) = 47
    · replace h := q_ifp hc911 h
      have eT : ps_tsel 40 3199 0 47 #[208, 312, 368, 393, 441, 521, 557, 617, 677, 725, 785, 869, 917, 1005, 1041, 1109, 1145, 1213, 1293, 1373, 1453, 1513, 1609, 1653, 1697, 1815, 1883, 1951, 1974, 2058, 2106, 2186, 2278, 2326, 2386, 2434, 2526, 2586, 2654, 2734, 2747, 2827, 2907, 2975, 3031, 3086, 3130, 3174] (v6 &&& (63 : Int32)) = 3214 := by
        rw [hc911]; decide +kernel
      refine ps_at_eq eT ?_
      exact ps_weak (pjL_law_3214_23 h hh he hr) ⟨rfl, rfl, rfl, rfl, rfl, trivial⟩
    replace h := q_ifn hc911 h
    have eD : ps_tsel 40 3199 0 47 #[208, 312, 368, 393, 441, 521, 557, 617, 677, 725, 785, 869, 917, 1005, 1041, 1109, 1145, 1213, 1293, 1373, 1453, 1513, 1609, 1653, 1697, 1815, 1883, 1951, 1974, 2058, 2106, 2186, 2278, 2326, 2386, 2434, 2526, 2586, 2654, 2734, 2747, 2827, 2907, 2975, 3031, 3086, 3130, 3174] (v6 &&& (63 : Int32)) = 3239 := by
      refine q_tsd (by decide +kernel) (fun z h1 h2 => ?_)
      have hz : z = 0 ∨ z = 1 ∨ z = 2 ∨ z = 3 ∨ z = 4 ∨ z = 5 ∨ z = 6 ∨ z = 7 ∨ z = 8 ∨ z = 9 ∨ z = 10 ∨ z = 11 ∨ z = 12 ∨ z = 13 ∨ z = 14 ∨ z = 15 ∨ z = 16 ∨ z = 17 ∨ z = 18 ∨ z = 19 ∨ z = 20 ∨ z = 21 ∨ z = 22 ∨ z = 23 ∨ z = 24 ∨ z = 25 ∨ z = 26 ∨ z = 27 ∨ z = 28 ∨ z = 29 ∨ z = 30 ∨ z = 31 ∨ z = 32 ∨ z = 33 ∨ z = 34 ∨ z = 35 ∨ z = 36 ∨ z = 37 ∨ z = 38 ∨ z = 39 ∨ z = 40 ∨ z = 41 ∨ z = 42 ∨ z = 43 ∨ z = 44 ∨ z = 45 ∨ z = 46 ∨ z = 47 := by omega
      rcases hz with rfl | rfl | rfl | rfl | rfl | rfl | rfl | rfl | rfl | rfl | rfl | rfl | rfl | rfl | rfl | rfl | rfl | rfl | rfl | rfl | rfl | rfl | rfl | rfl | rfl | rfl | rfl | rfl | rfl | rfl | rfl | rfl | rfl | rfl | rfl | rfl | rfl | rfl | rfl | rfl | rfl | rfl | rfl | rfl | rfl | rfl | rfl | rfl
      · exact Or.inl (q_tsx (v := 0) (fun z => hc7 z))
      · exact Or.inl (q_tsx (v := 1) (fun z => hc35 z))
      · exact Or.inl (q_tsx (v := 2) (fun z => hc55 z))
      · exact Or.inl (q_tsx (v := 3) (fun z => hc66 z))
      · exact Or.inl (q_tsx (v := 4) (fun z => hc80 z))
      · exact Or.inl (q_tsx (v := 5) (fun z => hc104 z))
      · exact Or.inl (q_tsx (v := 6) (fun z => hc116 z))
      · exact Or.inl (q_tsx (v := 7) (fun z => hc132 z))
      · exact Or.inl (q_tsx (v := 8) (fun z => hc148 z))
      · exact Or.inl (q_tsx (v := 9) (fun z => hc162 z))
      · exact Or.inl (q_tsx (v := 10) (fun z => hc178 z))
      · exact Or.inl (q_tsx (v := 11) (fun z => hc198 z))
      · exact Or.inl (q_tsx (v := 12) (fun z => hc212 z))
      · exact Or.inl (q_tsx (v := 13) (fun z => hc236 z))
      · exact Or.inl (q_tsx (v := 14) (fun z => hc248 z))
      · exact Or.inl (q_tsx (v := 15) (fun z => hc270 z))
      · exact Or.inl (q_tsx (v := 16) (fun z => hc282 z))
      · exact Or.inl (q_tsx (v := 17) (fun z => hc304 z))
      · exact Or.inl (q_tsx (v := 18) (fun z => hc328 z))
      · exact Or.inl (q_tsx (v := 19) (fun z => hc352 z))
      · exact Or.inl (q_tsx (v := 20) (fun z => hc376 z))
      · exact Or.inl (q_tsx (v := 21) (fun z => hc392 z))
      · exact Or.inl (q_tsx (v := 22) (fun z => hc422 z))
      · exact Or.inl (q_tsx (v := 23) (fun z => hc440 z))
      · exact Or.inl (q_tsx (v := 24) (fun z => hc458 z))
      · exact Or.inl (q_tsx (v := 25) (fun z => hc488 z))
      · exact Or.inl (q_tsx (v := 26) (fun z => hc510 z))
      · exact Or.inl (q_tsx (v := 27) (fun z => hc532 z))
      · exact Or.inl (q_tsx (v := 28) (fun z => hc539 z))
      · exact Or.inl (q_tsx (v := 29) (fun z => hc559 z))
      · exact Or.inl (q_tsx (v := 30) (fun z => hc573 z))
      · exact Or.inl (q_tsx (v := 31) (fun z => hc597 z))
      · exact Or.inl (q_tsx (v := 32) (fun z => hc623 z))
      · exact Or.inl (q_tsx (v := 33) (fun z => hc637 z))
      · exact Or.inl (q_tsx (v := 34) (fun z => hc653 z))
      · exact Or.inl (q_tsx (v := 35) (fun z => hc667 z))
      · exact Or.inl (q_tsx (v := 36) (fun z => hc693 z))
      · exact Or.inl (q_tsx (v := 37) (fun z => hc709 z))
      · exact Or.inl (q_tsx (v := 38) (fun z => hc731 z))
      · exact Or.inl (q_tsx (v := 39) (fun z => hc755 z))
      · exact Or.inl (q_tsx (v := 40) (fun z => hc765 z))
      · exact Or.inl (q_tsx (v := 41) (fun z => hc789 z))
      · exact Or.inl (q_tsx (v := 42) (fun z => hc813 z))
      · exact Or.inl (q_tsx (v := 43) (fun z => hc835 z))
      · exact Or.inl (q_tsx (v := 44) (fun z => hc855 z))
      · exact Or.inl (q_tsx (v := 45) (fun z => hc875 z))
      · exact Or.inl (q_tsx (v := 46) (fun z => hc893 z))
      · exact Or.inl (q_tsx (v := 47) (fun z => hc911 z))
    refine ps_at_eq eD ?_
    exact ps_weak (pjL_law_3239_23 h hh he hr) ⟨rfl, rfl, rfl, rfl, rfl, trivial⟩
noncomputable def fL_law (g : ps_G) (x0 : Nat) : Option (Int32 × ps_G) := Option.bind (fX11_init (q_new 11 g) g.1) fun v1 => Option.bind (fX12_init (q_new 12 v1) v1.1) fun v2 => Option.bind (q_nA .long v2 (1 : Int32)) fun g3 => Option.bind (q_lp (fun s => bL_law_23 x0 g.1 v1.1 v2.1 s.1 s.2) ((0 : Int32), g3)) fun s924 => Sum.elim (fun r925 => some ((1 : Int32), r925)) (fun v926 => some v926) s924
theorem rL_law {d : Nat} {Q : ps_Rs → ps_G → Prop} {g : ps_G} {x0 : Nat} {r : Int32 × ps_G} (h : fL_law g x0 = some r) (hk : Q (.inl (some (.int r.1))) r.2) : ps_Ok mL_law (d + 105) [.ref x0] g Q := by
  unfold fL_law at h
  refine sL_law_0 ?_
  replace h := q_be h
  obtain ⟨v1, hv, h⟩ := h
  refine ⟨rfl, ?_⟩
  refine rX11_init hv ?_
  replace h := q_be h
  obtain ⟨v2, hv, h⟩ := h
  refine ⟨some _, _, rfl, by decide, rfl, ?_⟩
  refine rX12_init hv ?_
  replace h := q_be h
  obtain ⟨g3, hv, h⟩ := h
  replace hv := q_nA_e hv
  obtain ⟨ag3, bg3, yg3⟩ := hv
  refine ⟨some _, _, rfl, by decide, Or.inr (Or.inl rfl), ag3, bg3, _, yg3, some _, _, rfl, by decide, by decide, ?_⟩
  replace h := q_be h
  obtain ⟨s924, hl, h⟩ := h
  refine ps_weak (q_lp_ok hl (fun s => ps_At mL_law (d + 105) 23 [(0, .ref x0), (1, .ref g.1), (2, .ref v1.1), (3, .ref v2.1), (4, .int s.1)] [] s.2 Q) (Sum.elim (fun r => ps_At mL_law (d + 105) 3245 [] [] r Q) (fun v => Q (.inl (some (.int v.1))) v.2)) (fun s x hb hh he => pbL_law_23 hb hh (fun _ e => he _ e) (fun _ e => he _ e)) ?_) ⟨rfl, rfl, rfl, rfl, rfl, trivial⟩
  rcases s924 with r925 | v926
  · refine (?_ : ps_At mL_law (d + 105) 3245 [] [] r925 Q)
    refine sL_law_3245 ?_
    cases h
    exact ⟨rfl, Or.inr rfl, hk⟩
  · cases h
    exact hk
