noncomputable def bX12_deflate_42 (g : ps_G) (x0 : Nat) (x1 : Int32) (x2 : Int32) (x3 : Int32) (x4 : Int32) (x5 : Int32) : Option ((Int32) ⊕ (Int32)) := if (258 : Int32) ≤ x5 then (some (.inr x5)) else (Option.bind (q_fI 12 75 g x0) fun v10 => if v10 ≤ (x1 + x5) then (some (.inr x5)) else (Option.bind (q_fR 12 74 g x0) fun v13 => Option.bind (v13) fun a14 => Option.bind (q_aI g a14 (x1 + x5)) fun v15 => Option.bind (q_fR 12 74 g x0) fun v16 => Option.bind (v16) fun a17 => Option.bind (q_aI g a17 ((x1 + x5) - x4)) fun v18 => if ¬ v15 = v18 then (some (.inr x5)) else (some (.inl (x5 + (1 : Int32))))))
theorem pbX12_deflate_42 {d : Nat} {Q : ps_Rs → ps_G → Prop} {g : ps_G} {x0 : Nat} {x1 : Int32} {x2 : Int32} {x3 : Int32} {x4 : Int32} {x5 : Int32} {x : (Int32) ⊕ (Int32)} (h : bX12_deflate_42 g x0 x1 x2 x3 x4 x5 = some x) (hh : ∀ s' : Int32, x = .inl s' → ps_At mX12_deflate (d + 4) 42 [(0, .ref x0), (1, .int x1), (2, .int x2), (3, .int x3), (4, .int x4), (5, .int s')] [] g Q) (he : ∀ r' : Int32, x = .inr r' → ps_At mX12_deflate (d + 4) 91 [(0, .ref x0), (1, .int x1), (2, .int x2), (3, .int x3), (4, .int x4), (5, .int r')] [] g Q) : ps_At mX12_deflate (d + 4) 42 [(0, .ref x0), (1, .int x1), (2, .int x2), (3, .int x3), (4, .int x4), (5, .int x5)] [] g Q := by
  unfold bX12_deflate_42 at h
  refine sX12_deflate_42 ?_
  refine And.intro (fun hc8 => ?_) (fun hc8 => ?_)
  · replace h := q_ifp (hc8) h
    exact ps_weak (he x5 (Option.some.inj h).symm) ⟨rfl, rfl, rfl, rfl, rfl, rfl, trivial⟩
  · replace h := q_ifn (hc8) h
    replace h := q_be h
    obtain ⟨v10, hv, h⟩ := h
    replace hv := q_fI_e hv
    obtain ⟨_, cv10, dv10⟩ := hv
    refine ⟨⟨some _, rfl⟩, _, _, cv10, dv10, ?_⟩
    refine And.intro (fun hc11 => ?_) (fun hc11 => ?_)
    · replace h := q_ifp (hc11) h
      exact ps_weak (he x5 (Option.some.inj h).symm) ⟨rfl, rfl, rfl, rfl, rfl, rfl, trivial⟩
    · replace h := q_ifn (hc11) h
      replace h := q_be h
      obtain ⟨v13, hv, h⟩ := h
      replace hv := q_fR_e hv
      obtain ⟨_, cv13, dv13⟩ := hv
      replace h := q_be h
      obtain ⟨a14, ea14, h⟩ := h
      subst ea14
      replace h := q_be h
      obtain ⟨v15, hv, h⟩ := h
      replace hv := q_aI_e hv
      obtain ⟨_, _, cv15, iv15, yv15⟩ := hv
      replace h := q_be h
      obtain ⟨v16, hv, h⟩ := h
      replace hv := q_fR_e hv
      obtain ⟨_, cv16, dv16⟩ := hv
      replace h := q_be h
      obtain ⟨a17, ea17, h⟩ := h
      subst ea17
      replace h := q_be h
      obtain ⟨v18, hv, h⟩ := h
      replace hv := q_aI_e hv
      obtain ⟨_, _, cv18, iv18, yv18⟩ := hv
      refine ⟨⟨some _, rfl⟩, _, _, cv13, dv13, _, _, cv15, iv15, _, yv15, ⟨some _, rfl⟩, _, _, cv16, dv16, _, _, cv18, iv18, _, yv18, ?_⟩
      refine And.intro (fun hc19 => ?_) (fun hc19 => ?_)
      · replace h := q_ifp (hc19) h
        exact ps_weak (he x5 (Option.some.inj h).symm) ⟨rfl, rfl, rfl, rfl, rfl, rfl, trivial⟩
      · replace h := q_ifn (hc19) h
        refine ⟨by decide, ?_⟩
        exact ps_weak (hh (x5 + (1 : Int32)) (Option.some.inj h).symm) ⟨rfl, rfl, rfl, rfl, rfl, rfl, trivial⟩
noncomputable def jX12_deflate_91_33 (g : ps_G) (x0 : Nat) (x1 : Int32) (x2 : Int32) (x3 : Int32) (x4 : Int32) (x5 : Int32) : Option ((Int32 × Int32 × Int32) ⊕ (Int32 × Int32)) := some (.inl ((if x2 < x5 then x5 else x2), (if x2 < x5 then x4 else x3), x4 + (1 : Int32)))
theorem pjX12_deflate_91_33 {d : Nat} {Q : ps_Rs → ps_G → Prop} {g : ps_G} {x0 : Nat} {x1 : Int32} {x2 : Int32} {x3 : Int32} {x4 : Int32} {x5 : Int32} {x : (Int32 × Int32 × Int32) ⊕ (Int32 × Int32)} (h : jX12_deflate_91_33 g x0 x1 x2 x3 x4 x5 = some x) (hh : ∀ s' : Int32 × Int32 × Int32, x = .inl s' → ps_At mX12_deflate (d + 4) 33 [(0, .ref x0), (1, .int x1), (2, .int s'.1), (3, .int s'.2.1), (4, .int s'.2.2)] [] g Q) (he : ∀ r' : Int32 × Int32, x = .inr r' → ps_At mX12_deflate (d + 4) 112 [(0, .ref x0), (1, .int x1), (2, .int r'.1), (3, .int r'.2)] [] g Q) : ps_At mX12_deflate (d + 4) 91 [(0, .ref x0), (1, .int x1), (2, .int x2), (3, .int x3), (4, .int x4), (5, .int x5)] [] g Q := by
  unfold jX12_deflate_91_33 at h
  refine sX12_deflate_91 ?_
  have kJ30 : ∀ w28 : Int32, w28 = (if x2 < x5 then x5 else x2) → ∀ w29 : Int32, w29 = (if x2 < x5 then x4 else x3) → ps_At mX12_deflate (d + 4) 106 [(0, .ref x0), (1, .int x1), (2, .int w28), (3, .int w29), (4, .int x4)] [] g Q := by
    rintro _ rfl _ rfl
    refine sX12_deflate_106 ?_
    refine ⟨by decide, ?_⟩
    exact ps_weak (hh ((if x2 < x5 then x5 else x2), (if x2 < x5 then x4 else x3), x4 + (1 : Int32)) (Option.some.inj h).symm) ⟨rfl, rfl, rfl, rfl, rfl, trivial⟩
  refine And.intro (fun hc27 => ?_) (fun hc27 => ?_)
  · refine sX12_deflate_100 ?_
    refine ⟨by decide, by decide, ?_⟩
    exact ps_weak (kJ30 _ (if_pos (hc27)).symm _ (if_pos (hc27)).symm) ⟨rfl, rfl, rfl, rfl, rfl, trivial⟩
  · exact ps_weak (kJ30 _ (if_neg (hc27)).symm _ (if_neg (hc27)).symm) ⟨rfl, rfl, rfl, rfl, rfl, trivial⟩
noncomputable def bX12_deflate_33 (g : ps_G) (x0 : Nat) (x1 : Int32) (x2 : Int32) (x3 : Int32) (x4 : Int32) : Option ((Int32 × Int32 × Int32) ⊕ (Int32 × Int32)) := if x1 < x4 then (some (.inr (x2, x3))) else (Option.bind (q_lp (fun s => bX12_deflate_42 g x0 x1 x2 x3 x4 s) (0 : Int32)) fun s26 => jX12_deflate_91_33 g x0 x1 x2 x3 x4 s26)
theorem pbX12_deflate_33 {d : Nat} {Q : ps_Rs → ps_G → Prop} {g : ps_G} {x0 : Nat} {x1 : Int32} {x2 : Int32} {x3 : Int32} {x4 : Int32} {x : (Int32 × Int32 × Int32) ⊕ (Int32 × Int32)} (h : bX12_deflate_33 g x0 x1 x2 x3 x4 = some x) (hh : ∀ s' : Int32 × Int32 × Int32, x = .inl s' → ps_At mX12_deflate (d + 4) 33 [(0, .ref x0), (1, .int x1), (2, .int s'.1), (3, .int s'.2.1), (4, .int s'.2.2)] [] g Q) (he : ∀ r' : Int32 × Int32, x = .inr r' → ps_At mX12_deflate (d + 4) 112 [(0, .ref x0), (1, .int x1), (2, .int r'.1), (3, .int r'.2)] [] g Q) : ps_At mX12_deflate (d + 4) 33 [(0, .ref x0), (1, .int x1), (2, .int x2), (3, .int x3), (4, .int x4)] [] g Q := by
  unfold bX12_deflate_33 at h
  refine sX12_deflate_33 ?_
  refine And.intro (fun hc7 => ?_) (fun hc7 => ?_)
  · replace h := q_ifp (hc7) h
    exact ps_weak (he (x2, x3) (Option.some.inj h).symm) ⟨rfl, rfl, rfl, rfl, trivial⟩
  · replace h := q_ifn (hc7) h
    refine ⟨by decide, ?_⟩
    replace h := q_be h
    obtain ⟨s26, hl, h⟩ := h
    refine ps_weak (q_lp_ok hl (fun s => ps_At mX12_deflate (d + 4) 42 [(0, .ref x0), (1, .int x1), (2, .int x2), (3, .int x3), (4, .int x4), (5, .int s)] [] g Q) (fun r => ps_At mX12_deflate (d + 4) 91 [(0, .ref x0), (1, .int x1), (2, .int x2), (3, .int x3), (4, .int x4), (5, .int r)] [] g Q) (fun s x hb hh he => pbX12_deflate_42 hb hh he) ?_) ⟨rfl, rfl, rfl, rfl, rfl, rfl, trivial⟩
    refine (?_ : ps_At mX12_deflate (d + 4) 91 [(0, .ref x0), (1, .int x1), (2, .int x2), (3, .int x3), (4, .int x4), (5, .int s26)] [] g Q)
    exact ps_weak (pjX12_deflate_91_33 h hh he) ⟨rfl, rfl, rfl, rfl, rfl, rfl, trivial⟩
noncomputable def bX12_deflate_137 (g : ps_G) (x0 : Nat) (x1 : Int32) (x2 : Int32) (x3 : Int32) (x4 : Int32) : Option ((Int32) ⊕ (Int32)) := Option.bind (q_fR 12 68 g x0) fun v35 => Option.bind (v35) fun a36 => Option.bind (q_aI g a36 x4) fun v37 => if v37 ≤ x2 then (some (.inr x4)) else (some (.inl (x4 + (-1 : Int32))))
theorem pbX12_deflate_137 {d : Nat} {Q : ps_Rs → ps_G → Prop} {g : ps_G} {x0 : Nat} {x1 : Int32} {x2 : Int32} {x3 : Int32} {x4 : Int32} {x : (Int32) ⊕ (Int32)} (h : bX12_deflate_137 g x0 x1 x2 x3 x4 = some x) (hh : ∀ s' : Int32, x = .inl s' → ps_At mX12_deflate (d + 4) 137 [(0, .ref x0), (1, .int x1), (2, .int x2), (3, .int x3), (4, .int s')] [] g Q) (he : ∀ r' : Int32, x = .inr r' → ps_At mX12_deflate (d + 4) 154 [(0, .ref x0), (1, .int x1), (2, .int x2), (3, .int x3), (4, .int r')] [] g Q) : ps_At mX12_deflate (d + 4) 137 [(0, .ref x0), (1, .int x1), (2, .int x2), (3, .int x3), (4, .int x4)] [] g Q := by
  unfold bX12_deflate_137 at h
  refine sX12_deflate_137 ?_
  replace h := q_be h
  obtain ⟨v35, hv, h⟩ := h
  replace hv := q_fR_e hv
  obtain ⟨_, cv35, dv35⟩ := hv
  replace h := q_be h
  obtain ⟨a36, ea36, h⟩ := h
  subst ea36
  replace h := q_be h
  obtain ⟨v37, hv, h⟩ := h
  replace hv := q_aI_e hv
  obtain ⟨_, _, cv37, iv37, yv37⟩ := hv
  refine ⟨⟨some _, rfl⟩, _, _, cv35, dv35, _, _, cv37, iv37, _, yv37, ?_⟩
  refine And.intro (fun hc38 => ?_) (fun hc38 => ?_)
  · replace h := q_ifp (hc38) h
    exact ps_weak (he x4 (Option.some.inj h).symm) ⟨rfl, rfl, rfl, rfl, rfl, trivial⟩
  · replace h := q_ifn (hc38) h
    refine ⟨by decide, ?_⟩
    exact ps_weak (hh (x4 + (-1 : Int32)) (Option.some.inj h).symm) ⟨rfl, rfl, rfl, rfl, rfl, trivial⟩
noncomputable def bX12_deflate_188 (g : ps_G) (x0 : Nat) (x1 : Int32) (x2 : Int32) (x3 : Int32) (x5 : Int32) : Option ((Int32) ⊕ (Int32)) := Option.bind (q_fR 12 70 g x0) fun v52 => Option.bind (v52) fun a53 => Option.bind (q_aI g a53 x5) fun v54 => if v54 ≤ x3 then (some (.inr x5)) else (some (.inl (x5 + (-1 : Int32))))
theorem pbX12_deflate_188 {d : Nat} {Q : ps_Rs → ps_G → Prop} {g : ps_G} {x0 : Nat} {x1 : Int32} {x2 : Int32} {x3 : Int32} {x5 : Int32} {x : (Int32) ⊕ (Int32)} (h : bX12_deflate_188 g x0 x1 x2 x3 x5 = some x) (hh : ∀ s' : Int32, x = .inl s' → ps_At mX12_deflate (d + 4) 188 [(0, .ref x0), (1, .int x1), (2, .int x2), (3, .int x3), (5, .int s')] [] g Q) (he : ∀ r' : Int32, x = .inr r' → ps_At mX12_deflate (d + 4) 205 [(0, .ref x0), (1, .int x1), (2, .int x2), (3, .int x3), (5, .int r')] [] g Q) : ps_At mX12_deflate (d + 4) 188 [(0, .ref x0), (1, .int x1), (2, .int x2), (3, .int x3), (5, .int x5)] [] g Q := by
  unfold bX12_deflate_188 at h
  refine sX12_deflate_188 ?_
  replace h := q_be h
  obtain ⟨v52, hv, h⟩ := h
  replace hv := q_fR_e hv
  obtain ⟨_, cv52, dv52⟩ := hv
  replace h := q_be h
  obtain ⟨a53, ea53, h⟩ := h
  subst ea53
  replace h := q_be h
  obtain ⟨v54, hv, h⟩ := h
  replace hv := q_aI_e hv
  obtain ⟨_, _, cv54, iv54, yv54⟩ := hv
  refine ⟨⟨some _, rfl⟩, _, _, cv52, dv52, _, _, cv54, iv54, _, yv54, ?_⟩
  refine And.intro (fun hc55 => ?_) (fun hc55 => ?_)
  · replace h := q_ifp (hc55) h
    exact ps_weak (he x5 (Option.some.inj h).symm) ⟨rfl, rfl, rfl, rfl, rfl, trivial⟩
  · replace h := q_ifn (hc55) h
    refine ⟨by decide, ?_⟩
    exact ps_weak (hh (x5 + (-1 : Int32)) (Option.some.inj h).symm) ⟨rfl, rfl, rfl, rfl, rfl, trivial⟩
noncomputable def bX12_deflate_18 (x0 : Nat) (x1 : Int32) (g : ps_G) : Option ((Int32 × ps_G) ⊕ (ps_G)) := Option.bind (q_fI 12 75 g x0) fun v5 => if v5 ≤ x1 then (some (.inr g)) else (Option.bind (q_lp (fun s => bX12_deflate_33 g x0 x1 s.1 s.2.1 s.2.2) ((0 : Int32), (0 : Int32), (1 : Int32))) fun s33 => if (3 : Int32) ≤ s33.1 then (Option.bind (q_lp (fun s => bX12_deflate_137 g x0 x1 s33.1 s33.2 s) (28 : Int32)) fun s41 => Option.bind (q_ob 12 g x0) fun u42 => Option.bind (fX12_outSymbol g x0 ((257 : Int32) + s41)) fun v43 => Option.bind (q_fR 12 68 v43 x0) fun v44 => Option.bind (v44) fun a45 => Option.bind (q_aI v43 a45 s41) fun v46 => Option.bind (q_fR 12 69 v43 x0) fun v47 => Option.bind (v47) fun a48 => Option.bind (q_aI v43 a48 s41) fun v49 => Option.bind (q_ob 12 v43 x0) fun u50 => Option.bind (fX12_outLow v43 x0 (s33.1 - v46) v49) fun v51 => Option.bind (q_lp (fun s => bX12_deflate_188 v51 x0 x1 s33.1 s33.2 s) (29 : Int32)) fun s58 => Option.bind (q_ob 12 v51 x0) fun u59 => Option.bind (fX12_outCode v51 x0 s58 (5 : Int32)) fun v60 => Option.bind (q_fR 12 70 v60 x0) fun v61 => Option.bind (v61) fun a62 => Option.bind (q_aI v60 a62 s58) fun v63 => Option.bind (q_fR 12 71 v60 x0) fun v64 => Option.bind (v64) fun a65 => Option.bind (q_aI v60 a65 s58) fun v66 => Option.bind (q_ob 12 v60 x0) fun u67 => Option.bind (fX12_outLow v60 x0 (s33.2 - v63) v66) fun v68 => some (.inl (x1 + s33.1, v68))) else (Option.bind (q_fR 12 74 g x0) fun v69 => Option.bind (v69) fun a70 => Option.bind (q_aI g a70 x1) fun v71 => Option.bind (q_ob 12 g x0) fun u72 => Option.bind (fX12_outSymbol g x0 v71) fun v73 => some (.inl (x1 + (1 : Int32), v73))))
theorem pbX12_deflate_18 {d : Nat} {Q : ps_Rs → ps_G → Prop}  {x0 : Nat} {x1 : Int32} {g : ps_G} {x : (Int32 × ps_G) ⊕ (ps_G)} (h : bX12_deflate_18 x0 x1 g = some x) (hh : ∀ s' : Int32 × ps_G, x = .inl s' → ps_At mX12_deflate (d + 4) 18 [(0, .ref x0), (1, .int s'.1)] [] s'.2 Q) (he : ∀ r' : ps_G, x = .inr r' → ps_At mX12_deflate (d + 4) 239 [(0, .ref x0)] [] r' Q) : ps_At mX12_deflate (d + 4) 18 [(0, .ref x0), (1, .int x1)] [] g Q := by
  unfold bX12_deflate_18 at h
  refine sX12_deflate_18 ?_
  replace h := q_be h
  obtain ⟨v5, hv, h⟩ := h
  replace hv := q_fI_e hv
  obtain ⟨_, cv5, dv5⟩ := hv
  refine ⟨⟨some _, rfl⟩, _, _, cv5, dv5, ?_⟩
  refine And.intro (fun hc6 => ?_) (fun hc6 => ?_)
  · replace h := q_ifp (hc6) h
    exact ps_weak (he g (Option.some.inj h).symm) ⟨rfl, trivial⟩
  · replace h := q_ifn (hc6) h
    refine ⟨by decide, by decide, by decide, ?_⟩
    replace h := q_be h
    obtain ⟨s33, hl, h⟩ := h
    refine ps_weak (q_lp_ok hl (fun s => ps_At mX12_deflate (d + 4) 33 [(0, .ref x0), (1, .int x1), (2, .int s.1), (3, .int s.2.1), (4, .int s.2.2)] [] g Q) (fun r => ps_At mX12_deflate (d + 4) 112 [(0, .ref x0), (1, .int x1), (2, .int r.1), (3, .int r.2)] [] g Q) (fun s x hb hh he => pbX12_deflate_33 hb hh he) ?_) ⟨rfl, rfl, rfl, rfl, rfl, trivial⟩
    refine (?_ : ps_At mX12_deflate (d + 4) 112 [(0, .ref x0), (1, .int x1), (2, .int s33.1), (3, .int s33.2)] [] g Q)
    refine sX12_deflate_112 ?_
    refine And.intro (fun hc34 => ?_) (fun hc34 => ?_)
    · replace h := q_ifp (hc34) h
      refine sX12_deflate_133 ?_
      refine ⟨by decide, ?_⟩
      replace h := q_be h
      obtain ⟨s41, hl, h⟩ := h
      refine ps_weak (q_lp_ok hl (fun s => ps_At mX12_deflate (d + 4) 137 [(0, .ref x0), (1, .int x1), (2, .int s33.1), (3, .int s33.2), (4, .int s)] [] g Q) (fun r => ps_At mX12_deflate (d + 4) 154 [(0, .ref x0), (1, .int x1), (2, .int s33.1), (3, .int s33.2), (4, .int r)] [] g Q) (fun s x hb hh he => pbX12_deflate_137 hb hh he) ?_) ⟨rfl, rfl, rfl, rfl, rfl, trivial⟩
      refine (?_ : ps_At mX12_deflate (d + 4) 154 [(0, .ref x0), (1, .int x1), (2, .int s33.1), (3, .int s33.2), (4, .int s41)] [] g Q)
      refine sX12_deflate_154 ?_
      replace h := q_be h
      obtain ⟨u42, hv, h⟩ := h
      replace hv := q_ob_e hv
      obtain ⟨_, cu42⟩ := hv
      replace h := q_be h
      obtain ⟨v43, hv, h⟩ := h
      refine ⟨⟨some _, rfl⟩, ⟨_, cu42⟩, ?_⟩
      refine rX12_outSymbol hv ?_
      replace h := q_be h
      obtain ⟨v44, hv, h⟩ := h
      replace hv := q_fR_e hv
      obtain ⟨_, cv44, dv44⟩ := hv
      replace h := q_be h
      obtain ⟨a45, ea45, h⟩ := h
      subst ea45
      replace h := q_be h
      obtain ⟨v46, hv, h⟩ := h
      replace hv := q_aI_e hv
      obtain ⟨_, _, cv46, iv46, yv46⟩ := hv
      replace h := q_be h
      obtain ⟨v47, hv, h⟩ := h
      replace hv := q_fR_e hv
      obtain ⟨_, cv47, dv47⟩ := hv
      replace h := q_be h
      obtain ⟨a48, ea48, h⟩ := h
      subst ea48
      replace h := q_be h
      obtain ⟨v49, hv, h⟩ := h
      replace hv := q_aI_e hv
      obtain ⟨_, _, cv49, iv49, yv49⟩ := hv
      replace h := q_be h
      obtain ⟨u50, hv, h⟩ := h
      replace hv := q_ob_e hv
      obtain ⟨_, cu50⟩ := hv
      replace h := q_be h
      obtain ⟨v51, hv, h⟩ := h
      refine ⟨⟨some _, rfl⟩, ⟨some _, rfl⟩, _, _, cv44, dv44, _, _, cv46, iv46, _, yv46, ⟨some _, rfl⟩, _, _, cv47, dv47, _, _, cv49, iv49, _, yv49, ⟨_, cu50⟩, ?_⟩
      refine rX12_outLow hv ?_
      refine ⟨by decide, ?_⟩
      replace h := q_be h
      obtain ⟨s58, hl, h⟩ := h
      refine ps_weak (q_lp_ok hl (fun s => ps_At mX12_deflate (d + 4) 188 [(0, .ref x0), (1, .int x1), (2, .int s33.1), (3, .int s33.2), (5, .int s)] [] v51 Q) (fun r => ps_At mX12_deflate (d + 4) 205 [(0, .ref x0), (1, .int x1), (2, .int s33.1), (3, .int s33.2), (5, .int r)] [] v51 Q) (fun s x hb hh he => pbX12_deflate_188 hb hh he) ?_) ⟨rfl, rfl, rfl, rfl, rfl, trivial⟩
      refine (?_ : ps_At mX12_deflate (d + 4) 205 [(0, .ref x0), (1, .int x1), (2, .int s33.1), (3, .int s33.2), (5, .int s58)] [] v51 Q)
      refine sX12_deflate_205 ?_
      replace h := q_be h
      obtain ⟨u59, hv, h⟩ := h
      replace hv := q_ob_e hv
      obtain ⟨_, cu59⟩ := hv
      replace h := q_be h
      obtain ⟨v60, hv, h⟩ := h
      refine ⟨⟨some _, rfl⟩, ⟨_, cu59⟩, ?_⟩
      refine rX12_outCode hv ?_
      replace h := q_be h
      obtain ⟨v61, hv, h⟩ := h
      replace hv := q_fR_e hv
      obtain ⟨_, cv61, dv61⟩ := hv
      replace h := q_be h
      obtain ⟨a62, ea62, h⟩ := h
      subst ea62
      replace h := q_be h
      obtain ⟨v63, hv, h⟩ := h
      replace hv := q_aI_e hv
      obtain ⟨_, _, cv63, iv63, yv63⟩ := hv
      replace h := q_be h
      obtain ⟨v64, hv, h⟩ := h
      replace hv := q_fR_e hv
      obtain ⟨_, cv64, dv64⟩ := hv
      replace h := q_be h
      obtain ⟨a65, ea65, h⟩ := h
      subst ea65
      replace h := q_be h
      obtain ⟨v66, hv, h⟩ := h
      replace hv := q_aI_e hv
      obtain ⟨_, _, cv66, iv66, yv66⟩ := hv
      replace h := q_be h
      obtain ⟨u67, hv, h⟩ := h
      replace hv := q_ob_e hv
      obtain ⟨_, cu67⟩ := hv
      replace h := q_be h
      obtain ⟨v68, hv, h⟩ := h
      refine ⟨⟨some _, rfl⟩, ⟨some _, rfl⟩, _, _, cv61, dv61, _, _, cv63, iv63, _, yv63, ⟨some _, rfl⟩, _, _, cv64, dv64, _, _, cv66, iv66, _, yv66, ⟨_, cu67⟩, ?_⟩
      refine rX12_outLow hv ?_
      refine ⟨by decide, ?_⟩
      exact ps_weak (hh (x1 + s33.1, v68) (Option.some.inj h).symm) ⟨rfl, rfl, trivial⟩
    · replace h := q_ifn (hc34) h
      replace h := q_be h
      obtain ⟨v69, hv, h⟩ := h
      replace hv := q_fR_e hv
      obtain ⟨_, cv69, dv69⟩ := hv
      replace h := q_be h
      obtain ⟨a70, ea70, h⟩ := h
      subst ea70
      replace h := q_be h
      obtain ⟨v71, hv, h⟩ := h
      replace hv := q_aI_e hv
      obtain ⟨_, _, cv71, iv71, yv71⟩ := hv
      replace h := q_be h
      obtain ⟨u72, hv, h⟩ := h
      replace hv := q_ob_e hv
      obtain ⟨_, cu72⟩ := hv
      replace h := q_be h
      obtain ⟨v73, hv, h⟩ := h
      refine ⟨⟨some _, rfl⟩, ⟨some _, rfl⟩, _, _, cv69, dv69, _, _, cv71, iv71, _, yv71, ⟨_, cu72⟩, ?_⟩
      refine rX12_outSymbol hv ?_
      refine ⟨by decide, ?_⟩
      exact ps_weak (hh (x1 + (1 : Int32), v73) (Option.some.inj h).symm) ⟨rfl, rfl, trivial⟩
noncomputable def bX12_deflate_246 (x0 : Nat) (g : ps_G) : Option ((ps_G) ⊕ (ps_G)) := Option.bind (q_fI 12 77 g x0) fun v81 => if v81 ≤ 0 then (some (.inr g)) else (Option.bind (q_ob 12 g x0) fun u84 => Option.bind (fX12_outBit g x0 (0 : Int32)) fun v85 => some (.inl v85))
theorem pbX12_deflate_246 {d : Nat} {Q : ps_Rs → ps_G → Prop}  {x0 : Nat} {g : ps_G} {x : (ps_G) ⊕ (ps_G)} (h : bX12_deflate_246 x0 g = some x) (hh : ∀ s' : ps_G, x = .inl s' → ps_At mX12_deflate (d + 4) 246 [(0, .ref x0)] [] s' Q) (he : ∀ r' : ps_G, x = .inr r' → ps_At mX12_deflate (d + 4) 261 [] [] r' Q) : ps_At mX12_deflate (d + 4) 246 [(0, .ref x0)] [] g Q := by
  unfold bX12_deflate_246 at h
  refine sX12_deflate_246 ?_
  replace h := q_be h
  obtain ⟨v81, hv, h⟩ := h
  replace hv := q_fI_e hv
  obtain ⟨_, cv81, dv81⟩ := hv
  refine ⟨⟨some _, rfl⟩, _, _, cv81, dv81, ?_⟩
  refine And.intro (fun hc82 => ?_) (fun hc82 => ?_)
  · replace h := q_ifp (hc82) h
    exact ps_weak (he g (Option.some.inj h).symm) trivial
  · replace h := q_ifn (hc82) h
    replace h := q_be h
    obtain ⟨u84, hv, h⟩ := h
    replace hv := q_ob_e hv
    obtain ⟨_, cu84⟩ := hv
    replace h := q_be h
    obtain ⟨v85, hv, h⟩ := h
    refine ⟨⟨some _, rfl⟩, ⟨_, cu84⟩, ?_⟩
    refine rX12_outBit hv ?_
    exact ps_weak (hh v85 (Option.some.inj h).symm) ⟨rfl, trivial⟩
noncomputable def fX12_deflate (g : ps_G) (x0 : Nat) : Option (ps_G) := Option.bind (q_sI 12 76 g x0 (0 : Int32)) fun g1 => Option.bind (q_sI 12 77 g1 x0 (0 : Int32)) fun g2 => Option.bind (q_ob 12 g2 x0) fun u3 => Option.bind (fX12_outLow g2 x0 (3 : Int32) (3 : Int32)) fun v4 => Option.bind (q_lp (fun s => bX12_deflate_18 x0 s.1 s.2) ((0 : Int32), v4)) fun s78 => Option.bind (q_ob 12 s78 x0) fun u79 => Option.bind (fX12_outSymbol s78 x0 (256 : Int32)) fun v80 => Option.bind (q_lp (fun s => bX12_deflate_246 x0 s) v80) fun s88 => some s88
theorem rX12_deflate {d : Nat} {Q : ps_Rs → ps_G → Prop} {g : ps_G} {x0 : Nat} {r : ps_G} (h : fX12_deflate g x0 = some r) (hk : Q (.inl none) r) : ps_Ok mX12_deflate (d + 4) [.ref x0] g Q := by
  unfold fX12_deflate at h
  refine sX12_deflate_0 ?_
  replace h := q_be h
  obtain ⟨g1, hv, h⟩ := h
  replace hv := q_sI_e hv
  obtain ⟨_, cg1, dg1, yg1⟩ := hv
  replace h := q_be h
  obtain ⟨g2, hv, h⟩ := h
  replace hv := q_sI_e hv
  obtain ⟨_, cg2, dg2, yg2⟩ := hv
  replace h := q_be h
  obtain ⟨u3, hv, h⟩ := h
  replace hv := q_ob_e hv
  obtain ⟨_, cu3⟩ := hv
  replace h := q_be h
  obtain ⟨v4, hv, h⟩ := h
  refine ⟨⟨some _, rfl⟩, _, cg1, dg1, rfl, rfl, _, yg1, ⟨some _, rfl⟩, _, cg2, dg2, rfl, rfl, _, yg2, ⟨some _, rfl⟩, ⟨_, cu3⟩, ?_⟩
  refine rX12_outLow hv ?_
  refine ⟨by decide, ?_⟩
  replace h := q_be h
  obtain ⟨s78, hl, h⟩ := h
  refine ps_weak (q_lp_ok hl (fun s => ps_At mX12_deflate (d + 4) 18 [(0, .ref x0), (1, .int s.1)] [] s.2 Q) (fun r => ps_At mX12_deflate (d + 4) 239 [(0, .ref x0)] [] r Q) (fun s x hb hh he => pbX12_deflate_18 hb hh he) ?_) ⟨rfl, rfl, trivial⟩
  refine (?_ : ps_At mX12_deflate (d + 4) 239 [(0, .ref x0)] [] s78 Q)
  refine sX12_deflate_239 ?_
  replace h := q_be h
  obtain ⟨u79, hv, h⟩ := h
  replace hv := q_ob_e hv
  obtain ⟨_, cu79⟩ := hv
  replace h := q_be h
  obtain ⟨v80, hv, h⟩ := h
  refine ⟨⟨some _, rfl⟩, ⟨_, cu79⟩, ?_⟩
  refine rX12_outSymbol hv ?_
  replace h := q_be h
  obtain ⟨s88, hl, h⟩ := h
  refine ps_weak (q_lp_ok hl (fun s => ps_At mX12_deflate (d + 4) 246 [(0, .ref x0)] [] s Q) (fun r => ps_At mX12_deflate (d + 4) 261 [] [] r Q) (fun s x hb hh he => pbX12_deflate_246 hb hh he) ?_) ⟨rfl, trivial⟩
  refine (?_ : ps_At mX12_deflate (d + 4) 261 [] [] s88 Q)
  refine sX12_deflate_261 ?_
  cases h
  exact ⟨rfl, rfl, hk⟩
def fX12_adler (x0 : Int32) (x1 : Int32) : Int32 := (q_shl x1 (16 : Int32)) ||| x0
theorem rX12_adler {d : Nat} {Q : ps_Rs → ps_G → Prop} {g : ps_G} {x0 : Int32} {x1 : Int32} {r : Int32} (h : fX12_adler x0 x1 = r) (hk : Q (.inl (some (.int r))) g) : ps_Ok mX12_adler d [.int x0, .int x1] g Q := by
  unfold fX12_adler at h
  refine sX12_adler_0 ?_
  subst h
  exact ⟨rfl, hk⟩
noncomputable def bX12_sumOfRows_6 (g : ps_G) (x0 : Nat) (x1 : Int32) (x2 : Int32) (x3 : Int32) : Option ((Int32 × Int32 × Int32) ⊕ (Int32 × Int32)) := Option.bind (q_fI 12 75 g x0) fun v1 => if v1 ≤ x3 then (some (.inr (x1, x2))) else (Option.bind (q_fR 12 74 g x0) fun v4 => Option.bind (v4) fun a5 => Option.bind (q_aI g a5 x3) fun v6 => some (.inl (q_rem (x1 + v6) (65521 : Int32), q_rem (x2 + (q_rem (x1 + v6) (65521 : Int32))) (65521 : Int32), x3 + (1 : Int32))))
theorem pbX12_sumOfRows_6 {d : Nat} {Q : ps_Rs → ps_G → Prop} {g : ps_G} {x0 : Nat} {x1 : Int32} {x2 : Int32} {x3 : Int32} {x : (Int32 × Int32 × Int32) ⊕ (Int32 × Int32)} (h : bX12_sumOfRows_6 g x0 x1 x2 x3 = some x) (hh : ∀ s' : Int32 × Int32 × Int32, x = .inl s' → ps_At mX12_sumOfRows (d + 1) 6 [(0, .ref x0), (1, .int s'.1), (2, .int s'.2.1), (3, .int s'.2.2)] [] g Q) (he : ∀ r' : Int32 × Int32, x = .inr r' → ps_At mX12_sumOfRows (d + 1) 41 [(1, .int r'.1), (2, .int r'.2)] [] g Q) : ps_At mX12_sumOfRows (d + 1) 6 [(0, .ref x0), (1, .int x1), (2, .int x2), (3, .int x3)] [] g Q := by
  unfold bX12_sumOfRows_6 at h
  refine sX12_sumOfRows_6 ?_
  replace h := q_be h
  obtain ⟨v1, hv, h⟩ := h
  replace hv := q_fI_e hv
  obtain ⟨_, cv1, dv1⟩ := hv
  refine ⟨⟨some _, rfl⟩, _, _, cv1, dv1, ?_⟩
  refine And.intro (fun hc2 => ?_) (fun hc2 => ?_)
  · replace h := q_ifp (hc2) h
    exact ps_weak (he (x1, x2) (Option.some.inj h).symm) ⟨rfl, rfl, trivial⟩
  · replace h := q_ifn (hc2) h
    replace h := q_be h
    obtain ⟨v4, hv, h⟩ := h
    replace hv := q_fR_e hv
    obtain ⟨_, cv4, dv4⟩ := hv
    replace h := q_be h
    obtain ⟨a5, ea5, h⟩ := h
    subst ea5
    replace h := q_be h
    obtain ⟨v6, hv, h⟩ := h
    replace hv := q_aI_e hv
    obtain ⟨_, _, cv6, iv6, yv6⟩ := hv
    refine ⟨⟨some _, rfl⟩, _, _, cv4, dv4, _, _, cv6, iv6, _, yv6, by decide, _, rfl, by decide, by decide, _, rfl, by decide, by decide, ?_⟩
    exact ps_weak (hh (q_rem (x1 + v6) (65521 : Int32), q_rem (x2 + (q_rem (x1 + v6) (65521 : Int32))) (65521 : Int32), x3 + (1 : Int32)) (Option.some.inj h).symm) ⟨rfl, rfl, rfl, rfl, trivial⟩
noncomputable def fX12_sumOfRows (g : ps_G) (x0 : Nat) : Option (Int32) := Option.bind (q_lp (fun s => bX12_sumOfRows_6 g x0 s.1 s.2.1 s.2.2) ((1 : Int32), (0 : Int32), (0 : Int32))) fun s9 => some (fX12_adler s9.1 s9.2)
theorem rX12_sumOfRows {d : Nat} {Q : ps_Rs → ps_G → Prop} {g : ps_G} {x0 : Nat} {r : Int32} (h : fX12_sumOfRows g x0 = some r) (hk : Q (.inl (some (.int r))) g) : ps_Ok mX12_sumOfRows (d + 1) [.ref x0] g Q := by
  unfold fX12_sumOfRows at h
  refine sX12_sumOfRows_0 ?_
  refine ⟨by decide, by decide, by decide, ?_⟩
  replace h := q_be h
  obtain ⟨s9, hl, h⟩ := h
  refine ps_weak (q_lp_ok hl (fun s => ps_At mX12_sumOfRows (d + 1) 6 [(0, .ref x0), (1, .int s.1), (2, .int s.2.1), (3, .int s.2.2)] [] g Q) (fun r => ps_At mX12_sumOfRows (d + 1) 41 [(1, .int r.1), (2, .int r.2)] [] g Q) (fun s x hb hh he => pbX12_sumOfRows_6 hb hh he) ?_) ⟨rfl, rfl, rfl, rfl, trivial⟩
  refine (?_ : ps_At mX12_sumOfRows (d + 1) 41 [(1, .int s9.1), (2, .int s9.2)] [] g Q)
  refine sX12_sumOfRows_41 ?_
  refine rX12_adler rfl ?_
  cases h
  exact ⟨rfl, hk⟩
noncomputable def jX12_made_84_43 (g : ps_G) (x0 : Nat) (x1 : Int32) (x2 : Int32) (k0 : Option Nat) (k1 : Int32) (k2 : Int32) : Option ((Int32 × ps_G) ⊕ (ps_G)) := Option.bind (k0) fun a17 => Option.bind (q_wI g a17 k1 k2) fun g18 => some (.inl (x2 + (1 : Int32), g18))
theorem pjX12_made_84_43 {d : Nat} {Q : ps_Rs → ps_G → Prop} {g : ps_G} {x0 : Nat} {x1 : Int32} {x2 : Int32} {k0 : Option Nat} {k1 : Int32} {k2 : Int32} {x : (Int32 × ps_G) ⊕ (ps_G)} (h : jX12_made_84_43 g x0 x1 x2 k0 k1 k2 = some x) (hh : ∀ s' : Int32 × ps_G, x = .inl s' → ps_At mX12_made (d + 9) 43 [(0, .ref x0), (1, .int x1), (2, .int s'.1)] [] s'.2 Q) (he : ∀ r' : ps_G, x = .inr r' → ps_At mX12_made (d + 9) 91 [(0, .ref x0)] [] r' Q) : ps_At mX12_made (d + 9) 84 [(0, .ref x0), (1, .int x1), (2, .int x2)] [.int k2, .int k1, va_rf k0] g Q := by
  unfold jX12_made_84_43 at h
  refine sX12_made_84 ?_
  replace h := q_be h
  obtain ⟨a17, ea17, h⟩ := h
  subst ea17
  replace h := q_be h
  obtain ⟨g18, hv, h⟩ := h
  replace hv := q_wI_e hv
  obtain ⟨_, _, cg18, pg18, ig18, yg18⟩ := hv
  refine ⟨_, _, cg18, pg18, ig18, _, yg18, by decide, ?_⟩
  exact ps_weak (hh (x2 + (1 : Int32), g18) (Option.some.inj h).symm) ⟨rfl, rfl, rfl, trivial⟩
noncomputable def bX12_made_43 (x0 : Nat) (x1 : Int32) (x2 : Int32) (g : ps_G) : Option ((Int32 × ps_G) ⊕ (ps_G)) := Option.bind (q_fI 12 13 g x0) fun v7 => Option.bind (q_fI 12 14 g x0) fun v8 => if (v7 * v8) ≤ x2 then (some (.inr g)) else (Option.bind (q_fR 12 35 g x0) fun v11 => Option.bind (v11) fun a12 => if ¬ x1 = (-1 : Int32) then (Option.bind (q_ob 12 g x0) fun u15 => Option.bind (fX12_get g x0 x1 ((17 : Int32) + x2)) fun v16 => jX12_made_84_43 g x0 x1 x2 (some a12) x2 v16) else (Option.bind (q_fR 12 16 g x0) fun v19 => Option.bind (v19) fun a20 => Option.bind (q_aI g a20 x2) fun v21 => jX12_made_84_43 g x0 x1 x2 (some a12) x2 v21))
theorem pbX12_made_43 {d : Nat} {Q : ps_Rs → ps_G → Prop}  {x0 : Nat} {x1 : Int32} {x2 : Int32} {g : ps_G} {x : (Int32 × ps_G) ⊕ (ps_G)} (h : bX12_made_43 x0 x1 x2 g = some x) (hh : ∀ s' : Int32 × ps_G, x = .inl s' → ps_At mX12_made (d + 9) 43 [(0, .ref x0), (1, .int x1), (2, .int s'.1)] [] s'.2 Q) (he : ∀ r' : ps_G, x = .inr r' → ps_At mX12_made (d + 9) 91 [(0, .ref x0)] [] r' Q) : ps_At mX12_made (d + 9) 43 [(0, .ref x0), (1, .int x1), (2, .int x2)] [] g Q := by
  unfold bX12_made_43 at h
  refine sX12_made_43 ?_
  replace h := q_be h
  obtain ⟨v7, hv, h⟩ := h
  replace hv := q_fI_e hv
  obtain ⟨_, cv7, dv7⟩ := hv
  replace h := q_be h
  obtain ⟨v8, hv, h⟩ := h
  replace hv := q_fI_e hv
  obtain ⟨_, cv8, dv8⟩ := hv
  refine ⟨⟨some _, rfl⟩, _, _, cv7, dv7, ⟨some _, rfl⟩, _, _, cv8, dv8, ?_⟩
  refine And.intro (fun hc9 => ?_) (fun hc9 => ?_)
  · replace h := q_ifp (hc9) h
    exact ps_weak (he g (Option.some.inj h).symm) ⟨rfl, trivial⟩
  · replace h := q_ifn (hc9) h
    replace h := q_be h
    obtain ⟨v11, hv, h⟩ := h
    replace hv := q_fR_e hv
    obtain ⟨_, cv11, dv11⟩ := hv
    replace h := q_be h
    obtain ⟨a12, ea12, h⟩ := h
    subst ea12
    refine ⟨⟨some _, rfl⟩, _, _, cv11, dv11, ?_⟩
    refine And.intro (fun hc13 => ?_) (fun hc13 => ?_)
    · replace h := q_ifp (hc13) h
      refine sX12_made_75 ?_
      replace h := q_be h
      obtain ⟨u15, hv, h⟩ := h
      replace hv := q_ob_e hv
      obtain ⟨_, cu15⟩ := hv
      replace h := q_be h
      obtain ⟨v16, hv, h⟩ := h
      refine ⟨⟨some _, rfl⟩, ⟨_, cu15⟩, ?_⟩
      refine rX12_get hv ?_
      exact ps_weak (pjX12_made_84_43 h hh he) ⟨rfl, rfl, rfl, trivial⟩
    · replace h := q_ifn (hc13) h
      replace h := q_be h
      obtain ⟨v19, hv, h⟩ := h
      replace hv := q_fR_e hv
      obtain ⟨_, cv19, dv19⟩ := hv
      replace h := q_be h
      obtain ⟨a20, ea20, h⟩ := h
      subst ea20
      replace h := q_be h
      obtain ⟨v21, hv, h⟩ := h
      replace hv := q_aI_e hv
      obtain ⟨_, _, cv21, iv21, yv21⟩ := hv
      refine ⟨⟨some _, rfl⟩, _, _, cv19, dv19, _, _, cv21, iv21, _, yv21, ?_⟩
      exact ps_weak (pjX12_made_84_43 h hh he) ⟨rfl, rfl, rfl, trivial⟩
noncomputable def bX12_made_147 (x0 : Nat) (x2 : Int32) (g : ps_G) : Option ((Int32 × ps_G) ⊕ (ps_G)) := if (3 : Int32) ≤ x2 then (some (.inr g)) else (Option.bind (q_ob 12 g x0) fun u46 => Option.bind (fX12_outByte g x0 (0 : Int32)) fun v47 => some (.inl (x2 + (1 : Int32), v47)))
theorem pbX12_made_147 {d : Nat} {Q : ps_Rs → ps_G → Prop}  {x0 : Nat} {x2 : Int32} {g : ps_G} {x : (Int32 × ps_G) ⊕ (ps_G)} (h : bX12_made_147 x0 x2 g = some x) (hh : ∀ s' : Int32 × ps_G, x = .inl s' → ps_At mX12_made (d + 9) 147 [(0, .ref x0), (2, .int s'.1)] [] s'.2 Q) (he : ∀ r' : ps_G, x = .inr r' → ps_At mX12_made (d + 9) 163 [(0, .ref x0)] [] r' Q) : ps_At mX12_made (d + 9) 147 [(0, .ref x0), (2, .int x2)] [] g Q := by
  unfold bX12_made_147 at h
  refine sX12_made_147 ?_
  refine And.intro (fun hc44 => ?_) (fun hc44 => ?_)
  · replace h := q_ifp (hc44) h
    exact ps_weak (he g (Option.some.inj h).symm) ⟨rfl, trivial⟩
  · replace h := q_ifn (hc44) h
    replace h := q_be h
    obtain ⟨u46, hv, h⟩ := h
    replace hv := q_ob_e hv
    obtain ⟨_, cu46⟩ := hv
    replace h := q_be h
    obtain ⟨v47, hv, h⟩ := h
    refine ⟨⟨some _, rfl⟩, ⟨_, cu46⟩, ?_⟩
    refine rX12_outByte hv ?_
    refine ⟨by decide, ?_⟩
    exact ps_weak (hh (x2 + (1 : Int32), v47) (Option.some.inj h).symm) ⟨rfl, rfl, trivial⟩
noncomputable def jX12_made_41 (g : ps_G) (x0 : Nat) (x1 : Int32) : Option (Int32 × ps_G) := Option.bind (q_lp (fun s => bX12_made_43 x0 x1 s.1 s.2) ((0 : Int32), g)) fun s26 => Option.bind (q_sI 12 7 s26 x0 (0 : Int32)) fun g27 => Option.bind (q_ob 12 g27 x0) fun u28 => Option.bind (fX12_outWord g27 x0 (-1991225785 : Int32)) fun v29 => Option.bind (q_ob 12 v29 x0) fun u30 => Option.bind (fX12_outWord v29 x0 (218765834 : Int32)) fun v31 => Option.bind (q_ob 12 v31 x0) fun u32 => Option.bind (fX12_openChunk v31 x0 (1229472850 : Int32)) fun v33 => Option.bind (q_fI 12 13 v33 x0) fun v34 => Option.bind (q_ob 12 v33 x0) fun u35 => Option.bind (fX12_outWord v33 x0 v34) fun v36 => Option.bind (q_fI 12 14 v36 x0) fun v37 => Option.bind (q_ob 12 v36 x0) fun u38 => Option.bind (fX12_outWord v36 x0 v37) fun v39 => Option.bind (q_ob 12 v39 x0) fun u40 => Option.bind (fX12_outByte v39 x0 (8 : Int32)) fun v41 => Option.bind (q_ob 12 v41 x0) fun u42 => Option.bind (fX12_outByte v41 x0 (6 : Int32)) fun v43 => Option.bind (q_lp (fun s => bX12_made_147 x0 s.1 s.2) ((0 : Int32), v43)) fun s50 => Option.bind (q_ob 12 s50 x0) fun u51 => Option.bind (fX12_closeChunk s50 x0) fun v52 => Option.bind (q_ob 12 v52 x0) fun u53 => Option.bind (fX12_openChunk v52 x0 (1229209940 : Int32)) fun v54 => Option.bind (q_ob 12 v54 x0) fun u55 => Option.bind (fX12_outByte v54 x0 (120 : Int32)) fun v56 => Option.bind (q_ob 12 v56 x0) fun u57 => Option.bind (fX12_outByte v56 x0 (1 : Int32)) fun v58 => Option.bind (q_ob 12 v58 x0) fun u59 => Option.bind (fX12_makeRows v58 x0) fun v60 => Option.bind (q_ob 12 v60 x0) fun u61 => Option.bind (fX12_deflate v60 x0) fun v62 => Option.bind (q_ob 12 v62 x0) fun u63 => Option.bind (fX12_sumOfRows v62 x0) fun v64 => Option.bind (q_ob 12 v62 x0) fun u65 => Option.bind (fX12_outWord v62 x0 v64) fun v66 => Option.bind (q_ob 12 v66 x0) fun u67 => Option.bind (fX12_closeChunk v66 x0) fun v68 => Option.bind (q_ob 12 v68 x0) fun u69 => Option.bind (fX12_openChunk v68 x0 (1229278788 : Int32)) fun v70 => Option.bind (q_ob 12 v70 x0) fun u71 => Option.bind (fX12_closeChunk v70 x0) fun v72 => Option.bind (q_fI 12 7 v72 x0) fun v73 => some (v73, v72)
theorem pjX12_made_41 {d : Nat} {Q : ps_Rs → ps_G → Prop} {g : ps_G} {x0 : Nat} {x1 : Int32} {r : Int32 × ps_G} (h : jX12_made_41 g x0 x1 = some r) (hk : Q (.inl (some (.int r.1))) r.2) : ps_At mX12_made (d + 9) 41 [(0, .ref x0), (1, .int x1)] [] g Q := by
  unfold jX12_made_41 at h
  refine sX12_made_41 ?_
  refine ⟨by decide, ?_⟩
  replace h := q_be h
  obtain ⟨s26, hl, h⟩ := h
  refine ps_weak (q_lp_ok hl (fun s => ps_At mX12_made (d + 9) 43 [(0, .ref x0), (1, .int x1), (2, .int s.1)] [] s.2 Q) (fun r => ps_At mX12_made (d + 9) 91 [(0, .ref x0)] [] r Q) (fun s x hb hh he => pbX12_made_43 hb hh he) ?_) ⟨rfl, rfl, rfl, trivial⟩
  refine (?_ : ps_At mX12_made (d + 9) 91 [(0, .ref x0)] [] s26 Q)
  refine sX12_made_91 ?_
  replace h := q_be h
  obtain ⟨g27, hv, h⟩ := h
  replace hv := q_sI_e hv
  obtain ⟨_, cg27, dg27, yg27⟩ := hv
  replace h := q_be h
  obtain ⟨u28, hv, h⟩ := h
  replace hv := q_ob_e hv
  obtain ⟨_, cu28⟩ := hv
  replace h := q_be h
  obtain ⟨v29, hv, h⟩ := h
  refine ⟨⟨some _, rfl⟩, _, cg27, dg27, rfl, rfl, _, yg27, ⟨some _, rfl⟩, ⟨_, cu28⟩, ?_⟩
  refine rX12_outWord hv ?_
  replace h := q_be h
  obtain ⟨u30, hv, h⟩ := h
  replace hv := q_ob_e hv
  obtain ⟨_, cu30⟩ := hv
  replace h := q_be h
  obtain ⟨v31, hv, h⟩ := h
  refine ⟨⟨some _, rfl⟩, ⟨_, cu30⟩, ?_⟩
  refine rX12_outWord hv ?_
  replace h := q_be h
  obtain ⟨u32, hv, h⟩ := h
  replace hv := q_ob_e hv
  obtain ⟨_, cu32⟩ := hv
  replace h := q_be h
  obtain ⟨v33, hv, h⟩ := h
  refine ⟨⟨some _, rfl⟩, ⟨_, cu32⟩, ?_⟩
  refine rX12_openChunk hv ?_
  replace h := q_be h
  obtain ⟨v34, hv, h⟩ := h
  replace hv := q_fI_e hv
  obtain ⟨_, cv34, dv34⟩ := hv
  replace h := q_be h
  obtain ⟨u35, hv, h⟩ := h
  replace hv := q_ob_e hv
  obtain ⟨_, cu35⟩ := hv
  replace h := q_be h
  obtain ⟨v36, hv, h⟩ := h
  refine ⟨⟨some _, rfl⟩, ⟨some _, rfl⟩, _, _, cv34, dv34, ⟨_, cu35⟩, ?_⟩
  refine rX12_outWord hv ?_
  replace h := q_be h
  obtain ⟨v37, hv, h⟩ := h
  replace hv := q_fI_e hv
  obtain ⟨_, cv37, dv37⟩ := hv
  replace h := q_be h
  obtain ⟨u38, hv, h⟩ := h
  replace hv := q_ob_e hv
  obtain ⟨_, cu38⟩ := hv
  replace h := q_be h
  obtain ⟨v39, hv, h⟩ := h
  refine ⟨⟨some _, rfl⟩, ⟨some _, rfl⟩, _, _, cv37, dv37, ⟨_, cu38⟩, ?_⟩
  refine rX12_outWord hv ?_
  replace h := q_be h
  obtain ⟨u40, hv, h⟩ := h
  replace hv := q_ob_e hv
  obtain ⟨_, cu40⟩ := hv
  replace h := q_be h
  obtain ⟨v41, hv, h⟩ := h
  refine ⟨⟨some _, rfl⟩, ⟨_, cu40⟩, ?_⟩
  refine rX12_outByte hv ?_
  replace h := q_be h
  obtain ⟨u42, hv, h⟩ := h
  replace hv := q_ob_e hv
  obtain ⟨_, cu42⟩ := hv
  replace h := q_be h
  obtain ⟨v43, hv, h⟩ := h
  refine ⟨⟨some _, rfl⟩, ⟨_, cu42⟩, ?_⟩
  refine rX12_outByte hv ?_
  refine ⟨by decide, ?_⟩
  replace h := q_be h
  obtain ⟨s50, hl, h⟩ := h
  refine ps_weak (q_lp_ok hl (fun s => ps_At mX12_made (d + 9) 147 [(0, .ref x0), (2, .int s.1)] [] s.2 Q) (fun r => ps_At mX12_made (d + 9) 163 [(0, .ref x0)] [] r Q) (fun s x hb hh he => pbX12_made_147 hb hh he) ?_) ⟨rfl, rfl, trivial⟩
  refine (?_ : ps_At mX12_made (d + 9) 163 [(0, .ref x0)] [] s50 Q)
  refine sX12_made_163 ?_
  replace h := q_be h
  obtain ⟨u51, hv, h⟩ := h
  replace hv := q_ob_e hv
  obtain ⟨_, cu51⟩ := hv
  replace h := q_be h
  obtain ⟨v52, hv, h⟩ := h
  refine ⟨⟨some _, rfl⟩, ⟨_, cu51⟩, ?_⟩
  refine rX12_closeChunk hv ?_
  replace h := q_be h
  obtain ⟨u53, hv, h⟩ := h
  replace hv := q_ob_e hv
  obtain ⟨_, cu53⟩ := hv
  replace h := q_be h
  obtain ⟨v54, hv, h⟩ := h
  refine ⟨⟨some _, rfl⟩, ⟨_, cu53⟩, ?_⟩
  refine rX12_openChunk hv ?_
  replace h := q_be h
  obtain ⟨u55, hv, h⟩ := h
  replace hv := q_ob_e hv
  obtain ⟨_, cu55⟩ := hv
  replace h := q_be h
  obtain ⟨v56, hv, h⟩ := h
  refine ⟨⟨some _, rfl⟩, ⟨_, cu55⟩, ?_⟩
  refine rX12_outByte hv ?_
  replace h := q_be h
  obtain ⟨u57, hv, h⟩ := h
  replace hv := q_ob_e hv
  obtain ⟨_, cu57⟩ := hv
  replace h := q_be h
  obtain ⟨v58, hv, h⟩ := h
  refine ⟨⟨some _, rfl⟩, ⟨_, cu57⟩, ?_⟩
  refine rX12_outByte hv ?_
  replace h := q_be h
  obtain ⟨u59, hv, h⟩ := h
  replace hv := q_ob_e hv
  obtain ⟨_, cu59⟩ := hv
  replace h := q_be h
  obtain ⟨v60, hv, h⟩ := h
  refine ⟨⟨some _, rfl⟩, ⟨_, cu59⟩, ?_⟩
  refine rX12_makeRows hv ?_
  replace h := q_be h
  obtain ⟨u61, hv, h⟩ := h
  replace hv := q_ob_e hv
  obtain ⟨_, cu61⟩ := hv
  replace h := q_be h
  obtain ⟨v62, hv, h⟩ := h
  refine ⟨⟨some _, rfl⟩, ⟨_, cu61⟩, ?_⟩
  refine rX12_deflate hv ?_
  replace h := q_be h
  obtain ⟨u63, hv, h⟩ := h
  replace hv := q_ob_e hv
  obtain ⟨_, cu63⟩ := hv
  replace h := q_be h
  obtain ⟨v64, hv, h⟩ := h
  refine ⟨⟨some _, rfl⟩, ⟨some _, rfl⟩, ⟨_, cu63⟩, ?_⟩
  refine rX12_sumOfRows hv ?_
  replace h := q_be h
  obtain ⟨u65, hv, h⟩ := h
  replace hv := q_ob_e hv
  obtain ⟨_, cu65⟩ := hv
  replace h := q_be h
  obtain ⟨v66, hv, h⟩ := h
  refine ⟨⟨_, cu65⟩, ?_⟩
  refine rX12_outWord hv ?_
  replace h := q_be h
  obtain ⟨u67, hv, h⟩ := h
  replace hv := q_ob_e hv
  obtain ⟨_, cu67⟩ := hv
  replace h := q_be h
  obtain ⟨v68, hv, h⟩ := h
  refine ⟨⟨some _, rfl⟩, ⟨_, cu67⟩, ?_⟩
  refine rX12_closeChunk hv ?_
  replace h := q_be h
  obtain ⟨u69, hv, h⟩ := h
  replace hv := q_ob_e hv
  obtain ⟨_, cu69⟩ := hv
  replace h := q_be h
  obtain ⟨v70, hv, h⟩ := h
  refine ⟨⟨some _, rfl⟩, ⟨_, cu69⟩, ?_⟩
  refine rX12_openChunk hv ?_
  replace h := q_be h
  obtain ⟨u71, hv, h⟩ := h
  replace hv := q_ob_e hv
  obtain ⟨_, cu71⟩ := hv
  replace h := q_be h
  obtain ⟨v72, hv, h⟩ := h
  refine ⟨⟨some _, rfl⟩, ⟨_, cu71⟩, ?_⟩
  refine rX12_closeChunk hv ?_
  replace h := q_be h
  obtain ⟨v73, hv, h⟩ := h
  replace hv := q_fI_e hv
  obtain ⟨_, cv73, dv73⟩ := hv
  cases h
  exact ⟨⟨some _, rfl⟩, _, _, cv73, dv73, rfl, hk⟩
noncomputable def jX12_made_20 (g : ps_G) (x0 : Nat) (x1 : Int32) (k0 : Nat) (k1 : Int32) : Option (Int32 × ps_G) := Option.bind (q_sI 12 0 g k0 k1) fun g2 => Option.bind (q_fI 12 0 g2 x0) fun v3 => if v3 ≤ 0 then (if ¬ x1 = (-1 : Int32) then (jX12_made_41 g2 x0 x1) else (Option.bind (q_ob 12 g2 x0) fun u74 => Option.bind (fX12_composeAll g2 x0) fun v75 => jX12_made_41 v75 x0 x1)) else (some ((0 : Int32), g2))
theorem pjX12_made_20 {d : Nat} {Q : ps_Rs → ps_G → Prop} {g : ps_G} {x0 : Nat} {x1 : Int32} {k0 : Nat} {k1 : Int32} {r : Int32 × ps_G} (h : jX12_made_20 g x0 x1 k0 k1 = some r) (hk : Q (.inl (some (.int r.1))) r.2) : ps_At mX12_made (d + 9) 20 [(0, .ref x0), (1, .int x1)] [.int k1, .ref k0] g Q := by
  unfold jX12_made_20 at h
  refine sX12_made_20 ?_
  replace h := q_be h
  obtain ⟨g2, hv, h⟩ := h
  replace hv := q_sI_e hv
  obtain ⟨_, cg2, dg2, yg2⟩ := hv
  replace h := q_be h
  obtain ⟨v3, hv, h⟩ := h
  replace hv := q_fI_e hv
  obtain ⟨_, cv3, dv3⟩ := hv
  refine ⟨_, cg2, dg2, rfl, rfl, _, yg2, ⟨some _, rfl⟩, _, _, cv3, dv3, ?_⟩
  refine And.intro (fun hc4 => ?_) (fun hc4 => ?_)
  · replace h := q_ifp (hc4) h
    refine sX12_made_32 ?_
    refine And.intro (fun hc5 => ?_) (fun hc5 => ?_)
    · replace h := q_ifp (hc5) h
      exact ps_weak (pjX12_made_41 h hk) ⟨rfl, rfl, trivial⟩
    · replace h := q_ifn (hc5) h
      replace h := q_be h
      obtain ⟨u74, hv, h⟩ := h
      replace hv := q_ob_e hv
      obtain ⟨_, cu74⟩ := hv
      replace h := q_be h
      obtain ⟨v75, hv, h⟩ := h
      refine ⟨⟨some _, rfl⟩, ⟨_, cu74⟩, ?_⟩
      refine rX12_composeAll hv ?_
      exact ps_weak (pjX12_made_41 h hk) ⟨rfl, rfl, trivial⟩
  · replace h := q_ifn (hc4) h
    cases h
    exact ⟨rfl, hk⟩
noncomputable def jX12_made_15 (g : ps_G) (x0 : Nat) (x1 : Int32) (k0 : Nat) : Option (Int32 × ps_G) := jX12_made_20 g x0 x1 k0 (0 : Int32)
theorem pjX12_made_15 {d : Nat} {Q : ps_Rs → ps_G → Prop} {g : ps_G} {x0 : Nat} {x1 : Int32} {k0 : Nat} {r : Int32 × ps_G} (h : jX12_made_15 g x0 x1 k0 = some r) (hk : Q (.inl (some (.int r.1))) r.2) : ps_At mX12_made (d + 9) 15 [(0, .ref x0), (1, .int x1)] [.ref k0] g Q := by
  unfold jX12_made_15 at h
  refine sX12_made_15 ?_
  exact ps_weak (pjX12_made_20 h hk) ⟨rfl, rfl, trivial⟩
noncomputable def fX12_made (g : ps_G) (x0 : Nat) (x1 : Int32) : Option (Int32 × ps_G) := if x1 = (-1 : Int32) then (jX12_made_15 g x0 x1 x0) else (Option.bind (q_ob 12 g x0) fun u80 => Option.bind (fX12_is g x0 x1 (0 : Int32)) fun v81 => if v81 = 0 then (jX12_made_20 g x0 x1 x0 (1 : Int32)) else (jX12_made_15 g x0 x1 x0))
theorem rX12_made {d : Nat} {Q : ps_Rs → ps_G → Prop} {g : ps_G} {x0 : Nat} {x1 : Int32} {r : Int32 × ps_G} (h : fX12_made g x0 x1 = some r) (hk : Q (.inl (some (.int r.1))) r.2) : ps_Ok mX12_made (d + 9) [.ref x0, .int x1] g Q := by
  unfold fX12_made at h
  refine sX12_made_0 ?_
  refine ⟨⟨some _, rfl⟩, ?_⟩
  refine And.intro (fun hc1 => ?_) (fun hc1 => ?_)
  · replace h := q_ifp (hc1) h
    exact ps_weak (pjX12_made_15 h hk) ⟨rfl, rfl, trivial⟩
  · replace h := q_ifn (hc1) h
    replace h := q_be h
    obtain ⟨u80, hv, h⟩ := h
    replace hv := q_ob_e hv
    obtain ⟨_, cu80⟩ := hv
    replace h := q_be h
    obtain ⟨v81, hv, h⟩ := h
    refine ⟨⟨some _, rfl⟩, ⟨_, cu80⟩, ?_⟩
    refine rX12_is hv ?_
    refine And.intro (fun hc82 => ?_) (fun hc82 => ?_)
    · replace h := q_ifp (hc82) h
      refine sX12_made_19 ?_
      exact ps_weak (pjX12_made_20 h hk) ⟨rfl, rfl, trivial⟩
    · replace h := q_ifn (hc82) h
      exact ps_weak (pjX12_made_15 h hk) ⟨rfl, rfl, trivial⟩
noncomputable def jX12_octets_78_45 (g : ps_G) (x0 : Nat) (x1 : Int32) (x4 : Int32) (k0 : Int64) (k1 : Int32) : Option ((Int64 × Int32) ⊕ (Int64)) := some (.inl (k0 ||| (Int32.toInt64 k1), x4 + (1 : Int32)))
theorem pjX12_octets_78_45 {d : Nat} {Q : ps_Rs → ps_G → Prop} {g : ps_G} {x0 : Nat} {x1 : Int32} {x4 : Int32} {k0 : Int64} {k1 : Int32} {x : (Int64 × Int32) ⊕ (Int64)} (h : jX12_octets_78_45 g x0 x1 x4 k0 k1 = some x) (hh : ∀ s' : Int64 × Int32, x = .inl s' → ps_At mX12_octets (d + 1) 45 [(0, .ref x0), (1, .int x1), (2, .long s'.1), (4, .int s'.2)] [] g Q) (he : ∀ r' : Int64, x = .inr r' → ps_At mX12_octets (d + 1) 87 [(2, .long r')] [] g Q) : ps_At mX12_octets (d + 1) 78 [(0, .ref x0), (1, .int x1), (4, .int x4)] [.int k1, .long k0] g Q := by
  unfold jX12_octets_78_45 at h
  refine sX12_octets_78 ?_
  refine ⟨by decide, by decide, ?_⟩
  exact ps_weak (hh (k0 ||| (Int32.toInt64 k1), x4 + (1 : Int32)) (Option.some.inj h).symm) ⟨rfl, rfl, rfl, rfl, trivial⟩
noncomputable def bX12_octets_45 (g : ps_G) (x0 : Nat) (x1 : Int32) (x2 : Int64) (x4 : Int32) : Option ((Int64 × Int32) ⊕ (Int64)) := if (x1 + (8 : Int32)) ≤ x4 then (some (.inr x2)) else (Option.bind (q_fI 12 7 g x0) fun v10 => if v10 ≤ x4 then (jX12_octets_78_45 g x0 x1 x4 (q_lshl x2 (8 : Int32)) (0 : Int32)) else (Option.bind (q_fR 12 6 g x0) fun v13 => Option.bind (v13) fun a14 => Option.bind (q_aI g a14 x4) fun v15 => jX12_octets_78_45 g x0 x1 x4 (q_lshl x2 (8 : Int32)) v15))
theorem pbX12_octets_45 {d : Nat} {Q : ps_Rs → ps_G → Prop} {g : ps_G} {x0 : Nat} {x1 : Int32} {x2 : Int64} {x4 : Int32} {x : (Int64 × Int32) ⊕ (Int64)} (h : bX12_octets_45 g x0 x1 x2 x4 = some x) (hh : ∀ s' : Int64 × Int32, x = .inl s' → ps_At mX12_octets (d + 1) 45 [(0, .ref x0), (1, .int x1), (2, .long s'.1), (4, .int s'.2)] [] g Q) (he : ∀ r' : Int64, x = .inr r' → ps_At mX12_octets (d + 1) 87 [(2, .long r')] [] g Q) : ps_At mX12_octets (d + 1) 45 [(0, .ref x0), (1, .int x1), (2, .long x2), (4, .int x4)] [] g Q := by
  unfold bX12_octets_45 at h
  refine sX12_octets_45 ?_
  refine And.intro (fun hc8 => ?_) (fun hc8 => ?_)
  · replace h := q_ifp (hc8) h
    exact ps_weak (he x2 (Option.some.inj h).symm) ⟨rfl, trivial⟩
  · replace h := q_ifn (hc8) h
    replace h := q_be h
    obtain ⟨v10, hv, h⟩ := h
    replace hv := q_fI_e hv
    obtain ⟨_, cv10, dv10⟩ := hv
    refine ⟨⟨some _, rfl⟩, _, _, cv10, dv10, ?_⟩
    refine And.intro (fun hc11 => ?_) (fun hc11 => ?_)
    · replace h := q_ifp (hc11) h
      refine sX12_octets_77 ?_
      exact ps_weak (pjX12_octets_78_45 h hh he) ⟨rfl, rfl, rfl, trivial⟩
    · replace h := q_ifn (hc11) h
      replace h := q_be h
      obtain ⟨v13, hv, h⟩ := h
      replace hv := q_fR_e hv
      obtain ⟨_, cv13, dv13⟩ := hv
      replace h := q_be h
      obtain ⟨a14, ea14, h⟩ := h
      subst ea14
      replace h := q_be h
      obtain ⟨v15, hv, h⟩ := h
      replace hv := q_aI_e hv
      obtain ⟨_, _, cv15, iv15, yv15⟩ := hv
      refine ⟨⟨some _, rfl⟩, _, _, cv13, dv13, _, _, cv15, iv15, _, yv15, ?_⟩
      exact ps_weak (pjX12_octets_78_45 h hh he) ⟨rfl, rfl, rfl, trivial⟩
noncomputable def fX12_octets (g : ps_G) (x0 : Nat) (x1 : Int32) : Option (Int64 × ps_G) := Option.bind (q_sI 12 0 g x0 (if (fX12_in x1 (-1 : Int32) (8000 : Int32)) = 0 then (1 : Int32) else (0 : Int32))) fun g4 => Option.bind (q_fI 12 0 g4 x0) fun v5 => if v5 ≤ 0 then (if ¬ x1 = (-1 : Int32) then (Option.bind (q_lp (fun s => bX12_octets_45 g4 x0 x1 s.1 s.2) ((0 : Int64), x1)) fun s20 => some (s20, g4)) else (Option.bind (q_fI 12 7 g4 x0) fun v21 => some (Int32.toInt64 v21, g4))) else (some ((0 : Int64), g4))
theorem rX12_octets {d : Nat} {Q : ps_Rs → ps_G → Prop} {g : ps_G} {x0 : Nat} {x1 : Int32} {r : Int64 × ps_G} (h : fX12_octets g x0 x1 = some r) (hk : Q (.inl (some (.long r.1))) r.2) : ps_Ok mX12_octets (d + 1) [.ref x0, .int x1] g Q := by
  unfold fX12_octets at h
  refine sX12_octets_0 ?_
  refine ⟨⟨some _, rfl⟩, ?_⟩
  refine rX12_in rfl ?_
  have kJ3 : ∀ w2 : Int32, w2 = (if (fX12_in x1 (-1 : Int32) (8000 : Int32)) = 0 then (1 : Int32) else (0 : Int32)) → ps_At mX12_octets (d + 1) 17 [(0, .ref x0), (1, .int x1)] [.int w2, .ref x0] g Q := by
    rintro _ rfl
    refine sX12_octets_17 ?_
    replace h := q_be h
    obtain ⟨g4, hv, h⟩ := h
    replace hv := q_sI_e hv
    obtain ⟨_, cg4, dg4, yg4⟩ := hv
    replace h := q_be h
    obtain ⟨v5, hv, h⟩ := h
    replace hv := q_fI_e hv
    obtain ⟨_, cv5, dv5⟩ := hv
    refine ⟨_, cg4, dg4, rfl, rfl, _, yg4, ⟨some _, rfl⟩, _, _, cv5, dv5, ?_⟩
    refine And.intro (fun hc6 => ?_) (fun hc6 => ?_)
    · replace h := q_ifp (hc6) h
      refine sX12_octets_29 ?_
      refine And.intro (fun hc7 => ?_) (fun hc7 => ?_)
      · replace h := q_ifp (hc7) h
        refine sX12_octets_40 ?_
        refine ⟨by decide, by decide, ?_⟩
        replace h := q_be h
        obtain ⟨s20, hl, h⟩ := h
        refine ps_weak (q_lp_ok hl (fun s => ps_At mX12_octets (d + 1) 45 [(0, .ref x0), (1, .int x1), (2, .long s.1), (4, .int s.2)] [] g4 Q) (fun r => ps_At mX12_octets (d + 1) 87 [(2, .long r)] [] g4 Q) (fun s x hb hh he => pbX12_octets_45 hb hh he) ?_) ⟨rfl, rfl, rfl, rfl, trivial⟩
        refine (?_ : ps_At mX12_octets (d + 1) 87 [(2, .long s20)] [] g4 Q)
        refine sX12_octets_87 ?_
        cases h
        exact ⟨rfl, rfl, hk⟩
      · replace h := q_ifn (hc7) h
        replace h := q_be h
        obtain ⟨v21, hv, h⟩ := h
        replace hv := q_fI_e hv
        obtain ⟨_, cv21, dv21⟩ := hv
        cases h
        exact ⟨⟨some _, rfl⟩, _, _, cv21, dv21, rfl, rfl, hk⟩
    · replace h := q_ifn (hc6) h
      cases h
      exact ⟨rfl, rfl, hk⟩
  refine And.intro (fun hc1 => ?_) (fun hc1 => ?_)
  · refine sX12_octets_16 ?_
    exact ps_weak (kJ3 _ (if_pos (hc1)).symm) ⟨rfl, rfl, trivial⟩
  · exact ps_weak (kJ3 _ (if_neg (hc1)).symm) ⟨rfl, rfl, trivial⟩
noncomputable def fX12_word (g : ps_G) (x0 : Nat) (x1 : Int32) : Option (Int32) := Option.bind (q_fR 12 1 g x0) fun v1 => Option.bind (v1) fun a2 => Option.bind (q_aI g a2 x1) fun v3 => Option.bind (q_fR 12 1 g x0) fun v4 => Option.bind (v4) fun a5 => Option.bind (q_aI g a5 (x1 + (1 : Int32))) fun v6 => Option.bind (q_fR 12 1 g x0) fun v7 => Option.bind (v7) fun a8 => Option.bind (q_aI g a8 (x1 + (2 : Int32))) fun v9 => Option.bind (q_fR 12 1 g x0) fun v10 => Option.bind (v10) fun a11 => Option.bind (q_aI g a11 (x1 + (3 : Int32))) fun v12 => some ((((q_shl v3 (24 : Int32)) ||| (q_shl v6 (16 : Int32))) ||| (q_shl v9 (8 : Int32))) ||| v12)
theorem rX12_word {d : Nat} {Q : ps_Rs → ps_G → Prop} {g : ps_G} {x0 : Nat} {x1 : Int32} {r : Int32} (h : fX12_word g x0 x1 = some r) (hk : Q (.inl (some (.int r))) g) : ps_Ok mX12_word d [.ref x0, .int x1] g Q := by
  unfold fX12_word at h
  refine sX12_word_0 ?_
  replace h := q_be h
  obtain ⟨v1, hv, h⟩ := h
  replace hv := q_fR_e hv
  obtain ⟨_, cv1, dv1⟩ := hv
  replace h := q_be h
  obtain ⟨a2, ea2, h⟩ := h
  subst ea2
  replace h := q_be h
  obtain ⟨v3, hv, h⟩ := h
  replace hv := q_aI_e hv
  obtain ⟨_, _, cv3, iv3, yv3⟩ := hv
  replace h := q_be h
  obtain ⟨v4, hv, h⟩ := h
  replace hv := q_fR_e hv
  obtain ⟨_, cv4, dv4⟩ := hv
  replace h := q_be h
  obtain ⟨a5, ea5, h⟩ := h
  subst ea5
  replace h := q_be h
  obtain ⟨v6, hv, h⟩ := h
  replace hv := q_aI_e hv
  obtain ⟨_, _, cv6, iv6, yv6⟩ := hv
  replace h := q_be h
  obtain ⟨v7, hv, h⟩ := h
  replace hv := q_fR_e hv
  obtain ⟨_, cv7, dv7⟩ := hv
  replace h := q_be h
  obtain ⟨a8, ea8, h⟩ := h
  subst ea8
  replace h := q_be h
  obtain ⟨v9, hv, h⟩ := h
  replace hv := q_aI_e hv
  obtain ⟨_, _, cv9, iv9, yv9⟩ := hv
  replace h := q_be h
  obtain ⟨v10, hv, h⟩ := h
  replace hv := q_fR_e hv
  obtain ⟨_, cv10, dv10⟩ := hv
  replace h := q_be h
  obtain ⟨a11, ea11, h⟩ := h
  subst ea11
  replace h := q_be h
  obtain ⟨v12, hv, h⟩ := h
  replace hv := q_aI_e hv
  obtain ⟨_, _, cv12, iv12, yv12⟩ := hv
  refine ⟨⟨some _, rfl⟩, _, _, cv1, dv1, _, _, cv3, iv3, _, yv3, ⟨some _, rfl⟩, _, _, cv4, dv4, _, _, cv6, iv6, _, yv6, ⟨some _, rfl⟩, _, _, cv7, dv7, _, _, cv9, iv9, _, yv9, ⟨some _, rfl⟩, _, _, cv10, dv10, _, _, cv12, iv12, _, yv12, ?_⟩
  cases h
  exact ⟨rfl, hk⟩
noncomputable def jX12_header_213 (g : ps_G) : Option (ps_G) := some g
theorem pjX12_header_213 {d : Nat} {Q : ps_Rs → ps_G → Prop} {g : ps_G}  {r : ps_G} (h : jX12_header_213 g = some r) (hk : Q (.inl none) r) : ps_At mX12_header (d + 1) 213 [] [] g Q := by
  unfold jX12_header_213 at h
  refine sX12_header_213 ?_
  cases h
  exact ⟨rfl, rfl, hk⟩
noncomputable def jX12_header_202 (g : ps_G) (x0 : Nat) (x1 : Int32) (x5 : Int32) : Option (ps_G) := if ¬ x5 = 0 then (jX12_header_213 g) else (Option.bind (q_ob 12 g x0) fun u10 => Option.bind (fX12_wrong g x0 (3 : Int32) x1) fun v11 => jX12_header_213 v11)
theorem pjX12_header_202 {d : Nat} {Q : ps_Rs → ps_G → Prop} {g : ps_G} {x0 : Nat} {x1 : Int32} {x5 : Int32} {r : ps_G} (h : jX12_header_202 g x0 x1 x5 = some r) (hk : Q (.inl none) r) : ps_At mX12_header (d + 1) 202 [(0, .ref x0), (1, .int x1), (5, .int x5)] [] g Q := by
  unfold jX12_header_202 at h
  refine sX12_header_202 ?_
  refine And.intro (fun hc8 => ?_) (fun hc8 => ?_)
  · replace h := q_ifp (hc8) h
    exact ps_weak (pjX12_header_213 h hk) trivial
  · replace h := q_ifn (hc8) h
    replace h := q_be h
    obtain ⟨u10, hv, h⟩ := h
    replace hv := q_ob_e hv
    obtain ⟨_, cu10⟩ := hv
    replace h := q_be h
    obtain ⟨v11, hv, h⟩ := h
    refine ⟨⟨some _, rfl⟩, ⟨_, cu10⟩, ?_⟩
    refine rX12_wrong hv ?_
    exact ps_weak (pjX12_header_213 h hk) trivial
noncomputable def jX12_header_200 (g : ps_G) (x0 : Nat) (x1 : Int32) (k0 : Int32) : Option (ps_G) := jX12_header_202 g x0 x1 k0
theorem pjX12_header_200 {d : Nat} {Q : ps_Rs → ps_G → Prop} {g : ps_G} {x0 : Nat} {x1 : Int32} {k0 : Int32} {r : ps_G} (h : jX12_header_200 g x0 x1 k0 = some r) (hk : Q (.inl none) r) : ps_At mX12_header (d + 1) 200 [(0, .ref x0), (1, .int x1)] [.int k0] g Q := by
  unfold jX12_header_200 at h
  refine sX12_header_200 ?_
  refine ⟨by decide, ?_⟩
  exact ps_weak (pjX12_header_202 h hk) ⟨rfl, rfl, rfl, trivial⟩
noncomputable def jX12_header_199 (g : ps_G) (x0 : Nat) (x1 : Int32) : Option (ps_G) := jX12_header_200 g x0 x1 (0 : Int32)
theorem pjX12_header_199 {d : Nat} {Q : ps_Rs → ps_G → Prop} {g : ps_G} {x0 : Nat} {x1 : Int32} {r : ps_G} (h : jX12_header_199 g x0 x1 = some r) (hk : Q (.inl none) r) : ps_At mX12_header (d + 1) 199 [(0, .ref x0), (1, .int x1)] [] g Q := by
  unfold jX12_header_199 at h
  refine sX12_header_199 ?_
  exact ps_weak (pjX12_header_200 h hk) ⟨rfl, rfl, trivial⟩
noncomputable def jX12_header_195 (g : ps_G) (x0 : Nat) (x1 : Int32) : Option (ps_G) := jX12_header_200 g x0 x1 (1 : Int32)
theorem pjX12_header_195 {d : Nat} {Q : ps_Rs → ps_G → Prop} {g : ps_G} {x0 : Nat} {x1 : Int32} {r : ps_G} (h : jX12_header_195 g x0 x1 = some r) (hk : Q (.inl none) r) : ps_At mX12_header (d + 1) 195 [(0, .ref x0), (1, .int x1)] [] g Q := by
  unfold jX12_header_195 at h
  refine sX12_header_195 ?_
  exact ps_weak (pjX12_header_200 h hk) ⟨rfl, rfl, trivial⟩
noncomputable def jX12_header_148 (g : ps_G) (x0 : Nat) (x1 : Int32) (k0 : Int32) : Option (ps_G) := if k0 = 0 then (jX12_header_199 g x0 x1) else (Option.bind (q_fI 12 85 g x0) fun v27 => if v27 = 0 then (jX12_header_195 g x0 x1) else (Option.bind (q_fI 12 85 g x0) fun v29 => if v29 = (2 : Int32) then (jX12_header_195 g x0 x1) else (Option.bind (q_fI 12 85 g x0) fun v31 => if v31 = (3 : Int32) then (jX12_header_195 g x0 x1) else (Option.bind (q_fI 12 85 g x0) fun v33 => if v33 = (4 : Int32) then (jX12_header_195 g x0 x1) else (Option.bind (q_fI 12 85 g x0) fun v35 => if ¬ v35 = (6 : Int32) then (jX12_header_199 g x0 x1) else (jX12_header_195 g x0 x1))))))
theorem pjX12_header_148 {d : Nat} {Q : ps_Rs → ps_G → Prop} {g : ps_G} {x0 : Nat} {x1 : Int32} {k0 : Int32} {r : ps_G} (h : jX12_header_148 g x0 x1 k0 = some r) (hk : Q (.inl none) r) : ps_At mX12_header (d + 1) 148 [(0, .ref x0), (1, .int x1)] [.int k0] g Q := by
  unfold jX12_header_148 at h
  refine sX12_header_148 ?_
  refine ⟨by decide, ?_⟩
  refine And.intro (fun hc26 => ?_) (fun hc26 => ?_)
  · replace h := q_ifp (hc26) h
    exact ps_weak (pjX12_header_199 h hk) ⟨rfl, rfl, trivial⟩
  · replace h := q_ifn (hc26) h
    replace h := q_be h
    obtain ⟨v27, hv, h⟩ := h
    replace hv := q_fI_e hv
    obtain ⟨_, cv27, dv27⟩ := hv
    refine ⟨⟨some _, rfl⟩, _, _, cv27, dv27, ?_⟩
    refine And.intro (fun hc28 => ?_) (fun hc28 => ?_)
    · replace h := q_ifp (hc28) h
      exact ps_weak (pjX12_header_195 h hk) ⟨rfl, rfl, trivial⟩
    · replace h := q_ifn (hc28) h
      replace h := q_be h
      obtain ⟨v29, hv, h⟩ := h
      replace hv := q_fI_e hv
      obtain ⟨_, cv29, dv29⟩ := hv
      refine ⟨⟨some _, rfl⟩, _, _, cv29, dv29, ?_⟩
      refine And.intro (fun hc30 => ?_) (fun hc30 => ?_)
      · replace h := q_ifp (hc30) h
        exact ps_weak (pjX12_header_195 h hk) ⟨rfl, rfl, trivial⟩
      · replace h := q_ifn (hc30) h
        replace h := q_be h
        obtain ⟨v31, hv, h⟩ := h
        replace hv := q_fI_e hv
        obtain ⟨_, cv31, dv31⟩ := hv
        refine ⟨⟨some _, rfl⟩, _, _, cv31, dv31, ?_⟩
        refine And.intro (fun hc32 => ?_) (fun hc32 => ?_)
        · replace h := q_ifp (hc32) h
          exact ps_weak (pjX12_header_195 h hk) ⟨rfl, rfl, trivial⟩
        · replace h := q_ifn (hc32) h
          replace h := q_be h
          obtain ⟨v33, hv, h⟩ := h
          replace hv := q_fI_e hv
          obtain ⟨_, cv33, dv33⟩ := hv
          refine ⟨⟨some _, rfl⟩, _, _, cv33, dv33, ?_⟩
          refine And.intro (fun hc34 => ?_) (fun hc34 => ?_)
          · replace h := q_ifp (hc34) h
            exact ps_weak (pjX12_header_195 h hk) ⟨rfl, rfl, trivial⟩
          · replace h := q_ifn (hc34) h
            replace h := q_be h
            obtain ⟨v35, hv, h⟩ := h
            replace hv := q_fI_e hv
            obtain ⟨_, cv35, dv35⟩ := hv
            refine ⟨⟨some _, rfl⟩, _, _, cv35, dv35, ?_⟩
            refine And.intro (fun hc36 => ?_) (fun hc36 => ?_)
            · replace h := q_ifp (hc36) h
              exact ps_weak (pjX12_header_199 h hk) ⟨rfl, rfl, trivial⟩
            · replace h := q_ifn (hc36) h
              exact ps_weak (pjX12_header_195 h hk) ⟨rfl, rfl, trivial⟩
noncomputable def jX12_header_147 (g : ps_G) (x0 : Nat) (x1 : Int32) : Option (ps_G) := jX12_header_148 g x0 x1 (0 : Int32)
theorem pjX12_header_147 {d : Nat} {Q : ps_Rs → ps_G → Prop} {g : ps_G} {x0 : Nat} {x1 : Int32} {r : ps_G} (h : jX12_header_147 g x0 x1 = some r) (hk : Q (.inl none) r) : ps_At mX12_header (d + 1) 147 [(0, .ref x0), (1, .int x1)] [] g Q := by
  unfold jX12_header_147 at h
  refine sX12_header_147 ?_
  exact ps_weak (pjX12_header_148 h hk) ⟨rfl, rfl, trivial⟩
noncomputable def fX12_header (g : ps_G) (x0 : Nat) (x1 : Int32) (x2 : Int32) (x3 : Int32) (x4 : Int32) : Option (ps_G) := if (if (x4 = 0) ∨ ((¬ x3 = (1229472850 : Int32)) ∨ (¬ x2 = (13 : Int32))) then (0 : Int32) else (1 : Int32)) = 0 then (jX12_header_202 g x0 x1 (if (x4 = 0) ∨ ((¬ x3 = (1229472850 : Int32)) ∨ (¬ x2 = (13 : Int32))) then (0 : Int32) else (1 : Int32))) else (Option.bind (q_ob 12 g x0) fun u14 => Option.bind (fX12_word g x0 (x1 + (8 : Int32))) fun v15 => Option.bind (q_sI 12 83 g x0 v15) fun g16 => Option.bind (q_ob 12 g16 x0) fun u17 => Option.bind (fX12_word g16 x0 (x1 + (12 : Int32))) fun v18 => Option.bind (q_sI 12 84 g16 x0 v18) fun g19 => Option.bind (q_fR 12 1 g19 x0) fun v20 => Option.bind (v20) fun a21 => Option.bind (q_aI g19 a21 (x1 + (17 : Int32))) fun v22 => Option.bind (q_sI 12 85 g19 x0 v22) fun g23 => Option.bind (q_fI 12 83 g23 x0) fun v24 => if (fX12_in v24 (1 : Int32) (24 : Int32)) = 0 then (jX12_header_147 g23 x0 x1) else (Option.bind (q_fI 12 84 g23 x0) fun v49 => if (fX12_in v49 (1 : Int32) (24 : Int32)) = 0 then (jX12_header_147 g23 x0 x1) else (Option.bind (q_fR 12 1 g23 x0) fun v51 => Option.bind (v51) fun a52 => Option.bind (q_aI g23 a52 (x1 + (16 : Int32))) fun v53 => if ¬ v53 = (8 : Int32) then (jX12_header_147 g23 x0 x1) else (Option.bind (q_fR 12 1 g23 x0) fun v55 => Option.bind (v55) fun a56 => Option.bind (q_aI g23 a56 (x1 + (18 : Int32))) fun v57 => if ¬ v57 = 0 then (jX12_header_147 g23 x0 x1) else (Option.bind (q_fR 12 1 g23 x0) fun v59 => Option.bind (v59) fun a60 => Option.bind (q_aI g23 a60 (x1 + (19 : Int32))) fun v61 => if ¬ v61 = 0 then (jX12_header_147 g23 x0 x1) else (Option.bind (q_fR 12 1 g23 x0) fun v63 => Option.bind (v63) fun a64 => Option.bind (q_aI g23 a64 (x1 + (20 : Int32))) fun v65 => if ¬ v65 = 0 then (jX12_header_147 g23 x0 x1) else (jX12_header_148 g23 x0 x1 (1 : Int32))))))))
theorem rX12_header {d : Nat} {Q : ps_Rs → ps_G → Prop} {g : ps_G} {x0 : Nat} {x1 : Int32} {x2 : Int32} {x3 : Int32} {x4 : Int32} {r : ps_G} (h : fX12_header g x0 x1 x2 x3 x4 = some r) (hk : Q (.inl none) r) : ps_Ok mX12_header (d + 1) [.ref x0, .int x1, .int x2, .int x3, .int x4] g Q := by
  unfold fX12_header at h
  refine sX12_header_0 ?_
  have kJ5 : ∀ w4 : Int32, w4 = (if (x4 = 0) ∨ ((¬ x3 = (1229472850 : Int32)) ∨ (¬ x2 = (13 : Int32))) then (0 : Int32) else (1 : Int32)) → ps_At mX12_header (d + 1) 23 [(0, .ref x0), (1, .int x1)] [.int w4] g Q := by
    rintro _ rfl
    refine sX12_header_23 ?_
    refine ⟨by decide, ?_⟩
    refine And.intro (fun hc6 => ?_) (fun hc6 => ?_)
    · replace h := q_ifp (hc6) h
      exact ps_weak (pjX12_header_202 h hk) ⟨rfl, rfl, rfl, trivial⟩
    · replace h := q_ifn (hc6) h
      replace h := q_be h
      obtain ⟨u14, hv, h⟩ := h
      replace hv := q_ob_e hv
      obtain ⟨_, cu14⟩ := hv
      replace h := q_be h
      obtain ⟨v15, hv, h⟩ := h
      refine ⟨⟨some _, rfl⟩, ⟨some _, rfl⟩, ⟨_, cu14⟩, ?_⟩
      refine rX12_word hv ?_
      replace h := q_be h
      obtain ⟨g16, hv, h⟩ := h
      replace hv := q_sI_e hv
      obtain ⟨_, cg16, dg16, yg16⟩ := hv
      replace h := q_be h
      obtain ⟨u17, hv, h⟩ := h
      replace hv := q_ob_e hv
      obtain ⟨_, cu17⟩ := hv
      replace h := q_be h
      obtain ⟨v18, hv, h⟩ := h
      refine ⟨_, cg16, dg16, rfl, rfl, _, yg16, ⟨some _, rfl⟩, ⟨some _, rfl⟩, ⟨_, cu17⟩, ?_⟩
      refine rX12_word hv ?_
      replace h := q_be h
      obtain ⟨g19, hv, h⟩ := h
      replace hv := q_sI_e hv
      obtain ⟨_, cg19, dg19, yg19⟩ := hv
      replace h := q_be h
      obtain ⟨v20, hv, h⟩ := h
      replace hv := q_fR_e hv
      obtain ⟨_, cv20, dv20⟩ := hv
      replace h := q_be h
      obtain ⟨a21, ea21, h⟩ := h
      subst ea21
      replace h := q_be h
      obtain ⟨v22, hv, h⟩ := h
      replace hv := q_aI_e hv
      obtain ⟨_, _, cv22, iv22, yv22⟩ := hv
      replace h := q_be h
      obtain ⟨g23, hv, h⟩ := h
      replace hv := q_sI_e hv
      obtain ⟨_, cg23, dg23, yg23⟩ := hv
      replace h := q_be h
      obtain ⟨v24, hv, h⟩ := h
      replace hv := q_fI_e hv
      obtain ⟨_, cv24, dv24⟩ := hv
      refine ⟨_, cg19, dg19, rfl, rfl, _, yg19, ⟨some _, rfl⟩, ⟨some _, rfl⟩, _, _, cv20, dv20, _, _, cv22, iv22, _, yv22, _, cg23, dg23, rfl, rfl, _, yg23, ⟨some _, rfl⟩, _, _, cv24, dv24, ?_⟩
      refine rX12_in rfl ?_
      refine And.intro (fun hc25 => ?_) (fun hc25 => ?_)
      · replace h := q_ifp (hc25) h
        exact ps_weak (pjX12_header_147 h hk) ⟨rfl, rfl, trivial⟩
      · replace h := q_ifn (hc25) h
        replace h := q_be h
        obtain ⟨v49, hv, h⟩ := h
        replace hv := q_fI_e hv
        obtain ⟨_, cv49, dv49⟩ := hv
        refine ⟨⟨some _, rfl⟩, _, _, cv49, dv49, ?_⟩
        refine rX12_in rfl ?_
        refine And.intro (fun hc50 => ?_) (fun hc50 => ?_)
        · replace h := q_ifp (hc50) h
          exact ps_weak (pjX12_header_147 h hk) ⟨rfl, rfl, trivial⟩
        · replace h := q_ifn (hc50) h
          replace h := q_be h
          obtain ⟨v51, hv, h⟩ := h
          replace hv := q_fR_e hv
          obtain ⟨_, cv51, dv51⟩ := hv
          replace h := q_be h
          obtain ⟨a52, ea52, h⟩ := h
          subst ea52
          replace h := q_be h
          obtain ⟨v53, hv, h⟩ := h
          replace hv := q_aI_e hv
          obtain ⟨_, _, cv53, iv53, yv53⟩ := hv
          refine ⟨⟨some _, rfl⟩, _, _, cv51, dv51, _, _, cv53, iv53, _, yv53, ?_⟩
          refine And.intro (fun hc54 => ?_) (fun hc54 => ?_)
          · replace h := q_ifp (hc54) h
            exact ps_weak (pjX12_header_147 h hk) ⟨rfl, rfl, trivial⟩
          · replace h := q_ifn (hc54) h
            replace h := q_be h
            obtain ⟨v55, hv, h⟩ := h
            replace hv := q_fR_e hv
            obtain ⟨_, cv55, dv55⟩ := hv
            replace h := q_be h
            obtain ⟨a56, ea56, h⟩ := h
            subst ea56
            replace h := q_be h
            obtain ⟨v57, hv, h⟩ := h
            replace hv := q_aI_e hv
            obtain ⟨_, _, cv57, iv57, yv57⟩ := hv
            refine ⟨⟨some _, rfl⟩, _, _, cv55, dv55, _, _, cv57, iv57, _, yv57, ?_⟩
            refine And.intro (fun hc58 => ?_) (fun hc58 => ?_)
            · replace h := q_ifp (hc58) h
              exact ps_weak (pjX12_header_147 h hk) ⟨rfl, rfl, trivial⟩
            · replace h := q_ifn (hc58) h
              replace h := q_be h
              obtain ⟨v59, hv, h⟩ := h
              replace hv := q_fR_e hv
              obtain ⟨_, cv59, dv59⟩ := hv
              replace h := q_be h
              obtain ⟨a60, ea60, h⟩ := h
              subst ea60
              replace h := q_be h
              obtain ⟨v61, hv, h⟩ := h
              replace hv := q_aI_e hv
              obtain ⟨_, _, cv61, iv61, yv61⟩ := hv
              refine ⟨⟨some _, rfl⟩, _, _, cv59, dv59, _, _, cv61, iv61, _, yv61, ?_⟩
              refine And.intro (fun hc62 => ?_) (fun hc62 => ?_)
              · replace h := q_ifp (hc62) h
                exact ps_weak (pjX12_header_147 h hk) ⟨rfl, rfl, trivial⟩
              · replace h := q_ifn (hc62) h
                replace h := q_be h
                obtain ⟨v63, hv, h⟩ := h
                replace hv := q_fR_e hv
                obtain ⟨_, cv63, dv63⟩ := hv
                replace h := q_be h
                obtain ⟨a64, ea64, h⟩ := h
                subst ea64
                replace h := q_be h
                obtain ⟨v65, hv, h⟩ := h
                replace hv := q_aI_e hv
                obtain ⟨_, _, cv65, iv65, yv65⟩ := hv
                refine ⟨⟨some _, rfl⟩, _, _, cv63, dv63, _, _, cv65, iv65, _, yv65, ?_⟩
                refine And.intro (fun hc66 => ?_) (fun hc66 => ?_)
                · replace h := q_ifp (hc66) h
                  exact ps_weak (pjX12_header_147 h hk) ⟨rfl, rfl, trivial⟩
                · replace h := q_ifn (hc66) h
                  exact ps_weak (pjX12_header_148 h hk) ⟨rfl, rfl, trivial⟩
  refine And.intro (fun hc1 => ?_) (fun hc1 => ?_)
  · refine sX12_header_22 ?_
    exact ps_weak (kJ5 _ (if_pos (Or.inl hc1)).symm) ⟨rfl, rfl, trivial⟩
  · refine And.intro (fun hc2 => ?_) (fun hc2 => ?_)
    · refine sX12_header_22 ?_
      exact ps_weak (kJ5 _ (if_pos (Or.inr (Or.inl hc2))).symm) ⟨rfl, rfl, trivial⟩
    · refine And.intro (fun hc3 => ?_) (fun hc3 => ?_)
      · refine sX12_header_22 ?_
        exact ps_weak (kJ5 _ (if_pos (Or.inr (Or.inr (hc3)))).symm) ⟨rfl, rfl, trivial⟩
      · exact ps_weak (kJ5 _ (if_neg (not_or.mpr ⟨hc1, not_or.mpr ⟨hc2, hc3⟩⟩)).symm) ⟨rfl, rfl, trivial⟩
noncomputable def jX12_readColours_18 (g : ps_G) (x0 : Nat) (x1 : Int32) : Option (ps_G) := Option.bind (q_ob 12 g x0) fun u3 => Option.bind (fX12_wrong g x0 (4 : Int32) x1) fun v4 => some v4
theorem pjX12_readColours_18 {d : Nat} {Q : ps_Rs → ps_G → Prop} {g : ps_G} {x0 : Nat} {x1 : Int32} {r : ps_G} (h : jX12_readColours_18 g x0 x1 = some r) (hk : Q (.inl none) r) : ps_At mX12_readColours (d + 1) 18 [(0, .ref x0), (1, .int x1)] [] g Q := by
  unfold jX12_readColours_18 at h
  refine sX12_readColours_18 ?_
  replace h := q_be h
  obtain ⟨u3, hv, h⟩ := h
  replace hv := q_ob_e hv
  obtain ⟨_, cu3⟩ := hv
  replace h := q_be h
  obtain ⟨v4, hv, h⟩ := h
  refine ⟨⟨some _, rfl⟩, ⟨_, cu3⟩, ?_⟩
  refine rX12_wrong hv ?_
  cases h
  exact ⟨rfl, rfl, hk⟩
noncomputable def bX12_readColours_34 (x0 : Nat) (x1 : Int32) (x3 : Int32) (g : ps_G) : Option ((Int32 × ps_G) ⊕ (ps_G)) := Option.bind (q_fI 12 82 g x0) fun v7 => if v7 ≤ x3 then (some (.inr g)) else (Option.bind (q_fR 12 80 g x0) fun v10 => Option.bind (v10) fun a11 => Option.bind (q_fR 12 1 g x0) fun v12 => Option.bind (v12) fun a13 => Option.bind (q_aI g a13 ((x1 + (8 : Int32)) + ((3 : Int32) * x3))) fun v14 => Option.bind (q_fR 12 1 g x0) fun v15 => Option.bind (v15) fun a16 => Option.bind (q_aI g a16 ((x1 + (9 : Int32)) + ((3 : Int32) * x3))) fun v17 => Option.bind (q_fR 12 1 g x0) fun v18 => Option.bind (v18) fun a19 => Option.bind (q_aI g a19 ((x1 + (10 : Int32)) + ((3 : Int32) * x3))) fun v20 => Option.bind (q_wI g a11 x3 (((q_shl v14 (16 : Int32)) ||| (q_shl v17 (8 : Int32))) ||| v20)) fun g21 => some (.inl (x3 + (1 : Int32), g21)))
theorem pbX12_readColours_34 {d : Nat} {Q : ps_Rs → ps_G → Prop}  {x0 : Nat} {x1 : Int32} {x3 : Int32} {g : ps_G} {x : (Int32 × ps_G) ⊕ (ps_G)} (h : bX12_readColours_34 x0 x1 x3 g = some x) (hh : ∀ s' : Int32 × ps_G, x = .inl s' → ps_At mX12_readColours (d + 1) 34 [(0, .ref x0), (1, .int x1), (3, .int s'.1)] [] s'.2 Q) (he : ∀ r' : ps_G, x = .inr r' → ps_At mX12_readColours (d + 1) 101 [] [] r' Q) : ps_At mX12_readColours (d + 1) 34 [(0, .ref x0), (1, .int x1), (3, .int x3)] [] g Q := by
  unfold bX12_readColours_34 at h
  refine sX12_readColours_34 ?_
  replace h := q_be h
  obtain ⟨v7, hv, h⟩ := h
  replace hv := q_fI_e hv
  obtain ⟨_, cv7, dv7⟩ := hv
  refine ⟨⟨some _, rfl⟩, _, _, cv7, dv7, ?_⟩
  refine And.intro (fun hc8 => ?_) (fun hc8 => ?_)
  · replace h := q_ifp (hc8) h
    exact ps_weak (he g (Option.some.inj h).symm) trivial
  · replace h := q_ifn (hc8) h
    replace h := q_be h
    obtain ⟨v10, hv, h⟩ := h
    replace hv := q_fR_e hv
    obtain ⟨_, cv10, dv10⟩ := hv
    replace h := q_be h
    obtain ⟨a11, ea11, h⟩ := h
    subst ea11
    replace h := q_be h
    obtain ⟨v12, hv, h⟩ := h
    replace hv := q_fR_e hv
    obtain ⟨_, cv12, dv12⟩ := hv
    replace h := q_be h
    obtain ⟨a13, ea13, h⟩ := h
    subst ea13
    replace h := q_be h
    obtain ⟨v14, hv, h⟩ := h
    replace hv := q_aI_e hv
    obtain ⟨_, _, cv14, iv14, yv14⟩ := hv
    replace h := q_be h
    obtain ⟨v15, hv, h⟩ := h
    replace hv := q_fR_e hv
    obtain ⟨_, cv15, dv15⟩ := hv
    replace h := q_be h
    obtain ⟨a16, ea16, h⟩ := h
    subst ea16
    replace h := q_be h
    obtain ⟨v17, hv, h⟩ := h
    replace hv := q_aI_e hv
    obtain ⟨_, _, cv17, iv17, yv17⟩ := hv
    replace h := q_be h
    obtain ⟨v18, hv, h⟩ := h
    replace hv := q_fR_e hv
    obtain ⟨_, cv18, dv18⟩ := hv
    replace h := q_be h
    obtain ⟨a19, ea19, h⟩ := h
    subst ea19
    replace h := q_be h
    obtain ⟨v20, hv, h⟩ := h
    replace hv := q_aI_e hv
    obtain ⟨_, _, cv20, iv20, yv20⟩ := hv
    replace h := q_be h
    obtain ⟨g21, hv, h⟩ := h
    replace hv := q_wI_e hv
    obtain ⟨_, _, cg21, pg21, ig21, yg21⟩ := hv
    refine ⟨⟨some _, rfl⟩, _, _, cv10, dv10, ⟨some _, rfl⟩, _, _, cv12, dv12, _, _, cv14, iv14, _, yv14, ⟨some _, rfl⟩, _, _, cv15, dv15, _, _, cv17, iv17, _, yv17, ⟨some _, rfl⟩, _, _, cv18, dv18, _, _, cv20, iv20, _, yv20, _, _, cg21, pg21, ig21, _, yg21, ?_⟩
    refine ⟨by decide, ?_⟩
    exact ps_weak (hh (x3 + (1 : Int32), g21) (Option.some.inj h).symm) ⟨rfl, rfl, rfl, trivial⟩
noncomputable def fX12_readColours (g : ps_G) (x0 : Nat) (x1 : Int32) (x2 : Int32) : Option (ps_G) := if (x2 < (3 : Int32)) ∨ ((768 : Int32) < x2) then (jX12_readColours_18 g x0 x1) else (if (q_rem x2 (3 : Int32)) = 0 then (Option.bind (q_sI 12 82 g x0 (x2 / (3 : Int32))) fun g6 => Option.bind (q_lp (fun s => bX12_readColours_34 x0 x1 s.1 s.2) ((0 : Int32), g6)) fun s24 => some s24) else (jX12_readColours_18 g x0 x1))
theorem rX12_readColours {d : Nat} {Q : ps_Rs → ps_G → Prop} {g : ps_G} {x0 : Nat} {x1 : Int32} {x2 : Int32} {r : ps_G} (h : fX12_readColours g x0 x1 x2 = some r) (hk : Q (.inl none) r) : ps_Ok mX12_readColours (d + 1) [.ref x0, .int x1, .int x2] g Q := by
  unfold fX12_readColours at h
  refine sX12_readColours_0 ?_
  have kT27 : (jX12_readColours_18 g x0 x1) = some r → ps_At mX12_readColours (d + 1) 18 [(0, .ref x0), (1, .int x1)] [] g Q := fun h => by
    exact ps_weak (pjX12_readColours_18 h hk) ⟨rfl, rfl, trivial⟩
  refine And.intro (fun hc1 => ?_) (fun hc1 => ?_)
  · exact ps_weak (kT27 (q_ifp (Or.inl hc1) h)) ⟨rfl, rfl, trivial⟩
  · refine And.intro (fun hc2 => ?_) (fun hc2 => ?_)
    · exact ps_weak (kT27 (q_ifp (Or.inr (hc2)) h)) ⟨rfl, rfl, trivial⟩
    · replace h := q_ifn (not_or.mpr ⟨hc1, hc2⟩) h
      refine ⟨by decide, _, rfl, ?_⟩
      refine And.intro (fun hc5 => ?_) (fun hc5 => ?_)
      · replace h := q_ifp (hc5) h
        refine sX12_readColours_25 ?_
        replace h := q_be h
        obtain ⟨g6, hv, h⟩ := h
        replace hv := q_sI_e hv
        obtain ⟨_, cg6, dg6, yg6⟩ := hv
        refine ⟨⟨some _, rfl⟩, by decide, _, rfl, _, cg6, dg6, rfl, rfl, _, yg6, by decide, ?_⟩
        replace h := q_be h
        obtain ⟨s24, hl, h⟩ := h
        refine ps_weak (q_lp_ok hl (fun s => ps_At mX12_readColours (d + 1) 34 [(0, .ref x0), (1, .int x1), (3, .int s.1)] [] s.2 Q) (fun r => ps_At mX12_readColours (d + 1) 101 [] [] r Q) (fun s x hb hh he => pbX12_readColours_34 hb hh he) ?_) ⟨rfl, rfl, rfl, trivial⟩
        refine (?_ : ps_At mX12_readColours (d + 1) 101 [] [] s24 Q)
        refine sX12_readColours_101 ?_
        cases h
        exact ⟨rfl, rfl, hk⟩
      · replace h := q_ifn (hc5) h
        exact ps_weak (pjX12_readColours_18 h hk) ⟨rfl, rfl, trivial⟩
noncomputable def jX12_readClear_60_26 (g : ps_G) (x0 : Nat) (x1 : Int32) (x2 : Int32) (x3 : Int32) (k0 : Option Nat) (k1 : Int32) (k2 : Int32) : Option ((Int32 × ps_G) ⊕ (ps_G)) := Option.bind (k0) fun a11 => Option.bind (q_wI g a11 k1 k2) fun g12 => some (.inl (x3 + (1 : Int32), g12))
theorem pjX12_readClear_60_26 {d : Nat} {Q : ps_Rs → ps_G → Prop} {g : ps_G} {x0 : Nat} {x1 : Int32} {x2 : Int32} {x3 : Int32} {k0 : Option Nat} {k1 : Int32} {k2 : Int32} {x : (Int32 × ps_G) ⊕ (ps_G)} (h : jX12_readClear_60_26 g x0 x1 x2 x3 k0 k1 k2 = some x) (hh : ∀ s' : Int32 × ps_G, x = .inl s' → ps_At mX12_readClear (d + 1) 26 [(0, .ref x0), (1, .int x1), (2, .int x2), (3, .int s'.1)] [] s'.2 Q) (he : ∀ r' : ps_G, x = .inr r' → ps_At mX12_readClear (d + 1) 67 [] [] r' Q) : ps_At mX12_readClear (d + 1) 60 [(0, .ref x0), (1, .int x1), (2, .int x2), (3, .int x3)] [.int k2, .int k1, va_rf k0] g Q := by
  unfold jX12_readClear_60_26 at h
  refine sX12_readClear_60 ?_
  replace h := q_be h
  obtain ⟨a11, ea11, h⟩ := h
  subst ea11
  replace h := q_be h
  obtain ⟨g12, hv, h⟩ := h
  replace hv := q_wI_e hv
  obtain ⟨_, _, cg12, pg12, ig12, yg12⟩ := hv
  refine ⟨_, _, cg12, pg12, ig12, _, yg12, by decide, ?_⟩
  exact ps_weak (hh (x3 + (1 : Int32), g12) (Option.some.inj h).symm) ⟨rfl, rfl, rfl, rfl, trivial⟩
noncomputable def bX12_readClear_26 (x0 : Nat) (x1 : Int32) (x2 : Int32) (x3 : Int32) (g : ps_G) : Option ((Int32 × ps_G) ⊕ (ps_G)) := if (256 : Int32) ≤ x3 then (some (.inr g)) else (Option.bind (q_fR 12 81 g x0) fun v7 => Option.bind (v7) fun a8 => if x2 ≤ x3 then (jX12_readClear_60_26 g x0 x1 x2 x3 (some a8) x3 (255 : Int32)) else (Option.bind (q_fR 12 1 g x0) fun v13 => Option.bind (v13) fun a14 => Option.bind (q_aI g a14 ((x1 + (8 : Int32)) + x3)) fun v15 => jX12_readClear_60_26 g x0 x1 x2 x3 (some a8) x3 v15))
theorem pbX12_readClear_26 {d : Nat} {Q : ps_Rs → ps_G → Prop}  {x0 : Nat} {x1 : Int32} {x2 : Int32} {x3 : Int32} {g : ps_G} {x : (Int32 × ps_G) ⊕ (ps_G)} (h : bX12_readClear_26 x0 x1 x2 x3 g = some x) (hh : ∀ s' : Int32 × ps_G, x = .inl s' → ps_At mX12_readClear (d + 1) 26 [(0, .ref x0), (1, .int x1), (2, .int x2), (3, .int s'.1)] [] s'.2 Q) (he : ∀ r' : ps_G, x = .inr r' → ps_At mX12_readClear (d + 1) 67 [] [] r' Q) : ps_At mX12_readClear (d + 1) 26 [(0, .ref x0), (1, .int x1), (2, .int x2), (3, .int x3)] [] g Q := by
  unfold bX12_readClear_26 at h
  refine sX12_readClear_26 ?_
  refine And.intro (fun hc5 => ?_) (fun hc5 => ?_)
  · replace h := q_ifp (hc5) h
    exact ps_weak (he g (Option.some.inj h).symm) trivial
  · replace h := q_ifn (hc5) h
    replace h := q_be h
    obtain ⟨v7, hv, h⟩ := h
    replace hv := q_fR_e hv
    obtain ⟨_, cv7, dv7⟩ := hv
    replace h := q_be h
    obtain ⟨a8, ea8, h⟩ := h
    subst ea8
    refine ⟨⟨some _, rfl⟩, _, _, cv7, dv7, ?_⟩
    refine And.intro (fun hc9 => ?_) (fun hc9 => ?_)
    · replace h := q_ifp (hc9) h
      refine sX12_readClear_57 ?_
      exact ps_weak (pjX12_readClear_60_26 h hh he) ⟨rfl, rfl, rfl, rfl, trivial⟩
    · replace h := q_ifn (hc9) h
      replace h := q_be h
      obtain ⟨v13, hv, h⟩ := h
      replace hv := q_fR_e hv
      obtain ⟨_, cv13, dv13⟩ := hv
      replace h := q_be h
      obtain ⟨a14, ea14, h⟩ := h
      subst ea14
      replace h := q_be h
      obtain ⟨v15, hv, h⟩ := h
      replace hv := q_aI_e hv
      obtain ⟨_, _, cv15, iv15, yv15⟩ := hv
      refine ⟨⟨some _, rfl⟩, _, _, cv13, dv13, _, _, cv15, iv15, _, yv15, ?_⟩
      exact ps_weak (pjX12_readClear_60_26 h hh he) ⟨rfl, rfl, rfl, rfl, trivial⟩
noncomputable def fX12_readClear (g : ps_G) (x0 : Nat) (x1 : Int32) (x2 : Int32) : Option (ps_G) := Option.bind (q_fI 12 85 g x0) fun v1 => if v1 = (3 : Int32) then (Option.bind (q_fI 12 82 g x0) fun v3 => if x2 ≤ v3 then (Option.bind (q_lp (fun s => bX12_readClear_26 x0 x1 x2 s.1 s.2) ((0 : Int32), g)) fun s20 => some s20) else (Option.bind (q_ob 12 g x0) fun u21 => Option.bind (fX12_wrong g x0 (4 : Int32) x1) fun v22 => some v22)) else (some g)
theorem rX12_readClear {d : Nat} {Q : ps_Rs → ps_G → Prop} {g : ps_G} {x0 : Nat} {x1 : Int32} {x2 : Int32} {r : ps_G} (h : fX12_readClear g x0 x1 x2 = some r) (hk : Q (.inl none) r) : ps_Ok mX12_readClear (d + 1) [.ref x0, .int x1, .int x2] g Q := by
  unfold fX12_readClear at h
  refine sX12_readClear_0 ?_
  replace h := q_be h
  obtain ⟨v1, hv, h⟩ := h
  replace hv := q_fI_e hv
  obtain ⟨_, cv1, dv1⟩ := hv
  refine ⟨⟨some _, rfl⟩, _, _, cv1, dv1, ?_⟩
  refine And.intro (fun hc2 => ?_) (fun hc2 => ?_)
  · replace h := q_ifp (hc2) h
    refine sX12_readClear_9 ?_
    replace h := q_be h
    obtain ⟨v3, hv, h⟩ := h
    replace hv := q_fI_e hv
    obtain ⟨_, cv3, dv3⟩ := hv
    refine ⟨⟨some _, rfl⟩, _, _, cv3, dv3, ?_⟩
    refine And.intro (fun hc4 => ?_) (fun hc4 => ?_)
    · replace h := q_ifp (hc4) h
      refine sX12_readClear_24 ?_
      refine ⟨by decide, ?_⟩
      replace h := q_be h
      obtain ⟨s20, hl, h⟩ := h
      refine ps_weak (q_lp_ok hl (fun s => ps_At mX12_readClear (d + 1) 26 [(0, .ref x0), (1, .int x1), (2, .int x2), (3, .int s.1)] [] s.2 Q) (fun r => ps_At mX12_readClear (d + 1) 67 [] [] r Q) (fun s x hb hh he => pbX12_readClear_26 hb hh he) ?_) ⟨rfl, rfl, rfl, rfl, trivial⟩
      refine (?_ : ps_At mX12_readClear (d + 1) 67 [] [] s20 Q)
      refine sX12_readClear_67 ?_
      cases h
      exact ⟨rfl, rfl, hk⟩
    · replace h := q_ifn (hc4) h
      replace h := q_be h
      obtain ⟨u21, hv, h⟩ := h
      replace hv := q_ob_e hv
      obtain ⟨_, cu21⟩ := hv
      replace h := q_be h
      obtain ⟨v22, hv, h⟩ := h
      refine ⟨⟨some _, rfl⟩, ⟨_, cu21⟩, ?_⟩
      refine rX12_wrong hv ?_
      cases h
      exact ⟨rfl, rfl, hk⟩
  · replace h := q_ifn (hc2) h
    cases h
    exact ⟨rfl, rfl, hk⟩
noncomputable def bX12_readPacked_14 (x0 : Nat) (x1 : Int32) (x2 : Int32) (x3 : Int32) (g : ps_G) : Option ((Int32 × ps_G) ⊕ (ps_G)) := if x2 ≤ x3 then (some (.inr g)) else (Option.bind (q_fR 12 78 g x0) fun v6 => Option.bind (v6) fun a7 => Option.bind (q_fI 12 79 g x0) fun v8 => Option.bind (q_fR 12 1 g x0) fun v9 => Option.bind (v9) fun a10 => Option.bind (q_aI g a10 ((x1 + (8 : Int32)) + x3)) fun v11 => Option.bind (q_wI g a7 v8 v11) fun g12 => Option.bind (q_fI 12 79 g12 x0) fun v13 => Option.bind (q_sI 12 79 g12 x0 (v13 + (1 : Int32))) fun g14 => some (.inl (x3 + (1 : Int32), g14)))
theorem pbX12_readPacked_14 {d : Nat} {Q : ps_Rs → ps_G → Prop}  {x0 : Nat} {x1 : Int32} {x2 : Int32} {x3 : Int32} {g : ps_G} {x : (Int32 × ps_G) ⊕ (ps_G)} (h : bX12_readPacked_14 x0 x1 x2 x3 g = some x) (hh : ∀ s' : Int32 × ps_G, x = .inl s' → ps_At mX12_readPacked d 14 [(0, .ref x0), (1, .int x1), (2, .int x2), (3, .int s'.1)] [] s'.2 Q) (he : ∀ r' : ps_G, x = .inr r' → ps_At mX12_readPacked d 55 [] [] r' Q) : ps_At mX12_readPacked d 14 [(0, .ref x0), (1, .int x1), (2, .int x2), (3, .int x3)] [] g Q := by
  unfold bX12_readPacked_14 at h
  refine sX12_readPacked_14 ?_
  refine And.intro (fun hc4 => ?_) (fun hc4 => ?_)
  · replace h := q_ifp (hc4) h
    exact ps_weak (he g (Option.some.inj h).symm) trivial
  · replace h := q_ifn (hc4) h
    replace h := q_be h
    obtain ⟨v6, hv, h⟩ := h
    replace hv := q_fR_e hv
    obtain ⟨_, cv6, dv6⟩ := hv
    replace h := q_be h
    obtain ⟨a7, ea7, h⟩ := h
    subst ea7
    replace h := q_be h
    obtain ⟨v8, hv, h⟩ := h
    replace hv := q_fI_e hv
    obtain ⟨_, cv8, dv8⟩ := hv
    replace h := q_be h
    obtain ⟨v9, hv, h⟩ := h
    replace hv := q_fR_e hv
    obtain ⟨_, cv9, dv9⟩ := hv
    replace h := q_be h
    obtain ⟨a10, ea10, h⟩ := h
    subst ea10
    replace h := q_be h
    obtain ⟨v11, hv, h⟩ := h
    replace hv := q_aI_e hv
    obtain ⟨_, _, cv11, iv11, yv11⟩ := hv
    replace h := q_be h
    obtain ⟨g12, hv, h⟩ := h
    replace hv := q_wI_e hv
    obtain ⟨_, _, cg12, pg12, ig12, yg12⟩ := hv
    replace h := q_be h
    obtain ⟨v13, hv, h⟩ := h
    replace hv := q_fI_e hv
    obtain ⟨_, cv13, dv13⟩ := hv
    replace h := q_be h
    obtain ⟨g14, hv, h⟩ := h
    replace hv := q_sI_e hv
    obtain ⟨_, cg14, dg14, yg14⟩ := hv
    refine ⟨⟨some _, rfl⟩, _, _, cv6, dv6, ⟨some _, rfl⟩, _, _, cv8, dv8, ⟨some _, rfl⟩, _, _, cv9, dv9, _, _, cv11, iv11, _, yv11, _, _, cg12, pg12, ig12, _, yg12, ⟨some _, rfl⟩, rfl, _, _, cv13, dv13, _, cg14, dg14, rfl, rfl, _, yg14, ?_⟩
    refine ⟨by decide, ?_⟩
    exact ps_weak (hh (x3 + (1 : Int32), g14) (Option.some.inj h).symm) ⟨rfl, rfl, rfl, rfl, trivial⟩
noncomputable def jX12_readPacked_12 (g : ps_G) (x0 : Nat) (x1 : Int32) (x2 : Int32) : Option (ps_G) := Option.bind (q_lp (fun s => bX12_readPacked_14 x0 x1 x2 s.1 s.2) ((0 : Int32), g)) fun s17 => some s17
theorem pjX12_readPacked_12 {d : Nat} {Q : ps_Rs → ps_G → Prop} {g : ps_G} {x0 : Nat} {x1 : Int32} {x2 : Int32} {r : ps_G} (h : jX12_readPacked_12 g x0 x1 x2 = some r) (hk : Q (.inl none) r) : ps_At mX12_readPacked d 12 [(0, .ref x0), (1, .int x1), (2, .int x2)] [] g Q := by
  unfold jX12_readPacked_12 at h
  refine sX12_readPacked_12 ?_
  refine ⟨by decide, ?_⟩
  replace h := q_be h
  obtain ⟨s17, hl, h⟩ := h
  refine ps_weak (q_lp_ok hl (fun s => ps_At mX12_readPacked d 14 [(0, .ref x0), (1, .int x1), (2, .int x2), (3, .int s.1)] [] s.2 Q) (fun r => ps_At mX12_readPacked d 55 [] [] r Q) (fun s x hb hh he => pbX12_readPacked_14 hb hh he) ?_) ⟨rfl, rfl, rfl, rfl, trivial⟩
  refine (?_ : ps_At mX12_readPacked d 55 [] [] s17 Q)
  refine sX12_readPacked_55 ?_
  cases h
  exact ⟨rfl, rfl, hk⟩
noncomputable def fX12_readPacked (g : ps_G) (x0 : Nat) (x1 : Int32) (x2 : Int32) : Option (ps_G) := Option.bind (q_fI 12 86 g x0) fun v1 => if 0 ≤ v1 then (jX12_readPacked_12 g x0 x1 x2) else (Option.bind (q_sI 12 86 g x0 x1) fun g18 => jX12_readPacked_12 g18 x0 x1 x2)
theorem rX12_readPacked {d : Nat} {Q : ps_Rs → ps_G → Prop} {g : ps_G} {x0 : Nat} {x1 : Int32} {x2 : Int32} {r : ps_G} (h : fX12_readPacked g x0 x1 x2 = some r) (hk : Q (.inl none) r) : ps_Ok mX12_readPacked d [.ref x0, .int x1, .int x2] g Q := by
  unfold fX12_readPacked at h
  refine sX12_readPacked_0 ?_
  replace h := q_be h
  obtain ⟨v1, hv, h⟩ := h
  replace hv := q_fI_e hv
  obtain ⟨_, cv1, dv1⟩ := hv
  refine ⟨⟨some _, rfl⟩, _, _, cv1, dv1, ?_⟩
  refine And.intro (fun hc2 => ?_) (fun hc2 => ?_)
  · replace h := q_ifp (hc2) h
    exact ps_weak (pjX12_readPacked_12 h hk) ⟨rfl, rfl, rfl, trivial⟩
  · replace h := q_ifn (hc2) h
    replace h := q_be h
    obtain ⟨g18, hv, h⟩ := h
    replace hv := q_sI_e hv
    obtain ⟨_, cg18, dg18, yg18⟩ := hv
    refine ⟨⟨some _, rfl⟩, _, cg18, dg18, rfl, rfl, _, yg18, ?_⟩
    exact ps_weak (pjX12_readPacked_12 h hk) ⟨rfl, rfl, rfl, trivial⟩
noncomputable def bX12_readChunks_65 (x0 : Nat) (x2 : Int32) (g : ps_G) : Option ((Int32 × ps_G) ⊕ (ps_G)) := if (256 : Int32) ≤ x2 then (some (.inr g)) else (Option.bind (q_fR 12 81 g x0) fun v9 => Option.bind (v9) fun a10 => Option.bind (q_wI g a10 x2 (255 : Int32)) fun g11 => some (.inl (x2 + (1 : Int32), g11)))
theorem pbX12_readChunks_65 {d : Nat} {Q : ps_Rs → ps_G → Prop}  {x0 : Nat} {x2 : Int32} {g : ps_G} {x : (Int32 × ps_G) ⊕ (ps_G)} (h : bX12_readChunks_65 x0 x2 g = some x) (hh : ∀ s' : Int32 × ps_G, x = .inl s' → ps_At mX12_readChunks (d + 2) 65 [(0, .ref x0), (2, .int s'.1)] [] s'.2 Q) (he : ∀ r' : ps_G, x = .inr r' → ps_At mX12_readChunks (d + 2) 87 [(0, .ref x0)] [] r' Q) : ps_At mX12_readChunks (d + 2) 65 [(0, .ref x0), (2, .int x2)] [] g Q := by
  unfold bX12_readChunks_65 at h
  refine sX12_readChunks_65 ?_
  refine And.intro (fun hc7 => ?_) (fun hc7 => ?_)
  · replace h := q_ifp (hc7) h
    exact ps_weak (he g (Option.some.inj h).symm) ⟨rfl, trivial⟩
  · replace h := q_ifn (hc7) h
    replace h := q_be h
    obtain ⟨v9, hv, h⟩ := h
    replace hv := q_fR_e hv
    obtain ⟨_, cv9, dv9⟩ := hv
    replace h := q_be h
    obtain ⟨a10, ea10, h⟩ := h
    subst ea10
    replace h := q_be h
    obtain ⟨g11, hv, h⟩ := h
    replace hv := q_wI_e hv
    obtain ⟨_, _, cg11, pg11, ig11, yg11⟩ := hv
    refine ⟨⟨some _, rfl⟩, _, _, cv9, dv9, _, _, cg11, pg11, ig11, _, yg11, by decide, ?_⟩
    exact ps_weak (hh (x2 + (1 : Int32), g11) (Option.some.inj h).symm) ⟨rfl, rfl, trivial⟩
noncomputable def jX12_readChunks_135_92 (g : ps_G) (x0 : Nat) (x2 : Int32) : Option ((Int32 × Int32 × ps_G) ⊕ ((ps_G) ⊕ (ps_G))) := Option.bind (q_ob 12 g x0) fun u19 => Option.bind (fX12_wrong g x0 (1 : Int32) x2) fun v20 => some (.inr (.inr v20))
theorem pjX12_readChunks_135_92 {d : Nat} {Q : ps_Rs → ps_G → Prop} {g : ps_G} {x0 : Nat} {x2 : Int32} {x : (Int32 × Int32 × ps_G) ⊕ ((ps_G) ⊕ (ps_G))} (h : jX12_readChunks_135_92 g x0 x2 = some x) (hh : ∀ s' : Int32 × Int32 × ps_G, x = .inl s' → ps_At mX12_readChunks (d + 2) 92 [(0, .ref x0), (2, .int s'.1), (3, .int s'.2.1)] [] s'.2.2 Q) (he : ∀ r' : ps_G, x = .inr (.inl r') → ps_At mX12_readChunks (d + 2) 382 [] [] r' Q) (hr : ∀ v' : ps_G, x = .inr (.inr v') → Q (.inl none) v') : ps_At mX12_readChunks (d + 2) 135 [(0, .ref x0), (2, .int x2)] [] g Q := by
  unfold jX12_readChunks_135_92 at h
  refine sX12_readChunks_135 ?_
  replace h := q_be h
  obtain ⟨u19, hv, h⟩ := h
  replace hv := q_ob_e hv
  obtain ⟨_, cu19⟩ := hv
  replace h := q_be h
  obtain ⟨v20, hv, h⟩ := h
  refine ⟨⟨some _, rfl⟩, ⟨_, cu19⟩, ?_⟩
  refine rX12_wrong hv ?_
  exact ⟨rfl, rfl, hr v20 (Option.some.inj h).symm⟩
noncomputable def bX12_readChunks_157 (g : ps_G) (x0 : Nat) (x2 : Int32) (x3 : Int32) (x4 : Int32) (x5 : Int32) (x6 : Int32) : Option ((Int32 × Int32) ⊕ (Int32)) := if ((x2 + (8 : Int32)) + x4) ≤ x6 then (some (.inr x5)) else (Option.bind (q_fR 12 1 g x0) fun v32 => Option.bind (v32) fun a33 => Option.bind (q_aI g a33 x6) fun v34 => Option.bind (fX12_checked g x5 v34) fun v35 => some (.inl (v35, x6 + (1 : Int32))))
theorem pbX12_readChunks_157 {d : Nat} {Q : ps_Rs → ps_G → Prop} {g : ps_G} {x0 : Nat} {x2 : Int32} {x3 : Int32} {x4 : Int32} {x5 : Int32} {x6 : Int32} {x : (Int32 × Int32) ⊕ (Int32)} (h : bX12_readChunks_157 g x0 x2 x3 x4 x5 x6 = some x) (hh : ∀ s' : Int32 × Int32, x = .inl s' → ps_At mX12_readChunks (d + 2) 157 [(0, .ref x0), (2, .int x2), (3, .int x3), (4, .int x4), (5, .int s'.1), (6, .int s'.2)] [] g Q) (he : ∀ r' : Int32, x = .inr r' → ps_At mX12_readChunks (d + 2) 189 [(0, .ref x0), (2, .int x2), (3, .int x3), (4, .int x4), (5, .int r')] [] g Q) : ps_At mX12_readChunks (d + 2) 157 [(0, .ref x0), (2, .int x2), (3, .int x3), (4, .int x4), (5, .int x5), (6, .int x6)] [] g Q := by
  unfold bX12_readChunks_157 at h
  refine sX12_readChunks_157 ?_
  refine And.intro (fun hc30 => ?_) (fun hc30 => ?_)
  · replace h := q_ifp (hc30) h
    exact ps_weak (he x5 (Option.some.inj h).symm) ⟨rfl, rfl, rfl, rfl, rfl, trivial⟩
  · replace h := q_ifn (hc30) h
    replace h := q_be h
    obtain ⟨v32, hv, h⟩ := h
    replace hv := q_fR_e hv
    obtain ⟨_, cv32, dv32⟩ := hv
    replace h := q_be h
    obtain ⟨a33, ea33, h⟩ := h
    subst ea33
    replace h := q_be h
    obtain ⟨v34, hv, h⟩ := h
    replace hv := q_aI_e hv
    obtain ⟨_, _, cv34, iv34, yv34⟩ := hv
    replace h := q_be h
    obtain ⟨v35, hv, h⟩ := h
    refine ⟨⟨some _, rfl⟩, _, _, cv32, dv32, _, _, cv34, iv34, _, yv34, ?_⟩
    refine rX12_checked hv ?_
    refine ⟨by decide, by decide, ?_⟩
    exact ps_weak (hh (v35, x6 + (1 : Int32)) (Option.some.inj h).symm) ⟨rfl, rfl, rfl, rfl, rfl, rfl, trivial⟩
noncomputable def jX12_readChunks_368_92 (g : ps_G) : Option ((Int32 × Int32 × ps_G) ⊕ ((ps_G) ⊕ (ps_G))) := some (.inr (.inr g))
theorem pjX12_readChunks_368_92 {d : Nat} {Q : ps_Rs → ps_G → Prop} {g : ps_G}  {x0 : Nat} {x : (Int32 × Int32 × ps_G) ⊕ ((ps_G) ⊕ (ps_G))} (h : jX12_readChunks_368_92 g = some x) (hh : ∀ s' : Int32 × Int32 × ps_G, x = .inl s' → ps_At mX12_readChunks (d + 2) 92 [(0, .ref x0), (2, .int s'.1), (3, .int s'.2.1)] [] s'.2.2 Q) (he : ∀ r' : ps_G, x = .inr (.inl r') → ps_At mX12_readChunks (d + 2) 382 [] [] r' Q) (hr : ∀ v' : ps_G, x = .inr (.inr v') → Q (.inl none) v') : ps_At mX12_readChunks (d + 2) 368 [] [] g Q := by
  unfold jX12_readChunks_368_92 at h
  refine sX12_readChunks_368 ?_
  exact ⟨rfl, rfl, hr g (Option.some.inj h).symm⟩
noncomputable def jX12_readChunks_362_92 (g : ps_G) (x0 : Nat) (x2 : Int32) : Option ((Int32 × Int32 × ps_G) ⊕ ((ps_G) ⊕ (ps_G))) := Option.bind (q_ob 12 g x0) fun u67 => Option.bind (fX12_wrong g x0 (4 : Int32) x2) fun v68 => jX12_readChunks_368_92 v68
theorem pjX12_readChunks_362_92 {d : Nat} {Q : ps_Rs → ps_G → Prop} {g : ps_G} {x0 : Nat} {x2 : Int32} {x : (Int32 × Int32 × ps_G) ⊕ ((ps_G) ⊕ (ps_G))} (h : jX12_readChunks_362_92 g x0 x2 = some x) (hh : ∀ s' : Int32 × Int32 × ps_G, x = .inl s' → ps_At mX12_readChunks (d + 2) 92 [(0, .ref x0), (2, .int s'.1), (3, .int s'.2.1)] [] s'.2.2 Q) (he : ∀ r' : ps_G, x = .inr (.inl r') → ps_At mX12_readChunks (d + 2) 382 [] [] r' Q) (hr : ∀ v' : ps_G, x = .inr (.inr v') → Q (.inl none) v') : ps_At mX12_readChunks (d + 2) 362 [(0, .ref x0), (2, .int x2)] [] g Q := by
  unfold jX12_readChunks_362_92 at h
  refine sX12_readChunks_362 ?_
  replace h := q_be h
  obtain ⟨u67, hv, h⟩ := h
  replace hv := q_ob_e hv
  obtain ⟨_, cu67⟩ := hv
  replace h := q_be h
  obtain ⟨v68, hv, h⟩ := h
  refine ⟨⟨some _, rfl⟩, ⟨_, cu67⟩, ?_⟩
  refine rX12_wrong hv ?_
  exact ps_weak (pjX12_readChunks_368_92 h hh he hr) trivial
noncomputable def jX12_readChunks_340_92 (g : ps_G) (x0 : Nat) (x2 : Int32) : Option ((Int32 × Int32 × ps_G) ⊕ ((ps_G) ⊕ (ps_G))) := Option.bind (q_fI 12 86 g x0) fun v65 => if v65 < 0 then (jX12_readChunks_362_92 g x0 x2) else (Option.bind (q_fI 12 85 g x0) fun v69 => if ¬ v69 = (3 : Int32) then (jX12_readChunks_368_92 g) else (Option.bind (q_fI 12 82 g x0) fun v72 => if ¬ v72 = 0 then (jX12_readChunks_368_92 g) else (jX12_readChunks_362_92 g x0 x2)))
theorem pjX12_readChunks_340_92 {d : Nat} {Q : ps_Rs → ps_G → Prop} {g : ps_G} {x0 : Nat} {x2 : Int32} {x : (Int32 × Int32 × ps_G) ⊕ ((ps_G) ⊕ (ps_G))} (h : jX12_readChunks_340_92 g x0 x2 = some x) (hh : ∀ s' : Int32 × Int32 × ps_G, x = .inl s' → ps_At mX12_readChunks (d + 2) 92 [(0, .ref x0), (2, .int s'.1), (3, .int s'.2.1)] [] s'.2.2 Q) (he : ∀ r' : ps_G, x = .inr (.inl r') → ps_At mX12_readChunks (d + 2) 382 [] [] r' Q) (hr : ∀ v' : ps_G, x = .inr (.inr v') → Q (.inl none) v') : ps_At mX12_readChunks (d + 2) 340 [(0, .ref x0), (2, .int x2)] [] g Q := by
  unfold jX12_readChunks_340_92 at h
  refine sX12_readChunks_340 ?_
  replace h := q_be h
  obtain ⟨v65, hv, h⟩ := h
  replace hv := q_fI_e hv
  obtain ⟨_, cv65, dv65⟩ := hv
  refine ⟨⟨some _, rfl⟩, _, _, cv65, dv65, ?_⟩
  refine And.intro (fun hc66 => ?_) (fun hc66 => ?_)
  · replace h := q_ifp (hc66) h
    exact ps_weak (pjX12_readChunks_362_92 h hh he hr) ⟨rfl, rfl, trivial⟩
  · replace h := q_ifn (hc66) h
    replace h := q_be h
    obtain ⟨v69, hv, h⟩ := h
    replace hv := q_fI_e hv
    obtain ⟨_, cv69, dv69⟩ := hv
    refine ⟨⟨some _, rfl⟩, _, _, cv69, dv69, ?_⟩
    refine And.intro (fun hc70 => ?_) (fun hc70 => ?_)
    · replace h := q_ifp (hc70) h
      exact ps_weak (pjX12_readChunks_368_92 h hh he hr) trivial
    · replace h := q_ifn (hc70) h
      replace h := q_be h
      obtain ⟨v72, hv, h⟩ := h
      replace hv := q_fI_e hv
      obtain ⟨_, cv72, dv72⟩ := hv
      refine ⟨⟨some _, rfl⟩, _, _, cv72, dv72, ?_⟩
      refine And.intro (fun hc73 => ?_) (fun hc73 => ?_)
      · replace h := q_ifp (hc73) h
        exact ps_weak (pjX12_readChunks_368_92 h hh he hr) trivial
      · replace h := q_ifn (hc73) h
        exact ps_weak (pjX12_readChunks_362_92 h hh he hr) ⟨rfl, rfl, trivial⟩
noncomputable def jX12_readChunks_299_92 (g : ps_G) (x0 : Nat) (x2 : Int32) (x4 : Int32) (x6 : Int32) : Option ((Int32 × Int32 × ps_G) ⊕ ((ps_G) ⊕ (ps_G))) := Option.bind (q_fI 12 4 g x0) fun v59 => if (¬ v59 = 0) ∨ (¬ x6 = (1229278788 : Int32)) then (some (.inl (x2 + ((12 : Int32) + x4), (0 : Int32), g))) else (Option.bind (q_fI 12 3 g x0) fun v62 => if v62 ≤ ((x2 + (12 : Int32)) + x4) then (jX12_readChunks_340_92 g x0 x2) else (Option.bind (q_ob 12 g x0) fun u80 => Option.bind (fX12_wrong g x0 (1 : Int32) ((x2 + (12 : Int32)) + x4)) fun v81 => jX12_readChunks_340_92 v81 x0 x2))
theorem pjX12_readChunks_299_92 {d : Nat} {Q : ps_Rs → ps_G → Prop} {g : ps_G} {x0 : Nat} {x2 : Int32} {x4 : Int32} {x6 : Int32} {x : (Int32 × Int32 × ps_G) ⊕ ((ps_G) ⊕ (ps_G))} (h : jX12_readChunks_299_92 g x0 x2 x4 x6 = some x) (hh : ∀ s' : Int32 × Int32 × ps_G, x = .inl s' → ps_At mX12_readChunks (d + 2) 92 [(0, .ref x0), (2, .int s'.1), (3, .int s'.2.1)] [] s'.2.2 Q) (he : ∀ r' : ps_G, x = .inr (.inl r') → ps_At mX12_readChunks (d + 2) 382 [] [] r' Q) (hr : ∀ v' : ps_G, x = .inr (.inr v') → Q (.inl none) v') : ps_At mX12_readChunks (d + 2) 299 [(0, .ref x0), (2, .int x2), (4, .int x4), (6, .int x6)] [] g Q := by
  unfold jX12_readChunks_299_92 at h
  refine sX12_readChunks_299 ?_
  replace h := q_be h
  obtain ⟨v59, hv, h⟩ := h
  replace hv := q_fI_e hv
  obtain ⟨_, cv59, dv59⟩ := hv
  have kT84 : (some (.inl (x2 + ((12 : Int32) + x4), (0 : Int32), g))) = some x → ps_At mX12_readChunks (d + 2) 369 [(0, .ref x0), (2, .int x2), (4, .int x4)] [] g Q := fun h => by
    refine sX12_readChunks_369 ?_
    refine ⟨by decide, by decide, ?_⟩
    exact ps_weak (hh (x2 + ((12 : Int32) + x4), (0 : Int32), g) (Option.some.inj h).symm) ⟨rfl, rfl, rfl, trivial⟩
  refine ⟨⟨some _, rfl⟩, _, _, cv59, dv59, ?_⟩
  refine And.intro (fun hc60 => ?_) (fun hc60 => ?_)
  · exact ps_weak (kT84 (q_ifp (Or.inl hc60) h)) ⟨rfl, rfl, rfl, trivial⟩
  · refine And.intro (fun hc61 => ?_) (fun hc61 => ?_)
    · exact ps_weak (kT84 (q_ifp (Or.inr (hc61)) h)) ⟨rfl, rfl, rfl, trivial⟩
    · replace h := q_ifn (not_or.mpr ⟨hc60, hc61⟩) h
      replace h := q_be h
      obtain ⟨v62, hv, h⟩ := h
      replace hv := q_fI_e hv
      obtain ⟨_, cv62, dv62⟩ := hv
      refine ⟨⟨some _, rfl⟩, _, _, cv62, dv62, ?_⟩
      refine And.intro (fun hc63 => ?_) (fun hc63 => ?_)
      · replace h := q_ifp (hc63) h
        exact ps_weak (pjX12_readChunks_340_92 h hh he hr) ⟨rfl, rfl, trivial⟩
      · replace h := q_ifn (hc63) h
        replace h := q_be h
        obtain ⟨u80, hv, h⟩ := h
        replace hv := q_ob_e hv
        obtain ⟨_, cu80⟩ := hv
        replace h := q_be h
        obtain ⟨v81, hv, h⟩ := h
        refine ⟨⟨some _, rfl⟩, ⟨_, cu80⟩, ?_⟩
        refine rX12_wrong hv ?_
        exact ps_weak (pjX12_readChunks_340_92 h hh he hr) ⟨rfl, rfl, trivial⟩
noncomputable def bX12_readChunks_92 (x0 : Nat) (x2 : Int32) (x3 : Int32) (g : ps_G) : Option ((Int32 × Int32 × ps_G) ⊕ ((ps_G) ⊕ (ps_G))) := Option.bind (q_fI 12 4 g x0) fun v15 => if ¬ v15 = 0 then (some (.inr (.inl g))) else (Option.bind (q_fI 12 3 g x0) fun v17 => if (v17 - x2) < (12 : Int32) then (jX12_readChunks_135_92 g x0 x2) else (Option.bind (q_ob 12 g x0) fun u21 => Option.bind (fX12_word g x0 x2) fun v22 => if v22 < 0 then (jX12_readChunks_135_92 g x0 x2) else (Option.bind (q_ob 12 g x0) fun u24 => Option.bind (fX12_word g x0 x2) fun v25 => Option.bind (q_fI 12 3 g x0) fun v26 => if v25 ≤ ((v26 - x2) - (12 : Int32)) then (Option.bind (q_ob 12 g x0) fun u28 => Option.bind (fX12_word g x0 x2) fun v29 => Option.bind (q_lp (fun s => bX12_readChunks_157 g x0 x2 x3 v29 s.1 s.2) ((-1 : Int32), x2 + (4 : Int32))) fun s38 => Option.bind (q_ob 12 g x0) fun u39 => Option.bind (fX12_word g x0 ((x2 + (8 : Int32)) + v29)) fun v40 => if (s38 ^^^ (-1 : Int32)) = v40 then (Option.bind (q_ob 12 g x0) fun u42 => Option.bind (fX12_word g x0 (x2 + (4 : Int32))) fun v43 => if ¬ (¬ x3 = 0) ∧ (¬ v43 = (1229472850 : Int32)) then (if ¬ v43 = (1347179589 : Int32) then (if ¬ v43 = (1951551059 : Int32) then (if ¬ v43 = (1229209940 : Int32) then (jX12_readChunks_299_92 g x0 x2 v29 v43) else (Option.bind (q_ob 12 g x0) fun u86 => Option.bind (fX12_readPacked g x0 x2 v29) fun v87 => jX12_readChunks_299_92 v87 x0 x2 v29 v43)) else (Option.bind (q_ob 12 g x0) fun u90 => Option.bind (fX12_readClear g x0 x2 v29) fun v91 => jX12_readChunks_299_92 v91 x0 x2 v29 v43)) else (Option.bind (q_ob 12 g x0) fun u94 => Option.bind (fX12_readColours g x0 x2 v29) fun v95 => jX12_readChunks_299_92 v95 x0 x2 v29 v43)) else (Option.bind (q_ob 12 g x0) fun u98 => Option.bind (fX12_header g x0 x2 v29 v43 x3) fun v99 => jX12_readChunks_299_92 v99 x0 x2 v29 v43)) else (Option.bind (q_ob 12 g x0) fun u102 => Option.bind (fX12_wrong g x0 (2 : Int32) x2) fun v103 => some (.inr (.inr v103)))) else (jX12_readChunks_135_92 g x0 x2))))
theorem pbX12_readChunks_92 {d : Nat} {Q : ps_Rs → ps_G → Prop}  {x0 : Nat} {x2 : Int32} {x3 : Int32} {g : ps_G} {x : (Int32 × Int32 × ps_G) ⊕ ((ps_G) ⊕ (ps_G))} (h : bX12_readChunks_92 x0 x2 x3 g = some x) (hh : ∀ s' : Int32 × Int32 × ps_G, x = .inl s' → ps_At mX12_readChunks (d + 2) 92 [(0, .ref x0), (2, .int s'.1), (3, .int s'.2.1)] [] s'.2.2 Q) (he : ∀ r' : ps_G, x = .inr (.inl r') → ps_At mX12_readChunks (d + 2) 382 [] [] r' Q) (hr : ∀ v' : ps_G, x = .inr (.inr v') → Q (.inl none) v') : ps_At mX12_readChunks (d + 2) 92 [(0, .ref x0), (2, .int x2), (3, .int x3)] [] g Q := by
  unfold bX12_readChunks_92 at h
  refine sX12_readChunks_92 ?_
  replace h := q_be h
  obtain ⟨v15, hv, h⟩ := h
  replace hv := q_fI_e hv
  obtain ⟨_, cv15, dv15⟩ := hv
  refine ⟨⟨some _, rfl⟩, _, _, cv15, dv15, ?_⟩
  refine And.intro (fun hc16 => ?_) (fun hc16 => ?_)
  · replace h := q_ifp (hc16) h
    exact ps_weak (he g (Option.some.inj h).symm) trivial
  · replace h := q_ifn (hc16) h
    replace h := q_be h
    obtain ⟨v17, hv, h⟩ := h
    replace hv := q_fI_e hv
    obtain ⟨_, cv17, dv17⟩ := hv
    refine ⟨⟨some _, rfl⟩, _, _, cv17, dv17, ?_⟩
    refine And.intro (fun hc18 => ?_) (fun hc18 => ?_)
    · replace h := q_ifp (hc18) h
      exact ps_weak (pjX12_readChunks_135_92 h hh he hr) ⟨rfl, rfl, trivial⟩
    · replace h := q_ifn (hc18) h
      replace h := q_be h
      obtain ⟨u21, hv, h⟩ := h
      replace hv := q_ob_e hv
      obtain ⟨_, cu21⟩ := hv
      replace h := q_be h
      obtain ⟨v22, hv, h⟩ := h
      refine ⟨⟨some _, rfl⟩, ⟨_, cu21⟩, ?_⟩
      refine rX12_word hv ?_
      refine And.intro (fun hc23 => ?_) (fun hc23 => ?_)
      · replace h := q_ifp (hc23) h
        exact ps_weak (pjX12_readChunks_135_92 h hh he hr) ⟨rfl, rfl, trivial⟩
      · replace h := q_ifn (hc23) h
        replace h := q_be h
        obtain ⟨u24, hv, h⟩ := h
        replace hv := q_ob_e hv
        obtain ⟨_, cu24⟩ := hv
        replace h := q_be h
        obtain ⟨v25, hv, h⟩ := h
        refine ⟨⟨some _, rfl⟩, ⟨_, cu24⟩, ?_⟩
        refine rX12_word hv ?_
        replace h := q_be h
        obtain ⟨v26, hv, h⟩ := h
        replace hv := q_fI_e hv
        obtain ⟨_, cv26, dv26⟩ := hv
        refine ⟨⟨some _, rfl⟩, _, _, cv26, dv26, ?_⟩
        refine And.intro (fun hc27 => ?_) (fun hc27 => ?_)
        · replace h := q_ifp (hc27) h
          refine sX12_readChunks_142 ?_
          replace h := q_be h
          obtain ⟨u28, hv, h⟩ := h
          replace hv := q_ob_e hv
          obtain ⟨_, cu28⟩ := hv
          replace h := q_be h
          obtain ⟨v29, hv, h⟩ := h
          refine ⟨⟨some _, rfl⟩, ⟨_, cu28⟩, ?_⟩
          refine rX12_word hv ?_
          refine ⟨by decide, by decide, by decide, ?_⟩
          replace h := q_be h
          obtain ⟨s38, hl, h⟩ := h
          refine ps_weak (q_lp_ok hl (fun s => ps_At mX12_readChunks (d + 2) 157 [(0, .ref x0), (2, .int x2), (3, .int x3), (4, .int v29), (5, .int s.1), (6, .int s.2)] [] g Q) (fun r => ps_At mX12_readChunks (d + 2) 189 [(0, .ref x0), (2, .int x2), (3, .int x3), (4, .int v29), (5, .int r)] [] g Q) (fun s x hb hh he => pbX12_readChunks_157 hb hh he) ?_) ⟨rfl, rfl, rfl, rfl, rfl, rfl, trivial⟩
          refine (?_ : ps_At mX12_readChunks (d + 2) 189 [(0, .ref x0), (2, .int x2), (3, .int x3), (4, .int v29), (5, .int s38)] [] g Q)
          refine sX12_readChunks_189 ?_
          replace h := q_be h
          obtain ⟨u39, hv, h⟩ := h
          replace hv := q_ob_e hv
          obtain ⟨_, cu39⟩ := hv
          replace h := q_be h
          obtain ⟨v40, hv, h⟩ := h
          refine ⟨⟨some _, rfl⟩, ⟨_, cu39⟩, ?_⟩
          refine rX12_word hv ?_
          refine And.intro (fun hc41 => ?_) (fun hc41 => ?_)
          · replace h := q_ifp (hc41) h
            refine sX12_readChunks_214 ?_
            replace h := q_be h
            obtain ⟨u42, hv, h⟩ := h
            replace hv := q_ob_e hv
            obtain ⟨_, cu42⟩ := hv
            replace h := q_be h
            obtain ⟨v43, hv, h⟩ := h
            refine ⟨⟨some _, rfl⟩, ⟨_, cu42⟩, ?_⟩
            refine rX12_word hv ?_
            have kF101 : (Option.bind (q_ob 12 g x0) fun u98 => Option.bind (fX12_header g x0 x2 v29 v43 x3) fun v99 => jX12_readChunks_299_92 v99 x0 x2 v29 v43) = some x → ps_At mX12_readChunks (d + 2) 235 [(0, .ref x0), (2, .int x2), (3, .int x3), (4, .int v29), (6, .int v43)] [] g Q := fun h => by
              refine sX12_readChunks_235 ?_
              replace h := q_be h
              obtain ⟨u98, hv, h⟩ := h
              replace hv := q_ob_e hv
              obtain ⟨_, cu98⟩ := hv
              replace h := q_be h
              obtain ⟨v99, hv, h⟩ := h
              refine ⟨⟨some _, rfl⟩, ⟨_, cu98⟩, ?_⟩
              refine rX12_header hv ?_
              exact ps_weak (pjX12_readChunks_299_92 h hh he hr) ⟨rfl, rfl, rfl, rfl, trivial⟩
            refine ⟨by decide, ?_⟩
            refine And.intro (fun hc44 => ?_) (fun hc44 => ?_)
            · exact ps_weak (kF101 (q_ifn (fun z => z.1 hc44) h)) ⟨rfl, rfl, rfl, rfl, rfl, trivial⟩
            · refine And.intro (fun hc45 => ?_) (fun hc45 => ?_)
              · replace h := q_ifp (⟨hc44, hc45⟩) h
                refine sX12_readChunks_248 ?_
                refine And.intro (fun hc50 => ?_) (fun hc50 => ?_)
                · replace h := q_ifp (hc50) h
                  refine sX12_readChunks_266 ?_
                  refine And.intro (fun hc54 => ?_) (fun hc54 => ?_)
                  · replace h := q_ifp (hc54) h
                    refine sX12_readChunks_284 ?_
                    refine And.intro (fun hc57 => ?_) (fun hc57 => ?_)
                    · replace h := q_ifp (hc57) h
                      exact ps_weak (pjX12_readChunks_299_92 h hh he hr) ⟨rfl, rfl, rfl, rfl, trivial⟩
                    · replace h := q_ifn (hc57) h
                      replace h := q_be h
                      obtain ⟨u86, hv, h⟩ := h
                      replace hv := q_ob_e hv
                      obtain ⟨_, cu86⟩ := hv
                      replace h := q_be h
                      obtain ⟨v87, hv, h⟩ := h
                      refine ⟨⟨some _, rfl⟩, ⟨_, cu86⟩, ?_⟩
                      refine rX12_readPacked hv ?_
                      exact ps_weak (pjX12_readChunks_299_92 h hh he hr) ⟨rfl, rfl, rfl, rfl, trivial⟩
                  · replace h := q_ifn (hc54) h
                    replace h := q_be h
                    obtain ⟨u90, hv, h⟩ := h
                    replace hv := q_ob_e hv
                    obtain ⟨_, cu90⟩ := hv
                    replace h := q_be h
                    obtain ⟨v91, hv, h⟩ := h
                    refine ⟨⟨some _, rfl⟩, ⟨_, cu90⟩, ?_⟩
                    refine rX12_readClear hv ?_
                    exact ps_weak (pjX12_readChunks_299_92 h hh he hr) ⟨rfl, rfl, rfl, rfl, trivial⟩
                · replace h := q_ifn (hc50) h
                  replace h := q_be h
                  obtain ⟨u94, hv, h⟩ := h
                  replace hv := q_ob_e hv
                  obtain ⟨_, cu94⟩ := hv
                  replace h := q_be h
                  obtain ⟨v95, hv, h⟩ := h
                  refine ⟨⟨some _, rfl⟩, ⟨_, cu94⟩, ?_⟩
                  refine rX12_readColours hv ?_
                  exact ps_weak (pjX12_readChunks_299_92 h hh he hr) ⟨rfl, rfl, rfl, rfl, trivial⟩
              · exact ps_weak (kF101 (q_ifn (fun z => hc45 z.2) h)) ⟨rfl, rfl, rfl, rfl, rfl, trivial⟩
          · replace h := q_ifn (hc41) h
            replace h := q_be h
            obtain ⟨u102, hv, h⟩ := h
            replace hv := q_ob_e hv
            obtain ⟨_, cu102⟩ := hv
            replace h := q_be h
            obtain ⟨v103, hv, h⟩ := h
            refine ⟨⟨some _, rfl⟩, ⟨_, cu102⟩, ?_⟩
            refine rX12_wrong hv ?_
            exact ⟨rfl, rfl, hr v103 (Option.some.inj h).symm⟩
        · replace h := q_ifn (hc27) h
          exact ps_weak (pjX12_readChunks_135_92 h hh he hr) ⟨rfl, rfl, trivial⟩
noncomputable def jX12_readChunks_36 (g : ps_G) (x0 : Nat) (k0 : Int32) : Option (ps_G) := if ¬ k0 = 0 then (Option.bind (q_sI 12 79 g x0 (0 : Int32)) fun g4 => Option.bind (q_sI 12 82 g4 x0 (0 : Int32)) fun g5 => Option.bind (q_sI 12 86 g5 x0 (-1 : Int32)) fun g6 => Option.bind (q_lp (fun s => bX12_readChunks_65 x0 s.1 s.2) ((0 : Int32), g6)) fun s14 => Option.bind (q_lp (fun s => bX12_readChunks_92 x0 s.1 s.2.1 s.2.2) ((8 : Int32), (1 : Int32), s14)) fun s114 => Sum.elim (fun r115 => some r115) (fun v116 => some v116) s114) else (Option.bind (q_ob 12 g x0) fun u117 => Option.bind (fX12_wrong g x0 (1 : Int32) (0 : Int32)) fun v118 => some v118)
theorem pjX12_readChunks_36 {d : Nat} {Q : ps_Rs → ps_G → Prop} {g : ps_G} {x0 : Nat} {k0 : Int32} {r : ps_G} (h : jX12_readChunks_36 g x0 k0 = some r) (hk : Q (.inl none) r) : ps_At mX12_readChunks (d + 2) 36 [(0, .ref x0)] [.int k0] g Q := by
  unfold jX12_readChunks_36 at h
  refine sX12_readChunks_36 ?_
  refine ⟨by decide, ?_⟩
  refine And.intro (fun hc3 => ?_) (fun hc3 => ?_)
  · replace h := q_ifp (hc3) h
    refine sX12_readChunks_48 ?_
    replace h := q_be h
    obtain ⟨g4, hv, h⟩ := h
    replace hv := q_sI_e hv
    obtain ⟨_, cg4, dg4, yg4⟩ := hv
    replace h := q_be h
    obtain ⟨g5, hv, h⟩ := h
    replace hv := q_sI_e hv
    obtain ⟨_, cg5, dg5, yg5⟩ := hv
    replace h := q_be h
    obtain ⟨g6, hv, h⟩ := h
    replace hv := q_sI_e hv
    obtain ⟨_, cg6, dg6, yg6⟩ := hv
    refine ⟨⟨some _, rfl⟩, _, cg4, dg4, rfl, rfl, _, yg4, ⟨some _, rfl⟩, _, cg5, dg5, rfl, rfl, _, yg5, ⟨some _, rfl⟩, _, cg6, dg6, rfl, rfl, _, yg6, by decide, ?_⟩
    replace h := q_be h
    obtain ⟨s14, hl, h⟩ := h
    refine ps_weak (q_lp_ok hl (fun s => ps_At mX12_readChunks (d + 2) 65 [(0, .ref x0), (2, .int s.1)] [] s.2 Q) (fun r => ps_At mX12_readChunks (d + 2) 87 [(0, .ref x0)] [] r Q) (fun s x hb hh he => pbX12_readChunks_65 hb hh he) ?_) ⟨rfl, rfl, trivial⟩
    refine (?_ : ps_At mX12_readChunks (d + 2) 87 [(0, .ref x0)] [] s14 Q)
    refine sX12_readChunks_87 ?_
    refine ⟨by decide, by decide, ?_⟩
    replace h := q_be h
    obtain ⟨s114, hl, h⟩ := h
    refine ps_weak (q_lp_ok hl (fun s => ps_At mX12_readChunks (d + 2) 92 [(0, .ref x0), (2, .int s.1), (3, .int s.2.1)] [] s.2.2 Q) (Sum.elim (fun r => ps_At mX12_readChunks (d + 2) 382 [] [] r Q) (fun v => Q (.inl none) v)) (fun s x hb hh he => pbX12_readChunks_92 hb hh (fun _ e => he _ e) (fun _ e => he _ e)) ?_) ⟨rfl, rfl, rfl, trivial⟩
    rcases s114 with r115 | v116
    · refine (?_ : ps_At mX12_readChunks (d + 2) 382 [] [] r115 Q)
      refine sX12_readChunks_382 ?_
      cases h
      exact ⟨rfl, rfl, hk⟩
    · cases h
      exact hk
  · replace h := q_ifn (hc3) h
    replace h := q_be h
    obtain ⟨u117, hv, h⟩ := h
    replace hv := q_ob_e hv
    obtain ⟨_, cu117⟩ := hv
    replace h := q_be h
    obtain ⟨v118, hv, h⟩ := h
    refine ⟨⟨some _, rfl⟩, ⟨_, cu117⟩, ?_⟩
    refine rX12_wrong hv ?_
    cases h
    exact ⟨rfl, rfl, hk⟩
noncomputable def jX12_readChunks_35 (g : ps_G) (x0 : Nat) : Option (ps_G) := jX12_readChunks_36 g x0 (0 : Int32)
theorem pjX12_readChunks_35 {d : Nat} {Q : ps_Rs → ps_G → Prop} {g : ps_G} {x0 : Nat} {r : ps_G} (h : jX12_readChunks_35 g x0 = some r) (hk : Q (.inl none) r) : ps_At mX12_readChunks (d + 2) 35 [(0, .ref x0)] [] g Q := by
  unfold jX12_readChunks_35 at h
  refine sX12_readChunks_35 ?_
  exact ps_weak (pjX12_readChunks_36 h hk) ⟨rfl, trivial⟩
noncomputable def fX12_readChunks (g : ps_G) (x0 : Nat) : Option (ps_G) := Option.bind (q_fI 12 3 g x0) fun v1 => if v1 < (8 : Int32) then (jX12_readChunks_35 g x0) else (Option.bind (q_ob 12 g x0) fun u121 => Option.bind (fX12_word g x0 (0 : Int32)) fun v122 => if ¬ v122 = (-1991225785 : Int32) then (jX12_readChunks_35 g x0) else (Option.bind (q_ob 12 g x0) fun u124 => Option.bind (fX12_word g x0 (4 : Int32)) fun v125 => if ¬ v125 = (218765834 : Int32) then (jX12_readChunks_35 g x0) else (jX12_readChunks_36 g x0 (1 : Int32))))
theorem rX12_readChunks {d : Nat} {Q : ps_Rs → ps_G → Prop} {g : ps_G} {x0 : Nat} {r : ps_G} (h : fX12_readChunks g x0 = some r) (hk : Q (.inl none) r) : ps_Ok mX12_readChunks (d + 2) [.ref x0] g Q := by
  unfold fX12_readChunks at h
  refine sX12_readChunks_0 ?_
  replace h := q_be h
  obtain ⟨v1, hv, h⟩ := h
  replace hv := q_fI_e hv
  obtain ⟨_, cv1, dv1⟩ := hv
  refine ⟨⟨some _, rfl⟩, _, _, cv1, dv1, ?_⟩
  refine And.intro (fun hc2 => ?_) (fun hc2 => ?_)
  · replace h := q_ifp (hc2) h
    exact ps_weak (pjX12_readChunks_35 h hk) ⟨rfl, trivial⟩
  · replace h := q_ifn (hc2) h
    replace h := q_be h
    obtain ⟨u121, hv, h⟩ := h
    replace hv := q_ob_e hv
    obtain ⟨_, cu121⟩ := hv
    replace h := q_be h
    obtain ⟨v122, hv, h⟩ := h
    refine ⟨⟨some _, rfl⟩, ⟨_, cu121⟩, ?_⟩
    refine rX12_word hv ?_
    refine And.intro (fun hc123 => ?_) (fun hc123 => ?_)
    · replace h := q_ifp (hc123) h
      exact ps_weak (pjX12_readChunks_35 h hk) ⟨rfl, trivial⟩
    · replace h := q_ifn (hc123) h
      replace h := q_be h
      obtain ⟨u124, hv, h⟩ := h
      replace hv := q_ob_e hv
      obtain ⟨_, cu124⟩ := hv
      replace h := q_be h
      obtain ⟨v125, hv, h⟩ := h
      refine ⟨⟨some _, rfl⟩, ⟨_, cu124⟩, ?_⟩
      refine rX12_word hv ?_
      refine And.intro (fun hc126 => ?_) (fun hc126 => ?_)
      · replace h := q_ifp (hc126) h
        exact ps_weak (pjX12_readChunks_35 h hk) ⟨rfl, trivial⟩
      · replace h := q_ifn (hc126) h
        exact ps_weak (pjX12_readChunks_36 h hk) ⟨rfl, trivial⟩
noncomputable def jX12_bit_19 (g : ps_G) (x0 : Nat) : Option (Int32 × ps_G) := Option.bind (q_fI 12 87 g x0) fun v5 => if v5 = 0 then (Option.bind (q_fR 12 78 g x0) fun v7 => Option.bind (v7) fun a8 => Option.bind (q_fI 12 88 g x0) fun v9 => Option.bind (q_aI g a8 (v9 / (8 : Int32))) fun v10 => Option.bind (q_fI 12 88 g x0) fun v11 => Option.bind (q_fI 12 88 g x0) fun v12 => Option.bind (q_sI 12 88 g x0 (v12 + (1 : Int32))) fun g13 => some ((q_shr v10 (q_rem v11 (8 : Int32))) &&& (1 : Int32), g13)) else (some ((0 : Int32), g))
theorem pjX12_bit_19 {d : Nat} {Q : ps_Rs → ps_G → Prop} {g : ps_G} {x0 : Nat} {r : Int32 × ps_G} (h : jX12_bit_19 g x0 = some r) (hk : Q (.inl (some (.int r.1))) r.2) : ps_At mX12_bit d 19 [(0, .ref x0)] [] g Q := by
  unfold jX12_bit_19 at h
  refine sX12_bit_19 ?_
  replace h := q_be h
  obtain ⟨v5, hv, h⟩ := h
  replace hv := q_fI_e hv
  obtain ⟨_, cv5, dv5⟩ := hv
  refine ⟨⟨some _, rfl⟩, _, _, cv5, dv5, ?_⟩
  refine And.intro (fun hc6 => ?_) (fun hc6 => ?_)
  · replace h := q_ifp (hc6) h
    refine sX12_bit_28 ?_
    replace h := q_be h
    obtain ⟨v7, hv, h⟩ := h
    replace hv := q_fR_e hv
    obtain ⟨_, cv7, dv7⟩ := hv
    replace h := q_be h
    obtain ⟨a8, ea8, h⟩ := h
    subst ea8
    replace h := q_be h
    obtain ⟨v9, hv, h⟩ := h
    replace hv := q_fI_e hv
    obtain ⟨_, cv9, dv9⟩ := hv
    replace h := q_be h
    obtain ⟨v10, hv, h⟩ := h
    replace hv := q_aI_e hv
    obtain ⟨_, _, cv10, iv10, yv10⟩ := hv
    replace h := q_be h
    obtain ⟨v11, hv, h⟩ := h
    replace hv := q_fI_e hv
    obtain ⟨_, cv11, dv11⟩ := hv
    replace h := q_be h
    obtain ⟨v12, hv, h⟩ := h
    replace hv := q_fI_e hv
    obtain ⟨_, cv12, dv12⟩ := hv
    replace h := q_be h
    obtain ⟨g13, hv, h⟩ := h
    replace hv := q_sI_e hv
    obtain ⟨_, cg13, dg13, yg13⟩ := hv
    refine ⟨⟨some _, rfl⟩, _, _, cv7, dv7, ⟨some _, rfl⟩, _, _, cv9, dv9, by decide, _, rfl, _, _, cv10, iv10, _, yv10, ⟨some _, rfl⟩, _, _, cv11, dv11, by decide, _, rfl, by decide, ⟨some _, rfl⟩, rfl, _, _, cv12, dv12, _, cg13, dg13, rfl, rfl, _, yg13, ?_⟩
    cases h
    exact ⟨rfl, hk⟩
  · replace h := q_ifn (hc6) h
    cases h
    exact ⟨rfl, hk⟩
noncomputable def fX12_bit (g : ps_G) (x0 : Nat) : Option (Int32 × ps_G) := Option.bind (q_fI 12 88 g x0) fun v1 => Option.bind (q_fI 12 79 g x0) fun v2 => if v1 < ((8 : Int32) * v2) then (jX12_bit_19 g x0) else (Option.bind (q_sB 12 87 g x0 (1 : Int32)) fun g16 => jX12_bit_19 g16 x0)
theorem rX12_bit {d : Nat} {Q : ps_Rs → ps_G → Prop} {g : ps_G} {x0 : Nat} {r : Int32 × ps_G} (h : fX12_bit g x0 = some r) (hk : Q (.inl (some (.int r.1))) r.2) : ps_Ok mX12_bit d [.ref x0] g Q := by
  unfold fX12_bit at h
  refine sX12_bit_0 ?_
  replace h := q_be h
  obtain ⟨v1, hv, h⟩ := h
  replace hv := q_fI_e hv
  obtain ⟨_, cv1, dv1⟩ := hv
  replace h := q_be h
  obtain ⟨v2, hv, h⟩ := h
  replace hv := q_fI_e hv
  obtain ⟨_, cv2, dv2⟩ := hv
  refine ⟨⟨some _, rfl⟩, _, _, cv1, dv1, ⟨some _, rfl⟩, _, _, cv2, dv2, ?_⟩
  refine And.intro (fun hc3 => ?_) (fun hc3 => ?_)
  · replace h := q_ifp (hc3) h
    exact ps_weak (pjX12_bit_19 h hk) ⟨rfl, trivial⟩
  · replace h := q_ifn (hc3) h
    replace h := q_be h
    obtain ⟨g16, hv, h⟩ := h
    replace hv := q_sB_e hv
    obtain ⟨_, cg16, dg16, ng16, yg16⟩ := hv
    refine ⟨⟨some _, rfl⟩, _, cg16, dg16, ng16.1, ng16.2, _, yg16, ?_⟩
    exact ps_weak (pjX12_bit_19 h hk) ⟨rfl, trivial⟩
noncomputable def bX12_low_4 (x0 : Nat) (x1 : Int32) (x2 : Int32) (x3 : Int32) (g : ps_G) : Option ((Int32 × Int32 × ps_G) ⊕ (Int32 × ps_G)) := if x1 ≤ x3 then (some (.inr (x2, g))) else (Option.bind (q_ob 12 g x0) fun u3 => q_b2 (fX12_bit g x0) fun v4 g5 => some (.inl (x2 ||| (q_shl v4 x3), x3 + (1 : Int32), g5)))
theorem pbX12_low_4 {d : Nat} {Q : ps_Rs → ps_G → Prop}  {x0 : Nat} {x1 : Int32} {x2 : Int32} {x3 : Int32} {g : ps_G} {x : (Int32 × Int32 × ps_G) ⊕ (Int32 × ps_G)} (h : bX12_low_4 x0 x1 x2 x3 g = some x) (hh : ∀ s' : Int32 × Int32 × ps_G, x = .inl s' → ps_At mX12_low (d + 1) 4 [(0, .ref x0), (1, .int x1), (2, .int s'.1), (3, .int s'.2.1)] [] s'.2.2 Q) (he : ∀ r' : Int32 × ps_G, x = .inr r' → ps_At mX12_low (d + 1) 24 [(2, .int r'.1)] [] r'.2 Q) : ps_At mX12_low (d + 1) 4 [(0, .ref x0), (1, .int x1), (2, .int x2), (3, .int x3)] [] g Q := by
  unfold bX12_low_4 at h
  refine sX12_low_4 ?_
  refine And.intro (fun hc1 => ?_) (fun hc1 => ?_)
  · replace h := q_ifp (hc1) h
    exact ps_weak (he (x2, g) (Option.some.inj h).symm) ⟨rfl, trivial⟩
  · replace h := q_ifn (hc1) h
    replace h := q_be h
    obtain ⟨u3, hv, h⟩ := h
    replace hv := q_ob_e hv
    obtain ⟨_, cu3⟩ := hv
    replace h := q_b2_e h
    obtain ⟨v4, g5, hv, h⟩ := h
    refine ⟨⟨some _, rfl⟩, ⟨_, cu3⟩, ?_⟩
    refine rX12_bit hv ?_
    refine ⟨by decide, by decide, ?_⟩
    exact ps_weak (hh (x2 ||| (q_shl v4 x3), x3 + (1 : Int32), g5) (Option.some.inj h).symm) ⟨rfl, rfl, rfl, rfl, trivial⟩
noncomputable def fX12_low (g : ps_G) (x0 : Nat) (x1 : Int32) : Option (Int32 × ps_G) := Option.bind (q_lp (fun s => bX12_low_4 x0 x1 s.1 s.2.1 s.2.2) ((0 : Int32), (0 : Int32), g)) fun s8 => some (s8.1, s8.2)
theorem rX12_low {d : Nat} {Q : ps_Rs → ps_G → Prop} {g : ps_G} {x0 : Nat} {x1 : Int32} {r : Int32 × ps_G} (h : fX12_low g x0 x1 = some r) (hk : Q (.inl (some (.int r.1))) r.2) : ps_Ok mX12_low (d + 1) [.ref x0, .int x1] g Q := by
  unfold fX12_low at h
  refine sX12_low_0 ?_
  refine ⟨by decide, by decide, ?_⟩
  replace h := q_be h
  obtain ⟨s8, hl, h⟩ := h
  refine ps_weak (q_lp_ok hl (fun s => ps_At mX12_low (d + 1) 4 [(0, .ref x0), (1, .int x1), (2, .int s.1), (3, .int s.2.1)] [] s.2.2 Q) (fun r => ps_At mX12_low (d + 1) 24 [(2, .int r.1)] [] r.2 Q) (fun s x hb hh he => pbX12_low_4 hb hh he) ?_) ⟨rfl, rfl, rfl, rfl, trivial⟩
  refine (?_ : ps_At mX12_low (d + 1) 24 [(2, .int s8.1)] [] s8.2 Q)
  refine sX12_low_24 ?_
  cases h
  exact ⟨rfl, hk⟩
noncomputable def jX12_putRow_16 (g : ps_G) (x0 : Nat) (x1 : Int32) : Option (ps_G) := Option.bind (q_fI 12 87 g x0) fun v5 => if v5 = 0 then (Option.bind (q_fR 12 74 g x0) fun v7 => Option.bind (v7) fun a8 => Option.bind (q_fI 12 75 g x0) fun v9 => Option.bind (q_wI g a8 v9 x1) fun g10 => Option.bind (q_fI 12 75 g10 x0) fun v11 => Option.bind (q_sI 12 75 g10 x0 (v11 + (1 : Int32))) fun g12 => some g12) else (some g)
theorem pjX12_putRow_16 {d : Nat} {Q : ps_Rs → ps_G → Prop} {g : ps_G} {x0 : Nat} {x1 : Int32} {r : ps_G} (h : jX12_putRow_16 g x0 x1 = some r) (hk : Q (.inl none) r) : ps_At mX12_putRow d 16 [(0, .ref x0), (1, .int x1)] [] g Q := by
  unfold jX12_putRow_16 at h
  refine sX12_putRow_16 ?_
  replace h := q_be h
  obtain ⟨v5, hv, h⟩ := h
  replace hv := q_fI_e hv
  obtain ⟨_, cv5, dv5⟩ := hv
  refine ⟨⟨some _, rfl⟩, _, _, cv5, dv5, ?_⟩
  refine And.intro (fun hc6 => ?_) (fun hc6 => ?_)
  · replace h := q_ifp (hc6) h
    refine sX12_putRow_24 ?_
    replace h := q_be h
    obtain ⟨v7, hv, h⟩ := h
    replace hv := q_fR_e hv
    obtain ⟨_, cv7, dv7⟩ := hv
    replace h := q_be h
    obtain ⟨a8, ea8, h⟩ := h
    subst ea8
    replace h := q_be h
    obtain ⟨v9, hv, h⟩ := h
    replace hv := q_fI_e hv
    obtain ⟨_, cv9, dv9⟩ := hv
    replace h := q_be h
    obtain ⟨g10, hv, h⟩ := h
    replace hv := q_wI_e hv
    obtain ⟨_, _, cg10, pg10, ig10, yg10⟩ := hv
    replace h := q_be h
    obtain ⟨v11, hv, h⟩ := h
    replace hv := q_fI_e hv
    obtain ⟨_, cv11, dv11⟩ := hv
    replace h := q_be h
    obtain ⟨g12, hv, h⟩ := h
    replace hv := q_sI_e hv
    obtain ⟨_, cg12, dg12, yg12⟩ := hv
    cases h
    exact ⟨⟨some _, rfl⟩, _, _, cv7, dv7, ⟨some _, rfl⟩, _, _, cv9, dv9, _, _, cg10, pg10, ig10, _, yg10, ⟨some _, rfl⟩, rfl, _, _, cv11, dv11, _, cg12, dg12, rfl, rfl, _, yg12, rfl, rfl, hk⟩
  · replace h := q_ifn (hc6) h
    cases h
    exact ⟨rfl, rfl, hk⟩
noncomputable def fX12_putRow (g : ps_G) (x0 : Nat) (x1 : Int32) : Option (ps_G) := Option.bind (q_fI 12 75 g x0) fun v1 => Option.bind (q_fI 12 89 g x0) fun v2 => if ¬ v1 = v2 then (jX12_putRow_16 g x0 x1) else (Option.bind (q_sB 12 87 g x0 (1 : Int32)) fun g15 => jX12_putRow_16 g15 x0 x1)
theorem rX12_putRow {d : Nat} {Q : ps_Rs → ps_G → Prop} {g : ps_G} {x0 : Nat} {x1 : Int32} {r : ps_G} (h : fX12_putRow g x0 x1 = some r) (hk : Q (.inl none) r) : ps_Ok mX12_putRow d [.ref x0, .int x1] g Q := by
  unfold fX12_putRow at h
  refine sX12_putRow_0 ?_
  replace h := q_be h
  obtain ⟨v1, hv, h⟩ := h
  replace hv := q_fI_e hv
  obtain ⟨_, cv1, dv1⟩ := hv
  replace h := q_be h
  obtain ⟨v2, hv, h⟩ := h
  replace hv := q_fI_e hv
  obtain ⟨_, cv2, dv2⟩ := hv
  refine ⟨⟨some _, rfl⟩, _, _, cv1, dv1, ⟨some _, rfl⟩, _, _, cv2, dv2, ?_⟩
  refine And.intro (fun hc3 => ?_) (fun hc3 => ?_)
  · replace h := q_ifp (hc3) h
    exact ps_weak (pjX12_putRow_16 h hk) ⟨rfl, rfl, trivial⟩
  · replace h := q_ifn (hc3) h
    replace h := q_be h
    obtain ⟨g15, hv, h⟩ := h
    replace hv := q_sB_e hv
    obtain ⟨_, cg15, dg15, ng15, yg15⟩ := hv
    refine ⟨⟨some _, rfl⟩, _, cg15, dg15, ng15.1, ng15.2, _, yg15, ?_⟩
    exact ps_weak (pjX12_putRow_16 h hk) ⟨rfl, rfl, trivial⟩
noncomputable def bX12_stored_0 (x0 : Nat) (g : ps_G) : Option ((ps_G) ⊕ (ps_G)) := Option.bind (q_fI 12 88 g x0) fun v1 => if (q_rem v1 (8 : Int32)) = 0 then (some (.inr g)) else (Option.bind (q_fI 12 88 g x0) fun v4 => Option.bind (q_sI 12 88 g x0 (v4 + (1 : Int32))) fun g5 => some (.inl g5))
theorem pbX12_stored_0 {d : Nat} {Q : ps_Rs → ps_G → Prop}  {x0 : Nat} {g : ps_G} {x : (ps_G) ⊕ (ps_G)} (h : bX12_stored_0 x0 g = some x) (hh : ∀ s' : ps_G, x = .inl s' → ps_At mX12_stored (d + 2) 0 [(0, .ref x0)] [] s' Q) (he : ∀ r' : ps_G, x = .inr r' → ps_At mX12_stored (d + 2) 23 [(0, .ref x0)] [] r' Q) : ps_At mX12_stored (d + 2) 0 [(0, .ref x0)] [] g Q := by
  unfold bX12_stored_0 at h
  refine sX12_stored_0 ?_
  replace h := q_be h
  obtain ⟨v1, hv, h⟩ := h
  replace hv := q_fI_e hv
  obtain ⟨_, cv1, dv1⟩ := hv
  refine ⟨⟨some _, rfl⟩, _, _, cv1, dv1, by decide, _, rfl, ?_⟩
  refine And.intro (fun hc2 => ?_) (fun hc2 => ?_)
  · replace h := q_ifp (hc2) h
    exact ps_weak (he g (Option.some.inj h).symm) ⟨rfl, trivial⟩
  · replace h := q_ifn (hc2) h
    replace h := q_be h
    obtain ⟨v4, hv, h⟩ := h
    replace hv := q_fI_e hv
    obtain ⟨_, cv4, dv4⟩ := hv
    replace h := q_be h
    obtain ⟨g5, hv, h⟩ := h
    replace hv := q_sI_e hv
    obtain ⟨_, cg5, dg5, yg5⟩ := hv
    refine ⟨⟨some _, rfl⟩, rfl, _, _, cv4, dv4, _, cg5, dg5, rfl, rfl, _, yg5, ?_⟩
    exact ps_weak (hh g5 (Option.some.inj h).symm) ⟨rfl, trivial⟩
noncomputable def bX12_stored_60 (x0 : Nat) (x1 : Int32) (x3 : Int32) (g : ps_G) : Option ((Int32 × ps_G) ⊕ (ps_G)) := if x1 ≤ x3 then (some (.inr g)) else (Option.bind (q_fI 12 87 g x0) fun v21 => if ¬ v21 = 0 then (some (.inr g)) else (Option.bind (q_ob 12 g x0) fun u24 => q_b2 (fX12_low g x0 (8 : Int32)) fun v25 g26 => Option.bind (q_ob 12 g26 x0) fun u27 => Option.bind (fX12_putRow g26 x0 v25) fun v28 => some (.inl (x3 + (1 : Int32), v28))))
theorem pbX12_stored_60 {d : Nat} {Q : ps_Rs → ps_G → Prop}  {x0 : Nat} {x1 : Int32} {x3 : Int32} {g : ps_G} {x : (Int32 × ps_G) ⊕ (ps_G)} (h : bX12_stored_60 x0 x1 x3 g = some x) (hh : ∀ s' : Int32 × ps_G, x = .inl s' → ps_At mX12_stored (d + 2) 60 [(0, .ref x0), (1, .int x1), (3, .int s'.1)] [] s'.2 Q) (he : ∀ r' : ps_G, x = .inr r' → ps_At mX12_stored (d + 2) 88 [] [] r' Q) : ps_At mX12_stored (d + 2) 60 [(0, .ref x0), (1, .int x1), (3, .int x3)] [] g Q := by
  unfold bX12_stored_60 at h
  refine sX12_stored_60 ?_
  refine And.intro (fun hc19 => ?_) (fun hc19 => ?_)
  · replace h := q_ifp (hc19) h
    exact ps_weak (he g (Option.some.inj h).symm) trivial
  · replace h := q_ifn (hc19) h
    replace h := q_be h
    obtain ⟨v21, hv, h⟩ := h
    replace hv := q_fI_e hv
    obtain ⟨_, cv21, dv21⟩ := hv
    refine ⟨⟨some _, rfl⟩, _, _, cv21, dv21, ?_⟩
    refine And.intro (fun hc22 => ?_) (fun hc22 => ?_)
    · replace h := q_ifp (hc22) h
      exact ps_weak (he g (Option.some.inj h).symm) trivial
    · replace h := q_ifn (hc22) h
      replace h := q_be h
      obtain ⟨u24, hv, h⟩ := h
      replace hv := q_ob_e hv
      obtain ⟨_, cu24⟩ := hv
      replace h := q_b2_e h
      obtain ⟨v25, g26, hv, h⟩ := h
      refine ⟨⟨some _, rfl⟩, ⟨some _, rfl⟩, ⟨_, cu24⟩, ?_⟩
      refine rX12_low hv ?_
      replace h := q_be h
      obtain ⟨u27, hv, h⟩ := h
      replace hv := q_ob_e hv
      obtain ⟨_, cu27⟩ := hv
      replace h := q_be h
      obtain ⟨v28, hv, h⟩ := h
      refine ⟨⟨_, cu27⟩, ?_⟩
      refine rX12_putRow hv ?_
      refine ⟨by decide, ?_⟩
      exact ps_weak (hh (x3 + (1 : Int32), v28) (Option.some.inj h).symm) ⟨rfl, rfl, rfl, trivial⟩
noncomputable def jX12_stored_88 (g : ps_G) : Option (ps_G) := some g
theorem pjX12_stored_88 {d : Nat} {Q : ps_Rs → ps_G → Prop} {g : ps_G}  {r : ps_G} (h : jX12_stored_88 g = some r) (hk : Q (.inl none) r) : ps_At mX12_stored (d + 2) 88 [] [] g Q := by
  unfold jX12_stored_88 at h
  refine sX12_stored_88 ?_
  cases h
  exact ⟨rfl, rfl, hk⟩
noncomputable def jX12_stored_58 (g : ps_G) (x0 : Nat) (x1 : Int32) : Option (ps_G) := Option.bind (q_lp (fun s => bX12_stored_60 x0 x1 s.1 s.2) ((0 : Int32), g)) fun s33 => jX12_stored_88 s33
theorem pjX12_stored_58 {d : Nat} {Q : ps_Rs → ps_G → Prop} {g : ps_G} {x0 : Nat} {x1 : Int32} {r : ps_G} (h : jX12_stored_58 g x0 x1 = some r) (hk : Q (.inl none) r) : ps_At mX12_stored (d + 2) 58 [(0, .ref x0), (1, .int x1)] [] g Q := by
  unfold jX12_stored_58 at h
  refine sX12_stored_58 ?_
  refine ⟨by decide, ?_⟩
  replace h := q_be h
  obtain ⟨s33, hl, h⟩ := h
  refine ps_weak (q_lp_ok hl (fun s => ps_At mX12_stored (d + 2) 60 [(0, .ref x0), (1, .int x1), (3, .int s.1)] [] s.2 Q) (fun r => ps_At mX12_stored (d + 2) 88 [] [] r Q) (fun s x hb hh he => pbX12_stored_60 hb hh he) ?_) ⟨rfl, rfl, rfl, trivial⟩
  refine (?_ : ps_At mX12_stored (d + 2) 88 [] [] s33 Q)
  exact ps_weak (pjX12_stored_88 h hk) trivial
noncomputable def fX12_stored (g : ps_G) (x0 : Nat) : Option (ps_G) := Option.bind (q_lp (fun s => bX12_stored_0 x0 s) g) fun s8 => Option.bind (q_ob 12 s8 x0) fun u9 => q_b2 (fX12_low s8 x0 (16 : Int32)) fun v10 g11 => Option.bind (q_ob 12 g11 x0) fun u12 => q_b2 (fX12_low g11 x0 (16 : Int32)) fun v13 g14 => Option.bind (q_fI 12 87 g14 x0) fun v15 => if ¬ v15 = 0 then (jX12_stored_58 g14 x0 v10) else (if (v10 ^^^ v13) = (65535 : Int32) then (jX12_stored_58 g14 x0 v10) else (Option.bind (q_sB 12 87 g14 x0 (1 : Int32)) fun g36 => jX12_stored_58 g36 x0 v10))
theorem rX12_stored {d : Nat} {Q : ps_Rs → ps_G → Prop} {g : ps_G} {x0 : Nat} {r : ps_G} (h : fX12_stored g x0 = some r) (hk : Q (.inl none) r) : ps_Ok mX12_stored (d + 2) [.ref x0] g Q := by
  unfold fX12_stored at h
  replace h := q_be h
  obtain ⟨s8, hl, h⟩ := h
  refine ps_weak (q_lp_ok hl (fun s => ps_At mX12_stored (d + 2) 0 [(0, .ref x0)] [] s Q) (fun r => ps_At mX12_stored (d + 2) 23 [(0, .ref x0)] [] r Q) (fun s x hb hh he => pbX12_stored_0 hb hh he) ?_) ⟨rfl, trivial⟩
  refine (?_ : ps_At mX12_stored (d + 2) 23 [(0, .ref x0)] [] s8 Q)
  refine sX12_stored_23 ?_
  replace h := q_be h
  obtain ⟨u9, hv, h⟩ := h
  replace hv := q_ob_e hv
  obtain ⟨_, cu9⟩ := hv
  replace h := q_b2_e h
  obtain ⟨v10, g11, hv, h⟩ := h
  refine ⟨⟨some _, rfl⟩, ⟨_, cu9⟩, ?_⟩
  refine rX12_low hv ?_
  replace h := q_be h
  obtain ⟨u12, hv, h⟩ := h
  replace hv := q_ob_e hv
  obtain ⟨_, cu12⟩ := hv
  replace h := q_b2_e h
  obtain ⟨v13, g14, hv, h⟩ := h
  refine ⟨by decide, ⟨some _, rfl⟩, ⟨_, cu12⟩, ?_⟩
  refine rX12_low hv ?_
  replace h := q_be h
  obtain ⟨v15, hv, h⟩ := h
  replace hv := q_fI_e hv
  obtain ⟨_, cv15, dv15⟩ := hv
  refine ⟨by decide, ⟨some _, rfl⟩, _, _, cv15, dv15, ?_⟩
  refine And.intro (fun hc16 => ?_) (fun hc16 => ?_)
  · replace h := q_ifp (hc16) h
    exact ps_weak (pjX12_stored_58 h hk) ⟨rfl, rfl, trivial⟩
  · replace h := q_ifn (hc16) h
    refine And.intro (fun hc34 => ?_) (fun hc34 => ?_)
    · replace h := q_ifp (hc34) h
      exact ps_weak (pjX12_stored_58 h hk) ⟨rfl, rfl, trivial⟩
    · replace h := q_ifn (hc34) h
      replace h := q_be h
      obtain ⟨g36, hv, h⟩ := h
      replace hv := q_sB_e hv
      obtain ⟨_, cg36, dg36, ng36, yg36⟩ := hv
      refine ⟨⟨some _, rfl⟩, _, cg36, dg36, ng36.1, ng36.2, _, yg36, ?_⟩
      exact ps_weak (pjX12_stored_58 h hk) ⟨rfl, rfl, trivial⟩
noncomputable def bX12_makeCodes_3 (x0 : Nat) (x1 : Int32) (x2 : Int32) (x3 : Int32) (x4 : Int32) (g : ps_G) : Option ((Int32 × ps_G) ⊕ (ps_G)) := if (16 : Int32) ≤ x4 then (some (.inr g)) else (Option.bind (q_fR 12 90 g x0) fun v3 => Option.bind (v3) fun a4 => Option.bind (q_wI g a4 (((16 : Int32) * x1) + x4) (0 : Int32)) fun g5 => some (.inl (x4 + (1 : Int32), g5)))
theorem pbX12_makeCodes_3 {d : Nat} {Q : ps_Rs → ps_G → Prop}  {x0 : Nat} {x1 : Int32} {x2 : Int32} {x3 : Int32} {x4 : Int32} {g : ps_G} {x : (Int32 × ps_G) ⊕ (ps_G)} (h : bX12_makeCodes_3 x0 x1 x2 x3 x4 g = some x) (hh : ∀ s' : Int32 × ps_G, x = .inl s' → ps_At mX12_makeCodes d 3 [(0, .ref x0), (1, .int x1), (2, .int x2), (3, .int x3), (4, .int s'.1)] [] s'.2 Q) (he : ∀ r' : ps_G, x = .inr r' → ps_At mX12_makeCodes d 29 [(0, .ref x0), (1, .int x1), (2, .int x2), (3, .int x3)] [] r' Q) : ps_At mX12_makeCodes d 3 [(0, .ref x0), (1, .int x1), (2, .int x2), (3, .int x3), (4, .int x4)] [] g Q := by
  unfold bX12_makeCodes_3 at h
  refine sX12_makeCodes_3 ?_
  refine And.intro (fun hc1 => ?_) (fun hc1 => ?_)
  · replace h := q_ifp (hc1) h
    exact ps_weak (he g (Option.some.inj h).symm) ⟨rfl, rfl, rfl, rfl, trivial⟩
  · replace h := q_ifn (hc1) h
    replace h := q_be h
    obtain ⟨v3, hv, h⟩ := h
    replace hv := q_fR_e hv
    obtain ⟨_, cv3, dv3⟩ := hv
    replace h := q_be h
    obtain ⟨a4, ea4, h⟩ := h
    subst ea4
    replace h := q_be h
    obtain ⟨g5, hv, h⟩ := h
    replace hv := q_wI_e hv
    obtain ⟨_, _, cg5, pg5, ig5, yg5⟩ := hv
    refine ⟨⟨some _, rfl⟩, _, _, cv3, dv3, _, _, cg5, pg5, ig5, _, yg5, by decide, ?_⟩
    exact ps_weak (hh (x4 + (1 : Int32), g5) (Option.some.inj h).symm) ⟨rfl, rfl, rfl, rfl, rfl, trivial⟩
noncomputable def bX12_makeCodes_32 (x0 : Nat) (x1 : Int32) (x2 : Int32) (x3 : Int32) (x4 : Int32) (g : ps_G) : Option ((Int32 × ps_G) ⊕ (ps_G)) := if x3 ≤ x4 then (some (.inr g)) else (Option.bind (q_fR 12 90 g x0) fun v11 => Option.bind (v11) fun a12 => Option.bind (q_fR 12 92 g x0) fun v13 => Option.bind (v13) fun a14 => Option.bind (q_aI g a14 (x2 + x4)) fun v15 => Option.bind (q_aI g a12 (((16 : Int32) * x1) + v15)) fun v16 => Option.bind (q_wI g a12 (((16 : Int32) * x1) + v15) (v16 + (1 : Int32))) fun g17 => some (.inl (x4 + (1 : Int32), g17)))
theorem pbX12_makeCodes_32 {d : Nat} {Q : ps_Rs → ps_G → Prop}  {x0 : Nat} {x1 : Int32} {x2 : Int32} {x3 : Int32} {x4 : Int32} {g : ps_G} {x : (Int32 × ps_G) ⊕ (ps_G)} (h : bX12_makeCodes_32 x0 x1 x2 x3 x4 g = some x) (hh : ∀ s' : Int32 × ps_G, x = .inl s' → ps_At mX12_makeCodes d 32 [(0, .ref x0), (1, .int x1), (2, .int x2), (3, .int x3), (4, .int s'.1)] [] s'.2 Q) (he : ∀ r' : ps_G, x = .inr r' → ps_At mX12_makeCodes d 67 [(0, .ref x0), (1, .int x1), (2, .int x2), (3, .int x3)] [] r' Q) : ps_At mX12_makeCodes d 32 [(0, .ref x0), (1, .int x1), (2, .int x2), (3, .int x3), (4, .int x4)] [] g Q := by
  unfold bX12_makeCodes_32 at h
  refine sX12_makeCodes_32 ?_
  refine And.intro (fun hc9 => ?_) (fun hc9 => ?_)
  · replace h := q_ifp (hc9) h
    exact ps_weak (he g (Option.some.inj h).symm) ⟨rfl, rfl, rfl, rfl, trivial⟩
  · replace h := q_ifn (hc9) h
    replace h := q_be h
    obtain ⟨v11, hv, h⟩ := h
    replace hv := q_fR_e hv
    obtain ⟨_, cv11, dv11⟩ := hv
    replace h := q_be h
    obtain ⟨a12, ea12, h⟩ := h
    subst ea12
    replace h := q_be h
    obtain ⟨v13, hv, h⟩ := h
    replace hv := q_fR_e hv
    obtain ⟨_, cv13, dv13⟩ := hv
    replace h := q_be h
    obtain ⟨a14, ea14, h⟩ := h
    subst ea14
    replace h := q_be h
    obtain ⟨v15, hv, h⟩ := h
    replace hv := q_aI_e hv
    obtain ⟨_, _, cv15, iv15, yv15⟩ := hv
    replace h := q_be h
    obtain ⟨v16, hv, h⟩ := h
    replace hv := q_aI_e hv
    obtain ⟨_, _, cv16, iv16, yv16⟩ := hv
    replace h := q_be h
    obtain ⟨g17, hv, h⟩ := h
    replace hv := q_wI_e hv
    obtain ⟨_, _, cg17, pg17, ig17, yg17⟩ := hv
    refine ⟨⟨some _, rfl⟩, _, _, cv11, dv11, ⟨some _, rfl⟩, _, _, cv13, dv13, _, _, cv15, iv15, _, yv15, rfl, rfl, _, _, cv16, iv16, _, yv16, _, _, cg17, pg17, ig17, _, yg17, by decide, ?_⟩
    exact ps_weak (hh (x4 + (1 : Int32), g17) (Option.some.inj h).symm) ⟨rfl, rfl, rfl, rfl, rfl, trivial⟩
noncomputable def bX12_makeCodes_86 (x0 : Nat) (x1 : Int32) (x2 : Int32) (x3 : Int32) (x5 : Int32) (x4 : Int32) (x6 : Int32) (g : ps_G) : Option ((Int32 × Int32 × ps_G) ⊕ ((Int32 × ps_G) ⊕ (ps_G))) := if (16 : Int32) ≤ x6 then (some (.inr (.inl (x4, g)))) else (Option.bind (q_fR 12 90 g x0) fun v25 => Option.bind (v25) fun a26 => Option.bind (q_aI g a26 (((16 : Int32) * x1) + x6)) fun v27 => if 0 ≤ (((2 : Int32) * x4) - v27) then (some (.inl (((2 : Int32) * x4) - v27, x6 + (1 : Int32), g))) else (Option.bind (q_sB 12 87 g x0 (1 : Int32)) fun g29 => some (.inr (.inr g29))))
theorem pbX12_makeCodes_86 {d : Nat} {Q : ps_Rs → ps_G → Prop}  {x0 : Nat} {x1 : Int32} {x2 : Int32} {x3 : Int32} {x5 : Int32} {x4 : Int32} {x6 : Int32} {g : ps_G} {x : (Int32 × Int32 × ps_G) ⊕ ((Int32 × ps_G) ⊕ (ps_G))} (h : bX12_makeCodes_86 x0 x1 x2 x3 x5 x4 x6 g = some x) (hh : ∀ s' : Int32 × Int32 × ps_G, x = .inl s' → ps_At mX12_makeCodes d 86 [(0, .ref x0), (1, .int x1), (2, .int x2), (3, .int x3), (4, .int s'.1), (5, .int x5), (6, .int s'.2.1)] [] s'.2.2 Q) (he : ∀ r' : Int32 × ps_G, x = .inr (.inl r') → ps_At mX12_makeCodes d 129 [(0, .ref x0), (1, .int x1), (2, .int x2), (3, .int x3), (4, .int r'.1), (5, .int x5)] [] r'.2 Q) (hr : ∀ v' : ps_G, x = .inr (.inr v') → Q (.inl none) v') : ps_At mX12_makeCodes d 86 [(0, .ref x0), (1, .int x1), (2, .int x2), (3, .int x3), (4, .int x4), (5, .int x5), (6, .int x6)] [] g Q := by
  unfold bX12_makeCodes_86 at h
  refine sX12_makeCodes_86 ?_
  refine And.intro (fun hc24 => ?_) (fun hc24 => ?_)
  · replace h := q_ifp (hc24) h
    exact ps_weak (he (x4, g) (Option.some.inj h).symm) ⟨rfl, rfl, rfl, rfl, rfl, rfl, trivial⟩
  · replace h := q_ifn (hc24) h
    replace h := q_be h
    obtain ⟨v25, hv, h⟩ := h
    replace hv := q_fR_e hv
    obtain ⟨_, cv25, dv25⟩ := hv
    replace h := q_be h
    obtain ⟨a26, ea26, h⟩ := h
    subst ea26
    replace h := q_be h
    obtain ⟨v27, hv, h⟩ := h
    replace hv := q_aI_e hv
    obtain ⟨_, _, cv27, iv27, yv27⟩ := hv
    refine ⟨⟨some _, rfl⟩, _, _, cv25, dv25, _, _, cv27, iv27, _, yv27, by decide, ?_⟩
    refine And.intro (fun hc28 => ?_) (fun hc28 => ?_)
    · replace h := q_ifp (hc28) h
      refine sX12_makeCodes_123 ?_
      refine ⟨by decide, ?_⟩
      exact ps_weak (hh (((2 : Int32) * x4) - v27, x6 + (1 : Int32), g) (Option.some.inj h).symm) ⟨rfl, rfl, rfl, rfl, rfl, rfl, rfl, trivial⟩
    · replace h := q_ifn (hc28) h
      replace h := q_be h
      obtain ⟨g29, hv, h⟩ := h
      replace hv := q_sB_e hv
      obtain ⟨_, cg29, dg29, ng29, yg29⟩ := hv
      exact ⟨⟨some _, rfl⟩, _, cg29, dg29, ng29.1, ng29.2, _, yg29, rfl, rfl, hr g29 (Option.some.inj h).symm⟩
noncomputable def jX12_makeCodes_239_198 (g : ps_G) (x0 : Nat) (x1 : Int32) (x2 : Int32) (x3 : Int32) (x7 : Int32) (x8 : Int32) (x9 : Int32) : Option ((Int32 × Int32 × ps_G) ⊕ (Int32 × ps_G)) := some (.inl (x7, x9 + (1 : Int32), g))
theorem pjX12_makeCodes_239_198 {d : Nat} {Q : ps_Rs → ps_G → Prop} {g : ps_G} {x0 : Nat} {x1 : Int32} {x2 : Int32} {x3 : Int32} {x7 : Int32} {x8 : Int32} {x9 : Int32} {x : (Int32 × Int32 × ps_G) ⊕ (Int32 × ps_G)} (h : jX12_makeCodes_239_198 g x0 x1 x2 x3 x7 x8 x9 = some x) (hh : ∀ s' : Int32 × Int32 × ps_G, x = .inl s' → ps_At mX12_makeCodes d 198 [(0, .ref x0), (1, .int x1), (2, .int x2), (3, .int x3), (7, .int s'.1), (8, .int x8), (9, .int s'.2.1)] [] s'.2.2 Q) (he : ∀ r' : Int32 × ps_G, x = .inr r' → ps_At mX12_makeCodes d 245 [(0, .ref x0), (1, .int x1), (2, .int x2), (3, .int x3), (7, .int r'.1), (8, .int x8)] [] r'.2 Q) : ps_At mX12_makeCodes d 239 [(0, .ref x0), (1, .int x1), (2, .int x2), (3, .int x3), (7, .int x7), (8, .int x8), (9, .int x9)] [] g Q := by
  unfold jX12_makeCodes_239_198 at h
  refine sX12_makeCodes_239 ?_
  refine ⟨by decide, ?_⟩
  exact ps_weak (hh (x7, x9 + (1 : Int32), g) (Option.some.inj h).symm) ⟨rfl, rfl, rfl, rfl, rfl, rfl, rfl, trivial⟩
noncomputable def bX12_makeCodes_198 (x0 : Nat) (x1 : Int32) (x2 : Int32) (x3 : Int32) (x8 : Int32) (x7 : Int32) (x9 : Int32) (g : ps_G) : Option ((Int32 × Int32 × ps_G) ⊕ (Int32 × ps_G)) := if x3 ≤ x9 then (some (.inr (x7, g))) else (Option.bind (q_fR 12 92 g x0) fun v45 => Option.bind (v45) fun a46 => Option.bind (q_aI g a46 (x2 + x9)) fun v47 => if v47 = x8 then (Option.bind (q_fR 12 91 g x0) fun v50 => Option.bind (v50) fun a51 => Option.bind (q_wI g a51 (((320 : Int32) * x1) + x7) x9) fun g52 => jX12_makeCodes_239_198 g52 x0 x1 x2 x3 (x7 + (1 : Int32)) x8 x9) else (jX12_makeCodes_239_198 g x0 x1 x2 x3 x7 x8 x9))
theorem pbX12_makeCodes_198 {d : Nat} {Q : ps_Rs → ps_G → Prop}  {x0 : Nat} {x1 : Int32} {x2 : Int32} {x3 : Int32} {x8 : Int32} {x7 : Int32} {x9 : Int32} {g : ps_G} {x : (Int32 × Int32 × ps_G) ⊕ (Int32 × ps_G)} (h : bX12_makeCodes_198 x0 x1 x2 x3 x8 x7 x9 g = some x) (hh : ∀ s' : Int32 × Int32 × ps_G, x = .inl s' → ps_At mX12_makeCodes d 198 [(0, .ref x0), (1, .int x1), (2, .int x2), (3, .int x3), (7, .int s'.1), (8, .int x8), (9, .int s'.2.1)] [] s'.2.2 Q) (he : ∀ r' : Int32 × ps_G, x = .inr r' → ps_At mX12_makeCodes d 245 [(0, .ref x0), (1, .int x1), (2, .int x2), (3, .int x3), (7, .int r'.1), (8, .int x8)] [] r'.2 Q) : ps_At mX12_makeCodes d 198 [(0, .ref x0), (1, .int x1), (2, .int x2), (3, .int x3), (7, .int x7), (8, .int x8), (9, .int x9)] [] g Q := by
  unfold bX12_makeCodes_198 at h
  refine sX12_makeCodes_198 ?_
  refine And.intro (fun hc43 => ?_) (fun hc43 => ?_)
  · replace h := q_ifp (hc43) h
    exact ps_weak (he (x7, g) (Option.some.inj h).symm) ⟨rfl, rfl, rfl, rfl, rfl, rfl, trivial⟩
  · replace h := q_ifn (hc43) h
    replace h := q_be h
    obtain ⟨v45, hv, h⟩ := h
    replace hv := q_fR_e hv
    obtain ⟨_, cv45, dv45⟩ := hv
    replace h := q_be h
    obtain ⟨a46, ea46, h⟩ := h
    subst ea46
    replace h := q_be h
    obtain ⟨v47, hv, h⟩ := h
    replace hv := q_aI_e hv
    obtain ⟨_, _, cv47, iv47, yv47⟩ := hv
    refine ⟨⟨some _, rfl⟩, _, _, cv45, dv45, _, _, cv47, iv47, _, yv47, ?_⟩
    refine And.intro (fun hc48 => ?_) (fun hc48 => ?_)
    · replace h := q_ifp (hc48) h
      refine sX12_makeCodes_221 ?_
      replace h := q_be h
      obtain ⟨v50, hv, h⟩ := h
      replace hv := q_fR_e hv
      obtain ⟨_, cv50, dv50⟩ := hv
      replace h := q_be h
      obtain ⟨a51, ea51, h⟩ := h
      subst ea51
      replace h := q_be h
      obtain ⟨g52, hv, h⟩ := h
      replace hv := q_wI_e hv
      obtain ⟨_, _, cg52, pg52, ig52, yg52⟩ := hv
      refine ⟨⟨some _, rfl⟩, _, _, cv50, dv50, _, _, cg52, pg52, ig52, _, yg52, by decide, ?_⟩
      exact ps_weak (pjX12_makeCodes_239_198 h hh he) ⟨rfl, rfl, rfl, rfl, rfl, rfl, rfl, trivial⟩
    · replace h := q_ifn (hc48) h
      exact ps_weak (pjX12_makeCodes_239_198 h hh he) ⟨rfl, rfl, rfl, rfl, rfl, rfl, rfl, trivial⟩
noncomputable def bX12_makeCodes_188 (x0 : Nat) (x1 : Int32) (x2 : Int32) (x3 : Int32) (x7 : Int32) (x8 : Int32) (g : ps_G) : Option ((Int32 × Int32 × ps_G) ⊕ (ps_G)) := if (16 : Int32) ≤ x8 then (some (.inr g)) else (Option.bind (q_lp (fun s => bX12_makeCodes_198 x0 x1 x2 x3 x8 s.1 s.2.1 s.2.2) (x7, (0 : Int32), g)) fun s57 => some (.inl (s57.1, x8 + (1 : Int32), s57.2)))
theorem pbX12_makeCodes_188 {d : Nat} {Q : ps_Rs → ps_G → Prop}  {x0 : Nat} {x1 : Int32} {x2 : Int32} {x3 : Int32} {x7 : Int32} {x8 : Int32} {g : ps_G} {x : (Int32 × Int32 × ps_G) ⊕ (ps_G)} (h : bX12_makeCodes_188 x0 x1 x2 x3 x7 x8 g = some x) (hh : ∀ s' : Int32 × Int32 × ps_G, x = .inl s' → ps_At mX12_makeCodes d 188 [(0, .ref x0), (1, .int x1), (2, .int x2), (3, .int x3), (7, .int s'.1), (8, .int s'.2.1)] [] s'.2.2 Q) (he : ∀ r' : ps_G, x = .inr r' → ps_At mX12_makeCodes d 251 [] [] r' Q) : ps_At mX12_makeCodes d 188 [(0, .ref x0), (1, .int x1), (2, .int x2), (3, .int x3), (7, .int x7), (8, .int x8)] [] g Q := by
  unfold bX12_makeCodes_188 at h
  refine sX12_makeCodes_188 ?_
  refine And.intro (fun hc42 => ?_) (fun hc42 => ?_)
  · replace h := q_ifp (hc42) h
    exact ps_weak (he g (Option.some.inj h).symm) trivial
  · replace h := q_ifn (hc42) h
    refine ⟨by decide, ?_⟩
    replace h := q_be h
    obtain ⟨s57, hl, h⟩ := h
    refine ps_weak (q_lp_ok hl (fun s => ps_At mX12_makeCodes d 198 [(0, .ref x0), (1, .int x1), (2, .int x2), (3, .int x3), (7, .int s.1), (8, .int x8), (9, .int s.2.1)] [] s.2.2 Q) (fun r => ps_At mX12_makeCodes d 245 [(0, .ref x0), (1, .int x1), (2, .int x2), (3, .int x3), (7, .int r.1), (8, .int x8)] [] r.2 Q) (fun s x hb hh he => pbX12_makeCodes_198 hb hh he) ?_) ⟨rfl, rfl, rfl, rfl, rfl, rfl, rfl, trivial⟩
    refine (?_ : ps_At mX12_makeCodes d 245 [(0, .ref x0), (1, .int x1), (2, .int x2), (3, .int x3), (7, .int s57.1), (8, .int x8)] [] s57.2 Q)
    refine sX12_makeCodes_245 ?_
    refine ⟨by decide, ?_⟩
    exact ps_weak (hh (s57.1, x8 + (1 : Int32), s57.2) (Option.some.inj h).symm) ⟨rfl, rfl, rfl, rfl, rfl, rfl, trivial⟩
noncomputable def jX12_makeCodes_182 (g : ps_G) (x0 : Nat) (x1 : Int32) (x2 : Int32) (x3 : Int32) : Option (ps_G) := Option.bind (q_lp (fun s => bX12_makeCodes_188 x0 x1 x2 x3 s.1 s.2.1 s.2.2) ((0 : Int32), (1 : Int32), g)) fun s60 => some s60
theorem pjX12_makeCodes_182 {d : Nat} {Q : ps_Rs → ps_G → Prop} {g : ps_G} {x0 : Nat} {x1 : Int32} {x2 : Int32} {x3 : Int32} {r : ps_G} (h : jX12_makeCodes_182 g x0 x1 x2 x3 = some r) (hk : Q (.inl none) r) : ps_At mX12_makeCodes d 182 [(0, .ref x0), (1, .int x1), (2, .int x2), (3, .int x3)] [] g Q := by
  unfold jX12_makeCodes_182 at h
  refine sX12_makeCodes_182 ?_
  refine ⟨by decide, by decide, ?_⟩
  replace h := q_be h
  obtain ⟨s60, hl, h⟩ := h
  refine ps_weak (q_lp_ok hl (fun s => ps_At mX12_makeCodes d 188 [(0, .ref x0), (1, .int x1), (2, .int x2), (3, .int x3), (7, .int s.1), (8, .int s.2.1)] [] s.2.2 Q) (fun r => ps_At mX12_makeCodes d 251 [] [] r Q) (fun s x hb hh he => pbX12_makeCodes_188 hb hh he) ?_) ⟨rfl, rfl, rfl, rfl, rfl, rfl, trivial⟩
  refine (?_ : ps_At mX12_makeCodes d 251 [] [] s60 Q)
  refine sX12_makeCodes_251 ?_
  cases h
  exact ⟨rfl, rfl, hk⟩
noncomputable def jX12_makeCodes_155 (g : ps_G) (x0 : Nat) (x1 : Int32) (x2 : Int32) (x3 : Int32) (x4 : Int32) (x5 : Int32) (k0 : Int32) : Option (ps_G) := if (x4 ≤ 0) ∨ (¬ k0 = 0) then (jX12_makeCodes_182 g x0 x1 x2 x3) else (if ¬ (¬ x5 = 0) ∧ (x1 = (1 : Int32)) then (jX12_makeCodes_182 g x0 x1 x2 x3) else (Option.bind (q_sB 12 87 g x0 (1 : Int32)) fun g64 => jX12_makeCodes_182 g64 x0 x1 x2 x3))
theorem pjX12_makeCodes_155 {d : Nat} {Q : ps_Rs → ps_G → Prop} {g : ps_G} {x0 : Nat} {x1 : Int32} {x2 : Int32} {x3 : Int32} {x4 : Int32} {x5 : Int32} {k0 : Int32} {r : ps_G} (h : jX12_makeCodes_155 g x0 x1 x2 x3 x4 x5 k0 = some r) (hk : Q (.inl none) r) : ps_At mX12_makeCodes d 155 [(0, .ref x0), (1, .int x1), (2, .int x2), (3, .int x3), (4, .int x4), (5, .int x5)] [.int k0] g Q := by
  unfold jX12_makeCodes_155 at h
  refine sX12_makeCodes_155 ?_
  have kT67 : (jX12_makeCodes_182 g x0 x1 x2 x3) = some r → ps_At mX12_makeCodes d 182 [(0, .ref x0), (1, .int x1), (2, .int x2), (3, .int x3)] [] g Q := fun h => by
    exact ps_weak (pjX12_makeCodes_182 h hk) ⟨rfl, rfl, rfl, rfl, trivial⟩
  refine ⟨by decide, ?_⟩
  refine And.intro (fun hc37 => ?_) (fun hc37 => ?_)
  · exact ps_weak (kT67 (q_ifp (Or.inl hc37) h)) ⟨rfl, rfl, rfl, rfl, trivial⟩
  · refine And.intro (fun hc38 => ?_) (fun hc38 => ?_)
    · exact ps_weak (kT67 (q_ifp (Or.inr (hc38)) h)) ⟨rfl, rfl, rfl, rfl, trivial⟩
    · replace h := q_ifn (not_or.mpr ⟨hc37, hc38⟩) h
      have kF66 : (Option.bind (q_sB 12 87 g x0 (1 : Int32)) fun g64 => jX12_makeCodes_182 g64 x0 x1 x2 x3) = some r → ps_At mX12_makeCodes d 177 [(0, .ref x0), (1, .int x1), (2, .int x2), (3, .int x3)] [] g Q := fun h => by
        refine sX12_makeCodes_177 ?_
        replace h := q_be h
        obtain ⟨g64, hv, h⟩ := h
        replace hv := q_sB_e hv
        obtain ⟨_, cg64, dg64, ng64, yg64⟩ := hv
        refine ⟨⟨some _, rfl⟩, _, cg64, dg64, ng64.1, ng64.2, _, yg64, ?_⟩
        exact ps_weak (pjX12_makeCodes_182 h hk) ⟨rfl, rfl, rfl, rfl, trivial⟩
      refine And.intro (fun hc61 => ?_) (fun hc61 => ?_)
      · exact ps_weak (kF66 (q_ifn (fun z => z.1 hc61) h)) ⟨rfl, rfl, rfl, rfl, trivial⟩
      · refine And.intro (fun hc62 => ?_) (fun hc62 => ?_)
        · replace h := q_ifp (⟨hc61, hc62⟩) h
          exact ps_weak (pjX12_makeCodes_182 h hk) ⟨rfl, rfl, rfl, rfl, trivial⟩
        · exact ps_weak (kF66 (q_ifn (fun z => hc62 z.2) h)) ⟨rfl, rfl, rfl, rfl, trivial⟩
noncomputable def jX12_makeCodes_154 (g : ps_G) (x0 : Nat) (x1 : Int32) (x2 : Int32) (x3 : Int32) (x4 : Int32) (x5 : Int32) : Option (ps_G) := jX12_makeCodes_155 g x0 x1 x2 x3 x4 x5 (0 : Int32)
theorem pjX12_makeCodes_154 {d : Nat} {Q : ps_Rs → ps_G → Prop} {g : ps_G} {x0 : Nat} {x1 : Int32} {x2 : Int32} {x3 : Int32} {x4 : Int32} {x5 : Int32} {r : ps_G} (h : jX12_makeCodes_154 g x0 x1 x2 x3 x4 x5 = some r) (hk : Q (.inl none) r) : ps_At mX12_makeCodes d 154 [(0, .ref x0), (1, .int x1), (2, .int x2), (3, .int x3), (4, .int x4), (5, .int x5)] [] g Q := by
  unfold jX12_makeCodes_154 at h
  refine sX12_makeCodes_154 ?_
  exact ps_weak (pjX12_makeCodes_155 h hk) ⟨rfl, rfl, rfl, rfl, rfl, rfl, trivial⟩
noncomputable def fX12_makeCodes (g : ps_G) (x0 : Nat) (x1 : Int32) (x2 : Int32) (x3 : Int32) : Option (ps_G) := Option.bind (q_lp (fun s => bX12_makeCodes_3 x0 x1 x2 x3 s.1 s.2) ((0 : Int32), g)) fun s8 => Option.bind (q_lp (fun s => bX12_makeCodes_32 x0 x1 x2 x3 s.1 s.2) ((0 : Int32), s8)) fun s20 => Option.bind (q_fR 12 90 s20 x0) fun v21 => Option.bind (v21) fun a22 => Option.bind (q_aI s20 a22 ((16 : Int32) * x1)) fun v23 => Option.bind (q_lp (fun s => bX12_makeCodes_86 x0 x1 x2 x3 (x3 - v23) s.1 s.2.1 s.2.2) ((1 : Int32), (1 : Int32), s20)) fun s34 => Sum.elim (fun r35 => if ¬ (x3 - v23) = (1 : Int32) then (jX12_makeCodes_154 r35.2 x0 x1 x2 x3 r35.1 (x3 - v23)) else (Option.bind (q_fR 12 90 r35.2 x0) fun v69 => Option.bind (v69) fun a70 => Option.bind (q_aI r35.2 a70 (((16 : Int32) * x1) + (1 : Int32))) fun v71 => if ¬ v71 = (1 : Int32) then (jX12_makeCodes_154 r35.2 x0 x1 x2 x3 r35.1 (x3 - v23)) else (jX12_makeCodes_155 r35.2 x0 x1 x2 x3 r35.1 (x3 - v23) (1 : Int32)))) (fun v77 => some v77) s34
theorem rX12_makeCodes {d : Nat} {Q : ps_Rs → ps_G → Prop} {g : ps_G} {x0 : Nat} {x1 : Int32} {x2 : Int32} {x3 : Int32} {r : ps_G} (h : fX12_makeCodes g x0 x1 x2 x3 = some r) (hk : Q (.inl none) r) : ps_Ok mX12_makeCodes d [.ref x0, .int x1, .int x2, .int x3] g Q := by
  unfold fX12_makeCodes at h
  refine sX12_makeCodes_0 ?_
  refine ⟨by decide, ?_⟩
  replace h := q_be h
  obtain ⟨s8, hl, h⟩ := h
  refine ps_weak (q_lp_ok hl (fun s => ps_At mX12_makeCodes d 3 [(0, .ref x0), (1, .int x1), (2, .int x2), (3, .int x3), (4, .int s.1)] [] s.2 Q) (fun r => ps_At mX12_makeCodes d 29 [(0, .ref x0), (1, .int x1), (2, .int x2), (3, .int x3)] [] r Q) (fun s x hb hh he => pbX12_makeCodes_3 hb hh he) ?_) ⟨rfl, rfl, rfl, rfl, rfl, trivial⟩
  refine (?_ : ps_At mX12_makeCodes d 29 [(0, .ref x0), (1, .int x1), (2, .int x2), (3, .int x3)] [] s8 Q)
  refine sX12_makeCodes_29 ?_
  refine ⟨by decide, ?_⟩
  replace h := q_be h
  obtain ⟨s20, hl, h⟩ := h
  refine ps_weak (q_lp_ok hl (fun s => ps_At mX12_makeCodes d 32 [(0, .ref x0), (1, .int x1), (2, .int x2), (3, .int x3), (4, .int s.1)] [] s.2 Q) (fun r => ps_At mX12_makeCodes d 67 [(0, .ref x0), (1, .int x1), (2, .int x2), (3, .int x3)] [] r Q) (fun s x hb hh he => pbX12_makeCodes_32 hb hh he) ?_) ⟨rfl, rfl, rfl, rfl, rfl, trivial⟩
  refine (?_ : ps_At mX12_makeCodes d 67 [(0, .ref x0), (1, .int x1), (2, .int x2), (3, .int x3)] [] s20 Q)
  refine sX12_makeCodes_67 ?_
  replace h := q_be h
  obtain ⟨v21, hv, h⟩ := h
  replace hv := q_fR_e hv
  obtain ⟨_, cv21, dv21⟩ := hv
  replace h := q_be h
  obtain ⟨a22, ea22, h⟩ := h
  subst ea22
  replace h := q_be h
  obtain ⟨v23, hv, h⟩ := h
  replace hv := q_aI_e hv
  obtain ⟨_, _, cv23, iv23, yv23⟩ := hv
  refine ⟨by decide, ⟨some _, rfl⟩, _, _, cv21, dv21, _, _, cv23, iv23, _, yv23, by decide, by decide, ?_⟩
  replace h := q_be h
  obtain ⟨s34, hl, h⟩ := h
  refine ps_weak (q_lp_ok hl (fun s => ps_At mX12_makeCodes d 86 [(0, .ref x0), (1, .int x1), (2, .int x2), (3, .int x3), (4, .int s.1), (5, .int (x3 - v23)), (6, .int s.2.1)] [] s.2.2 Q) (Sum.elim (fun r => ps_At mX12_makeCodes d 129 [(0, .ref x0), (1, .int x1), (2, .int x2), (3, .int x3), (4, .int r.1), (5, .int (x3 - v23))] [] r.2 Q) (fun v => Q (.inl none) v)) (fun s x hb hh he => pbX12_makeCodes_86 hb hh (fun _ e => he _ e) (fun _ e => he _ e)) ?_) ⟨rfl, rfl, rfl, rfl, rfl, rfl, rfl, trivial⟩
  rcases s34 with r35 | v77
  · refine (?_ : ps_At mX12_makeCodes d 129 [(0, .ref x0), (1, .int x1), (2, .int x2), (3, .int x3), (4, .int r35.1), (5, .int (x3 - v23))] [] r35.2 Q)
    refine sX12_makeCodes_129 ?_
    refine And.intro (fun hc36 => ?_) (fun hc36 => ?_)
    · replace h := q_ifp (hc36) h
      exact ps_weak (pjX12_makeCodes_154 h hk) ⟨rfl, rfl, rfl, rfl, rfl, rfl, trivial⟩
    · replace h := q_ifn (hc36) h
      replace h := q_be h
      obtain ⟨v69, hv, h⟩ := h
      replace hv := q_fR_e hv
      obtain ⟨_, cv69, dv69⟩ := hv
      replace h := q_be h
      obtain ⟨a70, ea70, h⟩ := h
      subst ea70
      replace h := q_be h
      obtain ⟨v71, hv, h⟩ := h
      replace hv := q_aI_e hv
      obtain ⟨_, _, cv71, iv71, yv71⟩ := hv
      refine ⟨⟨some _, rfl⟩, _, _, cv69, dv69, _, _, cv71, iv71, _, yv71, ?_⟩
      refine And.intro (fun hc72 => ?_) (fun hc72 => ?_)
      · replace h := q_ifp (hc72) h
        exact ps_weak (pjX12_makeCodes_154 h hk) ⟨rfl, rfl, rfl, rfl, rfl, rfl, trivial⟩
      · replace h := q_ifn (hc72) h
        exact ps_weak (pjX12_makeCodes_155 h hk) ⟨rfl, rfl, rfl, rfl, rfl, rfl, trivial⟩
  · cases h
    exact hk
noncomputable def bX12_fixedCodes_2 (x0 : Nat) (x1 : Int32) (g : ps_G) : Option ((Int32 × ps_G) ⊕ (ps_G)) := if (288 : Int32) ≤ x1 then (some (.inr g)) else (Option.bind (q_fR 12 92 g x0) fun v3 => Option.bind (v3) fun a4 => Option.bind (q_wI g a4 x1 (if (144 : Int32) ≤ x1 then (if (256 : Int32) ≤ x1 then (if (280 : Int32) ≤ x1 then (8 : Int32) else (7 : Int32)) else (9 : Int32)) else (8 : Int32))) fun g8 => some (.inl (x1 + (1 : Int32), g8)))
theorem pbX12_fixedCodes_2 {d : Nat} {Q : ps_Rs → ps_G → Prop}  {x0 : Nat} {x1 : Int32} {g : ps_G} {x : (Int32 × ps_G) ⊕ (ps_G)} (h : bX12_fixedCodes_2 x0 x1 g = some x) (hh : ∀ s' : Int32 × ps_G, x = .inl s' → ps_At mX12_fixedCodes (d + 1) 2 [(0, .ref x0), (1, .int s'.1)] [] s'.2 Q) (he : ∀ r' : ps_G, x = .inr r' → ps_At mX12_fixedCodes (d + 1) 59 [(0, .ref x0)] [] r' Q) : ps_At mX12_fixedCodes (d + 1) 2 [(0, .ref x0), (1, .int x1)] [] g Q := by
  unfold bX12_fixedCodes_2 at h
  refine sX12_fixedCodes_2 ?_
  refine And.intro (fun hc1 => ?_) (fun hc1 => ?_)
  · replace h := q_ifp (hc1) h
    exact ps_weak (he g (Option.some.inj h).symm) ⟨rfl, trivial⟩
  · replace h := q_ifn (hc1) h
    replace h := q_be h
    obtain ⟨v3, hv, h⟩ := h
    replace hv := q_fR_e hv
    obtain ⟨_, cv3, dv3⟩ := hv
    replace h := q_be h
    obtain ⟨a4, ea4, h⟩ := h
    subst ea4
    have kJ7 : ∀ w6 : Int32, w6 = (if (144 : Int32) ≤ x1 then (if (256 : Int32) ≤ x1 then (if (280 : Int32) ≤ x1 then (8 : Int32) else (7 : Int32)) else (9 : Int32)) else (8 : Int32)) → ps_At mX12_fixedCodes (d + 1) 52 [(0, .ref x0), (1, .int x1)] [.int w6, .int x1, .ref a4] g Q := by
      rintro _ rfl
      refine sX12_fixedCodes_52 ?_
      replace h := q_be h
      obtain ⟨g8, hv, h⟩ := h
      replace hv := q_wI_e hv
      obtain ⟨_, _, cg8, pg8, ig8, yg8⟩ := hv
      refine ⟨_, _, cg8, pg8, ig8, _, yg8, by decide, ?_⟩
      exact ps_weak (hh (x1 + (1 : Int32), g8) (Option.some.inj h).symm) ⟨rfl, rfl, trivial⟩
    refine ⟨⟨some _, rfl⟩, _, _, cv3, dv3, ?_⟩
    refine And.intro (fun hc5 => ?_) (fun hc5 => ?_)
    · refine sX12_fixedCodes_26 ?_
      have kJ11 : ∀ w10 : Int32, w10 = (if (256 : Int32) ≤ x1 then (if (280 : Int32) ≤ x1 then (8 : Int32) else (7 : Int32)) else (9 : Int32)) → ps_At mX12_fixedCodes (d + 1) 52 [(0, .ref x0), (1, .int x1)] [.int w10, .int x1, .ref a4] g Q := by
        rintro _ rfl
        exact ps_weak (kJ7 _ (if_pos (hc5)).symm) ⟨rfl, rfl, trivial⟩
      refine And.intro (fun hc9 => ?_) (fun hc9 => ?_)
      · refine sX12_fixedCodes_38 ?_
        have kJ14 : ∀ w13 : Int32, w13 = (if (280 : Int32) ≤ x1 then (8 : Int32) else (7 : Int32)) → ps_At mX12_fixedCodes (d + 1) 52 [(0, .ref x0), (1, .int x1)] [.int w13, .int x1, .ref a4] g Q := by
          rintro _ rfl
          exact ps_weak (kJ11 _ (if_pos (hc9)).symm) ⟨rfl, rfl, trivial⟩
        refine And.intro (fun hc12 => ?_) (fun hc12 => ?_)
        · refine sX12_fixedCodes_50 ?_
          exact ps_weak (kJ14 _ (if_pos (hc12)).symm) ⟨rfl, rfl, trivial⟩
        · exact ps_weak (kJ14 _ (if_neg (hc12)).symm) ⟨rfl, rfl, trivial⟩
      · exact ps_weak (kJ11 _ (if_neg (hc9)).symm) ⟨rfl, rfl, trivial⟩
    · exact ps_weak (kJ7 _ (if_neg (hc5)).symm) ⟨rfl, rfl, trivial⟩
noncomputable def bX12_fixedCodes_61 (x0 : Nat) (x1 : Int32) (g : ps_G) : Option ((Int32 × ps_G) ⊕ (ps_G)) := if (32 : Int32) ≤ x1 then (some (.inr g)) else (Option.bind (q_fR 12 92 g x0) fun v20 => Option.bind (v20) fun a21 => Option.bind (q_wI g a21 ((288 : Int32) + x1) (5 : Int32)) fun g22 => some (.inl (x1 + (1 : Int32), g22)))
theorem pbX12_fixedCodes_61 {d : Nat} {Q : ps_Rs → ps_G → Prop}  {x0 : Nat} {x1 : Int32} {g : ps_G} {x : (Int32 × ps_G) ⊕ (ps_G)} (h : bX12_fixedCodes_61 x0 x1 g = some x) (hh : ∀ s' : Int32 × ps_G, x = .inl s' → ps_At mX12_fixedCodes (d + 1) 61 [(0, .ref x0), (1, .int s'.1)] [] s'.2 Q) (he : ∀ r' : ps_G, x = .inr r' → ps_At mX12_fixedCodes (d + 1) 84 [(0, .ref x0)] [] r' Q) : ps_At mX12_fixedCodes (d + 1) 61 [(0, .ref x0), (1, .int x1)] [] g Q := by
  unfold bX12_fixedCodes_61 at h
  refine sX12_fixedCodes_61 ?_
  refine And.intro (fun hc18 => ?_) (fun hc18 => ?_)
  · replace h := q_ifp (hc18) h
    exact ps_weak (he g (Option.some.inj h).symm) ⟨rfl, trivial⟩
  · replace h := q_ifn (hc18) h
    replace h := q_be h
    obtain ⟨v20, hv, h⟩ := h
    replace hv := q_fR_e hv
    obtain ⟨_, cv20, dv20⟩ := hv
    replace h := q_be h
    obtain ⟨a21, ea21, h⟩ := h
    subst ea21
    replace h := q_be h
    obtain ⟨g22, hv, h⟩ := h
    replace hv := q_wI_e hv
    obtain ⟨_, _, cg22, pg22, ig22, yg22⟩ := hv
    refine ⟨⟨some _, rfl⟩, _, _, cv20, dv20, _, _, cg22, pg22, ig22, _, yg22, by decide, ?_⟩
    exact ps_weak (hh (x1 + (1 : Int32), g22) (Option.some.inj h).symm) ⟨rfl, rfl, trivial⟩
noncomputable def fX12_fixedCodes (g : ps_G) (x0 : Nat) : Option (ps_G) := Option.bind (q_lp (fun s => bX12_fixedCodes_2 x0 s.1 s.2) ((0 : Int32), g)) fun s17 => Option.bind (q_lp (fun s => bX12_fixedCodes_61 x0 s.1 s.2) ((0 : Int32), s17)) fun s25 => Option.bind (q_ob 12 s25 x0) fun u26 => Option.bind (fX12_makeCodes s25 x0 (0 : Int32) (0 : Int32) (288 : Int32)) fun v27 => Option.bind (q_ob 12 v27 x0) fun u28 => Option.bind (fX12_makeCodes v27 x0 (1 : Int32) (288 : Int32) (32 : Int32)) fun v29 => some v29
theorem rX12_fixedCodes {d : Nat} {Q : ps_Rs → ps_G → Prop} {g : ps_G} {x0 : Nat} {r : ps_G} (h : fX12_fixedCodes g x0 = some r) (hk : Q (.inl none) r) : ps_Ok mX12_fixedCodes (d + 1) [.ref x0] g Q := by
  unfold fX12_fixedCodes at h
  refine sX12_fixedCodes_0 ?_
  refine ⟨by decide, ?_⟩
  replace h := q_be h
  obtain ⟨s17, hl, h⟩ := h
  refine ps_weak (q_lp_ok hl (fun s => ps_At mX12_fixedCodes (d + 1) 2 [(0, .ref x0), (1, .int s.1)] [] s.2 Q) (fun r => ps_At mX12_fixedCodes (d + 1) 59 [(0, .ref x0)] [] r Q) (fun s x hb hh he => pbX12_fixedCodes_2 hb hh he) ?_) ⟨rfl, rfl, trivial⟩
  refine (?_ : ps_At mX12_fixedCodes (d + 1) 59 [(0, .ref x0)] [] s17 Q)
  refine sX12_fixedCodes_59 ?_
  refine ⟨by decide, ?_⟩
  replace h := q_be h
  obtain ⟨s25, hl, h⟩ := h
  refine ps_weak (q_lp_ok hl (fun s => ps_At mX12_fixedCodes (d + 1) 61 [(0, .ref x0), (1, .int s.1)] [] s.2 Q) (fun r => ps_At mX12_fixedCodes (d + 1) 84 [(0, .ref x0)] [] r Q) (fun s x hb hh he => pbX12_fixedCodes_61 hb hh he) ?_) ⟨rfl, rfl, trivial⟩
  refine (?_ : ps_At mX12_fixedCodes (d + 1) 84 [(0, .ref x0)] [] s25 Q)
  refine sX12_fixedCodes_84 ?_
  replace h := q_be h
  obtain ⟨u26, hv, h⟩ := h
  replace hv := q_ob_e hv
  obtain ⟨_, cu26⟩ := hv
  replace h := q_be h
  obtain ⟨v27, hv, h⟩ := h
  refine ⟨⟨some _, rfl⟩, ⟨_, cu26⟩, ?_⟩
  refine rX12_makeCodes hv ?_
  replace h := q_be h
  obtain ⟨u28, hv, h⟩ := h
  replace hv := q_ob_e hv
  obtain ⟨_, cu28⟩ := hv
  replace h := q_be h
  obtain ⟨v29, hv, h⟩ := h
  refine ⟨⟨some _, rfl⟩, ⟨_, cu28⟩, ?_⟩
  refine rX12_makeCodes hv ?_
  cases h
  exact ⟨rfl, rfl, hk⟩
noncomputable def bX12_decoded_10 (x0 : Nat) (x1 : Int32) (x2 : Int32) (x3 : Int32) (x4 : Int32) (x5 : Int32) (g : ps_G) : Option ((Int32 × Int32 × Int32 × Int32 × ps_G) ⊕ ((ps_G) ⊕ (Int32 × ps_G))) := if (16 : Int32) ≤ x5 then (some (.inr (.inl g))) else (Option.bind (q_fI 12 87 g x0) fun v2 => if ¬ v2 = 0 then (some (.inr (.inl g))) else (Option.bind (q_ob 12 g x0) fun u4 => q_b2 (fX12_bit g x0) fun v5 g6 => Option.bind (q_fR 12 90 g6 x0) fun v7 => Option.bind (v7) fun a8 => Option.bind (q_aI g6 a8 (((16 : Int32) * x1) + x5)) fun v9 => if v9 ≤ ((x2 ||| v5) - x3) then (some (.inl ((2 : Int32) * (x2 ||| v5), (2 : Int32) * (x3 + v9), x4 + v9, x5 + (1 : Int32), g6))) else (Option.bind (q_fR 12 91 g6 x0) fun v11 => Option.bind (v11) fun a12 => Option.bind (q_aI g6 a12 (((((320 : Int32) * x1) + x4) + (x2 ||| v5)) - x3)) fun v13 => some (.inr (.inr (v13, g6))))))
theorem pbX12_decoded_10 {d : Nat} {Q : ps_Rs → ps_G → Prop}  {x0 : Nat} {x1 : Int32} {x2 : Int32} {x3 : Int32} {x4 : Int32} {x5 : Int32} {g : ps_G} {x : (Int32 × Int32 × Int32 × Int32 × ps_G) ⊕ ((ps_G) ⊕ (Int32 × ps_G))} (h : bX12_decoded_10 x0 x1 x2 x3 x4 x5 g = some x) (hh : ∀ s' : Int32 × Int32 × Int32 × Int32 × ps_G, x = .inl s' → ps_At mX12_decoded (d + 1) 10 [(0, .ref x0), (1, .int x1), (2, .int s'.1), (3, .int s'.2.1), (4, .int s'.2.2.1), (5, .int s'.2.2.2.1)] [] s'.2.2.2.2 Q) (he : ∀ r' : ps_G, x = .inr (.inl r') → ps_At mX12_decoded (d + 1) 95 [(0, .ref x0)] [] r' Q) (hr : ∀ v' : Int32 × ps_G, x = .inr (.inr v') → Q (.inl (some (.int v'.1))) v'.2) : ps_At mX12_decoded (d + 1) 10 [(0, .ref x0), (1, .int x1), (2, .int x2), (3, .int x3), (4, .int x4), (5, .int x5)] [] g Q := by
  unfold bX12_decoded_10 at h
  refine sX12_decoded_10 ?_
  refine And.intro (fun hc1 => ?_) (fun hc1 => ?_)
  · replace h := q_ifp (hc1) h
    exact ps_weak (he g (Option.some.inj h).symm) ⟨rfl, trivial⟩
  · replace h := q_ifn (hc1) h
    replace h := q_be h
    obtain ⟨v2, hv, h⟩ := h
    replace hv := q_fI_e hv
    obtain ⟨_, cv2, dv2⟩ := hv
    refine ⟨⟨some _, rfl⟩, _, _, cv2, dv2, ?_⟩
    refine And.intro (fun hc3 => ?_) (fun hc3 => ?_)
    · replace h := q_ifp (hc3) h
      exact ps_weak (he g (Option.some.inj h).symm) ⟨rfl, trivial⟩
    · replace h := q_ifn (hc3) h
      replace h := q_be h
      obtain ⟨u4, hv, h⟩ := h
      replace hv := q_ob_e hv
      obtain ⟨_, cu4⟩ := hv
      replace h := q_b2_e h
      obtain ⟨v5, g6, hv, h⟩ := h
      refine ⟨⟨some _, rfl⟩, ⟨_, cu4⟩, ?_⟩
      refine rX12_bit hv ?_
      replace h := q_be h
      obtain ⟨v7, hv, h⟩ := h
      replace hv := q_fR_e hv
      obtain ⟨_, cv7, dv7⟩ := hv
      replace h := q_be h
      obtain ⟨a8, ea8, h⟩ := h
      subst ea8
      replace h := q_be h
      obtain ⟨v9, hv, h⟩ := h
      replace hv := q_aI_e hv
      obtain ⟨_, _, cv9, iv9, yv9⟩ := hv
      refine ⟨by decide, ⟨some _, rfl⟩, _, _, cv7, dv7, _, _, cv9, iv9, _, yv9, by decide, ?_⟩
      refine And.intro (fun hc10 => ?_) (fun hc10 => ?_)
      · replace h := q_ifp (hc10) h
        refine sX12_decoded_71 ?_
        refine ⟨by decide, by decide, by decide, by decide, ?_⟩
        exact ps_weak (hh ((2 : Int32) * (x2 ||| v5), (2 : Int32) * (x3 + v9), x4 + v9, x5 + (1 : Int32), g6) (Option.some.inj h).symm) ⟨rfl, rfl, rfl, rfl, rfl, rfl, trivial⟩
      · replace h := q_ifn (hc10) h
        replace h := q_be h
        obtain ⟨v11, hv, h⟩ := h
        replace hv := q_fR_e hv
        obtain ⟨_, cv11, dv11⟩ := hv
        replace h := q_be h
        obtain ⟨a12, ea12, h⟩ := h
        subst ea12
        replace h := q_be h
        obtain ⟨v13, hv, h⟩ := h
        replace hv := q_aI_e hv
        obtain ⟨_, _, cv13, iv13, yv13⟩ := hv
        exact ⟨⟨some _, rfl⟩, _, _, cv11, dv11, _, _, cv13, iv13, _, yv13, rfl, hr (v13, g6) (Option.some.inj h).symm⟩
noncomputable def jX12_decoded_95 (g : ps_G) (x0 : Nat) : Option (Int32 × ps_G) := Option.bind (q_sB 12 87 g x0 (1 : Int32)) fun g22 => some ((0 : Int32), g22)
theorem pjX12_decoded_95 {d : Nat} {Q : ps_Rs → ps_G → Prop} {g : ps_G} {x0 : Nat} {r : Int32 × ps_G} (h : jX12_decoded_95 g x0 = some r) (hk : Q (.inl (some (.int r.1))) r.2) : ps_At mX12_decoded (d + 1) 95 [(0, .ref x0)] [] g Q := by
  unfold jX12_decoded_95 at h
  refine sX12_decoded_95 ?_
  replace h := q_be h
  obtain ⟨g22, hv, h⟩ := h
  replace hv := q_sB_e hv
  obtain ⟨_, cg22, dg22, ng22, yg22⟩ := hv
  cases h
  exact ⟨⟨some _, rfl⟩, _, cg22, dg22, ng22.1, ng22.2, _, yg22, rfl, hk⟩
noncomputable def fX12_decoded (g : ps_G) (x0 : Nat) (x1 : Int32) : Option (Int32 × ps_G) := Option.bind (q_lp (fun s => bX12_decoded_10 x0 x1 s.1 s.2.1 s.2.2.1 s.2.2.2.1 s.2.2.2.2) ((0 : Int32), (0 : Int32), (0 : Int32), (1 : Int32), g)) fun s20 => Sum.elim (fun r21 => jX12_decoded_95 r21 x0) (fun v23 => some v23) s20
theorem rX12_decoded {d : Nat} {Q : ps_Rs → ps_G → Prop} {g : ps_G} {x0 : Nat} {x1 : Int32} {r : Int32 × ps_G} (h : fX12_decoded g x0 x1 = some r) (hk : Q (.inl (some (.int r.1))) r.2) : ps_Ok mX12_decoded (d + 1) [.ref x0, .int x1] g Q := by
  unfold fX12_decoded at h
  refine sX12_decoded_0 ?_
  refine ⟨by decide, by decide, by decide, by decide, ?_⟩
  replace h := q_be h
  obtain ⟨s20, hl, h⟩ := h
  refine ps_weak (q_lp_ok hl (fun s => ps_At mX12_decoded (d + 1) 10 [(0, .ref x0), (1, .int x1), (2, .int s.1), (3, .int s.2.1), (4, .int s.2.2.1), (5, .int s.2.2.2.1)] [] s.2.2.2.2 Q) (Sum.elim (fun r => ps_At mX12_decoded (d + 1) 95 [(0, .ref x0)] [] r Q) (fun v => Q (.inl (some (.int v.1))) v.2)) (fun s x hb hh he => pbX12_decoded_10 hb hh (fun _ e => he _ e) (fun _ e => he _ e)) ?_) ⟨rfl, rfl, rfl, rfl, rfl, rfl, trivial⟩
  rcases s20 with r21 | v23
  · refine (?_ : ps_At mX12_decoded (d + 1) 95 [(0, .ref x0)] [] r21 Q)
    exact ps_weak (pjX12_decoded_95 h hk) ⟨rfl, trivial⟩
  · cases h
    exact hk
noncomputable def bX12_ownCodes_55 (x0 : Nat) (x1 : Int32) (x2 : Int32) (x3 : Int32) (x4 : Int32) (g : ps_G) : Option ((Int32 × ps_G) ⊕ (ps_G)) := if (19 : Int32) ≤ x4 then (some (.inr g)) else (Option.bind (q_fR 12 92 g x0) fun v17 => Option.bind (v17) fun a18 => Option.bind (q_wI g a18 x4 (0 : Int32)) fun g19 => some (.inl (x4 + (1 : Int32), g19)))
theorem pbX12_ownCodes_55 {d : Nat} {Q : ps_Rs → ps_G → Prop}  {x0 : Nat} {x1 : Int32} {x2 : Int32} {x3 : Int32} {x4 : Int32} {g : ps_G} {x : (Int32 × ps_G) ⊕ (ps_G)} (h : bX12_ownCodes_55 x0 x1 x2 x3 x4 g = some x) (hh : ∀ s' : Int32 × ps_G, x = .inl s' → ps_At mX12_ownCodes (d + 2) 55 [(0, .ref x0), (1, .int x1), (2, .int x2), (3, .int x3), (4, .int s'.1)] [] s'.2 Q) (he : ∀ r' : ps_G, x = .inr r' → ps_At mX12_ownCodes (d + 2) 76 [(0, .ref x0), (1, .int x1), (2, .int x2), (3, .int x3)] [] r' Q) : ps_At mX12_ownCodes (d + 2) 55 [(0, .ref x0), (1, .int x1), (2, .int x2), (3, .int x3), (4, .int x4)] [] g Q := by
  unfold bX12_ownCodes_55 at h
  refine sX12_ownCodes_55 ?_
  refine And.intro (fun hc15 => ?_) (fun hc15 => ?_)
  · replace h := q_ifp (hc15) h
    exact ps_weak (he g (Option.some.inj h).symm) ⟨rfl, rfl, rfl, rfl, trivial⟩
  · replace h := q_ifn (hc15) h
    replace h := q_be h
    obtain ⟨v17, hv, h⟩ := h
    replace hv := q_fR_e hv
    obtain ⟨_, cv17, dv17⟩ := hv
    replace h := q_be h
    obtain ⟨a18, ea18, h⟩ := h
    subst ea18
    replace h := q_be h
    obtain ⟨g19, hv, h⟩ := h
    replace hv := q_wI_e hv
    obtain ⟨_, _, cg19, pg19, ig19, yg19⟩ := hv
    refine ⟨⟨some _, rfl⟩, _, _, cv17, dv17, _, _, cg19, pg19, ig19, _, yg19, by decide, ?_⟩
    exact ps_weak (hh (x4 + (1 : Int32), g19) (Option.some.inj h).symm) ⟨rfl, rfl, rfl, rfl, rfl, trivial⟩
noncomputable def bX12_ownCodes_79 (x0 : Nat) (x1 : Int32) (x2 : Int32) (x3 : Int32) (x4 : Int32) (g : ps_G) : Option ((Int32 × ps_G) ⊕ (ps_G)) := if x3 ≤ x4 then (some (.inr g)) else (Option.bind (q_fR 12 92 g x0) fun v25 => Option.bind (v25) fun a26 => Option.bind (q_fR 12 72 g x0) fun v27 => Option.bind (v27) fun a28 => Option.bind (q_aI g a28 x4) fun v29 => Option.bind (q_ob 12 g x0) fun u30 => q_b2 (fX12_low g x0 (3 : Int32)) fun v31 g32 => Option.bind (q_wI g32 a26 v29 v31) fun g33 => some (.inl (x4 + (1 : Int32), g33)))
theorem pbX12_ownCodes_79 {d : Nat} {Q : ps_Rs → ps_G → Prop}  {x0 : Nat} {x1 : Int32} {x2 : Int32} {x3 : Int32} {x4 : Int32} {g : ps_G} {x : (Int32 × ps_G) ⊕ (ps_G)} (h : bX12_ownCodes_79 x0 x1 x2 x3 x4 g = some x) (hh : ∀ s' : Int32 × ps_G, x = .inl s' → ps_At mX12_ownCodes (d + 2) 79 [(0, .ref x0), (1, .int x1), (2, .int x2), (3, .int x3), (4, .int s'.1)] [] s'.2 Q) (he : ∀ r' : ps_G, x = .inr r' → ps_At mX12_ownCodes (d + 2) 108 [(0, .ref x0), (1, .int x1), (2, .int x2)] [] r' Q) : ps_At mX12_ownCodes (d + 2) 79 [(0, .ref x0), (1, .int x1), (2, .int x2), (3, .int x3), (4, .int x4)] [] g Q := by
  unfold bX12_ownCodes_79 at h
  refine sX12_ownCodes_79 ?_
  refine And.intro (fun hc23 => ?_) (fun hc23 => ?_)
  · replace h := q_ifp (hc23) h
    exact ps_weak (he g (Option.some.inj h).symm) ⟨rfl, rfl, rfl, trivial⟩
  · replace h := q_ifn (hc23) h
    replace h := q_be h
    obtain ⟨v25, hv, h⟩ := h
    replace hv := q_fR_e hv
    obtain ⟨_, cv25, dv25⟩ := hv
    replace h := q_be h
    obtain ⟨a26, ea26, h⟩ := h
    subst ea26
    replace h := q_be h
    obtain ⟨v27, hv, h⟩ := h
    replace hv := q_fR_e hv
    obtain ⟨_, cv27, dv27⟩ := hv
    replace h := q_be h
    obtain ⟨a28, ea28, h⟩ := h
    subst ea28
    replace h := q_be h
    obtain ⟨v29, hv, h⟩ := h
    replace hv := q_aI_e hv
    obtain ⟨_, _, cv29, iv29, yv29⟩ := hv
    replace h := q_be h
    obtain ⟨u30, hv, h⟩ := h
    replace hv := q_ob_e hv
    obtain ⟨_, cu30⟩ := hv
    replace h := q_b2_e h
    obtain ⟨v31, g32, hv, h⟩ := h
    refine ⟨⟨some _, rfl⟩, _, _, cv25, dv25, ⟨some _, rfl⟩, _, _, cv27, dv27, _, _, cv29, iv29, _, yv29, ⟨some _, rfl⟩, ⟨_, cu30⟩, ?_⟩
    refine rX12_low hv ?_
    replace h := q_be h
    obtain ⟨g33, hv, h⟩ := h
    replace hv := q_wI_e hv
    obtain ⟨_, _, cg33, pg33, ig33, yg33⟩ := hv
    refine ⟨_, _, cg33, pg33, ig33, _, yg33, by decide, ?_⟩
    exact ps_weak (hh (x4 + (1 : Int32), g33) (Option.some.inj h).symm) ⟨rfl, rfl, rfl, rfl, rfl, trivial⟩
noncomputable def bX12_ownCodes_267 (x0 : Nat) (x1 : Int32) (x2 : Int32) (x7 : Int32) (x8 : Int32) (x4 : Int32) (x9 : Int32) (g : ps_G) : Option ((Int32 × Int32 × ps_G) ⊕ (Int32 × ps_G)) := if x7 ≤ x9 then (some (.inr (x4, g))) else (Option.bind (q_fR 12 92 g x0) fun v68 => Option.bind (v68) fun a69 => Option.bind (q_wI g a69 x4 x8) fun g70 => some (.inl (x4 + (1 : Int32), x9 + (1 : Int32), g70)))
theorem pbX12_ownCodes_267 {d : Nat} {Q : ps_Rs → ps_G → Prop}  {x0 : Nat} {x1 : Int32} {x2 : Int32} {x7 : Int32} {x8 : Int32} {x4 : Int32} {x9 : Int32} {g : ps_G} {x : (Int32 × Int32 × ps_G) ⊕ (Int32 × ps_G)} (h : bX12_ownCodes_267 x0 x1 x2 x7 x8 x4 x9 g = some x) (hh : ∀ s' : Int32 × Int32 × ps_G, x = .inl s' → ps_At mX12_ownCodes (d + 2) 267 [(0, .ref x0), (1, .int x1), (2, .int x2), (4, .int s'.1), (7, .int x7), (8, .int x8), (9, .int s'.2.1)] [] s'.2.2 Q) (he : ∀ r' : Int32 × ps_G, x = .inr r' → ps_At mX12_ownCodes (d + 2) 292 [(0, .ref x0), (1, .int x1), (2, .int x2), (4, .int r'.1), (8, .int x8)] [] r'.2 Q) : ps_At mX12_ownCodes (d + 2) 267 [(0, .ref x0), (1, .int x1), (2, .int x2), (4, .int x4), (7, .int x7), (8, .int x8), (9, .int x9)] [] g Q := by
  unfold bX12_ownCodes_267 at h
  refine sX12_ownCodes_267 ?_
  refine And.intro (fun hc66 => ?_) (fun hc66 => ?_)
  · replace h := q_ifp (hc66) h
    exact ps_weak (he (x4, g) (Option.some.inj h).symm) ⟨rfl, rfl, rfl, rfl, rfl, trivial⟩
  · replace h := q_ifn (hc66) h
    replace h := q_be h
    obtain ⟨v68, hv, h⟩ := h
    replace hv := q_fR_e hv
    obtain ⟨_, cv68, dv68⟩ := hv
    replace h := q_be h
    obtain ⟨a69, ea69, h⟩ := h
    subst ea69
    replace h := q_be h
    obtain ⟨g70, hv, h⟩ := h
    replace hv := q_wI_e hv
    obtain ⟨_, _, cg70, pg70, ig70, yg70⟩ := hv
    refine ⟨⟨some _, rfl⟩, _, _, cv68, dv68, _, _, cg70, pg70, ig70, _, yg70, by decide, by decide, ?_⟩
    exact ps_weak (hh (x4 + (1 : Int32), x9 + (1 : Int32), g70) (Option.some.inj h).symm) ⟨rfl, rfl, rfl, rfl, rfl, rfl, rfl, trivial⟩
noncomputable def jX12_ownCodes_206_130 (g : ps_G) (x0 : Nat) (x1 : Int32) (x2 : Int32) (x4 : Int32) (x5 : Int32) (x6 : Int32) (k0 : Int32) : Option ((Int32 × Int32 × ps_G) ⊕ ((ps_G) ⊕ (ps_G))) := Option.bind (q_fI 12 87 g x0) fun v62 => if ¬ (¬ v62 = 0) ∧ (¬ ((if (16 : Int32) ≤ x6 then (if ¬ x6 = (16 : Int32) then (0 : Int32) else x5) else x6) < 0) ∧ ((x4 + k0) ≤ (x1 + x2))) then (Option.bind (q_lp (fun s => bX12_ownCodes_267 x0 x1 x2 k0 (if (16 : Int32) ≤ x6 then (if ¬ x6 = (16 : Int32) then (0 : Int32) else x5) else x6) s.1 s.2.1 s.2.2) (x4, (0 : Int32), g)) fun s73 => some (.inl (s73.1, (if (16 : Int32) ≤ x6 then (if ¬ x6 = (16 : Int32) then (0 : Int32) else x5) else x6), s73.2))) else (Option.bind (q_sB 12 87 g x0 (1 : Int32)) fun g74 => some (.inr (.inr g74)))
theorem pjX12_ownCodes_206_130 {d : Nat} {Q : ps_Rs → ps_G → Prop} {g : ps_G} {x0 : Nat} {x1 : Int32} {x2 : Int32} {x4 : Int32} {x5 : Int32} {x6 : Int32} {k0 : Int32} {x : (Int32 × Int32 × ps_G) ⊕ ((ps_G) ⊕ (ps_G))} (h : jX12_ownCodes_206_130 g x0 x1 x2 x4 x5 x6 k0 = some x) (hh : ∀ s' : Int32 × Int32 × ps_G, x = .inl s' → ps_At mX12_ownCodes (d + 2) 130 [(0, .ref x0), (1, .int x1), (2, .int x2), (4, .int s'.1), (5, .int s'.2.1)] [] s'.2.2 Q) (he : ∀ r' : ps_G, x = .inr (.inl r') → ps_At mX12_ownCodes (d + 2) 299 [(0, .ref x0), (1, .int x1), (2, .int x2)] [] r' Q) (hr : ∀ v' : ps_G, x = .inr (.inr v') → Q (.inl none) v') : ps_At mX12_ownCodes (d + 2) 206 [(0, .ref x0), (1, .int x1), (2, .int x2), (4, .int x4), (5, .int x5), (6, .int x6)] [.int k0] g Q := by
  unfold jX12_ownCodes_206_130 at h
  refine sX12_ownCodes_206 ?_
  have kJ61 : ∀ w60 : Int32, w60 = (if (16 : Int32) ≤ x6 then (if ¬ x6 = (16 : Int32) then (0 : Int32) else x5) else x6) → ps_At mX12_ownCodes (d + 2) 233 [(0, .ref x0), (1, .int x1), (2, .int x2), (4, .int x4), (7, .int k0)] [.int w60] g Q := by
    rintro _ rfl
    refine sX12_ownCodes_233 ?_
    replace h := q_be h
    obtain ⟨v62, hv, h⟩ := h
    replace hv := q_fI_e hv
    obtain ⟨_, cv62, dv62⟩ := hv
    have kF76 : (Option.bind (q_sB 12 87 g x0 (1 : Int32)) fun g74 => some (.inr (.inr g74))) = some x → ps_At mX12_ownCodes (d + 2) 258 [(0, .ref x0)] [] g Q := fun h => by
      refine sX12_ownCodes_258 ?_
      replace h := q_be h
      obtain ⟨g74, hv, h⟩ := h
      replace hv := q_sB_e hv
      obtain ⟨_, cg74, dg74, ng74, yg74⟩ := hv
      exact ⟨⟨some _, rfl⟩, _, cg74, dg74, ng74.1, ng74.2, _, yg74, rfl, rfl, hr g74 (Option.some.inj h).symm⟩
    refine ⟨by decide, ⟨some _, rfl⟩, _, _, cv62, dv62, ?_⟩
    refine And.intro (fun hc63 => ?_) (fun hc63 => ?_)
    · exact ps_weak (kF76 (q_ifn (fun z => z.1 hc63) h)) ⟨rfl, trivial⟩
    · refine And.intro (fun hc64 => ?_) (fun hc64 => ?_)
      · exact ps_weak (kF76 (q_ifn (fun z => (fun z => z.1 hc64) z.2) h)) ⟨rfl, trivial⟩
      · refine And.intro (fun hc65 => ?_) (fun hc65 => ?_)
        · replace h := q_ifp (⟨hc63, ⟨hc64, hc65⟩⟩) h
          refine sX12_ownCodes_264 ?_
          refine ⟨by decide, ?_⟩
          replace h := q_be h
          obtain ⟨s73, hl, h⟩ := h
          refine ps_weak (q_lp_ok hl (fun s => ps_At mX12_ownCodes (d + 2) 267 [(0, .ref x0), (1, .int x1), (2, .int x2), (4, .int s.1), (7, .int k0), (8, .int (if (16 : Int32) ≤ x6 then (if ¬ x6 = (16 : Int32) then (0 : Int32) else x5) else x6)), (9, .int s.2.1)] [] s.2.2 Q) (fun r => ps_At mX12_ownCodes (d + 2) 292 [(0, .ref x0), (1, .int x1), (2, .int x2), (4, .int r.1), (8, .int (if (16 : Int32) ≤ x6 then (if ¬ x6 = (16 : Int32) then (0 : Int32) else x5) else x6))] [] r.2 Q) (fun s x hb hh he => pbX12_ownCodes_267 hb hh he) ?_) ⟨rfl, rfl, rfl, rfl, rfl, rfl, rfl, trivial⟩
          refine (?_ : ps_At mX12_ownCodes (d + 2) 292 [(0, .ref x0), (1, .int x1), (2, .int x2), (4, .int s73.1), (8, .int (if (16 : Int32) ≤ x6 then (if ¬ x6 = (16 : Int32) then (0 : Int32) else x5) else x6))] [] s73.2 Q)
          refine sX12_ownCodes_292 ?_
          refine ⟨by decide, ?_⟩
          exact ps_weak (hh (s73.1, (if (16 : Int32) ≤ x6 then (if ¬ x6 = (16 : Int32) then (0 : Int32) else x5) else x6), s73.2) (Option.some.inj h).symm) ⟨rfl, rfl, rfl, rfl, rfl, trivial⟩
        · exact ps_weak (kF76 (q_ifn (fun z => (fun z => hc65 z.2) z.2) h)) ⟨rfl, trivial⟩
  refine ⟨by decide, ?_⟩
  refine And.intro (fun hc59 => ?_) (fun hc59 => ?_)
  · refine sX12_ownCodes_220 ?_
    have kJ79 : ∀ w78 : Int32, w78 = (if ¬ x6 = (16 : Int32) then (0 : Int32) else x5) → ps_At mX12_ownCodes (d + 2) 233 [(0, .ref x0), (1, .int x1), (2, .int x2), (4, .int x4), (7, .int k0)] [.int w78] g Q := by
      rintro _ rfl
      exact ps_weak (kJ61 _ (if_pos (hc59)).symm) ⟨rfl, rfl, rfl, rfl, rfl, trivial⟩
    refine And.intro (fun hc77 => ?_) (fun hc77 => ?_)
    · refine sX12_ownCodes_232 ?_
      exact ps_weak (kJ79 _ (if_pos (hc77)).symm) ⟨rfl, rfl, rfl, rfl, rfl, trivial⟩
    · exact ps_weak (kJ79 _ (if_neg (hc77)).symm) ⟨rfl, rfl, rfl, rfl, rfl, trivial⟩
  · exact ps_weak (kJ61 _ (if_neg (hc59)).symm) ⟨rfl, rfl, rfl, rfl, rfl, trivial⟩
noncomputable def bX12_ownCodes_130 (x0 : Nat) (x1 : Int32) (x2 : Int32) (x4 : Int32) (x5 : Int32) (g : ps_G) : Option ((Int32 × Int32 × ps_G) ⊕ ((ps_G) ⊕ (ps_G))) := if (x1 + x2) ≤ x4 then (some (.inr (.inl g))) else (Option.bind (q_fI 12 87 g x0) fun v42 => if ¬ v42 = 0 then (some (.inr (.inl g))) else (Option.bind (q_ob 12 g x0) fun u44 => q_b2 (fX12_decoded g x0 (2 : Int32)) fun v45 g46 => if (16 : Int32) ≤ v45 then (if ¬ v45 = (16 : Int32) then (if ¬ v45 = (17 : Int32) then (Option.bind (q_ob 12 g46 x0) fun u56 => q_b2 (fX12_low g46 x0 (7 : Int32)) fun v57 g58 => jX12_ownCodes_206_130 g58 x0 x1 x2 x4 x5 v45 ((11 : Int32) + v57)) else (Option.bind (q_ob 12 g46 x0) fun u80 => q_b2 (fX12_low g46 x0 (3 : Int32)) fun v81 g82 => jX12_ownCodes_206_130 g82 x0 x1 x2 x4 x5 v45 ((3 : Int32) + v81))) else (Option.bind (q_ob 12 g46 x0) fun u85 => q_b2 (fX12_low g46 x0 (2 : Int32)) fun v86 g87 => jX12_ownCodes_206_130 g87 x0 x1 x2 x4 x5 v45 ((3 : Int32) + v86))) else (jX12_ownCodes_206_130 g46 x0 x1 x2 x4 x5 v45 (1 : Int32))))
theorem pbX12_ownCodes_130 {d : Nat} {Q : ps_Rs → ps_G → Prop}  {x0 : Nat} {x1 : Int32} {x2 : Int32} {x4 : Int32} {x5 : Int32} {g : ps_G} {x : (Int32 × Int32 × ps_G) ⊕ ((ps_G) ⊕ (ps_G))} (h : bX12_ownCodes_130 x0 x1 x2 x4 x5 g = some x) (hh : ∀ s' : Int32 × Int32 × ps_G, x = .inl s' → ps_At mX12_ownCodes (d + 2) 130 [(0, .ref x0), (1, .int x1), (2, .int x2), (4, .int s'.1), (5, .int s'.2.1)] [] s'.2.2 Q) (he : ∀ r' : ps_G, x = .inr (.inl r') → ps_At mX12_ownCodes (d + 2) 299 [(0, .ref x0), (1, .int x1), (2, .int x2)] [] r' Q) (hr : ∀ v' : ps_G, x = .inr (.inr v') → Q (.inl none) v') : ps_At mX12_ownCodes (d + 2) 130 [(0, .ref x0), (1, .int x1), (2, .int x2), (4, .int x4), (5, .int x5)] [] g Q := by
  unfold bX12_ownCodes_130 at h
  refine sX12_ownCodes_130 ?_
  refine And.intro (fun hc41 => ?_) (fun hc41 => ?_)
  · replace h := q_ifp (hc41) h
    exact ps_weak (he g (Option.some.inj h).symm) ⟨rfl, rfl, rfl, trivial⟩
  · replace h := q_ifn (hc41) h
    replace h := q_be h
    obtain ⟨v42, hv, h⟩ := h
    replace hv := q_fI_e hv
    obtain ⟨_, cv42, dv42⟩ := hv
    refine ⟨⟨some _, rfl⟩, _, _, cv42, dv42, ?_⟩
    refine And.intro (fun hc43 => ?_) (fun hc43 => ?_)
    · replace h := q_ifp (hc43) h
      exact ps_weak (he g (Option.some.inj h).symm) ⟨rfl, rfl, rfl, trivial⟩
    · replace h := q_ifn (hc43) h
      replace h := q_be h
      obtain ⟨u44, hv, h⟩ := h
      replace hv := q_ob_e hv
      obtain ⟨_, cu44⟩ := hv
      replace h := q_b2_e h
      obtain ⟨v45, g46, hv, h⟩ := h
      refine ⟨⟨some _, rfl⟩, ⟨_, cu44⟩, ?_⟩
      refine rX12_decoded hv ?_
      refine ⟨by decide, ?_⟩
      refine And.intro (fun hc47 => ?_) (fun hc47 => ?_)
      · replace h := q_ifp (hc47) h
        refine sX12_ownCodes_163 ?_
        refine And.intro (fun hc51 => ?_) (fun hc51 => ?_)
        · replace h := q_ifp (hc51) h
          refine sX12_ownCodes_180 ?_
          refine And.intro (fun hc54 => ?_) (fun hc54 => ?_)
          · replace h := q_ifp (hc54) h
            refine sX12_ownCodes_197 ?_
            replace h := q_be h
            obtain ⟨u56, hv, h⟩ := h
            replace hv := q_ob_e hv
            obtain ⟨_, cu56⟩ := hv
            replace h := q_b2_e h
            obtain ⟨v57, g58, hv, h⟩ := h
            refine ⟨⟨some _, rfl⟩, ⟨_, cu56⟩, ?_⟩
            refine rX12_low hv ?_
            exact ps_weak (pjX12_ownCodes_206_130 h hh he hr) ⟨rfl, rfl, rfl, rfl, rfl, rfl, trivial⟩
          · replace h := q_ifn (hc54) h
            replace h := q_be h
            obtain ⟨u80, hv, h⟩ := h
            replace hv := q_ob_e hv
            obtain ⟨_, cu80⟩ := hv
            replace h := q_b2_e h
            obtain ⟨v81, g82, hv, h⟩ := h
            refine ⟨⟨some _, rfl⟩, ⟨_, cu80⟩, ?_⟩
            refine rX12_low hv ?_
            exact ps_weak (pjX12_ownCodes_206_130 h hh he hr) ⟨rfl, rfl, rfl, rfl, rfl, rfl, trivial⟩
        · replace h := q_ifn (hc51) h
          replace h := q_be h
          obtain ⟨u85, hv, h⟩ := h
          replace hv := q_ob_e hv
          obtain ⟨_, cu85⟩ := hv
          replace h := q_b2_e h
          obtain ⟨v86, g87, hv, h⟩ := h
          refine ⟨⟨some _, rfl⟩, ⟨_, cu85⟩, ?_⟩
          refine rX12_low hv ?_
          exact ps_weak (pjX12_ownCodes_206_130 h hh he hr) ⟨rfl, rfl, rfl, rfl, rfl, rfl, trivial⟩
      · replace h := q_ifn (hc47) h
        exact ps_weak (pjX12_ownCodes_206_130 h hh he hr) ⟨rfl, rfl, rfl, rfl, rfl, rfl, trivial⟩
noncomputable def jX12_ownCodes_315 (g : ps_G) (x0 : Nat) (x1 : Int32) (x2 : Int32) : Option (ps_G) := Option.bind (q_fI 12 87 g x0) fun v103 => if v103 = 0 then (Option.bind (q_ob 12 g x0) fun u105 => Option.bind (fX12_makeCodes g x0 (0 : Int32) (0 : Int32) x1) fun v106 => Option.bind (q_ob 12 v106 x0) fun u107 => Option.bind (fX12_makeCodes v106 x0 (1 : Int32) x1 x2) fun v108 => some v108) else (some g)
theorem pjX12_ownCodes_315 {d : Nat} {Q : ps_Rs → ps_G → Prop} {g : ps_G} {x0 : Nat} {x1 : Int32} {x2 : Int32} {r : ps_G} (h : jX12_ownCodes_315 g x0 x1 x2 = some r) (hk : Q (.inl none) r) : ps_At mX12_ownCodes (d + 2) 315 [(0, .ref x0), (1, .int x1), (2, .int x2)] [] g Q := by
  unfold jX12_ownCodes_315 at h
  refine sX12_ownCodes_315 ?_
  replace h := q_be h
  obtain ⟨v103, hv, h⟩ := h
  replace hv := q_fI_e hv
  obtain ⟨_, cv103, dv103⟩ := hv
  refine ⟨⟨some _, rfl⟩, _, _, cv103, dv103, ?_⟩
  refine And.intro (fun hc104 => ?_) (fun hc104 => ?_)
  · replace h := q_ifp (hc104) h
    refine sX12_ownCodes_323 ?_
    replace h := q_be h
    obtain ⟨u105, hv, h⟩ := h
    replace hv := q_ob_e hv
    obtain ⟨_, cu105⟩ := hv
    replace h := q_be h
    obtain ⟨v106, hv, h⟩ := h
    refine ⟨⟨some _, rfl⟩, ⟨_, cu105⟩, ?_⟩
    refine rX12_makeCodes hv ?_
    replace h := q_be h
    obtain ⟨u107, hv, h⟩ := h
    replace hv := q_ob_e hv
    obtain ⟨_, cu107⟩ := hv
    replace h := q_be h
    obtain ⟨v108, hv, h⟩ := h
    refine ⟨⟨some _, rfl⟩, ⟨_, cu107⟩, ?_⟩
    refine rX12_makeCodes hv ?_
    cases h
    exact ⟨rfl, rfl, hk⟩
  · replace h := q_ifn (hc104) h
    cases h
    exact ⟨rfl, rfl, hk⟩
noncomputable def jX12_ownCodes_299 (g : ps_G) (x0 : Nat) (x1 : Int32) (x2 : Int32) : Option (ps_G) := Option.bind (q_fR 12 92 g x0) fun v98 => Option.bind (v98) fun a99 => Option.bind (q_aI g a99 (256 : Int32)) fun v100 => if ¬ v100 = 0 then (jX12_ownCodes_315 g x0 x1 x2) else (Option.bind (q_sB 12 87 g x0 (1 : Int32)) fun g111 => jX12_ownCodes_315 g111 x0 x1 x2)
theorem pjX12_ownCodes_299 {d : Nat} {Q : ps_Rs → ps_G → Prop} {g : ps_G} {x0 : Nat} {x1 : Int32} {x2 : Int32} {r : ps_G} (h : jX12_ownCodes_299 g x0 x1 x2 = some r) (hk : Q (.inl none) r) : ps_At mX12_ownCodes (d + 2) 299 [(0, .ref x0), (1, .int x1), (2, .int x2)] [] g Q := by
  unfold jX12_ownCodes_299 at h
  refine sX12_ownCodes_299 ?_
  replace h := q_be h
  obtain ⟨v98, hv, h⟩ := h
  replace hv := q_fR_e hv
  obtain ⟨_, cv98, dv98⟩ := hv
  replace h := q_be h
  obtain ⟨a99, ea99, h⟩ := h
  subst ea99
  replace h := q_be h
  obtain ⟨v100, hv, h⟩ := h
  replace hv := q_aI_e hv
  obtain ⟨_, _, cv100, iv100, yv100⟩ := hv
  refine ⟨⟨some _, rfl⟩, _, _, cv98, dv98, _, _, cv100, iv100, _, yv100, ?_⟩
  refine And.intro (fun hc101 => ?_) (fun hc101 => ?_)
  · replace h := q_ifp (hc101) h
    exact ps_weak (pjX12_ownCodes_315 h hk) ⟨rfl, rfl, rfl, trivial⟩
  · replace h := q_ifn (hc101) h
    replace h := q_be h
    obtain ⟨g111, hv, h⟩ := h
    replace hv := q_sB_e hv
    obtain ⟨_, cg111, dg111, ng111, yg111⟩ := hv
    refine ⟨⟨some _, rfl⟩, _, cg111, dg111, ng111.1, ng111.2, _, yg111, ?_⟩
    exact ps_weak (pjX12_ownCodes_315 h hk) ⟨rfl, rfl, rfl, trivial⟩
noncomputable def jX12_ownCodes_44 (g : ps_G) (x0 : Nat) (x1 : Int32) (x2 : Int32) (x3 : Int32) : Option (ps_G) := Option.bind (q_fI 12 87 g x0) fun v13 => if v13 = 0 then (Option.bind (q_lp (fun s => bX12_ownCodes_55 x0 x1 x2 x3 s.1 s.2) ((0 : Int32), g)) fun s22 => Option.bind (q_lp (fun s => bX12_ownCodes_79 x0 x1 x2 x3 s.1 s.2) ((0 : Int32), s22)) fun s36 => Option.bind (q_fI 12 87 s36 x0) fun v37 => if v37 = 0 then (Option.bind (q_ob 12 s36 x0) fun u39 => Option.bind (fX12_makeCodes s36 x0 (2 : Int32) (0 : Int32) (19 : Int32)) fun v40 => Option.bind (q_lp (fun s => bX12_ownCodes_130 x0 x1 x2 s.1 s.2.1 s.2.2) ((0 : Int32), (-1 : Int32), v40)) fun s96 => Sum.elim (fun r97 => jX12_ownCodes_299 r97 x0 x1 x2) (fun v114 => some v114) s96) else (some s36)) else (some g)
theorem pjX12_ownCodes_44 {d : Nat} {Q : ps_Rs → ps_G → Prop} {g : ps_G} {x0 : Nat} {x1 : Int32} {x2 : Int32} {x3 : Int32} {r : ps_G} (h : jX12_ownCodes_44 g x0 x1 x2 x3 = some r) (hk : Q (.inl none) r) : ps_At mX12_ownCodes (d + 2) 44 [(0, .ref x0), (1, .int x1), (2, .int x2), (3, .int x3)] [] g Q := by
  unfold jX12_ownCodes_44 at h
  refine sX12_ownCodes_44 ?_
  replace h := q_be h
  obtain ⟨v13, hv, h⟩ := h
  replace hv := q_fI_e hv
  obtain ⟨_, cv13, dv13⟩ := hv
  refine ⟨⟨some _, rfl⟩, _, _, cv13, dv13, ?_⟩
  refine And.intro (fun hc14 => ?_) (fun hc14 => ?_)
  · replace h := q_ifp (hc14) h
    refine sX12_ownCodes_52 ?_
    refine ⟨by decide, ?_⟩
    replace h := q_be h
    obtain ⟨s22, hl, h⟩ := h
    refine ps_weak (q_lp_ok hl (fun s => ps_At mX12_ownCodes (d + 2) 55 [(0, .ref x0), (1, .int x1), (2, .int x2), (3, .int x3), (4, .int s.1)] [] s.2 Q) (fun r => ps_At mX12_ownCodes (d + 2) 76 [(0, .ref x0), (1, .int x1), (2, .int x2), (3, .int x3)] [] r Q) (fun s x hb hh he => pbX12_ownCodes_55 hb hh he) ?_) ⟨rfl, rfl, rfl, rfl, rfl, trivial⟩
    refine (?_ : ps_At mX12_ownCodes (d + 2) 76 [(0, .ref x0), (1, .int x1), (2, .int x2), (3, .int x3)] [] s22 Q)
    refine sX12_ownCodes_76 ?_
    refine ⟨by decide, ?_⟩
    replace h := q_be h
    obtain ⟨s36, hl, h⟩ := h
    refine ps_weak (q_lp_ok hl (fun s => ps_At mX12_ownCodes (d + 2) 79 [(0, .ref x0), (1, .int x1), (2, .int x2), (3, .int x3), (4, .int s.1)] [] s.2 Q) (fun r => ps_At mX12_ownCodes (d + 2) 108 [(0, .ref x0), (1, .int x1), (2, .int x2)] [] r Q) (fun s x hb hh he => pbX12_ownCodes_79 hb hh he) ?_) ⟨rfl, rfl, rfl, rfl, rfl, trivial⟩
    refine (?_ : ps_At mX12_ownCodes (d + 2) 108 [(0, .ref x0), (1, .int x1), (2, .int x2)] [] s36 Q)
    refine sX12_ownCodes_108 ?_
    replace h := q_be h
    obtain ⟨v37, hv, h⟩ := h
    replace hv := q_fI_e hv
    obtain ⟨_, cv37, dv37⟩ := hv
    refine ⟨⟨some _, rfl⟩, _, _, cv37, dv37, ?_⟩
    refine And.intro (fun hc38 => ?_) (fun hc38 => ?_)
    · replace h := q_ifp (hc38) h
      refine sX12_ownCodes_116 ?_
      replace h := q_be h
      obtain ⟨u39, hv, h⟩ := h
      replace hv := q_ob_e hv
      obtain ⟨_, cu39⟩ := hv
      replace h := q_be h
      obtain ⟨v40, hv, h⟩ := h
      refine ⟨⟨some _, rfl⟩, ⟨_, cu39⟩, ?_⟩
      refine rX12_makeCodes hv ?_
      refine ⟨by decide, by decide, ?_⟩
      replace h := q_be h
      obtain ⟨s96, hl, h⟩ := h
      refine ps_weak (q_lp_ok hl (fun s => ps_At mX12_ownCodes (d + 2) 130 [(0, .ref x0), (1, .int x1), (2, .int x2), (4, .int s.1), (5, .int s.2.1)] [] s.2.2 Q) (Sum.elim (fun r => ps_At mX12_ownCodes (d + 2) 299 [(0, .ref x0), (1, .int x1), (2, .int x2)] [] r Q) (fun v => Q (.inl none) v)) (fun s x hb hh he => pbX12_ownCodes_130 hb hh (fun _ e => he _ e) (fun _ e => he _ e)) ?_) ⟨rfl, rfl, rfl, rfl, rfl, trivial⟩
      rcases s96 with r97 | v114
      · refine (?_ : ps_At mX12_ownCodes (d + 2) 299 [(0, .ref x0), (1, .int x1), (2, .int x2)] [] r97 Q)
        exact ps_weak (pjX12_ownCodes_299 h hk) ⟨rfl, rfl, rfl, trivial⟩
      · cases h
        exact hk
    · replace h := q_ifn (hc38) h
      cases h
      exact ⟨rfl, rfl, hk⟩
  · replace h := q_ifn (hc14) h
    cases h
    exact ⟨rfl, rfl, hk⟩
noncomputable def fX12_ownCodes (g : ps_G) (x0 : Nat) : Option (ps_G) := Option.bind (q_ob 12 g x0) fun u1 => q_b2 (fX12_low g x0 (5 : Int32)) fun v2 g3 => Option.bind (q_ob 12 g3 x0) fun u4 => q_b2 (fX12_low g3 x0 (5 : Int32)) fun v5 g6 => Option.bind (q_ob 12 g6 x0) fun u7 => q_b2 (fX12_low g6 x0 (4 : Int32)) fun v8 g9 => if ¬ ((286 : Int32) < (v2 + (257 : Int32))) ∧ ((v5 + (1 : Int32)) ≤ (30 : Int32)) then (jX12_ownCodes_44 g9 x0 (v2 + (257 : Int32)) (v5 + (1 : Int32)) (v8 + (4 : Int32))) else (Option.bind (q_sB 12 87 g9 x0 (1 : Int32)) fun g119 => jX12_ownCodes_44 g119 x0 (v2 + (257 : Int32)) (v5 + (1 : Int32)) (v8 + (4 : Int32)))
theorem rX12_ownCodes {d : Nat} {Q : ps_Rs → ps_G → Prop} {g : ps_G} {x0 : Nat} {r : ps_G} (h : fX12_ownCodes g x0 = some r) (hk : Q (.inl none) r) : ps_Ok mX12_ownCodes (d + 2) [.ref x0] g Q := by
  unfold fX12_ownCodes at h
  refine sX12_ownCodes_0 ?_
  replace h := q_be h
  obtain ⟨u1, hv, h⟩ := h
  replace hv := q_ob_e hv
  obtain ⟨_, cu1⟩ := hv
  replace h := q_b2_e h
  obtain ⟨v2, g3, hv, h⟩ := h
  refine ⟨⟨some _, rfl⟩, ⟨_, cu1⟩, ?_⟩
  refine rX12_low hv ?_
  replace h := q_be h
  obtain ⟨u4, hv, h⟩ := h
  replace hv := q_ob_e hv
  obtain ⟨_, cu4⟩ := hv
  replace h := q_b2_e h
  obtain ⟨v5, g6, hv, h⟩ := h
  refine ⟨by decide, ⟨some _, rfl⟩, ⟨_, cu4⟩, ?_⟩
  refine rX12_low hv ?_
  replace h := q_be h
  obtain ⟨u7, hv, h⟩ := h
  replace hv := q_ob_e hv
  obtain ⟨_, cu7⟩ := hv
  replace h := q_b2_e h
  obtain ⟨v8, g9, hv, h⟩ := h
  refine ⟨by decide, ⟨some _, rfl⟩, ⟨_, cu7⟩, ?_⟩
  refine rX12_low hv ?_
  have kF121 : (Option.bind (q_sB 12 87 g9 x0 (1 : Int32)) fun g119 => jX12_ownCodes_44 g119 x0 (v2 + (257 : Int32)) (v5 + (1 : Int32)) (v8 + (4 : Int32))) = some r → ps_At mX12_ownCodes (d + 2) 39 [(0, .ref x0), (1, .int (v2 + (257 : Int32))), (2, .int (v5 + (1 : Int32))), (3, .int (v8 + (4 : Int32)))] [] g9 Q := fun h => by
    refine sX12_ownCodes_39 ?_
    replace h := q_be h
    obtain ⟨g119, hv, h⟩ := h
    replace hv := q_sB_e hv
    obtain ⟨_, cg119, dg119, ng119, yg119⟩ := hv
    refine ⟨⟨some _, rfl⟩, _, cg119, dg119, ng119.1, ng119.2, _, yg119, ?_⟩
    exact ps_weak (pjX12_ownCodes_44 h hk) ⟨rfl, rfl, rfl, rfl, trivial⟩
  refine ⟨by decide, ?_⟩
  refine And.intro (fun hc10 => ?_) (fun hc10 => ?_)
  · exact ps_weak (kF121 (q_ifn (fun z => z.1 hc10) h)) ⟨rfl, rfl, rfl, rfl, trivial⟩
  · refine And.intro (fun hc11 => ?_) (fun hc11 => ?_)
    · replace h := q_ifp (⟨hc10, hc11⟩) h
      exact ps_weak (pjX12_ownCodes_44 h hk) ⟨rfl, rfl, rfl, rfl, trivial⟩
    · exact ps_weak (kF121 (q_ifn (fun z => hc11 z.2) h)) ⟨rfl, rfl, rfl, rfl, trivial⟩
noncomputable def jX12_letters_142_0 (g : ps_G) (x0 : Nat) : Option ((ps_G) ⊕ ((ps_G) ⊕ (ps_G))) := Option.bind (q_sB 12 87 g x0 (1 : Int32)) fun g37 => some (.inr (.inr g37))
theorem pjX12_letters_142_0 {d : Nat} {Q : ps_Rs → ps_G → Prop} {g : ps_G} {x0 : Nat} {x : (ps_G) ⊕ ((ps_G) ⊕ (ps_G))} (h : jX12_letters_142_0 g x0 = some x) (hh : ∀ s' : ps_G, x = .inl s' → ps_At mX12_letters (d + 2) 0 [(0, .ref x0)] [] s' Q) (he : ∀ r' : ps_G, x = .inr (.inl r') → ps_At mX12_letters (d + 2) 189 [] [] r' Q) (hr : ∀ v' : ps_G, x = .inr (.inr v') → Q (.inl none) v') : ps_At mX12_letters (d + 2) 142 [(0, .ref x0)] [] g Q := by
  unfold jX12_letters_142_0 at h
  refine sX12_letters_142 ?_
  replace h := q_be h
  obtain ⟨g37, hv, h⟩ := h
  replace hv := q_sB_e hv
  obtain ⟨_, cg37, dg37, ng37, yg37⟩ := hv
  exact ⟨⟨some _, rfl⟩, _, cg37, dg37, ng37.1, ng37.2, _, yg37, rfl, rfl, hr g37 (Option.some.inj h).symm⟩
noncomputable def bX12_letters_151 (x0 : Nat) (x2 : Int32) (x4 : Int32) (x5 : Int32) (g : ps_G) : Option ((Int32 × ps_G) ⊕ (ps_G)) := if x2 ≤ x5 then (some (.inr g)) else (Option.bind (q_fI 12 87 g x0) fun v42 => if ¬ v42 = 0 then (some (.inr g)) else (Option.bind (q_fR 12 74 g x0) fun v45 => Option.bind (v45) fun a46 => Option.bind (q_fI 12 75 g x0) fun v47 => Option.bind (q_aI g a46 (v47 - x4)) fun v48 => Option.bind (q_ob 12 g x0) fun u49 => Option.bind (fX12_putRow g x0 v48) fun v50 => some (.inl (x5 + (1 : Int32), v50))))
theorem pbX12_letters_151 {d : Nat} {Q : ps_Rs → ps_G → Prop}  {x0 : Nat} {x2 : Int32} {x4 : Int32} {x5 : Int32} {g : ps_G} {x : (Int32 × ps_G) ⊕ (ps_G)} (h : bX12_letters_151 x0 x2 x4 x5 g = some x) (hh : ∀ s' : Int32 × ps_G, x = .inl s' → ps_At mX12_letters (d + 2) 151 [(0, .ref x0), (2, .int x2), (4, .int x4), (5, .int s'.1)] [] s'.2 Q) (he : ∀ r' : ps_G, x = .inr r' → ps_At mX12_letters (d + 2) 186 [(0, .ref x0)] [] r' Q) : ps_At mX12_letters (d + 2) 151 [(0, .ref x0), (2, .int x2), (4, .int x4), (5, .int x5)] [] g Q := by
  unfold bX12_letters_151 at h
  refine sX12_letters_151 ?_
  refine And.intro (fun hc40 => ?_) (fun hc40 => ?_)
  · replace h := q_ifp (hc40) h
    exact ps_weak (he g (Option.some.inj h).symm) ⟨rfl, trivial⟩
  · replace h := q_ifn (hc40) h
    replace h := q_be h
    obtain ⟨v42, hv, h⟩ := h
    replace hv := q_fI_e hv
    obtain ⟨_, cv42, dv42⟩ := hv
    refine ⟨⟨some _, rfl⟩, _, _, cv42, dv42, ?_⟩
    refine And.intro (fun hc43 => ?_) (fun hc43 => ?_)
    · replace h := q_ifp (hc43) h
      exact ps_weak (he g (Option.some.inj h).symm) ⟨rfl, trivial⟩
    · replace h := q_ifn (hc43) h
      replace h := q_be h
      obtain ⟨v45, hv, h⟩ := h
      replace hv := q_fR_e hv
      obtain ⟨_, cv45, dv45⟩ := hv
      replace h := q_be h
      obtain ⟨a46, ea46, h⟩ := h
      subst ea46
      replace h := q_be h
      obtain ⟨v47, hv, h⟩ := h
      replace hv := q_fI_e hv
      obtain ⟨_, cv47, dv47⟩ := hv
      replace h := q_be h
      obtain ⟨v48, hv, h⟩ := h
      replace hv := q_aI_e hv
      obtain ⟨_, _, cv48, iv48, yv48⟩ := hv
      replace h := q_be h
      obtain ⟨u49, hv, h⟩ := h
      replace hv := q_ob_e hv
      obtain ⟨_, cu49⟩ := hv
      replace h := q_be h
      obtain ⟨v50, hv, h⟩ := h
      refine ⟨⟨some _, rfl⟩, ⟨some _, rfl⟩, _, _, cv45, dv45, ⟨some _, rfl⟩, _, _, cv47, dv47, _, _, cv48, iv48, _, yv48, ⟨_, cu49⟩, ?_⟩
      refine rX12_putRow hv ?_
      refine ⟨by decide, ?_⟩
      exact ps_weak (hh (x5 + (1 : Int32), v50) (Option.some.inj h).symm) ⟨rfl, rfl, rfl, rfl, trivial⟩
noncomputable def jX12_letters_186_0 (g : ps_G) (x0 : Nat) : Option ((ps_G) ⊕ ((ps_G) ⊕ (ps_G))) := some (.inl g)
theorem pjX12_letters_186_0 {d : Nat} {Q : ps_Rs → ps_G → Prop} {g : ps_G} {x0 : Nat} {x : (ps_G) ⊕ ((ps_G) ⊕ (ps_G))} (h : jX12_letters_186_0 g x0 = some x) (hh : ∀ s' : ps_G, x = .inl s' → ps_At mX12_letters (d + 2) 0 [(0, .ref x0)] [] s' Q) (he : ∀ r' : ps_G, x = .inr (.inl r') → ps_At mX12_letters (d + 2) 189 [] [] r' Q) (hr : ∀ v' : ps_G, x = .inr (.inr v') → Q (.inl none) v') : ps_At mX12_letters (d + 2) 186 [(0, .ref x0)] [] g Q := by
  unfold jX12_letters_186_0 at h
  refine sX12_letters_186 ?_
  exact ps_weak (hh g (Option.some.inj h).symm) ⟨rfl, trivial⟩
noncomputable def bX12_letters_0 (x0 : Nat) (g : ps_G) : Option ((ps_G) ⊕ ((ps_G) ⊕ (ps_G))) := Option.bind (q_fI 12 87 g x0) fun v1 => if ¬ v1 = 0 then (some (.inr (.inl g))) else (Option.bind (q_ob 12 g x0) fun u3 => q_b2 (fX12_decoded g x0 (0 : Int32)) fun v4 g5 => Option.bind (q_fI 12 87 g5 x0) fun v6 => if ¬ (¬ v6 = 0) ∧ (¬ v4 = (256 : Int32)) then (if (256 : Int32) ≤ v4 then (if v4 ≤ (285 : Int32) then (Option.bind (q_fR 12 68 g5 x0) fun v11 => Option.bind (v11) fun a12 => Option.bind (q_aI g5 a12 (v4 - (257 : Int32))) fun v13 => Option.bind (q_fR 12 69 g5 x0) fun v14 => Option.bind (v14) fun a15 => Option.bind (q_aI g5 a15 (v4 - (257 : Int32))) fun v16 => Option.bind (q_ob 12 g5 x0) fun u17 => q_b2 (fX12_low g5 x0 v16) fun v18 g19 => Option.bind (q_ob 12 g19 x0) fun u20 => q_b2 (fX12_decoded g19 x0 (1 : Int32)) fun v21 g22 => Option.bind (q_fI 12 87 g22 x0) fun v23 => if ¬ (¬ v23 = 0) ∧ (v21 ≤ (29 : Int32)) then (Option.bind (q_fR 12 70 g22 x0) fun v26 => Option.bind (v26) fun a27 => Option.bind (q_aI g22 a27 v21) fun v28 => Option.bind (q_fR 12 71 g22 x0) fun v29 => Option.bind (v29) fun a30 => Option.bind (q_aI g22 a30 v21) fun v31 => Option.bind (q_ob 12 g22 x0) fun u32 => q_b2 (fX12_low g22 x0 v31) fun v33 g34 => Option.bind (q_fI 12 87 g34 x0) fun v35 => if ¬ v35 = 0 then (jX12_letters_142_0 g34 x0) else (Option.bind (q_fI 12 75 g34 x0) fun v38 => if (v28 + v33) ≤ v38 then (Option.bind (q_lp (fun s => bX12_letters_151 x0 (v13 + v18) (v28 + v33) s.1 s.2) ((0 : Int32), g34)) fun s55 => jX12_letters_186_0 s55 x0) else (jX12_letters_142_0 g34 x0))) else (Option.bind (q_sB 12 87 g22 x0 (1 : Int32)) fun g60 => some (.inr (.inr g60)))) else (Option.bind (q_sB 12 87 g5 x0 (1 : Int32)) fun g63 => some (.inr (.inr g63)))) else (Option.bind (q_ob 12 g5 x0) fun u66 => Option.bind (fX12_putRow g5 x0 v4) fun v67 => some (.inl v67))) else (some (.inr (.inr g5))))
theorem pbX12_letters_0 {d : Nat} {Q : ps_Rs → ps_G → Prop}  {x0 : Nat} {g : ps_G} {x : (ps_G) ⊕ ((ps_G) ⊕ (ps_G))} (h : bX12_letters_0 x0 g = some x) (hh : ∀ s' : ps_G, x = .inl s' → ps_At mX12_letters (d + 2) 0 [(0, .ref x0)] [] s' Q) (he : ∀ r' : ps_G, x = .inr (.inl r') → ps_At mX12_letters (d + 2) 189 [] [] r' Q) (hr : ∀ v' : ps_G, x = .inr (.inr v') → Q (.inl none) v') : ps_At mX12_letters (d + 2) 0 [(0, .ref x0)] [] g Q := by
  unfold bX12_letters_0 at h
  refine sX12_letters_0 ?_
  replace h := q_be h
  obtain ⟨v1, hv, h⟩ := h
  replace hv := q_fI_e hv
  obtain ⟨_, cv1, dv1⟩ := hv
  refine ⟨⟨some _, rfl⟩, _, _, cv1, dv1, ?_⟩
  refine And.intro (fun hc2 => ?_) (fun hc2 => ?_)
  · replace h := q_ifp (hc2) h
    exact ps_weak (he g (Option.some.inj h).symm) trivial
  · replace h := q_ifn (hc2) h
    replace h := q_be h
    obtain ⟨u3, hv, h⟩ := h
    replace hv := q_ob_e hv
    obtain ⟨_, cu3⟩ := hv
    replace h := q_b2_e h
    obtain ⟨v4, g5, hv, h⟩ := h
    refine ⟨⟨some _, rfl⟩, ⟨_, cu3⟩, ?_⟩
    refine rX12_decoded hv ?_
    replace h := q_be h
    obtain ⟨v6, hv, h⟩ := h
    replace hv := q_fI_e hv
    obtain ⟨_, cv6, dv6⟩ := hv
    have kF71 : (some (.inr (.inr g5))) = some x → ps_At mX12_letters (d + 2) 27 [] [] g5 Q := fun h => by
      refine sX12_letters_27 ?_
      exact ⟨rfl, rfl, hr g5 (Option.some.inj h).symm⟩
    refine ⟨by decide, ⟨some _, rfl⟩, _, _, cv6, dv6, ?_⟩
    refine And.intro (fun hc7 => ?_) (fun hc7 => ?_)
    · exact ps_weak (kF71 (q_ifn (fun z => z.1 hc7) h)) trivial
    · refine And.intro (fun hc8 => ?_) (fun hc8 => ?_)
      · replace h := q_ifp (⟨hc7, hc8⟩) h
        refine sX12_letters_28 ?_
        refine And.intro (fun hc9 => ?_) (fun hc9 => ?_)
        · replace h := q_ifp (hc9) h
          refine sX12_letters_43 ?_
          refine And.intro (fun hc10 => ?_) (fun hc10 => ?_)
          · replace h := q_ifp (hc10) h
            refine sX12_letters_56 ?_
            replace h := q_be h
            obtain ⟨v11, hv, h⟩ := h
            replace hv := q_fR_e hv
            obtain ⟨_, cv11, dv11⟩ := hv
            replace h := q_be h
            obtain ⟨a12, ea12, h⟩ := h
            subst ea12
            replace h := q_be h
            obtain ⟨v13, hv, h⟩ := h
            replace hv := q_aI_e hv
            obtain ⟨_, _, cv13, iv13, yv13⟩ := hv
            replace h := q_be h
            obtain ⟨v14, hv, h⟩ := h
            replace hv := q_fR_e hv
            obtain ⟨_, cv14, dv14⟩ := hv
            replace h := q_be h
            obtain ⟨a15, ea15, h⟩ := h
            subst ea15
            replace h := q_be h
            obtain ⟨v16, hv, h⟩ := h
            replace hv := q_aI_e hv
            obtain ⟨_, _, cv16, iv16, yv16⟩ := hv
            replace h := q_be h
            obtain ⟨u17, hv, h⟩ := h
            replace hv := q_ob_e hv
            obtain ⟨_, cu17⟩ := hv
            replace h := q_b2_e h
            obtain ⟨v18, g19, hv, h⟩ := h
            refine ⟨⟨some _, rfl⟩, _, _, cv11, dv11, _, _, cv13, iv13, _, yv13, ⟨some _, rfl⟩, ⟨some _, rfl⟩, _, _, cv14, dv14, _, _, cv16, iv16, _, yv16, ⟨_, cu17⟩, ?_⟩
            refine rX12_low hv ?_
            replace h := q_be h
            obtain ⟨u20, hv, h⟩ := h
            replace hv := q_ob_e hv
            obtain ⟨_, cu20⟩ := hv
            replace h := q_b2_e h
            obtain ⟨v21, g22, hv, h⟩ := h
            refine ⟨by decide, ⟨some _, rfl⟩, ⟨_, cu20⟩, ?_⟩
            refine rX12_decoded hv ?_
            replace h := q_be h
            obtain ⟨v23, hv, h⟩ := h
            replace hv := q_fI_e hv
            obtain ⟨_, cv23, dv23⟩ := hv
            have kF62 : (Option.bind (q_sB 12 87 g22 x0 (1 : Int32)) fun g60 => some (.inr (.inr g60))) = some x → ps_At mX12_letters (d + 2) 101 [(0, .ref x0)] [] g22 Q := fun h => by
              refine sX12_letters_101 ?_
              replace h := q_be h
              obtain ⟨g60, hv, h⟩ := h
              replace hv := q_sB_e hv
              obtain ⟨_, cg60, dg60, ng60, yg60⟩ := hv
              exact ⟨⟨some _, rfl⟩, _, cg60, dg60, ng60.1, ng60.2, _, yg60, rfl, rfl, hr g60 (Option.some.inj h).symm⟩
            refine ⟨by decide, ⟨some _, rfl⟩, _, _, cv23, dv23, ?_⟩
            refine And.intro (fun hc24 => ?_) (fun hc24 => ?_)
            · exact ps_weak (kF62 (q_ifn (fun z => z.1 hc24) h)) ⟨rfl, trivial⟩
            · refine And.intro (fun hc25 => ?_) (fun hc25 => ?_)
              · replace h := q_ifp (⟨hc24, hc25⟩) h
                refine sX12_letters_107 ?_
                replace h := q_be h
                obtain ⟨v26, hv, h⟩ := h
                replace hv := q_fR_e hv
                obtain ⟨_, cv26, dv26⟩ := hv
                replace h := q_be h
                obtain ⟨a27, ea27, h⟩ := h
                subst ea27
                replace h := q_be h
                obtain ⟨v28, hv, h⟩ := h
                replace hv := q_aI_e hv
                obtain ⟨_, _, cv28, iv28, yv28⟩ := hv
                replace h := q_be h
                obtain ⟨v29, hv, h⟩ := h
                replace hv := q_fR_e hv
                obtain ⟨_, cv29, dv29⟩ := hv
                replace h := q_be h
                obtain ⟨a30, ea30, h⟩ := h
                subst ea30
                replace h := q_be h
                obtain ⟨v31, hv, h⟩ := h
                replace hv := q_aI_e hv
                obtain ⟨_, _, cv31, iv31, yv31⟩ := hv
                replace h := q_be h
                obtain ⟨u32, hv, h⟩ := h
                replace hv := q_ob_e hv
                obtain ⟨_, cu32⟩ := hv
                replace h := q_b2_e h
                obtain ⟨v33, g34, hv, h⟩ := h
                refine ⟨⟨some _, rfl⟩, _, _, cv26, dv26, _, _, cv28, iv28, _, yv28, ⟨some _, rfl⟩, ⟨some _, rfl⟩, _, _, cv29, dv29, _, _, cv31, iv31, _, yv31, ⟨_, cu32⟩, ?_⟩
                refine rX12_low hv ?_
                replace h := q_be h
                obtain ⟨v35, hv, h⟩ := h
                replace hv := q_fI_e hv
                obtain ⟨_, cv35, dv35⟩ := hv
                refine ⟨by decide, ⟨some _, rfl⟩, _, _, cv35, dv35, ?_⟩
                refine And.intro (fun hc36 => ?_) (fun hc36 => ?_)
                · replace h := q_ifp (hc36) h
                  exact ps_weak (pjX12_letters_142_0 h hh he hr) ⟨rfl, trivial⟩
                · replace h := q_ifn (hc36) h
                  replace h := q_be h
                  obtain ⟨v38, hv, h⟩ := h
                  replace hv := q_fI_e hv
                  obtain ⟨_, cv38, dv38⟩ := hv
                  refine ⟨⟨some _, rfl⟩, _, _, cv38, dv38, ?_⟩
                  refine And.intro (fun hc39 => ?_) (fun hc39 => ?_)
                  · replace h := q_ifp (hc39) h
                    refine sX12_letters_148 ?_
                    refine ⟨by decide, ?_⟩
                    replace h := q_be h
                    obtain ⟨s55, hl, h⟩ := h
                    refine ps_weak (q_lp_ok hl (fun s => ps_At mX12_letters (d + 2) 151 [(0, .ref x0), (2, .int (v13 + v18)), (4, .int (v28 + v33)), (5, .int s.1)] [] s.2 Q) (fun r => ps_At mX12_letters (d + 2) 186 [(0, .ref x0)] [] r Q) (fun s x hb hh he => pbX12_letters_151 hb hh he) ?_) ⟨rfl, rfl, rfl, rfl, trivial⟩
                    refine (?_ : ps_At mX12_letters (d + 2) 186 [(0, .ref x0)] [] s55 Q)
                    exact ps_weak (pjX12_letters_186_0 h hh he hr) ⟨rfl, trivial⟩
                  · replace h := q_ifn (hc39) h
                    exact ps_weak (pjX12_letters_142_0 h hh he hr) ⟨rfl, trivial⟩
              · exact ps_weak (kF62 (q_ifn (fun z => hc25 z.2) h)) ⟨rfl, trivial⟩
          · replace h := q_ifn (hc10) h
            replace h := q_be h
            obtain ⟨g63, hv, h⟩ := h
            replace hv := q_sB_e hv
            obtain ⟨_, cg63, dg63, ng63, yg63⟩ := hv
            exact ⟨⟨some _, rfl⟩, _, cg63, dg63, ng63.1, ng63.2, _, yg63, rfl, rfl, hr g63 (Option.some.inj h).symm⟩
        · replace h := q_ifn (hc9) h
          replace h := q_be h
          obtain ⟨u66, hv, h⟩ := h
          replace hv := q_ob_e hv
          obtain ⟨_, cu66⟩ := hv
          replace h := q_be h
          obtain ⟨v67, hv, h⟩ := h
          refine ⟨⟨some _, rfl⟩, ⟨_, cu66⟩, ?_⟩
          refine rX12_putRow hv ?_
          exact ps_weak (hh v67 (Option.some.inj h).symm) ⟨rfl, trivial⟩
      · exact ps_weak (kF71 (q_ifn (fun z => hc8 z.2) h)) trivial
noncomputable def fX12_letters (g : ps_G) (x0 : Nat) : Option (ps_G) := Option.bind (q_lp (fun s => bX12_letters_0 x0 s) g) fun s74 => Sum.elim (fun r75 => some r75) (fun v76 => some v76) s74
theorem rX12_letters {d : Nat} {Q : ps_Rs → ps_G → Prop} {g : ps_G} {x0 : Nat} {r : ps_G} (h : fX12_letters g x0 = some r) (hk : Q (.inl none) r) : ps_Ok mX12_letters (d + 2) [.ref x0] g Q := by
  unfold fX12_letters at h
  replace h := q_be h
  obtain ⟨s74, hl, h⟩ := h
  refine ps_weak (q_lp_ok hl (fun s => ps_At mX12_letters (d + 2) 0 [(0, .ref x0)] [] s Q) (Sum.elim (fun r => ps_At mX12_letters (d + 2) 189 [] [] r Q) (fun v => Q (.inl none) v)) (fun s x hb hh he => pbX12_letters_0 hb hh (fun _ e => he _ e) (fun _ e => he _ e)) ?_) ⟨rfl, trivial⟩
  rcases s74 with r75 | v76
  · refine (?_ : ps_At mX12_letters (d + 2) 189 [] [] r75 Q)
    refine sX12_letters_189 ?_
    cases h
    exact ⟨rfl, rfl, hk⟩
  · cases h
    exact hk
noncomputable def jX12_inflate_159_76 (g : ps_G) (x0 : Nat) (x1 : Int32) : Option ((Int32 × ps_G) ⊕ ((ps_G) ⊕ (ps_G))) := some (.inl (x1, g))
theorem pjX12_inflate_159_76 {d : Nat} {Q : ps_Rs → ps_G → Prop} {g : ps_G} {x0 : Nat} {x1 : Int32} {x : (Int32 × ps_G) ⊕ ((ps_G) ⊕ (ps_G))} (h : jX12_inflate_159_76 g x0 x1 = some x) (hh : ∀ s' : Int32 × ps_G, x = .inl s' → ps_At mX12_inflate (d + 3) 76 [(0, .ref x0), (1, .int s'.1)] [] s'.2 Q) (he : ∀ r' : ps_G, x = .inr (.inl r') → ps_At mX12_inflate (d + 3) 162 [(0, .ref x0)] [] r' Q) (hr : ∀ v' : ps_G, x = .inr (.inr v') → Q (.inl none) v') : ps_At mX12_inflate (d + 3) 159 [(0, .ref x0), (1, .int x1)] [] g Q := by
  unfold jX12_inflate_159_76 at h
  refine sX12_inflate_159 ?_
  exact ps_weak (hh (x1, g) (Option.some.inj h).symm) ⟨rfl, rfl, trivial⟩
noncomputable def jX12_inflate_155_76 (g : ps_G) (x0 : Nat) (x1 : Int32) : Option ((Int32 × ps_G) ⊕ ((ps_G) ⊕ (ps_G))) := Option.bind (q_ob 12 g x0) fun u31 => Option.bind (fX12_letters g x0) fun v32 => jX12_inflate_159_76 v32 x0 x1
theorem pjX12_inflate_155_76 {d : Nat} {Q : ps_Rs → ps_G → Prop} {g : ps_G} {x0 : Nat} {x1 : Int32} {x : (Int32 × ps_G) ⊕ ((ps_G) ⊕ (ps_G))} (h : jX12_inflate_155_76 g x0 x1 = some x) (hh : ∀ s' : Int32 × ps_G, x = .inl s' → ps_At mX12_inflate (d + 3) 76 [(0, .ref x0), (1, .int s'.1)] [] s'.2 Q) (he : ∀ r' : ps_G, x = .inr (.inl r') → ps_At mX12_inflate (d + 3) 162 [(0, .ref x0)] [] r' Q) (hr : ∀ v' : ps_G, x = .inr (.inr v') → Q (.inl none) v') : ps_At mX12_inflate (d + 3) 155 [(0, .ref x0), (1, .int x1)] [] g Q := by
  unfold jX12_inflate_155_76 at h
  refine sX12_inflate_155 ?_
  replace h := q_be h
  obtain ⟨u31, hv, h⟩ := h
  replace hv := q_ob_e hv
  obtain ⟨_, cu31⟩ := hv
  replace h := q_be h
  obtain ⟨v32, hv, h⟩ := h
  refine ⟨⟨some _, rfl⟩, ⟨_, cu31⟩, ?_⟩
  refine rX12_letters hv ?_
  exact ps_weak (pjX12_inflate_159_76 h hh he hr) ⟨rfl, rfl, trivial⟩
noncomputable def bX12_inflate_76 (x0 : Nat) (x1 : Int32) (g : ps_G) : Option ((Int32 × ps_G) ⊕ ((ps_G) ⊕ (ps_G))) := Option.bind (q_fI 12 87 g x0) fun v6 => if (¬ v6 = 0) ∨ (¬ x1 = 0) then (some (.inr (.inl g))) else (Option.bind (q_ob 12 g x0) fun u9 => q_b2 (fX12_bit g x0) fun v10 g11 => Option.bind (q_ob 12 g11 x0) fun u15 => q_b2 (fX12_low g11 x0 (2 : Int32)) fun v16 g17 => Option.bind (q_fI 12 87 g17 x0) fun v18 => if v18 = 0 then (if ¬ v16 = 0 then (if ¬ v16 = (3 : Int32) then (if ¬ v16 = (1 : Int32) then (Option.bind (q_ob 12 g17 x0) fun u29 => Option.bind (fX12_ownCodes g17 x0) fun v30 => jX12_inflate_155_76 v30 x0 (if ¬ v10 = (1 : Int32) then (0 : Int32) else (1 : Int32))) else (Option.bind (q_ob 12 g17 x0) fun u33 => Option.bind (fX12_fixedCodes g17 x0) fun v34 => jX12_inflate_155_76 v34 x0 (if ¬ v10 = (1 : Int32) then (0 : Int32) else (1 : Int32)))) else (Option.bind (q_sB 12 87 g17 x0 (1 : Int32)) fun g37 => jX12_inflate_159_76 g37 x0 (if ¬ v10 = (1 : Int32) then (0 : Int32) else (1 : Int32)))) else (Option.bind (q_ob 12 g17 x0) fun u40 => Option.bind (fX12_stored g17 x0) fun v41 => jX12_inflate_159_76 v41 x0 (if ¬ v10 = (1 : Int32) then (0 : Int32) else (1 : Int32)))) else (some (.inr (.inr g17))))
theorem pbX12_inflate_76 {d : Nat} {Q : ps_Rs → ps_G → Prop}  {x0 : Nat} {x1 : Int32} {g : ps_G} {x : (Int32 × ps_G) ⊕ ((ps_G) ⊕ (ps_G))} (h : bX12_inflate_76 x0 x1 g = some x) (hh : ∀ s' : Int32 × ps_G, x = .inl s' → ps_At mX12_inflate (d + 3) 76 [(0, .ref x0), (1, .int s'.1)] [] s'.2 Q) (he : ∀ r' : ps_G, x = .inr (.inl r') → ps_At mX12_inflate (d + 3) 162 [(0, .ref x0)] [] r' Q) (hr : ∀ v' : ps_G, x = .inr (.inr v') → Q (.inl none) v') : ps_At mX12_inflate (d + 3) 76 [(0, .ref x0), (1, .int x1)] [] g Q := by
  unfold bX12_inflate_76 at h
  refine sX12_inflate_76 ?_
  replace h := q_be h
  obtain ⟨v6, hv, h⟩ := h
  replace hv := q_fI_e hv
  obtain ⟨_, cv6, dv6⟩ := hv
  have kT46 : (some (.inr (.inl g))) = some x → ps_At mX12_inflate (d + 3) 162 [(0, .ref x0)] [] g Q := fun h => by
    exact ps_weak (he g (Option.some.inj h).symm) ⟨rfl, trivial⟩
  refine ⟨⟨some _, rfl⟩, _, _, cv6, dv6, ?_⟩
  refine And.intro (fun hc7 => ?_) (fun hc7 => ?_)
  · exact ps_weak (kT46 (q_ifp (Or.inl hc7) h)) ⟨rfl, trivial⟩
  · refine And.intro (fun hc8 => ?_) (fun hc8 => ?_)
    · exact ps_weak (kT46 (q_ifp (Or.inr (hc8)) h)) ⟨rfl, trivial⟩
    · replace h := q_ifn (not_or.mpr ⟨hc7, hc8⟩) h
      replace h := q_be h
      obtain ⟨u9, hv, h⟩ := h
      replace hv := q_ob_e hv
      obtain ⟨_, cu9⟩ := hv
      replace h := q_b2_e h
      obtain ⟨v10, g11, hv, h⟩ := h
      refine ⟨⟨some _, rfl⟩, ⟨_, cu9⟩, ?_⟩
      refine rX12_bit hv ?_
      have kJ14 : ∀ w13 : Int32, w13 = (if ¬ v10 = (1 : Int32) then (0 : Int32) else (1 : Int32)) → ps_At mX12_inflate (d + 3) 100 [(0, .ref x0)] [.int w13] g11 Q := by
        rintro _ rfl
        refine sX12_inflate_100 ?_
        replace h := q_be h
        obtain ⟨u15, hv, h⟩ := h
        replace hv := q_ob_e hv
        obtain ⟨_, cu15⟩ := hv
        replace h := q_b2_e h
        obtain ⟨v16, g17, hv, h⟩ := h
        refine ⟨by decide, ⟨some _, rfl⟩, ⟨_, cu15⟩, ?_⟩
        refine rX12_low hv ?_
        replace h := q_be h
        obtain ⟨v18, hv, h⟩ := h
        replace hv := q_fI_e hv
        obtain ⟨_, cv18, dv18⟩ := hv
        refine ⟨by decide, ⟨some _, rfl⟩, _, _, cv18, dv18, ?_⟩
        refine And.intro (fun hc19 => ?_) (fun hc19 => ?_)
        · replace h := q_ifp (hc19) h
          refine sX12_inflate_115 ?_
          refine And.intro (fun hc20 => ?_) (fun hc20 => ?_)
          · replace h := q_ifp (hc20) h
            refine sX12_inflate_126 ?_
            refine And.intro (fun hc24 => ?_) (fun hc24 => ?_)
            · replace h := q_ifp (hc24) h
              refine sX12_inflate_139 ?_
              refine And.intro (fun hc27 => ?_) (fun hc27 => ?_)
              · replace h := q_ifp (hc27) h
                refine sX12_inflate_151 ?_
                replace h := q_be h
                obtain ⟨u29, hv, h⟩ := h
                replace hv := q_ob_e hv
                obtain ⟨_, cu29⟩ := hv
                replace h := q_be h
                obtain ⟨v30, hv, h⟩ := h
                refine ⟨⟨some _, rfl⟩, ⟨_, cu29⟩, ?_⟩
                refine rX12_ownCodes hv ?_
                exact ps_weak (pjX12_inflate_155_76 h hh he hr) ⟨rfl, rfl, trivial⟩
              · replace h := q_ifn (hc27) h
                replace h := q_be h
                obtain ⟨u33, hv, h⟩ := h
                replace hv := q_ob_e hv
                obtain ⟨_, cu33⟩ := hv
                replace h := q_be h
                obtain ⟨v34, hv, h⟩ := h
                refine ⟨⟨some _, rfl⟩, ⟨_, cu33⟩, ?_⟩
                refine rX12_fixedCodes hv ?_
                exact ps_weak (pjX12_inflate_155_76 h hh he hr) ⟨rfl, rfl, trivial⟩
            · replace h := q_ifn (hc24) h
              replace h := q_be h
              obtain ⟨g37, hv, h⟩ := h
              replace hv := q_sB_e hv
              obtain ⟨_, cg37, dg37, ng37, yg37⟩ := hv
              refine ⟨⟨some _, rfl⟩, _, cg37, dg37, ng37.1, ng37.2, _, yg37, ?_⟩
              exact ps_weak (pjX12_inflate_159_76 h hh he hr) ⟨rfl, rfl, trivial⟩
          · replace h := q_ifn (hc20) h
            replace h := q_be h
            obtain ⟨u40, hv, h⟩ := h
            replace hv := q_ob_e hv
            obtain ⟨_, cu40⟩ := hv
            replace h := q_be h
            obtain ⟨v41, hv, h⟩ := h
            refine ⟨⟨some _, rfl⟩, ⟨_, cu40⟩, ?_⟩
            refine rX12_stored hv ?_
            exact ps_weak (pjX12_inflate_159_76 h hh he hr) ⟨rfl, rfl, trivial⟩
        · replace h := q_ifn (hc19) h
          exact ⟨rfl, rfl, hr g17 (Option.some.inj h).symm⟩
      refine And.intro (fun hc12 => ?_) (fun hc12 => ?_)
      · refine sX12_inflate_99 ?_
        exact ps_weak (kJ14 _ (if_pos (hc12)).symm) ⟨rfl, trivial⟩
      · exact ps_weak (kJ14 _ (if_neg (hc12)).symm) ⟨rfl, trivial⟩
noncomputable def bX12_inflate_170 (x0 : Nat) (g : ps_G) : Option ((ps_G) ⊕ (ps_G)) := Option.bind (q_fI 12 88 g x0) fun v52 => if (q_rem v52 (8 : Int32)) = 0 then (some (.inr g)) else (Option.bind (q_fI 12 88 g x0) fun v55 => Option.bind (q_sI 12 88 g x0 (v55 + (1 : Int32))) fun g56 => some (.inl g56))
theorem pbX12_inflate_170 {d : Nat} {Q : ps_Rs → ps_G → Prop}  {x0 : Nat} {g : ps_G} {x : (ps_G) ⊕ (ps_G)} (h : bX12_inflate_170 x0 g = some x) (hh : ∀ s' : ps_G, x = .inl s' → ps_At mX12_inflate (d + 3) 170 [(0, .ref x0)] [] s' Q) (he : ∀ r' : ps_G, x = .inr r' → ps_At mX12_inflate (d + 3) 193 [(0, .ref x0)] [] r' Q) : ps_At mX12_inflate (d + 3) 170 [(0, .ref x0)] [] g Q := by
  unfold bX12_inflate_170 at h
  refine sX12_inflate_170 ?_
  replace h := q_be h
  obtain ⟨v52, hv, h⟩ := h
  replace hv := q_fI_e hv
  obtain ⟨_, cv52, dv52⟩ := hv
  refine ⟨⟨some _, rfl⟩, _, _, cv52, dv52, by decide, _, rfl, ?_⟩
  refine And.intro (fun hc53 => ?_) (fun hc53 => ?_)
  · replace h := q_ifp (hc53) h
    exact ps_weak (he g (Option.some.inj h).symm) ⟨rfl, trivial⟩
  · replace h := q_ifn (hc53) h
    replace h := q_be h
    obtain ⟨v55, hv, h⟩ := h
    replace hv := q_fI_e hv
    obtain ⟨_, cv55, dv55⟩ := hv
    replace h := q_be h
    obtain ⟨g56, hv, h⟩ := h
    replace hv := q_sI_e hv
    obtain ⟨_, cg56, dg56, yg56⟩ := hv
    refine ⟨⟨some _, rfl⟩, rfl, _, _, cv55, dv55, _, cg56, dg56, rfl, rfl, _, yg56, ?_⟩
    exact ps_weak (hh g56 (Option.some.inj h).symm) ⟨rfl, trivial⟩
noncomputable def jX12_inflate_222 (g : ps_G) (x0 : Nat) : Option (ps_G) := Option.bind (q_sB 12 87 g x0 (1 : Int32)) fun g64 => some g64
theorem pjX12_inflate_222 {d : Nat} {Q : ps_Rs → ps_G → Prop} {g : ps_G} {x0 : Nat} {r : ps_G} (h : jX12_inflate_222 g x0 = some r) (hk : Q (.inl none) r) : ps_At mX12_inflate (d + 3) 222 [(0, .ref x0)] [] g Q := by
  unfold jX12_inflate_222 at h
  refine sX12_inflate_222 ?_
  replace h := q_be h
  obtain ⟨g64, hv, h⟩ := h
  replace hv := q_sB_e hv
  obtain ⟨_, cg64, dg64, ng64, yg64⟩ := hv
  cases h
  exact ⟨⟨some _, rfl⟩, _, cg64, dg64, ng64.1, ng64.2, _, yg64, rfl, rfl, hk⟩
noncomputable def jX12_inflate_284 (g : ps_G) : Option (ps_G) := some g
theorem pjX12_inflate_284 {d : Nat} {Q : ps_Rs → ps_G → Prop} {g : ps_G}  {r : ps_G} (h : jX12_inflate_284 g = some r) (hk : Q (.inl none) r) : ps_At mX12_inflate (d + 3) 284 [] [] g Q := by
  unfold jX12_inflate_284 at h
  refine sX12_inflate_284 ?_
  cases h
  exact ⟨rfl, rfl, hk⟩
noncomputable def jX12_inflate_162 (g : ps_G) (x0 : Nat) : Option (ps_G) := Option.bind (q_fI 12 87 g x0) fun v50 => if v50 = 0 then (Option.bind (q_lp (fun s => bX12_inflate_170 x0 s) g) fun s59 => Option.bind (q_fI 12 88 s59 x0) fun v60 => Option.bind (q_fI 12 75 s59 x0) fun v61 => Option.bind (q_fI 12 89 s59 x0) fun v62 => if ¬ v61 = v62 then (jX12_inflate_222 s59 x0) else (Option.bind (q_fI 12 79 s59 x0) fun v65 => if v65 = ((v60 / (8 : Int32)) + (4 : Int32)) then (Option.bind (q_fR 12 78 s59 x0) fun v67 => Option.bind (v67) fun a68 => Option.bind (q_aI s59 a68 (v60 / (8 : Int32))) fun v69 => Option.bind (q_fR 12 78 s59 x0) fun v70 => Option.bind (v70) fun a71 => Option.bind (q_aI s59 a71 ((v60 / (8 : Int32)) + (1 : Int32))) fun v72 => Option.bind (q_fR 12 78 s59 x0) fun v73 => Option.bind (v73) fun a74 => Option.bind (q_aI s59 a74 ((v60 / (8 : Int32)) + (2 : Int32))) fun v75 => Option.bind (q_fR 12 78 s59 x0) fun v76 => Option.bind (v76) fun a77 => Option.bind (q_aI s59 a77 ((v60 / (8 : Int32)) + (3 : Int32))) fun v78 => Option.bind (q_ob 12 s59 x0) fun u79 => Option.bind (fX12_sumOfRows s59 x0) fun v80 => if ((((q_shl v69 (24 : Int32)) ||| (q_shl v72 (16 : Int32))) ||| (q_shl v75 (8 : Int32))) ||| v78) = v80 then (jX12_inflate_284 s59) else (Option.bind (q_sB 12 87 s59 x0 (1 : Int32)) fun g83 => jX12_inflate_284 g83)) else (jX12_inflate_222 s59 x0))) else (some g)
theorem pjX12_inflate_162 {d : Nat} {Q : ps_Rs → ps_G → Prop} {g : ps_G} {x0 : Nat} {r : ps_G} (h : jX12_inflate_162 g x0 = some r) (hk : Q (.inl none) r) : ps_At mX12_inflate (d + 3) 162 [(0, .ref x0)] [] g Q := by
  unfold jX12_inflate_162 at h
  refine sX12_inflate_162 ?_
  replace h := q_be h
  obtain ⟨v50, hv, h⟩ := h
  replace hv := q_fI_e hv
  obtain ⟨_, cv50, dv50⟩ := hv
  refine ⟨⟨some _, rfl⟩, _, _, cv50, dv50, ?_⟩
  refine And.intro (fun hc51 => ?_) (fun hc51 => ?_)
  · replace h := q_ifp (hc51) h
    replace h := q_be h
    obtain ⟨s59, hl, h⟩ := h
    refine ps_weak (q_lp_ok hl (fun s => ps_At mX12_inflate (d + 3) 170 [(0, .ref x0)] [] s Q) (fun r => ps_At mX12_inflate (d + 3) 193 [(0, .ref x0)] [] r Q) (fun s x hb hh he => pbX12_inflate_170 hb hh he) ?_) ⟨rfl, trivial⟩
    refine (?_ : ps_At mX12_inflate (d + 3) 193 [(0, .ref x0)] [] s59 Q)
    refine sX12_inflate_193 ?_
    replace h := q_be h
    obtain ⟨v60, hv, h⟩ := h
    replace hv := q_fI_e hv
    obtain ⟨_, cv60, dv60⟩ := hv
    replace h := q_be h
    obtain ⟨v61, hv, h⟩ := h
    replace hv := q_fI_e hv
    obtain ⟨_, cv61, dv61⟩ := hv
    replace h := q_be h
    obtain ⟨v62, hv, h⟩ := h
    replace hv := q_fI_e hv
    obtain ⟨_, cv62, dv62⟩ := hv
    refine ⟨⟨some _, rfl⟩, _, _, cv60, dv60, by decide, _, rfl, by decide, ⟨some _, rfl⟩, _, _, cv61, dv61, ⟨some _, rfl⟩, _, _, cv62, dv62, ?_⟩
    refine And.intro (fun hc63 => ?_) (fun hc63 => ?_)
    · replace h := q_ifp (hc63) h
      exact ps_weak (pjX12_inflate_222 h hk) ⟨rfl, trivial⟩
    · replace h := q_ifn (hc63) h
      replace h := q_be h
      obtain ⟨v65, hv, h⟩ := h
      replace hv := q_fI_e hv
      obtain ⟨_, cv65, dv65⟩ := hv
      refine ⟨⟨some _, rfl⟩, _, _, cv65, dv65, ?_⟩
      refine And.intro (fun hc66 => ?_) (fun hc66 => ?_)
      · replace h := q_ifp (hc66) h
        refine sX12_inflate_228 ?_
        replace h := q_be h
        obtain ⟨v67, hv, h⟩ := h
        replace hv := q_fR_e hv
        obtain ⟨_, cv67, dv67⟩ := hv
        replace h := q_be h
        obtain ⟨a68, ea68, h⟩ := h
        subst ea68
        replace h := q_be h
        obtain ⟨v69, hv, h⟩ := h
        replace hv := q_aI_e hv
        obtain ⟨_, _, cv69, iv69, yv69⟩ := hv
        replace h := q_be h
        obtain ⟨v70, hv, h⟩ := h
        replace hv := q_fR_e hv
        obtain ⟨_, cv70, dv70⟩ := hv
        replace h := q_be h
        obtain ⟨a71, ea71, h⟩ := h
        subst ea71
        replace h := q_be h
        obtain ⟨v72, hv, h⟩ := h
        replace hv := q_aI_e hv
        obtain ⟨_, _, cv72, iv72, yv72⟩ := hv
        replace h := q_be h
        obtain ⟨v73, hv, h⟩ := h
        replace hv := q_fR_e hv
        obtain ⟨_, cv73, dv73⟩ := hv
        replace h := q_be h
        obtain ⟨a74, ea74, h⟩ := h
        subst ea74
        replace h := q_be h
        obtain ⟨v75, hv, h⟩ := h
        replace hv := q_aI_e hv
        obtain ⟨_, _, cv75, iv75, yv75⟩ := hv
        replace h := q_be h
        obtain ⟨v76, hv, h⟩ := h
        replace hv := q_fR_e hv
        obtain ⟨_, cv76, dv76⟩ := hv
        replace h := q_be h
        obtain ⟨a77, ea77, h⟩ := h
        subst ea77
        replace h := q_be h
        obtain ⟨v78, hv, h⟩ := h
        replace hv := q_aI_e hv
        obtain ⟨_, _, cv78, iv78, yv78⟩ := hv
        refine ⟨⟨some _, rfl⟩, _, _, cv67, dv67, _, _, cv69, iv69, _, yv69, ⟨some _, rfl⟩, _, _, cv70, dv70, _, _, cv72, iv72, _, yv72, ⟨some _, rfl⟩, _, _, cv73, dv73, _, _, cv75, iv75, _, yv75, ⟨some _, rfl⟩, _, _, cv76, dv76, _, _, cv78, iv78, _, yv78, ?_⟩
        replace h := q_be h
        obtain ⟨u79, hv, h⟩ := h
        replace hv := q_ob_e hv
        obtain ⟨_, cu79⟩ := hv
        replace h := q_be h
        obtain ⟨v80, hv, h⟩ := h
        refine ⟨by decide, ⟨some _, rfl⟩, ⟨_, cu79⟩, ?_⟩
        refine rX12_sumOfRows hv ?_
        refine And.intro (fun hc81 => ?_) (fun hc81 => ?_)
        · replace h := q_ifp (hc81) h
          exact ps_weak (pjX12_inflate_284 h hk) trivial
        · replace h := q_ifn (hc81) h
          replace h := q_be h
          obtain ⟨g83, hv, h⟩ := h
          replace hv := q_sB_e hv
          obtain ⟨_, cg83, dg83, ng83, yg83⟩ := hv
          refine ⟨⟨some _, rfl⟩, _, cg83, dg83, ng83.1, ng83.2, _, yg83, ?_⟩
          exact ps_weak (pjX12_inflate_284 h hk) trivial
      · replace h := q_ifn (hc66) h
        exact ps_weak (pjX12_inflate_222 h hk) ⟨rfl, trivial⟩
  · replace h := q_ifn (hc51) h
    cases h
    exact ⟨rfl, rfl, hk⟩
noncomputable def jX12_inflate_60 (g : ps_G) (x0 : Nat) (k0 : Nat) (k1 : Int32) : Option (ps_G) := Option.bind (q_sB 12 87 g k0 k1) fun g3 => Option.bind (q_sI 12 88 g3 x0 (16 : Int32)) fun g4 => Option.bind (q_sI 12 75 g4 x0 (0 : Int32)) fun g5 => Option.bind (q_lp (fun s => bX12_inflate_76 x0 s.1 s.2) ((0 : Int32), g5)) fun s48 => Sum.elim (fun r49 => jX12_inflate_162 r49 x0) (fun v92 => some v92) s48
theorem pjX12_inflate_60 {d : Nat} {Q : ps_Rs → ps_G → Prop} {g : ps_G} {x0 : Nat} {k0 : Nat} {k1 : Int32} {r : ps_G} (h : jX12_inflate_60 g x0 k0 k1 = some r) (hk : Q (.inl none) r) : ps_At mX12_inflate (d + 3) 60 [(0, .ref x0)] [.int k1, .ref k0] g Q := by
  unfold jX12_inflate_60 at h
  refine sX12_inflate_60 ?_
  replace h := q_be h
  obtain ⟨g3, hv, h⟩ := h
  replace hv := q_sB_e hv
  obtain ⟨_, cg3, dg3, ng3, yg3⟩ := hv
  replace h := q_be h
  obtain ⟨g4, hv, h⟩ := h
  replace hv := q_sI_e hv
  obtain ⟨_, cg4, dg4, yg4⟩ := hv
  replace h := q_be h
  obtain ⟨g5, hv, h⟩ := h
  replace hv := q_sI_e hv
  obtain ⟨_, cg5, dg5, yg5⟩ := hv
  refine ⟨_, cg3, dg3, ng3.1, ng3.2, _, yg3, ⟨some _, rfl⟩, _, cg4, dg4, rfl, rfl, _, yg4, ⟨some _, rfl⟩, _, cg5, dg5, rfl, rfl, _, yg5, by decide, ?_⟩
  replace h := q_be h
  obtain ⟨s48, hl, h⟩ := h
  refine ps_weak (q_lp_ok hl (fun s => ps_At mX12_inflate (d + 3) 76 [(0, .ref x0), (1, .int s.1)] [] s.2 Q) (Sum.elim (fun r => ps_At mX12_inflate (d + 3) 162 [(0, .ref x0)] [] r Q) (fun v => Q (.inl none) v)) (fun s x hb hh he => pbX12_inflate_76 hb hh (fun _ e => he _ e) (fun _ e => he _ e)) ?_) ⟨rfl, rfl, trivial⟩
  rcases s48 with r49 | v92
  · refine (?_ : ps_At mX12_inflate (d + 3) 162 [(0, .ref x0)] [] r49 Q)
    exact ps_weak (pjX12_inflate_162 h hk) ⟨rfl, trivial⟩
  · cases h
    exact hk
noncomputable def jX12_inflate_55 (g : ps_G) (x0 : Nat) (k0 : Nat) : Option (ps_G) := jX12_inflate_60 g x0 k0 (1 : Int32)
theorem pjX12_inflate_55 {d : Nat} {Q : ps_Rs → ps_G → Prop} {g : ps_G} {x0 : Nat} {k0 : Nat} {r : ps_G} (h : jX12_inflate_55 g x0 k0 = some r) (hk : Q (.inl none) r) : ps_At mX12_inflate (d + 3) 55 [(0, .ref x0)] [.ref k0] g Q := by
  unfold jX12_inflate_55 at h
  refine sX12_inflate_55 ?_
  exact ps_weak (pjX12_inflate_60 h hk) ⟨rfl, trivial⟩
noncomputable def fX12_inflate (g : ps_G) (x0 : Nat) : Option (ps_G) := Option.bind (q_fI 12 79 g x0) fun v1 => if v1 < (2 : Int32) then (jX12_inflate_55 g x0 x0) else (Option.bind (q_fR 12 78 g x0) fun v93 => Option.bind (v93) fun a94 => Option.bind (q_aI g a94 (0 : Int32)) fun v95 => if ¬ v95 = (120 : Int32) then (jX12_inflate_55 g x0 x0) else (Option.bind (q_fR 12 78 g x0) fun v97 => Option.bind (v97) fun a98 => Option.bind (q_aI g a98 (0 : Int32)) fun v99 => Option.bind (q_fR 12 78 g x0) fun v100 => Option.bind (v100) fun a101 => Option.bind (q_aI g a101 (1 : Int32)) fun v102 => if ¬ (q_rem (((256 : Int32) * v99) + v102) (31 : Int32)) = 0 then (jX12_inflate_55 g x0 x0) else (Option.bind (q_fR 12 78 g x0) fun v104 => Option.bind (v104) fun a105 => Option.bind (q_aI g a105 (1 : Int32)) fun v106 => if (v106 &&& (32 : Int32)) = 0 then (jX12_inflate_60 g x0 x0 (0 : Int32)) else (jX12_inflate_55 g x0 x0))))
theorem rX12_inflate {d : Nat} {Q : ps_Rs → ps_G → Prop} {g : ps_G} {x0 : Nat} {r : ps_G} (h : fX12_inflate g x0 = some r) (hk : Q (.inl none) r) : ps_Ok mX12_inflate (d + 3) [.ref x0] g Q := by
  unfold fX12_inflate at h
  refine sX12_inflate_0 ?_
  replace h := q_be h
  obtain ⟨v1, hv, h⟩ := h
  replace hv := q_fI_e hv
  obtain ⟨_, cv1, dv1⟩ := hv
  refine ⟨⟨some _, rfl⟩, ⟨some _, rfl⟩, _, _, cv1, dv1, ?_⟩
  refine And.intro (fun hc2 => ?_) (fun hc2 => ?_)
  · replace h := q_ifp (hc2) h
    exact ps_weak (pjX12_inflate_55 h hk) ⟨rfl, trivial⟩
  · replace h := q_ifn (hc2) h
    replace h := q_be h
    obtain ⟨v93, hv, h⟩ := h
    replace hv := q_fR_e hv
    obtain ⟨_, cv93, dv93⟩ := hv
    replace h := q_be h
    obtain ⟨a94, ea94, h⟩ := h
    subst ea94
    replace h := q_be h
    obtain ⟨v95, hv, h⟩ := h
    replace hv := q_aI_e hv
    obtain ⟨_, _, cv95, iv95, yv95⟩ := hv
    refine ⟨⟨some _, rfl⟩, _, _, cv93, dv93, _, _, cv95, iv95, _, yv95, ?_⟩
    refine And.intro (fun hc96 => ?_) (fun hc96 => ?_)
    · replace h := q_ifp (hc96) h
      exact ps_weak (pjX12_inflate_55 h hk) ⟨rfl, trivial⟩
    · replace h := q_ifn (hc96) h
      replace h := q_be h
      obtain ⟨v97, hv, h⟩ := h
      replace hv := q_fR_e hv
      obtain ⟨_, cv97, dv97⟩ := hv
      replace h := q_be h
      obtain ⟨a98, ea98, h⟩ := h
      subst ea98
      replace h := q_be h
      obtain ⟨v99, hv, h⟩ := h
      replace hv := q_aI_e hv
      obtain ⟨_, _, cv99, iv99, yv99⟩ := hv
      replace h := q_be h
      obtain ⟨v100, hv, h⟩ := h
      replace hv := q_fR_e hv
      obtain ⟨_, cv100, dv100⟩ := hv
      replace h := q_be h
      obtain ⟨a101, ea101, h⟩ := h
      subst ea101
      replace h := q_be h
      obtain ⟨v102, hv, h⟩ := h
      replace hv := q_aI_e hv
      obtain ⟨_, _, cv102, iv102, yv102⟩ := hv
      refine ⟨⟨some _, rfl⟩, _, _, cv97, dv97, _, _, cv99, iv99, _, yv99, ⟨some _, rfl⟩, _, _, cv100, dv100, _, _, cv102, iv102, _, yv102, by decide, _, rfl, ?_⟩
      refine And.intro (fun hc103 => ?_) (fun hc103 => ?_)
      · replace h := q_ifp (hc103) h
        exact ps_weak (pjX12_inflate_55 h hk) ⟨rfl, trivial⟩
      · replace h := q_ifn (hc103) h
        replace h := q_be h
        obtain ⟨v104, hv, h⟩ := h
        replace hv := q_fR_e hv
        obtain ⟨_, cv104, dv104⟩ := hv
        replace h := q_be h
        obtain ⟨a105, ea105, h⟩ := h
        subst ea105
        replace h := q_be h
        obtain ⟨v106, hv, h⟩ := h
        replace hv := q_aI_e hv
        obtain ⟨_, _, cv106, iv106, yv106⟩ := hv
        refine ⟨⟨some _, rfl⟩, _, _, cv104, dv104, _, _, cv106, iv106, _, yv106, ?_⟩
        refine And.intro (fun hc107 => ?_) (fun hc107 => ?_)
        · replace h := q_ifp (hc107) h
          refine sX12_inflate_59 ?_
          exact ps_weak (pjX12_inflate_60 h hk) ⟨rfl, trivial⟩
        · replace h := q_ifn (hc107) h
          exact ps_weak (pjX12_inflate_55 h hk) ⟨rfl, trivial⟩
noncomputable def jX12_rowByte_34 (g : ps_G) (k0 : Int32) : Option (Int32) := some k0
theorem pjX12_rowByte_34 {d : Nat} {Q : ps_Rs → ps_G → Prop} {g : ps_G} {k0 : Int32} {r : Int32} (h : jX12_rowByte_34 g k0 = some r) (hk : Q (.inl (some (.int r))) g) : ps_At mX12_rowByte d 34 [] [.int k0] g Q := by
  unfold jX12_rowByte_34 at h
  refine sX12_rowByte_34 ?_
  cases h
  exact ⟨rfl, hk⟩
noncomputable def fX12_rowByte (g : ps_G) (x0 : Nat) (x1 : Int32) (x2 : Int32) : Option (Int32) := if ¬ (x1 < 0) ∧ (0 ≤ x2) then (Option.bind (q_fR 12 74 g x0) fun v4 => Option.bind (v4) fun a5 => Option.bind (q_fI 12 93 g x0) fun v6 => Option.bind (q_fI 12 83 g x0) fun v7 => Option.bind (q_aI g a5 (((((1 : Int32) + (v6 * v7)) * x1) + (1 : Int32)) + x2)) fun v8 => jX12_rowByte_34 g v8) else (jX12_rowByte_34 g (0 : Int32))
theorem rX12_rowByte {d : Nat} {Q : ps_Rs → ps_G → Prop} {g : ps_G} {x0 : Nat} {x1 : Int32} {x2 : Int32} {r : Int32} (h : fX12_rowByte g x0 x1 x2 = some r) (hk : Q (.inl (some (.int r))) g) : ps_Ok mX12_rowByte d [.ref x0, .int x1, .int x2] g Q := by
  unfold fX12_rowByte at h
  refine sX12_rowByte_0 ?_
  have kF10 : (jX12_rowByte_34 g (0 : Int32)) = some r → ps_At mX12_rowByte d 8 [] [] g Q := fun h => by
    refine sX12_rowByte_8 ?_
    exact ps_weak (pjX12_rowByte_34 h hk) trivial
  refine And.intro (fun hc1 => ?_) (fun hc1 => ?_)
  · exact ps_weak (kF10 (q_ifn (fun z => z.1 hc1) h)) trivial
  · refine And.intro (fun hc2 => ?_) (fun hc2 => ?_)
    · replace h := q_ifp (⟨hc1, hc2⟩) h
      refine sX12_rowByte_12 ?_
      replace h := q_be h
      obtain ⟨v4, hv, h⟩ := h
      replace hv := q_fR_e hv
      obtain ⟨_, cv4, dv4⟩ := hv
      replace h := q_be h
      obtain ⟨a5, ea5, h⟩ := h
      subst ea5
      replace h := q_be h
      obtain ⟨v6, hv, h⟩ := h
      replace hv := q_fI_e hv
      obtain ⟨_, cv6, dv6⟩ := hv
      replace h := q_be h
      obtain ⟨v7, hv, h⟩ := h
      replace hv := q_fI_e hv
      obtain ⟨_, cv7, dv7⟩ := hv
      replace h := q_be h
      obtain ⟨v8, hv, h⟩ := h
      replace hv := q_aI_e hv
      obtain ⟨_, _, cv8, iv8, yv8⟩ := hv
      refine ⟨⟨some _, rfl⟩, _, _, cv4, dv4, ⟨some _, rfl⟩, _, _, cv6, dv6, ⟨some _, rfl⟩, _, _, cv7, dv7, _, _, cv8, iv8, _, yv8, ?_⟩
      exact ps_weak (pjX12_rowByte_34 h hk) trivial
    · exact ps_weak (kF10 (q_ifn (fun z => hc2 z.2) h)) trivial
noncomputable def jX12_refill_115_52 (g : ps_G) (x0 : Nat) (x1 : Int32) (x2 : Int32) (x3 : Int32) (x4 : Int32) (k0 : Int32) (k1 : Int32) (k2 : Int32) (k3 : Int32) : Option ((Int32 × ps_G) ⊕ (ps_G)) := Option.bind (q_fR 12 74 g x0) fun v27 => Option.bind (v27) fun a28 => Option.bind (q_fR 12 74 g x0) fun v29 => Option.bind (v29) fun a30 => Option.bind (q_aI g a30 ((x2 + (1 : Int32)) + x4)) fun v31 => Option.bind (q_wI g a28 ((x2 + (1 : Int32)) + x4) ((v31 + (fX12_foretold k0 k1 k2 k3)) &&& (255 : Int32))) fun g32 => some (.inl (x4 + (1 : Int32), g32))
theorem pjX12_refill_115_52 {d : Nat} {Q : ps_Rs → ps_G → Prop} {g : ps_G} {x0 : Nat} {x1 : Int32} {x2 : Int32} {x3 : Int32} {x4 : Int32} {k0 : Int32} {k1 : Int32} {k2 : Int32} {k3 : Int32} {x : (Int32 × ps_G) ⊕ (ps_G)} (h : jX12_refill_115_52 g x0 x1 x2 x3 x4 k0 k1 k2 k3 = some x) (hh : ∀ s' : Int32 × ps_G, x = .inl s' → ps_At mX12_refill (d + 2) 52 [(0, .ref x0), (1, .int x1), (2, .int x2), (3, .int x3), (4, .int s'.1)] [] s'.2 Q) (he : ∀ r' : ps_G, x = .inr r' → ps_At mX12_refill (d + 2) 155 [(0, .ref x0), (1, .int x1)] [] r' Q) : ps_At mX12_refill (d + 2) 115 [(0, .ref x0), (1, .int x1), (2, .int x2), (3, .int x3), (4, .int x4)] [.int k3, .int k2, .int k1, .int k0] g Q := by
  unfold jX12_refill_115_52 at h
  refine sX12_refill_115 ?_
  refine rX12_foretold rfl ?_
  replace h := q_be h
  obtain ⟨v27, hv, h⟩ := h
  replace hv := q_fR_e hv
  obtain ⟨_, cv27, dv27⟩ := hv
  replace h := q_be h
  obtain ⟨a28, ea28, h⟩ := h
  subst ea28
  replace h := q_be h
  obtain ⟨v29, hv, h⟩ := h
  replace hv := q_fR_e hv
  obtain ⟨_, cv29, dv29⟩ := hv
  replace h := q_be h
  obtain ⟨a30, ea30, h⟩ := h
  subst ea30
  replace h := q_be h
  obtain ⟨v31, hv, h⟩ := h
  replace hv := q_aI_e hv
  obtain ⟨_, _, cv31, iv31, yv31⟩ := hv
  replace h := q_be h
  obtain ⟨g32, hv, h⟩ := h
  replace hv := q_wI_e hv
  obtain ⟨_, _, cg32, pg32, ig32, yg32⟩ := hv
  refine ⟨by decide, ⟨some _, rfl⟩, _, _, cv27, dv27, ⟨some _, rfl⟩, _, _, cv29, dv29, _, _, cv31, iv31, _, yv31, _, _, cg32, pg32, ig32, _, yg32, by decide, ?_⟩
  exact ps_weak (hh (x4 + (1 : Int32), g32) (Option.some.inj h).symm) ⟨rfl, rfl, rfl, rfl, rfl, trivial⟩
noncomputable def bX12_refill_52 (x0 : Nat) (x1 : Int32) (x2 : Int32) (x3 : Int32) (x4 : Int32) (g : ps_G) : Option ((Int32 × ps_G) ⊕ (ps_G)) := Option.bind (q_fI 12 93 g x0) fun v12 => Option.bind (q_fI 12 83 g x0) fun v13 => if (v12 * v13) ≤ x4 then (some (.inr g)) else (Option.bind (q_fI 12 93 g x0) fun v16 => Option.bind (q_ob 12 g x0) fun u17 => Option.bind (fX12_rowByte g x0 x1 (x4 - v16)) fun v18 => Option.bind (q_ob 12 g x0) fun u19 => Option.bind (fX12_rowByte g x0 (x1 - (1 : Int32)) x4) fun v20 => Option.bind (q_fI 12 93 g x0) fun v21 => if v21 ≤ x4 then (Option.bind (q_fI 12 93 g x0) fun v24 => Option.bind (q_ob 12 g x0) fun u25 => Option.bind (fX12_rowByte g x0 (x1 - (1 : Int32)) (x4 - v24)) fun v26 => jX12_refill_115_52 g x0 x1 x2 x3 x4 x3 v18 v20 v26) else (jX12_refill_115_52 g x0 x1 x2 x3 x4 x3 v18 v20 (0 : Int32)))
theorem pbX12_refill_52 {d : Nat} {Q : ps_Rs → ps_G → Prop}  {x0 : Nat} {x1 : Int32} {x2 : Int32} {x3 : Int32} {x4 : Int32} {g : ps_G} {x : (Int32 × ps_G) ⊕ (ps_G)} (h : bX12_refill_52 x0 x1 x2 x3 x4 g = some x) (hh : ∀ s' : Int32 × ps_G, x = .inl s' → ps_At mX12_refill (d + 2) 52 [(0, .ref x0), (1, .int x1), (2, .int x2), (3, .int x3), (4, .int s'.1)] [] s'.2 Q) (he : ∀ r' : ps_G, x = .inr r' → ps_At mX12_refill (d + 2) 155 [(0, .ref x0), (1, .int x1)] [] r' Q) : ps_At mX12_refill (d + 2) 52 [(0, .ref x0), (1, .int x1), (2, .int x2), (3, .int x3), (4, .int x4)] [] g Q := by
  unfold bX12_refill_52 at h
  refine sX12_refill_52 ?_
  replace h := q_be h
  obtain ⟨v12, hv, h⟩ := h
  replace hv := q_fI_e hv
  obtain ⟨_, cv12, dv12⟩ := hv
  replace h := q_be h
  obtain ⟨v13, hv, h⟩ := h
  replace hv := q_fI_e hv
  obtain ⟨_, cv13, dv13⟩ := hv
  refine ⟨⟨some _, rfl⟩, _, _, cv12, dv12, ⟨some _, rfl⟩, _, _, cv13, dv13, ?_⟩
  refine And.intro (fun hc14 => ?_) (fun hc14 => ?_)
  · replace h := q_ifp (hc14) h
    exact ps_weak (he g (Option.some.inj h).symm) ⟨rfl, rfl, trivial⟩
  · replace h := q_ifn (hc14) h
    replace h := q_be h
    obtain ⟨v16, hv, h⟩ := h
    replace hv := q_fI_e hv
    obtain ⟨_, cv16, dv16⟩ := hv
    replace h := q_be h
    obtain ⟨u17, hv, h⟩ := h
    replace hv := q_ob_e hv
    obtain ⟨_, cu17⟩ := hv
    replace h := q_be h
    obtain ⟨v18, hv, h⟩ := h
    refine ⟨⟨some _, rfl⟩, ⟨some _, rfl⟩, _, _, cv16, dv16, ⟨_, cu17⟩, ?_⟩
    refine rX12_rowByte hv ?_
    replace h := q_be h
    obtain ⟨u19, hv, h⟩ := h
    replace hv := q_ob_e hv
    obtain ⟨_, cu19⟩ := hv
    replace h := q_be h
    obtain ⟨v20, hv, h⟩ := h
    refine ⟨⟨some _, rfl⟩, ⟨_, cu19⟩, ?_⟩
    refine rX12_rowByte hv ?_
    replace h := q_be h
    obtain ⟨v21, hv, h⟩ := h
    replace hv := q_fI_e hv
    obtain ⟨_, cv21, dv21⟩ := hv
    refine ⟨⟨some _, rfl⟩, _, _, cv21, dv21, ?_⟩
    refine And.intro (fun hc22 => ?_) (fun hc22 => ?_)
    · replace h := q_ifp (hc22) h
      refine sX12_refill_101 ?_
      replace h := q_be h
      obtain ⟨v24, hv, h⟩ := h
      replace hv := q_fI_e hv
      obtain ⟨_, cv24, dv24⟩ := hv
      replace h := q_be h
      obtain ⟨u25, hv, h⟩ := h
      replace hv := q_ob_e hv
      obtain ⟨_, cu25⟩ := hv
      replace h := q_be h
      obtain ⟨v26, hv, h⟩ := h
      refine ⟨⟨some _, rfl⟩, ⟨some _, rfl⟩, _, _, cv24, dv24, ⟨_, cu25⟩, ?_⟩
      refine rX12_rowByte hv ?_
      exact ps_weak (pjX12_refill_115_52 h hh he) ⟨rfl, rfl, rfl, rfl, rfl, trivial⟩
    · replace h := q_ifn (hc22) h
      exact ps_weak (pjX12_refill_115_52 h hh he) ⟨rfl, rfl, rfl, rfl, rfl, trivial⟩
noncomputable def jX12_refill_41_2 (g : ps_G) (x0 : Nat) (x1 : Int32) (x2 : Int32) (x3 : Int32) : Option ((Int32 × ps_G) ⊕ ((ps_G) ⊕ (ps_G))) := Option.bind (q_fI 12 87 g x0) fun v10 => if v10 = 0 then (Option.bind (q_lp (fun s => bX12_refill_52 x0 x1 x2 x3 s.1 s.2) ((0 : Int32), g)) fun s37 => some (.inl (x1 + (1 : Int32), s37))) else (some (.inr (.inr g)))
theorem pjX12_refill_41_2 {d : Nat} {Q : ps_Rs → ps_G → Prop} {g : ps_G} {x0 : Nat} {x1 : Int32} {x2 : Int32} {x3 : Int32} {x : (Int32 × ps_G) ⊕ ((ps_G) ⊕ (ps_G))} (h : jX12_refill_41_2 g x0 x1 x2 x3 = some x) (hh : ∀ s' : Int32 × ps_G, x = .inl s' → ps_At mX12_refill (d + 2) 2 [(0, .ref x0), (1, .int s'.1)] [] s'.2 Q) (he : ∀ r' : ps_G, x = .inr (.inl r') → ps_At mX12_refill (d + 2) 161 [] [] r' Q) (hr : ∀ v' : ps_G, x = .inr (.inr v') → Q (.inl none) v') : ps_At mX12_refill (d + 2) 41 [(0, .ref x0), (1, .int x1), (2, .int x2), (3, .int x3)] [] g Q := by
  unfold jX12_refill_41_2 at h
  refine sX12_refill_41 ?_
  replace h := q_be h
  obtain ⟨v10, hv, h⟩ := h
  replace hv := q_fI_e hv
  obtain ⟨_, cv10, dv10⟩ := hv
  refine ⟨⟨some _, rfl⟩, _, _, cv10, dv10, ?_⟩
  refine And.intro (fun hc11 => ?_) (fun hc11 => ?_)
  · replace h := q_ifp (hc11) h
    refine sX12_refill_49 ?_
    refine ⟨by decide, ?_⟩
    replace h := q_be h
    obtain ⟨s37, hl, h⟩ := h
    refine ps_weak (q_lp_ok hl (fun s => ps_At mX12_refill (d + 2) 52 [(0, .ref x0), (1, .int x1), (2, .int x2), (3, .int x3), (4, .int s.1)] [] s.2 Q) (fun r => ps_At mX12_refill (d + 2) 155 [(0, .ref x0), (1, .int x1)] [] r Q) (fun s x hb hh he => pbX12_refill_52 hb hh he) ?_) ⟨rfl, rfl, rfl, rfl, rfl, trivial⟩
    refine (?_ : ps_At mX12_refill (d + 2) 155 [(0, .ref x0), (1, .int x1)] [] s37 Q)
    refine sX12_refill_155 ?_
    refine ⟨by decide, ?_⟩
    exact ps_weak (hh (x1 + (1 : Int32), s37) (Option.some.inj h).symm) ⟨rfl, rfl, trivial⟩
  · replace h := q_ifn (hc11) h
    exact ⟨rfl, rfl, hr g (Option.some.inj h).symm⟩
noncomputable def bX12_refill_2 (x0 : Nat) (x1 : Int32) (g : ps_G) : Option ((Int32 × ps_G) ⊕ ((ps_G) ⊕ (ps_G))) := Option.bind (q_fI 12 84 g x0) fun v1 => if v1 ≤ x1 then (some (.inr (.inl g))) else (Option.bind (q_fI 12 93 g x0) fun v3 => Option.bind (q_fI 12 83 g x0) fun v4 => Option.bind (q_fR 12 74 g x0) fun v5 => Option.bind (v5) fun a6 => Option.bind (q_aI g a6 (((1 : Int32) + (v3 * v4)) * x1)) fun v7 => if v7 ≤ (4 : Int32) then (jX12_refill_41_2 g x0 x1 (((1 : Int32) + (v3 * v4)) * x1) v7) else (Option.bind (q_sB 12 87 g x0 (1 : Int32)) fun g40 => jX12_refill_41_2 g40 x0 x1 (((1 : Int32) + (v3 * v4)) * x1) v7))
theorem pbX12_refill_2 {d : Nat} {Q : ps_Rs → ps_G → Prop}  {x0 : Nat} {x1 : Int32} {g : ps_G} {x : (Int32 × ps_G) ⊕ ((ps_G) ⊕ (ps_G))} (h : bX12_refill_2 x0 x1 g = some x) (hh : ∀ s' : Int32 × ps_G, x = .inl s' → ps_At mX12_refill (d + 2) 2 [(0, .ref x0), (1, .int s'.1)] [] s'.2 Q) (he : ∀ r' : ps_G, x = .inr (.inl r') → ps_At mX12_refill (d + 2) 161 [] [] r' Q) (hr : ∀ v' : ps_G, x = .inr (.inr v') → Q (.inl none) v') : ps_At mX12_refill (d + 2) 2 [(0, .ref x0), (1, .int x1)] [] g Q := by
  unfold bX12_refill_2 at h
  refine sX12_refill_2 ?_
  replace h := q_be h
  obtain ⟨v1, hv, h⟩ := h
  replace hv := q_fI_e hv
  obtain ⟨_, cv1, dv1⟩ := hv
  refine ⟨⟨some _, rfl⟩, _, _, cv1, dv1, ?_⟩
  refine And.intro (fun hc2 => ?_) (fun hc2 => ?_)
  · replace h := q_ifp (hc2) h
    exact ps_weak (he g (Option.some.inj h).symm) trivial
  · replace h := q_ifn (hc2) h
    replace h := q_be h
    obtain ⟨v3, hv, h⟩ := h
    replace hv := q_fI_e hv
    obtain ⟨_, cv3, dv3⟩ := hv
    replace h := q_be h
    obtain ⟨v4, hv, h⟩ := h
    replace hv := q_fI_e hv
    obtain ⟨_, cv4, dv4⟩ := hv
    replace h := q_be h
    obtain ⟨v5, hv, h⟩ := h
    replace hv := q_fR_e hv
    obtain ⟨_, cv5, dv5⟩ := hv
    replace h := q_be h
    obtain ⟨a6, ea6, h⟩ := h
    subst ea6
    replace h := q_be h
    obtain ⟨v7, hv, h⟩ := h
    replace hv := q_aI_e hv
    obtain ⟨_, _, cv7, iv7, yv7⟩ := hv
    refine ⟨⟨some _, rfl⟩, _, _, cv3, dv3, ⟨some _, rfl⟩, _, _, cv4, dv4, by decide, ⟨some _, rfl⟩, _, _, cv5, dv5, _, _, cv7, iv7, _, yv7, by decide, ?_⟩
    refine And.intro (fun hc8 => ?_) (fun hc8 => ?_)
    · replace h := q_ifp (hc8) h
      exact ps_weak (pjX12_refill_41_2 h hh he hr) ⟨rfl, rfl, rfl, rfl, trivial⟩
    · replace h := q_ifn (hc8) h
      replace h := q_be h
      obtain ⟨g40, hv, h⟩ := h
      replace hv := q_sB_e hv
      obtain ⟨_, cg40, dg40, ng40, yg40⟩ := hv
      refine ⟨⟨some _, rfl⟩, _, cg40, dg40, ng40.1, ng40.2, _, yg40, ?_⟩
      exact ps_weak (pjX12_refill_41_2 h hh he hr) ⟨rfl, rfl, rfl, rfl, trivial⟩
noncomputable def fX12_refill (g : ps_G) (x0 : Nat) : Option (ps_G) := Option.bind (q_lp (fun s => bX12_refill_2 x0 s.1 s.2) ((0 : Int32), g)) fun s45 => Sum.elim (fun r46 => some r46) (fun v47 => some v47) s45
theorem rX12_refill {d : Nat} {Q : ps_Rs → ps_G → Prop} {g : ps_G} {x0 : Nat} {r : ps_G} (h : fX12_refill g x0 = some r) (hk : Q (.inl none) r) : ps_Ok mX12_refill (d + 2) [.ref x0] g Q := by
  unfold fX12_refill at h
  refine sX12_refill_0 ?_
  refine ⟨by decide, ?_⟩
  replace h := q_be h
  obtain ⟨s45, hl, h⟩ := h
  refine ps_weak (q_lp_ok hl (fun s => ps_At mX12_refill (d + 2) 2 [(0, .ref x0), (1, .int s.1)] [] s.2 Q) (Sum.elim (fun r => ps_At mX12_refill (d + 2) 161 [] [] r Q) (fun v => Q (.inl none) v)) (fun s x hb hh he => pbX12_refill_2 hb hh (fun _ e => he _ e) (fun _ e => he _ e)) ?_) ⟨rfl, rfl, trivial⟩
  rcases s45 with r46 | v47
  · refine (?_ : ps_At mX12_refill (d + 2) 161 [] [] r46 Q)
    refine sX12_refill_161 ?_
    cases h
    exact ⟨rfl, rfl, hk⟩
  · cases h
    exact hk
noncomputable def jX12_readRows_145_114 (g : ps_G) (x0 : Nat) (x1 : Int32) (x2 : Int32) : Option ((Int32 × ps_G) ⊕ (ps_G)) := some (.inl (x2 + (1 : Int32), g))
theorem pjX12_readRows_145_114 {d : Nat} {Q : ps_Rs → ps_G → Prop} {g : ps_G} {x0 : Nat} {x1 : Int32} {x2 : Int32} {x : (Int32 × ps_G) ⊕ (ps_G)} (h : jX12_readRows_145_114 g x0 x1 x2 = some x) (hh : ∀ s' : Int32 × ps_G, x = .inl s' → ps_At mX12_readRows (d + 4) 114 [(0, .ref x0), (1, .int x1), (2, .int s'.1)] [] s'.2 Q) (he : ∀ r' : ps_G, x = .inr r' → ps_At mX12_readRows (d + 4) 151 [(0, .ref x0), (1, .int x1)] [] r' Q) : ps_At mX12_readRows (d + 4) 145 [(0, .ref x0), (1, .int x1), (2, .int x2)] [] g Q := by
  unfold jX12_readRows_145_114 at h
  refine sX12_readRows_145 ?_
  refine ⟨by decide, ?_⟩
  exact ps_weak (hh (x2 + (1 : Int32), g) (Option.some.inj h).symm) ⟨rfl, rfl, rfl, trivial⟩
noncomputable def bX12_readRows_114 (x0 : Nat) (x1 : Int32) (x2 : Int32) (g : ps_G) : Option ((Int32 × ps_G) ⊕ (ps_G)) := Option.bind (q_fI 12 83 g x0) fun v28 => if v28 ≤ x2 then (some (.inr g)) else (Option.bind (q_ob 12 g x0) fun u31 => Option.bind (fX12_rowByte g x0 x1 x2) fun v32 => Option.bind (q_fI 12 82 g x0) fun v33 => if v32 < v33 then (jX12_readRows_145_114 g x0 x1 x2) else (Option.bind (q_fI 12 86 g x0) fun v36 => Option.bind (q_ob 12 g x0) fun u37 => Option.bind (fX12_wrong g x0 (6 : Int32) v36) fun v38 => jX12_readRows_145_114 v38 x0 x1 x2))
theorem pbX12_readRows_114 {d : Nat} {Q : ps_Rs → ps_G → Prop}  {x0 : Nat} {x1 : Int32} {x2 : Int32} {g : ps_G} {x : (Int32 × ps_G) ⊕ (ps_G)} (h : bX12_readRows_114 x0 x1 x2 g = some x) (hh : ∀ s' : Int32 × ps_G, x = .inl s' → ps_At mX12_readRows (d + 4) 114 [(0, .ref x0), (1, .int x1), (2, .int s'.1)] [] s'.2 Q) (he : ∀ r' : ps_G, x = .inr r' → ps_At mX12_readRows (d + 4) 151 [(0, .ref x0), (1, .int x1)] [] r' Q) : ps_At mX12_readRows (d + 4) 114 [(0, .ref x0), (1, .int x1), (2, .int x2)] [] g Q := by
  unfold bX12_readRows_114 at h
  refine sX12_readRows_114 ?_
  replace h := q_be h
  obtain ⟨v28, hv, h⟩ := h
  replace hv := q_fI_e hv
  obtain ⟨_, cv28, dv28⟩ := hv
  refine ⟨⟨some _, rfl⟩, _, _, cv28, dv28, ?_⟩
  refine And.intro (fun hc29 => ?_) (fun hc29 => ?_)
  · replace h := q_ifp (hc29) h
    exact ps_weak (he g (Option.some.inj h).symm) ⟨rfl, rfl, trivial⟩
  · replace h := q_ifn (hc29) h
    replace h := q_be h
    obtain ⟨u31, hv, h⟩ := h
    replace hv := q_ob_e hv
    obtain ⟨_, cu31⟩ := hv
    replace h := q_be h
    obtain ⟨v32, hv, h⟩ := h
    refine ⟨⟨some _, rfl⟩, ⟨_, cu31⟩, ?_⟩
    refine rX12_rowByte hv ?_
    replace h := q_be h
    obtain ⟨v33, hv, h⟩ := h
    replace hv := q_fI_e hv
    obtain ⟨_, cv33, dv33⟩ := hv
    refine ⟨⟨some _, rfl⟩, _, _, cv33, dv33, ?_⟩
    refine And.intro (fun hc34 => ?_) (fun hc34 => ?_)
    · replace h := q_ifp (hc34) h
      exact ps_weak (pjX12_readRows_145_114 h hh he) ⟨rfl, rfl, rfl, trivial⟩
    · replace h := q_ifn (hc34) h
      replace h := q_be h
      obtain ⟨v36, hv, h⟩ := h
      replace hv := q_fI_e hv
      obtain ⟨_, cv36, dv36⟩ := hv
      replace h := q_be h
      obtain ⟨u37, hv, h⟩ := h
      replace hv := q_ob_e hv
      obtain ⟨_, cu37⟩ := hv
      replace h := q_be h
      obtain ⟨v38, hv, h⟩ := h
      refine ⟨⟨some _, rfl⟩, ⟨some _, rfl⟩, _, _, cv36, dv36, ⟨_, cu37⟩, ?_⟩
      refine rX12_wrong hv ?_
      exact ps_weak (pjX12_readRows_145_114 h hh he) ⟨rfl, rfl, rfl, trivial⟩
noncomputable def bX12_readRows_96 (x0 : Nat) (x1 : Int32) (g : ps_G) : Option ((Int32 × ps_G) ⊕ (ps_G)) := Option.bind (q_fI 12 84 g x0) fun v23 => if v23 ≤ x1 then (some (.inr g)) else (Option.bind (q_fI 12 85 g x0) fun v26 => if ¬ v26 = (3 : Int32) then (some (.inr g)) else (Option.bind (q_lp (fun s => bX12_readRows_114 x0 x1 s.1 s.2) ((0 : Int32), g)) fun s43 => some (.inl (x1 + (1 : Int32), s43))))
theorem pbX12_readRows_96 {d : Nat} {Q : ps_Rs → ps_G → Prop}  {x0 : Nat} {x1 : Int32} {g : ps_G} {x : (Int32 × ps_G) ⊕ (ps_G)} (h : bX12_readRows_96 x0 x1 g = some x) (hh : ∀ s' : Int32 × ps_G, x = .inl s' → ps_At mX12_readRows (d + 4) 96 [(0, .ref x0), (1, .int s'.1)] [] s'.2 Q) (he : ∀ r' : ps_G, x = .inr r' → ps_At mX12_readRows (d + 4) 157 [] [] r' Q) : ps_At mX12_readRows (d + 4) 96 [(0, .ref x0), (1, .int x1)] [] g Q := by
  unfold bX12_readRows_96 at h
  refine sX12_readRows_96 ?_
  replace h := q_be h
  obtain ⟨v23, hv, h⟩ := h
  replace hv := q_fI_e hv
  obtain ⟨_, cv23, dv23⟩ := hv
  refine ⟨⟨some _, rfl⟩, _, _, cv23, dv23, ?_⟩
  refine And.intro (fun hc24 => ?_) (fun hc24 => ?_)
  · replace h := q_ifp (hc24) h
    exact ps_weak (he g (Option.some.inj h).symm) trivial
  · replace h := q_ifn (hc24) h
    replace h := q_be h
    obtain ⟨v26, hv, h⟩ := h
    replace hv := q_fI_e hv
    obtain ⟨_, cv26, dv26⟩ := hv
    refine ⟨⟨some _, rfl⟩, _, _, cv26, dv26, ?_⟩
    refine And.intro (fun hc27 => ?_) (fun hc27 => ?_)
    · replace h := q_ifp (hc27) h
      exact ps_weak (he g (Option.some.inj h).symm) trivial
    · replace h := q_ifn (hc27) h
      refine ⟨by decide, ?_⟩
      replace h := q_be h
      obtain ⟨s43, hl, h⟩ := h
      refine ps_weak (q_lp_ok hl (fun s => ps_At mX12_readRows (d + 4) 114 [(0, .ref x0), (1, .int x1), (2, .int s.1)] [] s.2 Q) (fun r => ps_At mX12_readRows (d + 4) 151 [(0, .ref x0), (1, .int x1)] [] r Q) (fun s x hb hh he => pbX12_readRows_114 hb hh he) ?_) ⟨rfl, rfl, rfl, trivial⟩
      refine (?_ : ps_At mX12_readRows (d + 4) 151 [(0, .ref x0), (1, .int x1)] [] s43 Q)
      refine sX12_readRows_151 ?_
      refine ⟨by decide, ?_⟩
      exact ps_weak (hh (x1 + (1 : Int32), s43) (Option.some.inj h).symm) ⟨rfl, rfl, trivial⟩
noncomputable def jX12_readRows_157 (g : ps_G) : Option (ps_G) := some g
theorem pjX12_readRows_157 {d : Nat} {Q : ps_Rs → ps_G → Prop} {g : ps_G}  {r : ps_G} (h : jX12_readRows_157 g = some r) (hk : Q (.inl none) r) : ps_At mX12_readRows (d + 4) 157 [] [] g Q := by
  unfold jX12_readRows_157 at h
  refine sX12_readRows_157 ?_
  cases h
  exact ⟨rfl, rfl, hk⟩
noncomputable def jX12_readRows_77 (g : ps_G) (x0 : Nat) : Option (ps_G) := Option.bind (q_fI 12 87 g x0) fun v21 => if v21 = 0 then (Option.bind (q_lp (fun s => bX12_readRows_96 x0 s.1 s.2) ((0 : Int32), g)) fun s48 => jX12_readRows_157 s48) else (Option.bind (q_fI 12 86 g x0) fun v49 => Option.bind (q_ob 12 g x0) fun u50 => Option.bind (fX12_wrong g x0 (5 : Int32) v49) fun v51 => some v51)
theorem pjX12_readRows_77 {d : Nat} {Q : ps_Rs → ps_G → Prop} {g : ps_G} {x0 : Nat} {r : ps_G} (h : jX12_readRows_77 g x0 = some r) (hk : Q (.inl none) r) : ps_At mX12_readRows (d + 4) 77 [(0, .ref x0)] [] g Q := by
  unfold jX12_readRows_77 at h
  refine sX12_readRows_77 ?_
  replace h := q_be h
  obtain ⟨v21, hv, h⟩ := h
  replace hv := q_fI_e hv
  obtain ⟨_, cv21, dv21⟩ := hv
  refine ⟨⟨some _, rfl⟩, _, _, cv21, dv21, ?_⟩
  refine And.intro (fun hc22 => ?_) (fun hc22 => ?_)
  · replace h := q_ifp (hc22) h
    refine sX12_readRows_94 ?_
    refine ⟨by decide, ?_⟩
    replace h := q_be h
    obtain ⟨s48, hl, h⟩ := h
    refine ps_weak (q_lp_ok hl (fun s => ps_At mX12_readRows (d + 4) 96 [(0, .ref x0), (1, .int s.1)] [] s.2 Q) (fun r => ps_At mX12_readRows (d + 4) 157 [] [] r Q) (fun s x hb hh he => pbX12_readRows_96 hb hh he) ?_) ⟨rfl, rfl, trivial⟩
    refine (?_ : ps_At mX12_readRows (d + 4) 157 [] [] s48 Q)
    exact ps_weak (pjX12_readRows_157 h hk) trivial
  · replace h := q_ifn (hc22) h
    replace h := q_be h
    obtain ⟨v49, hv, h⟩ := h
    replace hv := q_fI_e hv
    obtain ⟨_, cv49, dv49⟩ := hv
    replace h := q_be h
    obtain ⟨u50, hv, h⟩ := h
    replace hv := q_ob_e hv
    obtain ⟨_, cu50⟩ := hv
    replace h := q_be h
    obtain ⟨v51, hv, h⟩ := h
    refine ⟨⟨some _, rfl⟩, ⟨some _, rfl⟩, _, _, cv49, dv49, ⟨_, cu50⟩, ?_⟩
    refine rX12_wrong hv ?_
    cases h
    exact ⟨rfl, rfl, hk⟩
noncomputable def jX12_readRows_39 (g : ps_G) (x0 : Nat) (k0 : Nat) (k1 : Int32) : Option (ps_G) := Option.bind (q_sI 12 93 g k0 k1) fun g11 => Option.bind (q_fI 12 84 g11 x0) fun v12 => Option.bind (q_fI 12 93 g11 x0) fun v13 => Option.bind (q_fI 12 83 g11 x0) fun v14 => Option.bind (q_sI 12 89 g11 x0 (v12 * ((1 : Int32) + (v13 * v14)))) fun g15 => Option.bind (q_ob 12 g15 x0) fun u16 => Option.bind (fX12_inflate g15 x0) fun v17 => Option.bind (q_fI 12 87 v17 x0) fun v18 => if ¬ v18 = 0 then (jX12_readRows_77 v17 x0) else (Option.bind (q_ob 12 v17 x0) fun u54 => Option.bind (fX12_refill v17 x0) fun v55 => jX12_readRows_77 v55 x0)
theorem pjX12_readRows_39 {d : Nat} {Q : ps_Rs → ps_G → Prop} {g : ps_G} {x0 : Nat} {k0 : Nat} {k1 : Int32} {r : ps_G} (h : jX12_readRows_39 g x0 k0 k1 = some r) (hk : Q (.inl none) r) : ps_At mX12_readRows (d + 4) 39 [(0, .ref x0)] [.int k1, .ref k0] g Q := by
  unfold jX12_readRows_39 at h
  refine sX12_readRows_39 ?_
  replace h := q_be h
  obtain ⟨g11, hv, h⟩ := h
  replace hv := q_sI_e hv
  obtain ⟨_, cg11, dg11, yg11⟩ := hv
  replace h := q_be h
  obtain ⟨v12, hv, h⟩ := h
  replace hv := q_fI_e hv
  obtain ⟨_, cv12, dv12⟩ := hv
  replace h := q_be h
  obtain ⟨v13, hv, h⟩ := h
  replace hv := q_fI_e hv
  obtain ⟨_, cv13, dv13⟩ := hv
  replace h := q_be h
  obtain ⟨v14, hv, h⟩ := h
  replace hv := q_fI_e hv
  obtain ⟨_, cv14, dv14⟩ := hv
  replace h := q_be h
  obtain ⟨g15, hv, h⟩ := h
  replace hv := q_sI_e hv
  obtain ⟨_, cg15, dg15, yg15⟩ := hv
  replace h := q_be h
  obtain ⟨u16, hv, h⟩ := h
  replace hv := q_ob_e hv
  obtain ⟨_, cu16⟩ := hv
  replace h := q_be h
  obtain ⟨v17, hv, h⟩ := h
  refine ⟨_, cg11, dg11, rfl, rfl, _, yg11, ⟨some _, rfl⟩, ⟨some _, rfl⟩, _, _, cv12, dv12, ⟨some _, rfl⟩, _, _, cv13, dv13, ⟨some _, rfl⟩, _, _, cv14, dv14, _, cg15, dg15, rfl, rfl, _, yg15, ⟨some _, rfl⟩, ⟨_, cu16⟩, ?_⟩
  refine rX12_inflate hv ?_
  replace h := q_be h
  obtain ⟨v18, hv, h⟩ := h
  replace hv := q_fI_e hv
  obtain ⟨_, cv18, dv18⟩ := hv
  refine ⟨⟨some _, rfl⟩, _, _, cv18, dv18, ?_⟩
  refine And.intro (fun hc19 => ?_) (fun hc19 => ?_)
  · replace h := q_ifp (hc19) h
    exact ps_weak (pjX12_readRows_77 h hk) ⟨rfl, trivial⟩
  · replace h := q_ifn (hc19) h
    replace h := q_be h
    obtain ⟨u54, hv, h⟩ := h
    replace hv := q_ob_e hv
    obtain ⟨_, cu54⟩ := hv
    replace h := q_be h
    obtain ⟨v55, hv, h⟩ := h
    refine ⟨⟨some _, rfl⟩, ⟨_, cu54⟩, ?_⟩
    refine rX12_refill hv ?_
    exact ps_weak (pjX12_readRows_77 h hk) ⟨rfl, trivial⟩
noncomputable def fX12_readRows (g : ps_G) (x0 : Nat) : Option (ps_G) := Option.bind (q_fI 12 85 g x0) fun v1 => if ¬ v1 = (2 : Int32) then (Option.bind (q_fI 12 85 g x0) fun v4 => if ¬ v4 = (4 : Int32) then (Option.bind (q_fI 12 85 g x0) fun v7 => jX12_readRows_39 g x0 x0 (if ¬ v7 = (6 : Int32) then (1 : Int32) else (4 : Int32))) else (jX12_readRows_39 g x0 x0 (2 : Int32))) else (jX12_readRows_39 g x0 x0 (3 : Int32))
theorem rX12_readRows {d : Nat} {Q : ps_Rs → ps_G → Prop} {g : ps_G} {x0 : Nat} {r : ps_G} (h : fX12_readRows g x0 = some r) (hk : Q (.inl none) r) : ps_Ok mX12_readRows (d + 4) [.ref x0] g Q := by
  unfold fX12_readRows at h
  refine sX12_readRows_0 ?_
  replace h := q_be h
  obtain ⟨v1, hv, h⟩ := h
  replace hv := q_fI_e hv
  obtain ⟨_, cv1, dv1⟩ := hv
  refine ⟨⟨some _, rfl⟩, ⟨some _, rfl⟩, _, _, cv1, dv1, ?_⟩
  refine And.intro (fun hc2 => ?_) (fun hc2 => ?_)
  · replace h := q_ifp (hc2) h
    refine sX12_readRows_13 ?_
    replace h := q_be h
    obtain ⟨v4, hv, h⟩ := h
    replace hv := q_fI_e hv
    obtain ⟨_, cv4, dv4⟩ := hv
    refine ⟨⟨some _, rfl⟩, _, _, cv4, dv4, ?_⟩
    refine And.intro (fun hc5 => ?_) (fun hc5 => ?_)
    · replace h := q_ifp (hc5) h
      refine sX12_readRows_25 ?_
      replace h := q_be h
      obtain ⟨v7, hv, h⟩ := h
      replace hv := q_fI_e hv
      obtain ⟨_, cv7, dv7⟩ := hv
      have kJ10 : ∀ w9 : Int32, w9 = (if ¬ v7 = (6 : Int32) then (1 : Int32) else (4 : Int32)) → ps_At mX12_readRows (d + 4) 39 [(0, .ref x0)] [.int w9, .ref x0] g Q := by
        rintro _ rfl
        exact ps_weak (pjX12_readRows_39 h hk) ⟨rfl, trivial⟩
      refine ⟨⟨some _, rfl⟩, _, _, cv7, dv7, ?_⟩
      refine And.intro (fun hc8 => ?_) (fun hc8 => ?_)
      · refine sX12_readRows_38 ?_
        exact ps_weak (kJ10 _ (if_pos (hc8)).symm) ⟨rfl, trivial⟩
      · exact ps_weak (kJ10 _ (if_neg (hc8)).symm) ⟨rfl, trivial⟩
    · replace h := q_ifn (hc5) h
      exact ps_weak (pjX12_readRows_39 h hk) ⟨rfl, trivial⟩
  · replace h := q_ifn (hc2) h
    exact ps_weak (pjX12_readRows_39 h hk) ⟨rfl, trivial⟩
noncomputable def fX12_pngPixel (g : ps_G) (x0 : Nat) (x1 : Int32) (x2 : Int32) : Option (Int32) := Option.bind (q_fI 12 93 g x0) fun v1 => Option.bind (q_ob 12 g x0) fun u2 => Option.bind (fX12_rowByte g x0 x2 (v1 * x1)) fun v3 => Option.bind (q_fI 12 93 g x0) fun v4 => Option.bind (q_ob 12 g x0) fun u5 => Option.bind (fX12_rowByte g x0 x2 ((v4 * x1) + (1 : Int32))) fun v6 => Option.bind (q_fI 12 85 g x0) fun v7 => if v7 = 0 then (some (fX12_colour v3 v3 v3 (255 : Int32))) else (if v7 = 2 then (Option.bind (q_fI 12 93 g x0) fun v10 => Option.bind (q_ob 12 g x0) fun u11 => Option.bind (fX12_rowByte g x0 x2 ((v10 * x1) + (2 : Int32))) fun v12 => some (fX12_colour v3 v6 v12 (255 : Int32))) else (if v7 = 3 then (Option.bind (q_fR 12 81 g x0) fun v14 => Option.bind (v14) fun a15 => Option.bind (q_aI g a15 v3) fun v16 => Option.bind (q_fR 12 80 g x0) fun v17 => Option.bind (v17) fun a18 => Option.bind (q_aI g a18 v3) fun v19 => some ((q_shl v16 (24 : Int32)) ||| v19)) else (if v7 = 4 then (some (fX12_colour v3 v3 v3 v6)) else (Option.bind (q_fI 12 93 g x0) fun v21 => Option.bind (q_ob 12 g x0) fun u22 => Option.bind (fX12_rowByte g x0 x2 ((v21 * x1) + (2 : Int32))) fun v23 => Option.bind (q_fI 12 93 g x0) fun v24 => Option.bind (q_ob 12 g x0) fun u25 => Option.bind (fX12_rowByte g x0 x2 ((v24 * x1) + (3 : Int32))) fun v26 => some (fX12_colour v3 v6 v23 v26)))))
theorem rX12_pngPixel {d : Nat} {Q : ps_Rs → ps_G → Prop} {g : ps_G} {x0 : Nat} {x1 : Int32} {x2 : Int32} {r : Int32} (h : fX12_pngPixel g x0 x1 x2 = some r) (hk : Q (.inl (some (.int r))) g) : ps_Ok mX12_pngPixel (d + 1) [.ref x0, .int x1, .int x2] g Q := by
  unfold fX12_pngPixel at h
  refine sX12_pngPixel_0 ?_
  replace h := q_be h
  obtain ⟨v1, hv, h⟩ := h
  replace hv := q_fI_e hv
  obtain ⟨_, cv1, dv1⟩ := hv
  replace h := q_be h
  obtain ⟨u2, hv, h⟩ := h
  replace hv := q_ob_e hv
  obtain ⟨_, cu2⟩ := hv
  replace h := q_be h
  obtain ⟨v3, hv, h⟩ := h
  refine ⟨⟨some _, rfl⟩, ⟨some _, rfl⟩, _, _, cv1, dv1, ⟨_, cu2⟩, ?_⟩
  refine rX12_rowByte hv ?_
  replace h := q_be h
  obtain ⟨v4, hv, h⟩ := h
  replace hv := q_fI_e hv
  obtain ⟨_, cv4, dv4⟩ := hv
  replace h := q_be h
  obtain ⟨u5, hv, h⟩ := h
  replace hv := q_ob_e hv
  obtain ⟨_, cu5⟩ := hv
  replace h := q_be h
  obtain ⟨v6, hv, h⟩ := h
  refine ⟨by decide, ⟨some _, rfl⟩, ⟨some _, rfl⟩, _, _, cv4, dv4, ⟨_, cu5⟩, ?_⟩
  refine rX12_rowByte hv ?_
  replace h := q_be h
  obtain ⟨v7, hv, h⟩ := h
  replace hv := q_fI_e hv
  obtain ⟨_, cv7, dv7⟩ := hv
  refine ⟨by decide, ⟨some _, rfl⟩, _, _, cv7, dv7, ?_⟩
  refine sX12_pngPixel_31 ?_
  by_cases hc8 : v7 = 0
  · replace h := q_ifp hc8 h
    have eT : ps_tsel 31 92 0 4 #[33, 92, 43, 66, 83] v7 = 64 := by
      rw [hc8]; decide +kernel
    refine ps_at_eq eT ?_
    refine sX12_pngPixel_64 ?_
    refine rX12_colour rfl ?_
    cases h
    exact ⟨rfl, hk⟩
  replace h := q_ifn hc8 h
  by_cases hc9 : v7 = 2
  · replace h := q_ifp hc9 h
    have eT : ps_tsel 31 92 0 4 #[33, 92, 43, 66, 83] v7 = 74 := by
      rw [hc9]; decide +kernel
    refine ps_at_eq eT ?_
    refine sX12_pngPixel_74 ?_
    replace h := q_be h
    obtain ⟨v10, hv, h⟩ := h
    replace hv := q_fI_e hv
    obtain ⟨_, cv10, dv10⟩ := hv
    replace h := q_be h
    obtain ⟨u11, hv, h⟩ := h
    replace hv := q_ob_e hv
    obtain ⟨_, cu11⟩ := hv
    replace h := q_be h
    obtain ⟨v12, hv, h⟩ := h
    refine ⟨⟨some _, rfl⟩, ⟨some _, rfl⟩, _, _, cv10, dv10, ⟨_, cu11⟩, ?_⟩
    refine rX12_rowByte hv ?_
    refine rX12_colour rfl ?_
    cases h
    exact ⟨rfl, hk⟩
  replace h := q_ifn hc9 h
  by_cases hc13 : v7 = 3
  · replace h := q_ifp hc13 h
    have eT : ps_tsel 31 92 0 4 #[33, 92, 43, 66, 83] v7 = 97 := by
      rw [hc13]; decide +kernel
    refine ps_at_eq eT ?_
    refine sX12_pngPixel_97 ?_
    replace h := q_be h
    obtain ⟨v14, hv, h⟩ := h
    replace hv := q_fR_e hv
    obtain ⟨_, cv14, dv14⟩ := hv
    replace h := q_be h
    obtain ⟨a15, ea15, h⟩ := h
    subst ea15
    replace h := q_be h
    obtain ⟨v16, hv, h⟩ := h
    replace hv := q_aI_e hv
    obtain ⟨_, _, cv16, iv16, yv16⟩ := hv
    replace h := q_be h
    obtain ⟨v17, hv, h⟩ := h
    replace hv := q_fR_e hv
    obtain ⟨_, cv17, dv17⟩ := hv
    replace h := q_be h
    obtain ⟨a18, ea18, h⟩ := h
    subst ea18
    replace h := q_be h
    obtain ⟨v19, hv, h⟩ := h
    replace hv := q_aI_e hv
    obtain ⟨_, _, cv19, iv19, yv19⟩ := hv
    cases h
    exact ⟨⟨some _, rfl⟩, _, _, cv14, dv14, _, _, cv16, iv16, _, yv16, ⟨some _, rfl⟩, _, _, cv17, dv17, _, _, cv19, iv19, _, yv19, rfl, hk⟩
  replace h := q_ifn hc13 h
  by_cases hc20 : v7 = 4
  · replace h := q_ifp hc20 h
    have eT : ps_tsel 31 92 0 4 #[33, 92, 43, 66, 83] v7 = 114 := by
      rw [hc20]; decide +kernel
    refine ps_at_eq eT ?_
    refine sX12_pngPixel_114 ?_
    refine rX12_colour rfl ?_
    cases h
    exact ⟨rfl, hk⟩
  replace h := q_ifn hc20 h
  have eD : ps_tsel 31 92 0 4 #[33, 92, 43, 66, 83] v7 = 123 := by
    refine q_tsd (by decide +kernel) (fun z h1 h2 => ?_)
    have hz : z = 0 ∨ z = 1 ∨ z = 2 ∨ z = 3 ∨ z = 4 := by omega
    rcases hz with rfl | rfl | rfl | rfl | rfl
    · exact Or.inl (q_tsx (v := 0) (fun z => hc8 z))
    · exact Or.inr (by decide +kernel)
    · exact Or.inl (q_tsx (v := 2) (fun z => hc9 z))
    · exact Or.inl (q_tsx (v := 3) (fun z => hc13 z))
    · exact Or.inl (q_tsx (v := 4) (fun z => hc20 z))
  refine ps_at_eq eD ?_
  refine sX12_pngPixel_123 ?_
  replace h := q_be h
  obtain ⟨v21, hv, h⟩ := h
  replace hv := q_fI_e hv
  obtain ⟨_, cv21, dv21⟩ := hv
  replace h := q_be h
  obtain ⟨u22, hv, h⟩ := h
  replace hv := q_ob_e hv
  obtain ⟨_, cu22⟩ := hv
  replace h := q_be h
  obtain ⟨v23, hv, h⟩ := h
  refine ⟨⟨some _, rfl⟩, ⟨some _, rfl⟩, _, _, cv21, dv21, ⟨_, cu22⟩, ?_⟩
  refine rX12_rowByte hv ?_
  replace h := q_be h
  obtain ⟨v24, hv, h⟩ := h
  replace hv := q_fI_e hv
  obtain ⟨_, cv24, dv24⟩ := hv
  replace h := q_be h
  obtain ⟨u25, hv, h⟩ := h
  replace hv := q_ob_e hv
  obtain ⟨_, cu25⟩ := hv
  replace h := q_be h
  obtain ⟨v26, hv, h⟩ := h
  refine ⟨⟨some _, rfl⟩, ⟨some _, rfl⟩, _, _, cv24, dv24, ⟨_, cu25⟩, ?_⟩
  refine rX12_rowByte hv ?_
  refine rX12_colour rfl ?_
  cases h
  exact ⟨rfl, hk⟩
noncomputable def bX12_png_74 (x0 : Nat) (x1 : Int32) (x2 : Int32) (x3 : Int32) (g : ps_G) : Option ((Int32 × ps_G) ⊕ (ps_G)) := Option.bind (q_fI 12 83 g x0) fun v24 => if v24 ≤ x3 then (some (.inr g)) else (Option.bind (q_fI 12 13 g x0) fun v27 => if v27 ≤ x3 then (some (.inr g)) else (Option.bind (q_ob 12 g x0) fun u30 => Option.bind (fX12_at g x0 x3 x2) fun v31 => Option.bind (q_ob 12 g x0) fun u32 => Option.bind (fX12_pngPixel g x0 x3 x2) fun v33 => Option.bind (q_ob 12 g x0) fun u34 => Option.bind (fX12_put g x0 x1 ((17 : Int32) + v31) v33) fun v35 => some (.inl (x3 + (1 : Int32), v35))))
theorem pbX12_png_74 {d : Nat} {Q : ps_Rs → ps_G → Prop}  {x0 : Nat} {x1 : Int32} {x2 : Int32} {x3 : Int32} {g : ps_G} {x : (Int32 × ps_G) ⊕ (ps_G)} (h : bX12_png_74 x0 x1 x2 x3 g = some x) (hh : ∀ s' : Int32 × ps_G, x = .inl s' → ps_At mX12_png (d + 5) 74 [(0, .ref x0), (1, .int x1), (2, .int x2), (3, .int s'.1)] [] s'.2 Q) (he : ∀ r' : ps_G, x = .inr r' → ps_At mX12_png (d + 5) 116 [(0, .ref x0), (1, .int x1), (2, .int x2)] [] r' Q) : ps_At mX12_png (d + 5) 74 [(0, .ref x0), (1, .int x1), (2, .int x2), (3, .int x3)] [] g Q := by
  unfold bX12_png_74 at h
  refine sX12_png_74 ?_
  replace h := q_be h
  obtain ⟨v24, hv, h⟩ := h
  replace hv := q_fI_e hv
  obtain ⟨_, cv24, dv24⟩ := hv
  refine ⟨⟨some _, rfl⟩, _, _, cv24, dv24, ?_⟩
  refine And.intro (fun hc25 => ?_) (fun hc25 => ?_)
  · replace h := q_ifp (hc25) h
    exact ps_weak (he g (Option.some.inj h).symm) ⟨rfl, rfl, rfl, trivial⟩
  · replace h := q_ifn (hc25) h
    replace h := q_be h
    obtain ⟨v27, hv, h⟩ := h
    replace hv := q_fI_e hv
    obtain ⟨_, cv27, dv27⟩ := hv
    refine ⟨⟨some _, rfl⟩, _, _, cv27, dv27, ?_⟩
    refine And.intro (fun hc28 => ?_) (fun hc28 => ?_)
    · replace h := q_ifp (hc28) h
      exact ps_weak (he g (Option.some.inj h).symm) ⟨rfl, rfl, rfl, trivial⟩
    · replace h := q_ifn (hc28) h
      replace h := q_be h
      obtain ⟨u30, hv, h⟩ := h
      replace hv := q_ob_e hv
      obtain ⟨_, cu30⟩ := hv
      replace h := q_be h
      obtain ⟨v31, hv, h⟩ := h
      refine ⟨⟨some _, rfl⟩, ⟨some _, rfl⟩, ⟨_, cu30⟩, ?_⟩
      refine rX12_at hv ?_
      replace h := q_be h
      obtain ⟨u32, hv, h⟩ := h
      replace hv := q_ob_e hv
      obtain ⟨_, cu32⟩ := hv
      replace h := q_be h
      obtain ⟨v33, hv, h⟩ := h
      refine ⟨⟨some _, rfl⟩, ⟨_, cu32⟩, ?_⟩
      refine rX12_pngPixel hv ?_
      replace h := q_be h
      obtain ⟨u34, hv, h⟩ := h
      replace hv := q_ob_e hv
      obtain ⟨_, cu34⟩ := hv
      replace h := q_be h
      obtain ⟨v35, hv, h⟩ := h
      refine ⟨⟨_, cu34⟩, ?_⟩
      refine rX12_put hv ?_
      refine ⟨by decide, ?_⟩
      exact ps_weak (hh (x3 + (1 : Int32), v35) (Option.some.inj h).symm) ⟨rfl, rfl, rfl, rfl, trivial⟩
noncomputable def jX12_png_116_56 (g : ps_G) (x0 : Nat) (x1 : Int32) (x2 : Int32) : Option ((Int32 × ps_G) ⊕ (ps_G)) := some (.inl (x2 + (1 : Int32), g))
theorem pjX12_png_116_56 {d : Nat} {Q : ps_Rs → ps_G → Prop} {g : ps_G} {x0 : Nat} {x1 : Int32} {x2 : Int32} {x : (Int32 × ps_G) ⊕ (ps_G)} (h : jX12_png_116_56 g x0 x1 x2 = some x) (hh : ∀ s' : Int32 × ps_G, x = .inl s' → ps_At mX12_png (d + 5) 56 [(0, .ref x0), (1, .int x1), (2, .int s'.1)] [] s'.2 Q) (he : ∀ r' : ps_G, x = .inr r' → ps_At mX12_png (d + 5) 122 [(0, .ref x0), (1, .int x1)] [] r' Q) : ps_At mX12_png (d + 5) 116 [(0, .ref x0), (1, .int x1), (2, .int x2)] [] g Q := by
  unfold jX12_png_116_56 at h
  refine sX12_png_116 ?_
  refine ⟨by decide, ?_⟩
  exact ps_weak (hh (x2 + (1 : Int32), g) (Option.some.inj h).symm) ⟨rfl, rfl, rfl, trivial⟩
noncomputable def bX12_png_56 (x0 : Nat) (x1 : Int32) (x2 : Int32) (g : ps_G) : Option ((Int32 × ps_G) ⊕ (ps_G)) := Option.bind (q_fI 12 84 g x0) fun v19 => if v19 ≤ x2 then (some (.inr g)) else (Option.bind (q_fI 12 14 g x0) fun v22 => if v22 ≤ x2 then (some (.inr g)) else (Option.bind (q_lp (fun s => bX12_png_74 x0 x1 x2 s.1 s.2) ((0 : Int32), g)) fun s40 => jX12_png_116_56 s40 x0 x1 x2))
theorem pbX12_png_56 {d : Nat} {Q : ps_Rs → ps_G → Prop}  {x0 : Nat} {x1 : Int32} {x2 : Int32} {g : ps_G} {x : (Int32 × ps_G) ⊕ (ps_G)} (h : bX12_png_56 x0 x1 x2 g = some x) (hh : ∀ s' : Int32 × ps_G, x = .inl s' → ps_At mX12_png (d + 5) 56 [(0, .ref x0), (1, .int x1), (2, .int s'.1)] [] s'.2 Q) (he : ∀ r' : ps_G, x = .inr r' → ps_At mX12_png (d + 5) 122 [(0, .ref x0), (1, .int x1)] [] r' Q) : ps_At mX12_png (d + 5) 56 [(0, .ref x0), (1, .int x1), (2, .int x2)] [] g Q := by
  unfold bX12_png_56 at h
  refine sX12_png_56 ?_
  replace h := q_be h
  obtain ⟨v19, hv, h⟩ := h
  replace hv := q_fI_e hv
  obtain ⟨_, cv19, dv19⟩ := hv
  refine ⟨⟨some _, rfl⟩, _, _, cv19, dv19, ?_⟩
  refine And.intro (fun hc20 => ?_) (fun hc20 => ?_)
  · replace h := q_ifp (hc20) h
    exact ps_weak (he g (Option.some.inj h).symm) ⟨rfl, rfl, trivial⟩
  · replace h := q_ifn (hc20) h
    replace h := q_be h
    obtain ⟨v22, hv, h⟩ := h
    replace hv := q_fI_e hv
    obtain ⟨_, cv22, dv22⟩ := hv
    refine ⟨⟨some _, rfl⟩, _, _, cv22, dv22, ?_⟩
    refine And.intro (fun hc23 => ?_) (fun hc23 => ?_)
    · replace h := q_ifp (hc23) h
      exact ps_weak (he g (Option.some.inj h).symm) ⟨rfl, rfl, trivial⟩
    · replace h := q_ifn (hc23) h
      refine ⟨by decide, ?_⟩
      replace h := q_be h
      obtain ⟨s40, hl, h⟩ := h
      refine ps_weak (q_lp_ok hl (fun s => ps_At mX12_png (d + 5) 74 [(0, .ref x0), (1, .int x1), (2, .int x2), (3, .int s.1)] [] s.2 Q) (fun r => ps_At mX12_png (d + 5) 116 [(0, .ref x0), (1, .int x1), (2, .int x2)] [] r Q) (fun s x hb hh he => pbX12_png_74 hb hh he) ?_) ⟨rfl, rfl, rfl, rfl, trivial⟩
      refine (?_ : ps_At mX12_png (d + 5) 116 [(0, .ref x0), (1, .int x1), (2, .int x2)] [] s40 Q)
      exact ps_weak (pjX12_png_116_56 h hh he) ⟨rfl, rfl, rfl, trivial⟩
noncomputable def jX12_png_122 (g : ps_G) (x0 : Nat) (x1 : Int32) : Option (Int32 × ps_G) := Option.bind (q_ob 12 g x0) fun u46 => Option.bind (fX12_edited g x0) fun v47 => Option.bind (q_ob 12 v47 x0) fun u48 => Option.bind (fX12_forget v47 x0) fun v49 => some (x1, v49)
theorem pjX12_png_122 {d : Nat} {Q : ps_Rs → ps_G → Prop} {g : ps_G} {x0 : Nat} {x1 : Int32} {r : Int32 × ps_G} (h : jX12_png_122 g x0 x1 = some r) (hk : Q (.inl (some (.int r.1))) r.2) : ps_At mX12_png (d + 5) 122 [(0, .ref x0), (1, .int x1)] [] g Q := by
  unfold jX12_png_122 at h
  refine sX12_png_122 ?_
  replace h := q_be h
  obtain ⟨u46, hv, h⟩ := h
  replace hv := q_ob_e hv
  obtain ⟨_, cu46⟩ := hv
  replace h := q_be h
  obtain ⟨v47, hv, h⟩ := h
  refine ⟨⟨some _, rfl⟩, ⟨_, cu46⟩, ?_⟩
  refine rX12_edited hv ?_
  replace h := q_be h
  obtain ⟨u48, hv, h⟩ := h
  replace hv := q_ob_e hv
  obtain ⟨_, cu48⟩ := hv
  replace h := q_be h
  obtain ⟨v49, hv, h⟩ := h
  refine ⟨⟨some _, rfl⟩, ⟨_, cu48⟩, ?_⟩
  refine rX12_forget hv ?_
  cases h
  exact ⟨rfl, hk⟩
noncomputable def jX12_png_19 (g : ps_G) (x0 : Nat) : Option (Int32 × ps_G) := Option.bind (q_ob 12 g x0) fun u8 => q_b2 (fX12_full g x0) fun v9 g10 => if v9 = 0 then (Option.bind (q_fI 12 4 g10 x0) fun v12 => if v12 ≤ 0 then (Option.bind (q_ob 12 g10 x0) fun u14 => Option.bind (fX12_many g10 x0 (-1 : Int32)) fun v15 => Option.bind (q_ob 12 g10 x0) fun u16 => q_b2 (fX12_newLayer g10 x0 (0 : Int32) (-1 : Int32) v15) fun v17 g18 => Option.bind (q_lp (fun s => bX12_png_56 x0 v17 s.1 s.2) ((0 : Int32), g18)) fun s45 => jX12_png_122 s45 x0 v17) else (Option.bind (q_sI 12 0 g10 x0 (2 : Int32)) fun g50 => some ((0 : Int32), g50))) else (some ((0 : Int32), g10))
theorem pjX12_png_19 {d : Nat} {Q : ps_Rs → ps_G → Prop} {g : ps_G} {x0 : Nat} {r : Int32 × ps_G} (h : jX12_png_19 g x0 = some r) (hk : Q (.inl (some (.int r.1))) r.2) : ps_At mX12_png (d + 5) 19 [(0, .ref x0)] [] g Q := by
  unfold jX12_png_19 at h
  refine sX12_png_19 ?_
  replace h := q_be h
  obtain ⟨u8, hv, h⟩ := h
  replace hv := q_ob_e hv
  obtain ⟨_, cu8⟩ := hv
  replace h := q_b2_e h
  obtain ⟨v9, g10, hv, h⟩ := h
  refine ⟨⟨some _, rfl⟩, ⟨_, cu8⟩, ?_⟩
  refine rX12_full hv ?_
  refine And.intro (fun hc11 => ?_) (fun hc11 => ?_)
  · replace h := q_ifp (hc11) h
    refine sX12_png_28 ?_
    replace h := q_be h
    obtain ⟨v12, hv, h⟩ := h
    replace hv := q_fI_e hv
    obtain ⟨_, cv12, dv12⟩ := hv
    refine ⟨⟨some _, rfl⟩, _, _, cv12, dv12, ?_⟩
    refine And.intro (fun hc13 => ?_) (fun hc13 => ?_)
    · replace h := q_ifp (hc13) h
      refine sX12_png_42 ?_
      replace h := q_be h
      obtain ⟨u14, hv, h⟩ := h
      replace hv := q_ob_e hv
      obtain ⟨_, cu14⟩ := hv
      replace h := q_be h
      obtain ⟨v15, hv, h⟩ := h
      refine ⟨⟨some _, rfl⟩, ⟨some _, rfl⟩, ⟨_, cu14⟩, ?_⟩
      refine rX12_many hv ?_
      replace h := q_be h
      obtain ⟨u16, hv, h⟩ := h
      replace hv := q_ob_e hv
      obtain ⟨_, cu16⟩ := hv
      replace h := q_b2_e h
      obtain ⟨v17, g18, hv, h⟩ := h
      refine ⟨⟨_, cu16⟩, ?_⟩
      refine rX12_newLayer hv ?_
      refine ⟨by decide, by decide, ?_⟩
      replace h := q_be h
      obtain ⟨s45, hl, h⟩ := h
      refine ps_weak (q_lp_ok hl (fun s => ps_At mX12_png (d + 5) 56 [(0, .ref x0), (1, .int v17), (2, .int s.1)] [] s.2 Q) (fun r => ps_At mX12_png (d + 5) 122 [(0, .ref x0), (1, .int v17)] [] r Q) (fun s x hb hh he => pbX12_png_56 hb hh he) ?_) ⟨rfl, rfl, rfl, trivial⟩
      refine (?_ : ps_At mX12_png (d + 5) 122 [(0, .ref x0), (1, .int v17)] [] s45 Q)
      exact ps_weak (pjX12_png_122 h hk) ⟨rfl, rfl, trivial⟩
    · replace h := q_ifn (hc13) h
      replace h := q_be h
      obtain ⟨g50, hv, h⟩ := h
      replace hv := q_sI_e hv
      obtain ⟨_, cg50, dg50, yg50⟩ := hv
      cases h
      exact ⟨⟨some _, rfl⟩, _, cg50, dg50, rfl, rfl, _, yg50, rfl, hk⟩
  · replace h := q_ifn (hc11) h
    cases h
    exact ⟨rfl, hk⟩
noncomputable def fX12_png (g : ps_G) (x0 : Nat) : Option (Int32 × ps_G) := Option.bind (q_ob 12 g x0) fun u1 => Option.bind (fX12_takeInput g x0) fun v2 => Option.bind (q_ob 12 v2 x0) fun u3 => Option.bind (fX12_readChunks v2 x0) fun v4 => Option.bind (q_fI 12 4 v4 x0) fun v5 => if ¬ v5 = 0 then (jX12_png_19 v4 x0) else (Option.bind (q_ob 12 v4 x0) fun u55 => Option.bind (fX12_readRows v4 x0) fun v56 => jX12_png_19 v56 x0)
theorem rX12_png {d : Nat} {Q : ps_Rs → ps_G → Prop} {g : ps_G} {x0 : Nat} {r : Int32 × ps_G} (h : fX12_png g x0 = some r) (hk : Q (.inl (some (.int r.1))) r.2) : ps_Ok mX12_png (d + 5) [.ref x0] g Q := by
  unfold fX12_png at h
  refine sX12_png_0 ?_
  replace h := q_be h
  obtain ⟨u1, hv, h⟩ := h
  replace hv := q_ob_e hv
  obtain ⟨_, cu1⟩ := hv
  replace h := q_be h
  obtain ⟨v2, hv, h⟩ := h
  refine ⟨⟨some _, rfl⟩, ⟨_, cu1⟩, ?_⟩
  refine rX12_takeInput hv ?_
  replace h := q_be h
  obtain ⟨u3, hv, h⟩ := h
  replace hv := q_ob_e hv
  obtain ⟨_, cu3⟩ := hv
  replace h := q_be h
  obtain ⟨v4, hv, h⟩ := h
  refine ⟨⟨some _, rfl⟩, ⟨_, cu3⟩, ?_⟩
  refine rX12_readChunks hv ?_
  replace h := q_be h
  obtain ⟨v5, hv, h⟩ := h
  replace hv := q_fI_e hv
  obtain ⟨_, cv5, dv5⟩ := hv
  refine ⟨⟨some _, rfl⟩, _, _, cv5, dv5, ?_⟩
  refine And.intro (fun hc6 => ?_) (fun hc6 => ?_)
  · replace h := q_ifp (hc6) h
    exact ps_weak (pjX12_png_19 h hk) ⟨rfl, trivial⟩
  · replace h := q_ifn (hc6) h
    replace h := q_be h
    obtain ⟨u55, hv, h⟩ := h
    replace hv := q_ob_e hv
    obtain ⟨_, cu55⟩ := hv
    replace h := q_be h
    obtain ⟨v56, hv, h⟩ := h
    refine ⟨⟨some _, rfl⟩, ⟨_, cu55⟩, ?_⟩
    refine rX12_readRows hv ?_
    exact ps_weak (pjX12_png_19 h hk) ⟨rfl, trivial⟩
