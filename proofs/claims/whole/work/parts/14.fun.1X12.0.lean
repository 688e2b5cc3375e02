noncomputable def bX12_keep_2 (x0 : Nat) (x1 : Int32) (g : ps_G) : Option ((Int32 × ps_G) ⊕ (ps_G)) := if (35071 : Int32) ≤ x1 then (some (.inr g)) else (Option.bind (q_fR 12 9 g x0) fun v3 => Option.bind (v3) fun a4 => Option.bind (q_fI 12 10 g x0) fun v5 => Option.bind (q_fI 12 11 g x0) fun v6 => Option.bind (q_fR 12 8 g x0) fun v7 => Option.bind (v7) fun a8 => Option.bind (q_aI g a8 x1) fun v9 => Option.bind (q_wI g a4 (((35071 : Int32) * (q_rem (v5 + v6) (25 : Int32))) + x1) v9) fun g10 => some (.inl (x1 + (1 : Int32), g10)))
theorem pbX12_keep_2 {d : Nat} {Q : ps_Rs → ps_G → Prop}  {x0 : Nat} {x1 : Int32} {g : ps_G} {x : (Int32 × ps_G) ⊕ (ps_G)} (h : bX12_keep_2 x0 x1 g = some x) (hh : ∀ s' : Int32 × ps_G, x = .inl s' → ps_At mX12_keep d 2 [(0, .ref x0), (1, .int s'.1)] [] s'.2 Q) (he : ∀ r' : ps_G, x = .inr r' → ps_At mX12_keep d 42 [] [] r' Q) : ps_At mX12_keep d 2 [(0, .ref x0), (1, .int x1)] [] g Q := by
  unfold bX12_keep_2 at h
  refine sX12_keep_2 ?_
  refine And.intro (fun hc1 => ?_) (fun hc1 => ?_)
  · replace h := q_ifp (hc1) h
    exact ps_weak (he g (Option.some.inj h).symm) trivial
  · replace h := q_ifn (hc1) h
    replace h := q_be h
    obtain ⟨v3, hv, h⟩ := h
    replace hv := q_fR_e hv
    obtain ⟨_, cv3, dv3⟩ := hv
    replace h := q_be h
    obtain ⟨a4, ea4, h⟩ := h
    subst ea4
    replace h := q_be h
    obtain ⟨v5, hv, h⟩ := h
    replace hv := q_fI_e hv
    obtain ⟨_, cv5, dv5⟩ := hv
    replace h := q_be h
    obtain ⟨v6, hv, h⟩ := h
    replace hv := q_fI_e hv
    obtain ⟨_, cv6, dv6⟩ := hv
    replace h := q_be h
    obtain ⟨v7, hv, h⟩ := h
    replace hv := q_fR_e hv
    obtain ⟨_, cv7, dv7⟩ := hv
    replace h := q_be h
    obtain ⟨a8, ea8, h⟩ := h
    subst ea8
    replace h := q_be h
    obtain ⟨v9, hv, h⟩ := h
    replace hv := q_aI_e hv
    obtain ⟨_, _, cv9, iv9, yv9⟩ := hv
    replace h := q_be h
    obtain ⟨g10, hv, h⟩ := h
    replace hv := q_wI_e hv
    obtain ⟨_, _, cg10, pg10, ig10, yg10⟩ := hv
    refine ⟨⟨some _, rfl⟩, _, _, cv3, dv3, ⟨some _, rfl⟩, _, _, cv5, dv5, ⟨some _, rfl⟩, _, _, cv6, dv6, by decide, _, rfl, ⟨some _, rfl⟩, _, _, cv7, dv7, _, _, cv9, iv9, _, yv9, _, _, cg10, pg10, ig10, _, yg10, by decide, ?_⟩
    exact ps_weak (hh (x1 + (1 : Int32), g10) (Option.some.inj h).symm) ⟨rfl, rfl, trivial⟩
noncomputable def fX12_keep (g : ps_G) (x0 : Nat) : Option (ps_G) := Option.bind (q_lp (fun s => bX12_keep_2 x0 s.1 s.2) ((0 : Int32), g)) fun s13 => some s13
theorem rX12_keep {d : Nat} {Q : ps_Rs → ps_G → Prop} {g : ps_G} {x0 : Nat} {r : ps_G} (h : fX12_keep g x0 = some r) (hk : Q (.inl none) r) : ps_Ok mX12_keep d [.ref x0] g Q := by
  unfold fX12_keep at h
  refine sX12_keep_0 ?_
  refine ⟨by decide, ?_⟩
  replace h := q_be h
  obtain ⟨s13, hl, h⟩ := h
  refine ps_weak (q_lp_ok hl (fun s => ps_At mX12_keep d 2 [(0, .ref x0), (1, .int s.1)] [] s.2 Q) (fun r => ps_At mX12_keep d 42 [] [] r Q) (fun s x hb hh he => pbX12_keep_2 hb hh he) ?_) ⟨rfl, rfl, trivial⟩
  refine (?_ : ps_At mX12_keep d 42 [] [] s13 Q)
  refine sX12_keep_42 ?_
  cases h
  exact ⟨rfl, rfl, hk⟩
noncomputable def bX12_forget_2 (x0 : Nat) (x1 : Int32) (g : ps_G) : Option ((Int32 × ps_G) ⊕ (ps_G)) := if (9 : Int32) ≤ x1 then (some (.inr g)) else (Option.bind (q_fR 12 21 g x0) fun v3 => Option.bind (v3) fun a4 => Option.bind (q_wB g a4 x1 (0 : Int32)) fun g5 => some (.inl (x1 + (1 : Int32), g5)))
theorem pbX12_forget_2 {d : Nat} {Q : ps_Rs → ps_G → Prop}  {x0 : Nat} {x1 : Int32} {g : ps_G} {x : (Int32 × ps_G) ⊕ (ps_G)} (h : bX12_forget_2 x0 x1 g = some x) (hh : ∀ s' : Int32 × ps_G, x = .inl s' → ps_At mX12_forget d 2 [(0, .ref x0), (1, .int s'.1)] [] s'.2 Q) (he : ∀ r' : ps_G, x = .inr r' → ps_At mX12_forget d 21 [] [] r' Q) : ps_At mX12_forget d 2 [(0, .ref x0), (1, .int x1)] [] g Q := by
  unfold bX12_forget_2 at h
  refine sX12_forget_2 ?_
  refine And.intro (fun hc1 => ?_) (fun hc1 => ?_)
  · replace h := q_ifp (hc1) h
    exact ps_weak (he g (Option.some.inj h).symm) trivial
  · replace h := q_ifn (hc1) h
    replace h := q_be h
    obtain ⟨v3, hv, h⟩ := h
    replace hv := q_fR_e hv
    obtain ⟨_, cv3, dv3⟩ := hv
    replace h := q_be h
    obtain ⟨a4, ea4, h⟩ := h
    subst ea4
    replace h := q_be h
    obtain ⟨g5, hv, h⟩ := h
    replace hv := q_wB_e hv
    obtain ⟨_, _, cg5, ig5, yg5⟩ := hv
    refine ⟨⟨some _, rfl⟩, _, _, cv3, dv3, _, _, cg5, ig5, _, yg5, by decide, ?_⟩
    exact ps_weak (hh (x1 + (1 : Int32), g5) (Option.some.inj h).symm) ⟨rfl, rfl, trivial⟩
noncomputable def fX12_forget (g : ps_G) (x0 : Nat) : Option (ps_G) := Option.bind (q_lp (fun s => bX12_forget_2 x0 s.1 s.2) ((0 : Int32), g)) fun s8 => some s8
theorem rX12_forget {d : Nat} {Q : ps_Rs → ps_G → Prop} {g : ps_G} {x0 : Nat} {r : ps_G} (h : fX12_forget g x0 = some r) (hk : Q (.inl none) r) : ps_Ok mX12_forget d [.ref x0] g Q := by
  unfold fX12_forget at h
  refine sX12_forget_0 ?_
  refine ⟨by decide, ?_⟩
  replace h := q_be h
  obtain ⟨s8, hl, h⟩ := h
  refine ps_weak (q_lp_ok hl (fun s => ps_At mX12_forget d 2 [(0, .ref x0), (1, .int s.1)] [] s.2 Q) (fun r => ps_At mX12_forget d 21 [] [] r Q) (fun s x hb hh he => pbX12_forget_2 hb hh he) ?_) ⟨rfl, rfl, trivial⟩
  refine (?_ : ps_At mX12_forget d 21 [] [] s8 Q)
  refine sX12_forget_21 ?_
  cases h
  exact ⟨rfl, rfl, hk⟩
noncomputable def bX12_fresh_12 (x0 : Nat) (x3 : Int32) (g : ps_G) : Option ((Int32 × ps_G) ⊕ (ps_G)) := if (35071 : Int32) ≤ x3 then (some (.inr g)) else (Option.bind (q_fR 12 8 g x0) fun v5 => Option.bind (v5) fun a6 => Option.bind (q_wI g a6 x3 (0 : Int32)) fun g7 => some (.inl (x3 + (1 : Int32), g7)))
theorem pbX12_fresh_12 {d : Nat} {Q : ps_Rs → ps_G → Prop}  {x0 : Nat} {x3 : Int32} {g : ps_G} {x : (Int32 × ps_G) ⊕ (ps_G)} (h : bX12_fresh_12 x0 x3 g = some x) (hh : ∀ s' : Int32 × ps_G, x = .inl s' → ps_At mX12_fresh (d + 1) 12 [(0, .ref x0), (3, .int s'.1)] [] s'.2 Q) (he : ∀ r' : ps_G, x = .inr r' → ps_At mX12_fresh (d + 1) 31 [(0, .ref x0)] [] r' Q) : ps_At mX12_fresh (d + 1) 12 [(0, .ref x0), (3, .int x3)] [] g Q := by
  unfold bX12_fresh_12 at h
  refine sX12_fresh_12 ?_
  refine And.intro (fun hc3 => ?_) (fun hc3 => ?_)
  · replace h := q_ifp (hc3) h
    exact ps_weak (he g (Option.some.inj h).symm) ⟨rfl, trivial⟩
  · replace h := q_ifn (hc3) h
    replace h := q_be h
    obtain ⟨v5, hv, h⟩ := h
    replace hv := q_fR_e hv
    obtain ⟨_, cv5, dv5⟩ := hv
    replace h := q_be h
    obtain ⟨a6, ea6, h⟩ := h
    subst ea6
    replace h := q_be h
    obtain ⟨g7, hv, h⟩ := h
    replace hv := q_wI_e hv
    obtain ⟨_, _, cg7, pg7, ig7, yg7⟩ := hv
    refine ⟨⟨some _, rfl⟩, _, _, cv5, dv5, _, _, cg7, pg7, ig7, _, yg7, by decide, ?_⟩
    exact ps_weak (hh (x3 + (1 : Int32), g7) (Option.some.inj h).symm) ⟨rfl, rfl, trivial⟩
noncomputable def bX12_fresh_52 (x0 : Nat) (x3 : Int32) (g : ps_G) : Option ((Int32 × ps_G) ⊕ (ps_G)) := if (576 : Int32) ≤ x3 then (some (.inr g)) else (Option.bind (q_fR 12 31 g x0) fun v18 => Option.bind (v18) fun a19 => Option.bind (q_wI g a19 x3 (255 : Int32)) fun g20 => some (.inl (x3 + (1 : Int32), g20)))
theorem pbX12_fresh_52 {d : Nat} {Q : ps_Rs → ps_G → Prop}  {x0 : Nat} {x3 : Int32} {g : ps_G} {x : (Int32 × ps_G) ⊕ (ps_G)} (h : bX12_fresh_52 x0 x3 g = some x) (hh : ∀ s' : Int32 × ps_G, x = .inl s' → ps_At mX12_fresh (d + 1) 52 [(0, .ref x0), (3, .int s'.1)] [] s'.2 Q) (he : ∀ r' : ps_G, x = .inr r' → ps_At mX12_fresh (d + 1) 74 [(0, .ref x0)] [] r' Q) : ps_At mX12_fresh (d + 1) 52 [(0, .ref x0), (3, .int x3)] [] g Q := by
  unfold bX12_fresh_52 at h
  refine sX12_fresh_52 ?_
  refine And.intro (fun hc16 => ?_) (fun hc16 => ?_)
  · replace h := q_ifp (hc16) h
    exact ps_weak (he g (Option.some.inj h).symm) ⟨rfl, trivial⟩
  · replace h := q_ifn (hc16) h
    replace h := q_be h
    obtain ⟨v18, hv, h⟩ := h
    replace hv := q_fR_e hv
    obtain ⟨_, cv18, dv18⟩ := hv
    replace h := q_be h
    obtain ⟨a19, ea19, h⟩ := h
    subst ea19
    replace h := q_be h
    obtain ⟨g20, hv, h⟩ := h
    replace hv := q_wI_e hv
    obtain ⟨_, _, cg20, pg20, ig20, yg20⟩ := hv
    refine ⟨⟨some _, rfl⟩, _, _, cv18, dv18, _, _, cg20, pg20, ig20, _, yg20, by decide, ?_⟩
    exact ps_weak (hh (x3 + (1 : Int32), g20) (Option.some.inj h).symm) ⟨rfl, rfl, trivial⟩
noncomputable def fX12_fresh (g : ps_G) (x0 : Nat) (x1 : Int32) (x2 : Int32) : Option (ps_G) := Option.bind (q_sI 12 13 g x0 x1) fun g1 => Option.bind (q_sI 12 14 g1 x0 x2) fun g2 => Option.bind (q_lp (fun s => bX12_fresh_12 x0 s.1 s.2) ((0 : Int32), g2)) fun s10 => Option.bind (q_sI 12 10 s10 x0 (0 : Int32)) fun g11 => Option.bind (q_sI 12 11 g11 x0 (0 : Int32)) fun g12 => Option.bind (q_sI 12 12 g12 x0 (1 : Int32)) fun g13 => Option.bind (q_ob 12 g13 x0) fun u14 => Option.bind (fX12_keep g13 x0) fun v15 => Option.bind (q_lp (fun s => bX12_fresh_52 x0 s.1 s.2) ((0 : Int32), v15)) fun s23 => Option.bind (q_ob 12 s23 x0) fun u24 => Option.bind (fX12_forget s23 x0) fun v25 => some v25
theorem rX12_fresh {d : Nat} {Q : ps_Rs → ps_G → Prop} {g : ps_G} {x0 : Nat} {x1 : Int32} {x2 : Int32} {r : ps_G} (h : fX12_fresh g x0 x1 x2 = some r) (hk : Q (.inl none) r) : ps_Ok mX12_fresh (d + 1) [.ref x0, .int x1, .int x2] g Q := by
  unfold fX12_fresh at h
  refine sX12_fresh_0 ?_
  replace h := q_be h
  obtain ⟨g1, hv, h⟩ := h
  replace hv := q_sI_e hv
  obtain ⟨_, cg1, dg1, yg1⟩ := hv
  replace h := q_be h
  obtain ⟨g2, hv, h⟩ := h
  replace hv := q_sI_e hv
  obtain ⟨_, cg2, dg2, yg2⟩ := hv
  refine ⟨⟨some _, rfl⟩, _, cg1, dg1, rfl, rfl, _, yg1, ⟨some _, rfl⟩, _, cg2, dg2, rfl, rfl, _, yg2, by decide, ?_⟩
  replace h := q_be h
  obtain ⟨s10, hl, h⟩ := h
  refine ps_weak (q_lp_ok hl (fun s => ps_At mX12_fresh (d + 1) 12 [(0, .ref x0), (3, .int s.1)] [] s.2 Q) (fun r => ps_At mX12_fresh (d + 1) 31 [(0, .ref x0)] [] r Q) (fun s x hb hh he => pbX12_fresh_12 hb hh he) ?_) ⟨rfl, rfl, trivial⟩
  refine (?_ : ps_At mX12_fresh (d + 1) 31 [(0, .ref x0)] [] s10 Q)
  refine sX12_fresh_31 ?_
  replace h := q_be h
  obtain ⟨g11, hv, h⟩ := h
  replace hv := q_sI_e hv
  obtain ⟨_, cg11, dg11, yg11⟩ := hv
  replace h := q_be h
  obtain ⟨g12, hv, h⟩ := h
  replace hv := q_sI_e hv
  obtain ⟨_, cg12, dg12, yg12⟩ := hv
  replace h := q_be h
  obtain ⟨g13, hv, h⟩ := h
  replace hv := q_sI_e hv
  obtain ⟨_, cg13, dg13, yg13⟩ := hv
  replace h := q_be h
  obtain ⟨u14, hv, h⟩ := h
  replace hv := q_ob_e hv
  obtain ⟨_, cu14⟩ := hv
  replace h := q_be h
  obtain ⟨v15, hv, h⟩ := h
  refine ⟨⟨some _, rfl⟩, _, cg11, dg11, rfl, rfl, _, yg11, ⟨some _, rfl⟩, _, cg12, dg12, rfl, rfl, _, yg12, ⟨some _, rfl⟩, _, cg13, dg13, rfl, rfl, _, yg13, ⟨some _, rfl⟩, ⟨_, cu14⟩, ?_⟩
  refine rX12_keep hv ?_
  refine ⟨by decide, ?_⟩
  replace h := q_be h
  obtain ⟨s23, hl, h⟩ := h
  refine ps_weak (q_lp_ok hl (fun s => ps_At mX12_fresh (d + 1) 52 [(0, .ref x0), (3, .int s.1)] [] s.2 Q) (fun r => ps_At mX12_fresh (d + 1) 74 [(0, .ref x0)] [] r Q) (fun s x hb hh he => pbX12_fresh_52 hb hh he) ?_) ⟨rfl, rfl, trivial⟩
  refine (?_ : ps_At mX12_fresh (d + 1) 74 [(0, .ref x0)] [] s23 Q)
  refine sX12_fresh_74 ?_
  replace h := q_be h
  obtain ⟨u24, hv, h⟩ := h
  replace hv := q_ob_e hv
  obtain ⟨_, cu24⟩ := hv
  replace h := q_be h
  obtain ⟨v25, hv, h⟩ := h
  refine ⟨⟨some _, rfl⟩, ⟨_, cu24⟩, ?_⟩
  refine rX12_forget hv ?_
  cases h
  exact ⟨rfl, rfl, hk⟩
noncomputable def bX12_init_1280 (x0 : Nat) (x1 : Int32) (x2 : Int32) (g : ps_G) : Option ((Int32 × ps_G) ⊕ (ps_G)) := if (9 : Int32) ≤ x2 then (some (.inr g)) else (Option.bind (q_fR 12 59 g x0) fun v259 => Option.bind (v259) fun a260 => Option.bind (q_wI g a260 (((10 : Int32) * x1) + x2) (1024 : Int32)) fun g261 => some (.inl (x2 + (4 : Int32), g261)))
theorem pbX12_init_1280 {d : Nat} {Q : ps_Rs → ps_G → Prop}  {x0 : Nat} {x1 : Int32} {x2 : Int32} {g : ps_G} {x : (Int32 × ps_G) ⊕ (ps_G)} (h : bX12_init_1280 x0 x1 x2 g = some x) (hh : ∀ s' : Int32 × ps_G, x = .inl s' → ps_At mX12_init (d + 2) 1280 [(0, .ref x0), (1, .int x1), (2, .int s'.1)] [] s'.2 Q) (he : ∀ r' : ps_G, x = .inr r' → ps_At mX12_init (d + 2) 1306 [(0, .ref x0), (1, .int x1)] [] r' Q) : ps_At mX12_init (d + 2) 1280 [(0, .ref x0), (1, .int x1), (2, .int x2)] [] g Q := by
  unfold bX12_init_1280 at h
  refine sX12_init_1280 ?_
  refine And.intro (fun hc257 => ?_) (fun hc257 => ?_)
  · replace h := q_ifp (hc257) h
    exact ps_weak (he g (Option.some.inj h).symm) ⟨rfl, rfl, trivial⟩
  · replace h := q_ifn (hc257) h
    replace h := q_be h
    obtain ⟨v259, hv, h⟩ := h
    replace hv := q_fR_e hv
    obtain ⟨_, cv259, dv259⟩ := hv
    replace h := q_be h
    obtain ⟨a260, ea260, h⟩ := h
    subst ea260
    replace h := q_be h
    obtain ⟨g261, hv, h⟩ := h
    replace hv := q_wI_e hv
    obtain ⟨_, _, cg261, pg261, ig261, yg261⟩ := hv
    refine ⟨⟨some _, rfl⟩, _, _, cv259, dv259, _, _, cg261, pg261, ig261, _, yg261, by decide, ?_⟩
    exact ps_weak (hh (x2 + (4 : Int32), g261) (Option.some.inj h).symm) ⟨rfl, rfl, rfl, trivial⟩
noncomputable def bX12_init_1273 (x0 : Nat) (x1 : Int32) (g : ps_G) : Option ((Int32 × ps_G) ⊕ (ps_G)) := if (4 : Int32) ≤ x1 then (some (.inr g)) else (Option.bind (q_lp (fun s => bX12_init_1280 x0 x1 s.1 s.2) ((0 : Int32), g)) fun s264 => some (.inl (x1 + (1 : Int32), s264)))
theorem pbX12_init_1273 {d : Nat} {Q : ps_Rs → ps_G → Prop}  {x0 : Nat} {x1 : Int32} {g : ps_G} {x : (Int32 × ps_G) ⊕ (ps_G)} (h : bX12_init_1273 x0 x1 g = some x) (hh : ∀ s' : Int32 × ps_G, x = .inl s' → ps_At mX12_init (d + 2) 1273 [(0, .ref x0), (1, .int s'.1)] [] s'.2 Q) (he : ∀ r' : ps_G, x = .inr r' → ps_At mX12_init (d + 2) 1312 [(0, .ref x0)] [] r' Q) : ps_At mX12_init (d + 2) 1273 [(0, .ref x0), (1, .int x1)] [] g Q := by
  unfold bX12_init_1273 at h
  refine sX12_init_1273 ?_
  refine And.intro (fun hc256 => ?_) (fun hc256 => ?_)
  · replace h := q_ifp (hc256) h
    exact ps_weak (he g (Option.some.inj h).symm) ⟨rfl, trivial⟩
  · replace h := q_ifn (hc256) h
    refine ⟨by decide, ?_⟩
    replace h := q_be h
    obtain ⟨s264, hl, h⟩ := h
    refine ps_weak (q_lp_ok hl (fun s => ps_At mX12_init (d + 2) 1280 [(0, .ref x0), (1, .int x1), (2, .int s.1)] [] s.2 Q) (fun r => ps_At mX12_init (d + 2) 1306 [(0, .ref x0), (1, .int x1)] [] r Q) (fun s x hb hh he => pbX12_init_1280 hb hh he) ?_) ⟨rfl, rfl, rfl, trivial⟩
    refine (?_ : ps_At mX12_init (d + 2) 1306 [(0, .ref x0), (1, .int x1)] [] s264 Q)
    refine sX12_init_1306 ?_
    refine ⟨by decide, ?_⟩
    exact ps_weak (hh (x1 + (1 : Int32), s264) (Option.some.inj h).symm) ⟨rfl, rfl, trivial⟩
noncomputable def bX12_init_1314 (x0 : Nat) (x1 : Int32) (g : ps_G) : Option ((Int32 × ps_G) ⊕ (ps_G)) := if (4 : Int32) ≤ x1 then (some (.inr g)) else (Option.bind (q_fR 12 66 g x0) fun v270 => Option.bind (v270) fun a271 => Option.bind (q_wI g a271 x1 (64 : Int32)) fun g272 => some (.inl (x1 + (1 : Int32), g272)))
theorem pbX12_init_1314 {d : Nat} {Q : ps_Rs → ps_G → Prop}  {x0 : Nat} {x1 : Int32} {g : ps_G} {x : (Int32 × ps_G) ⊕ (ps_G)} (h : bX12_init_1314 x0 x1 g = some x) (hh : ∀ s' : Int32 × ps_G, x = .inl s' → ps_At mX12_init (d + 2) 1314 [(0, .ref x0), (1, .int s'.1)] [] s'.2 Q) (he : ∀ r' : ps_G, x = .inr r' → ps_At mX12_init (d + 2) 1333 [(0, .ref x0)] [] r' Q) : ps_At mX12_init (d + 2) 1314 [(0, .ref x0), (1, .int x1)] [] g Q := by
  unfold bX12_init_1314 at h
  refine sX12_init_1314 ?_
  refine And.intro (fun hc268 => ?_) (fun hc268 => ?_)
  · replace h := q_ifp (hc268) h
    exact ps_weak (he g (Option.some.inj h).symm) ⟨rfl, trivial⟩
  · replace h := q_ifn (hc268) h
    replace h := q_be h
    obtain ⟨v270, hv, h⟩ := h
    replace hv := q_fR_e hv
    obtain ⟨_, cv270, dv270⟩ := hv
    replace h := q_be h
    obtain ⟨a271, ea271, h⟩ := h
    subst ea271
    replace h := q_be h
    obtain ⟨g272, hv, h⟩ := h
    replace hv := q_wI_e hv
    obtain ⟨_, _, cg272, pg272, ig272, yg272⟩ := hv
    refine ⟨⟨some _, rfl⟩, _, _, cv270, dv270, _, _, cg272, pg272, ig272, _, yg272, by decide, ?_⟩
    exact ps_weak (hh (x1 + (1 : Int32), g272) (Option.some.inj h).symm) ⟨rfl, rfl, trivial⟩
noncomputable def bX12_init_1335 (x0 : Nat) (x1 : Int32) (g : ps_G) : Option ((Int32 × ps_G) ⊕ (ps_G)) := if (256 : Int32) ≤ x1 then (some (.inr g)) else (Option.bind (q_fR 12 57 g x0) fun v278 => Option.bind (v278) fun a279 => Option.bind (q_wI g a279 x1 (-1 : Int32)) fun g280 => some (.inl (x1 + (1 : Int32), g280)))
theorem pbX12_init_1335 {d : Nat} {Q : ps_Rs → ps_G → Prop}  {x0 : Nat} {x1 : Int32} {g : ps_G} {x : (Int32 × ps_G) ⊕ (ps_G)} (h : bX12_init_1335 x0 x1 g = some x) (hh : ∀ s' : Int32 × ps_G, x = .inl s' → ps_At mX12_init (d + 2) 1335 [(0, .ref x0), (1, .int s'.1)] [] s'.2 Q) (he : ∀ r' : ps_G, x = .inr r' → ps_At mX12_init (d + 2) 1355 [(0, .ref x0)] [] r' Q) : ps_At mX12_init (d + 2) 1335 [(0, .ref x0), (1, .int x1)] [] g Q := by
  unfold bX12_init_1335 at h
  refine sX12_init_1335 ?_
  refine And.intro (fun hc276 => ?_) (fun hc276 => ?_)
  · replace h := q_ifp (hc276) h
    exact ps_weak (he g (Option.some.inj h).symm) ⟨rfl, trivial⟩
  · replace h := q_ifn (hc276) h
    replace h := q_be h
    obtain ⟨v278, hv, h⟩ := h
    replace hv := q_fR_e hv
    obtain ⟨_, cv278, dv278⟩ := hv
    replace h := q_be h
    obtain ⟨a279, ea279, h⟩ := h
    subst ea279
    replace h := q_be h
    obtain ⟨g280, hv, h⟩ := h
    replace hv := q_wI_e hv
    obtain ⟨_, _, cg280, pg280, ig280, yg280⟩ := hv
    refine ⟨⟨some _, rfl⟩, _, _, cv278, dv278, _, _, cg280, pg280, ig280, _, yg280, by decide, ?_⟩
    exact ps_weak (hh (x1 + (1 : Int32), g280) (Option.some.inj h).symm) ⟨rfl, rfl, trivial⟩
noncomputable def jX12_init_1229 (g : ps_G) (x0 : Nat) : Option (ps_G) := Option.bind (q_nA .int g (256 : Int32)) fun g245 => Option.bind (q_sR 12 81 g245 x0 (some g.1)) fun g246 => Option.bind (q_nA .int g246 (48 : Int32)) fun g247 => Option.bind (q_sR 12 90 g247 x0 (some g246.1)) fun g248 => Option.bind (q_nA .int g248 (960 : Int32)) fun g249 => Option.bind (q_sR 12 91 g249 x0 (some g248.1)) fun g250 => Option.bind (q_nA .int g250 (340 : Int32)) fun g251 => Option.bind (q_sR 12 92 g251 x0 (some g250.1)) fun g252 => Option.bind (q_fR 12 24 g252 x0) fun v253 => Option.bind (v253) fun a254 => Option.bind (q_wI g252 a254 (4 : Int32) (1 : Int32)) fun g255 => Option.bind (q_lp (fun s => bX12_init_1273 x0 s.1 s.2) ((0 : Int32), g255)) fun s267 => Option.bind (q_lp (fun s => bX12_init_1314 x0 s.1 s.2) ((1 : Int32), s267)) fun s275 => Option.bind (q_lp (fun s => bX12_init_1335 x0 s.1 s.2) ((0 : Int32), s275)) fun s283 => Option.bind (q_ob 12 s283 x0) fun u284 => Option.bind (fX12_fresh s283 x0 (8 : Int32) (8 : Int32)) fun v285 => some v285
theorem pjX12_init_1229 {d : Nat} {Q : ps_Rs → ps_G → Prop} {g : ps_G} {x0 : Nat} {r : ps_G} (h : jX12_init_1229 g x0 = some r) (hk : Q (.inl none) r) : ps_At mX12_init (d + 2) 1229 [(0, .ref x0)] [] g Q := by
  unfold jX12_init_1229 at h
  refine sX12_init_1229 ?_
  replace h := q_be h
  obtain ⟨g245, hv, h⟩ := h
  replace hv := q_nA_e hv
  obtain ⟨ag245, bg245, yg245⟩ := hv
  replace h := q_be h
  obtain ⟨g246, hv, h⟩ := h
  replace hv := q_sR_e hv
  obtain ⟨_, cg246, dg246, yg246⟩ := hv
  replace h := q_be h
  obtain ⟨g247, hv, h⟩ := h
  replace hv := q_nA_e hv
  obtain ⟨ag247, bg247, yg247⟩ := hv
  replace h := q_be h
  obtain ⟨g248, hv, h⟩ := h
  replace hv := q_sR_e hv
  obtain ⟨_, cg248, dg248, yg248⟩ := hv
  replace h := q_be h
  obtain ⟨g249, hv, h⟩ := h
  replace hv := q_nA_e hv
  obtain ⟨ag249, bg249, yg249⟩ := hv
  replace h := q_be h
  obtain ⟨g250, hv, h⟩ := h
  replace hv := q_sR_e hv
  obtain ⟨_, cg250, dg250, yg250⟩ := hv
  replace h := q_be h
  obtain ⟨g251, hv, h⟩ := h
  replace hv := q_nA_e hv
  obtain ⟨ag251, bg251, yg251⟩ := hv
  refine ⟨⟨some _, rfl⟩, Or.inl rfl, ag245, bg245, _, yg245, _, cg246, dg246, rfl, rfl, _, yg246, ⟨some _, rfl⟩, Or.inl rfl, ag247, bg247, _, yg247, _, cg248, dg248, rfl, rfl, _, yg248, ⟨some _, rfl⟩, Or.inl rfl, ag249, bg249, _, yg249, _, cg250, dg250, rfl, rfl, _, yg250, ⟨some _, rfl⟩, Or.inl rfl, ag251, bg251, _, yg251, ?_⟩
  replace h := q_be h
  obtain ⟨g252, hv, h⟩ := h
  replace hv := q_sR_e hv
  obtain ⟨_, cg252, dg252, yg252⟩ := hv
  replace h := q_be h
  obtain ⟨v253, hv, h⟩ := h
  replace hv := q_fR_e hv
  obtain ⟨_, cv253, dv253⟩ := hv
  replace h := q_be h
  obtain ⟨a254, ea254, h⟩ := h
  subst ea254
  replace h := q_be h
  obtain ⟨g255, hv, h⟩ := h
  replace hv := q_wI_e hv
  obtain ⟨_, _, cg255, pg255, ig255, yg255⟩ := hv
  refine ⟨_, cg252, dg252, rfl, rfl, _, yg252, ⟨some _, rfl⟩, _, _, cv253, dv253, _, _, cg255, pg255, ig255, _, yg255, by decide, ?_⟩
  replace h := q_be h
  obtain ⟨s267, hl, h⟩ := h
  refine ps_weak (q_lp_ok hl (fun s => ps_At mX12_init (d + 2) 1273 [(0, .ref x0), (1, .int s.1)] [] s.2 Q) (fun r => ps_At mX12_init (d + 2) 1312 [(0, .ref x0)] [] r Q) (fun s x hb hh he => pbX12_init_1273 hb hh he) ?_) ⟨rfl, rfl, trivial⟩
  refine (?_ : ps_At mX12_init (d + 2) 1312 [(0, .ref x0)] [] s267 Q)
  refine sX12_init_1312 ?_
  refine ⟨by decide, ?_⟩
  replace h := q_be h
  obtain ⟨s275, hl, h⟩ := h
  refine ps_weak (q_lp_ok hl (fun s => ps_At mX12_init (d + 2) 1314 [(0, .ref x0), (1, .int s.1)] [] s.2 Q) (fun r => ps_At mX12_init (d + 2) 1333 [(0, .ref x0)] [] r Q) (fun s x hb hh he => pbX12_init_1314 hb hh he) ?_) ⟨rfl, rfl, trivial⟩
  refine (?_ : ps_At mX12_init (d + 2) 1333 [(0, .ref x0)] [] s275 Q)
  refine sX12_init_1333 ?_
  refine ⟨by decide, ?_⟩
  replace h := q_be h
  obtain ⟨s283, hl, h⟩ := h
  refine ps_weak (q_lp_ok hl (fun s => ps_At mX12_init (d + 2) 1335 [(0, .ref x0), (1, .int s.1)] [] s.2 Q) (fun r => ps_At mX12_init (d + 2) 1355 [(0, .ref x0)] [] r Q) (fun s x hb hh he => pbX12_init_1335 hb hh he) ?_) ⟨rfl, rfl, trivial⟩
  refine (?_ : ps_At mX12_init (d + 2) 1355 [(0, .ref x0)] [] s283 Q)
  refine sX12_init_1355 ?_
  replace h := q_be h
  obtain ⟨u284, hv, h⟩ := h
  replace hv := q_ob_e hv
  obtain ⟨_, cu284⟩ := hv
  replace h := q_be h
  obtain ⟨v285, hv, h⟩ := h
  refine ⟨⟨some _, rfl⟩, ⟨_, cu284⟩, ?_⟩
  refine rX12_fresh hv ?_
  cases h
  exact ⟨rfl, rfl, hk⟩
noncomputable def jX12_init_1092 (g : ps_G) (x0 : Nat) : Option (ps_G) := Option.bind (q_nA .int g (19 : Int32)) fun g218 => Option.bind (q_wI g218 g.1 (0 : Int32) (16 : Int32)) fun g219 => Option.bind (q_wI g219 g.1 (1 : Int32) (17 : Int32)) fun g220 => Option.bind (q_wI g220 g.1 (2 : Int32) (18 : Int32)) fun g221 => Option.bind (q_wI g221 g.1 (3 : Int32) (0 : Int32)) fun g222 => Option.bind (q_wI g222 g.1 (4 : Int32) (8 : Int32)) fun g223 => Option.bind (q_wI g223 g.1 (5 : Int32) (7 : Int32)) fun g224 => Option.bind (q_wI g224 g.1 (6 : Int32) (9 : Int32)) fun g225 => Option.bind (q_wI g225 g.1 (7 : Int32) (6 : Int32)) fun g226 => Option.bind (q_wI g226 g.1 (8 : Int32) (10 : Int32)) fun g227 => Option.bind (q_wI g227 g.1 (9 : Int32) (5 : Int32)) fun g228 => Option.bind (q_wI g228 g.1 (10 : Int32) (11 : Int32)) fun g229 => Option.bind (q_wI g229 g.1 (11 : Int32) (4 : Int32)) fun g230 => Option.bind (q_wI g230 g.1 (12 : Int32) (12 : Int32)) fun g231 => Option.bind (q_wI g231 g.1 (13 : Int32) (3 : Int32)) fun g232 => Option.bind (q_wI g232 g.1 (14 : Int32) (13 : Int32)) fun g233 => Option.bind (q_wI g233 g.1 (15 : Int32) (2 : Int32)) fun g234 => Option.bind (q_wI g234 g.1 (16 : Int32) (14 : Int32)) fun g235 => Option.bind (q_wI g235 g.1 (17 : Int32) (1 : Int32)) fun g236 => Option.bind (q_wI g236 g.1 (18 : Int32) (15 : Int32)) fun g237 => Option.bind (q_sR 12 72 g237 x0 (some g.1)) fun g238 => Option.bind (q_nA .int g238 (2400 : Int32)) fun g239 => Option.bind (q_sR 12 74 g239 x0 (some g238.1)) fun g240 => Option.bind (q_nA .int g240 (8000 : Int32)) fun g241 => Option.bind (q_sR 12 78 g241 x0 (some g240.1)) fun g242 => Option.bind (q_nA .int g242 (256 : Int32)) fun g243 => Option.bind (q_sR 12 80 g243 x0 (some g242.1)) fun g244 => jX12_init_1229 g244 x0
theorem pjX12_init_1092 {d : Nat} {Q : ps_Rs → ps_G → Prop} {g : ps_G} {x0 : Nat} {r : ps_G} (h : jX12_init_1092 g x0 = some r) (hk : Q (.inl none) r) : ps_At mX12_init (d + 2) 1092 [(0, .ref x0)] [] g Q := by
  unfold jX12_init_1092 at h
  refine sX12_init_1092 ?_
  replace h := q_be h
  obtain ⟨g218, hv, h⟩ := h
  replace hv := q_nA_e hv
  obtain ⟨ag218, bg218, yg218⟩ := hv
  replace h := q_be h
  obtain ⟨g219, hv, h⟩ := h
  replace hv := q_wI_e hv
  obtain ⟨_, _, cg219, pg219, ig219, yg219⟩ := hv
  replace h := q_be h
  obtain ⟨g220, hv, h⟩ := h
  replace hv := q_wI_e hv
  obtain ⟨_, _, cg220, pg220, ig220, yg220⟩ := hv
  replace h := q_be h
  obtain ⟨g221, hv, h⟩ := h
  replace hv := q_wI_e hv
  obtain ⟨_, _, cg221, pg221, ig221, yg221⟩ := hv
  replace h := q_be h
  obtain ⟨g222, hv, h⟩ := h
  replace hv := q_wI_e hv
  obtain ⟨_, _, cg222, pg222, ig222, yg222⟩ := hv
  replace h := q_be h
  obtain ⟨g223, hv, h⟩ := h
  replace hv := q_wI_e hv
  obtain ⟨_, _, cg223, pg223, ig223, yg223⟩ := hv
  refine ⟨⟨some _, rfl⟩, Or.inl rfl, ag218, bg218, _, yg218, rfl, _, _, cg219, pg219, ig219, _, yg219, rfl, _, _, cg220, pg220, ig220, _, yg220, rfl, _, _, cg221, pg221, ig221, _, yg221, rfl, _, _, cg222, pg222, ig222, _, yg222, rfl, _, _, cg223, pg223, ig223, _, yg223, ?_⟩
  replace h := q_be h
  obtain ⟨g224, hv, h⟩ := h
  replace hv := q_wI_e hv
  obtain ⟨_, _, cg224, pg224, ig224, yg224⟩ := hv
  replace h := q_be h
  obtain ⟨g225, hv, h⟩ := h
  replace hv := q_wI_e hv
  obtain ⟨_, _, cg225, pg225, ig225, yg225⟩ := hv
  replace h := q_be h
  obtain ⟨g226, hv, h⟩ := h
  replace hv := q_wI_e hv
  obtain ⟨_, _, cg226, pg226, ig226, yg226⟩ := hv
  replace h := q_be h
  obtain ⟨g227, hv, h⟩ := h
  replace hv := q_wI_e hv
  obtain ⟨_, _, cg227, pg227, ig227, yg227⟩ := hv
  replace h := q_be h
  obtain ⟨g228, hv, h⟩ := h
  replace hv := q_wI_e hv
  obtain ⟨_, _, cg228, pg228, ig228, yg228⟩ := hv
  refine ⟨rfl, _, _, cg224, pg224, ig224, _, yg224, rfl, _, _, cg225, pg225, ig225, _, yg225, rfl, _, _, cg226, pg226, ig226, _, yg226, rfl, _, _, cg227, pg227, ig227, _, yg227, rfl, _, _, cg228, pg228, ig228, _, yg228, rfl, ?_⟩
  replace h := q_be h
  obtain ⟨g229, hv, h⟩ := h
  replace hv := q_wI_e hv
  obtain ⟨_, _, cg229, pg229, ig229, yg229⟩ := hv
  replace h := q_be h
  obtain ⟨g230, hv, h⟩ := h
  replace hv := q_wI_e hv
  obtain ⟨_, _, cg230, pg230, ig230, yg230⟩ := hv
  replace h := q_be h
  obtain ⟨g231, hv, h⟩ := h
  replace hv := q_wI_e hv
  obtain ⟨_, _, cg231, pg231, ig231, yg231⟩ := hv
  replace h := q_be h
  obtain ⟨g232, hv, h⟩ := h
  replace hv := q_wI_e hv
  obtain ⟨_, _, cg232, pg232, ig232, yg232⟩ := hv
  replace h := q_be h
  obtain ⟨g233, hv, h⟩ := h
  replace hv := q_wI_e hv
  obtain ⟨_, _, cg233, pg233, ig233, yg233⟩ := hv
  replace h := q_be h
  obtain ⟨g234, hv, h⟩ := h
  replace hv := q_wI_e hv
  obtain ⟨_, _, cg234, pg234, ig234, yg234⟩ := hv
  refine ⟨_, _, cg229, pg229, ig229, _, yg229, rfl, _, _, cg230, pg230, ig230, _, yg230, rfl, _, _, cg231, pg231, ig231, _, yg231, rfl, _, _, cg232, pg232, ig232, _, yg232, rfl, _, _, cg233, pg233, ig233, _, yg233, rfl, _, _, cg234, pg234, ig234, _, yg234, ?_⟩
  replace h := q_be h
  obtain ⟨g235, hv, h⟩ := h
  replace hv := q_wI_e hv
  obtain ⟨_, _, cg235, pg235, ig235, yg235⟩ := hv
  replace h := q_be h
  obtain ⟨g236, hv, h⟩ := h
  replace hv := q_wI_e hv
  obtain ⟨_, _, cg236, pg236, ig236, yg236⟩ := hv
  replace h := q_be h
  obtain ⟨g237, hv, h⟩ := h
  replace hv := q_wI_e hv
  obtain ⟨_, _, cg237, pg237, ig237, yg237⟩ := hv
  replace h := q_be h
  obtain ⟨g238, hv, h⟩ := h
  replace hv := q_sR_e hv
  obtain ⟨_, cg238, dg238, yg238⟩ := hv
  replace h := q_be h
  obtain ⟨g239, hv, h⟩ := h
  replace hv := q_nA_e hv
  obtain ⟨ag239, bg239, yg239⟩ := hv
  replace h := q_be h
  obtain ⟨g240, hv, h⟩ := h
  replace hv := q_sR_e hv
  obtain ⟨_, cg240, dg240, yg240⟩ := hv
  refine ⟨rfl, _, _, cg235, pg235, ig235, _, yg235, rfl, _, _, cg236, pg236, ig236, _, yg236, rfl, _, _, cg237, pg237, ig237, _, yg237, _, cg238, dg238, rfl, rfl, _, yg238, ⟨some _, rfl⟩, Or.inl rfl, ag239, bg239, _, yg239, _, cg240, dg240, rfl, rfl, _, yg240, ?_⟩
  replace h := q_be h
  obtain ⟨g241, hv, h⟩ := h
  replace hv := q_nA_e hv
  obtain ⟨ag241, bg241, yg241⟩ := hv
  replace h := q_be h
  obtain ⟨g242, hv, h⟩ := h
  replace hv := q_sR_e hv
  obtain ⟨_, cg242, dg242, yg242⟩ := hv
  replace h := q_be h
  obtain ⟨g243, hv, h⟩ := h
  replace hv := q_nA_e hv
  obtain ⟨ag243, bg243, yg243⟩ := hv
  replace h := q_be h
  obtain ⟨g244, hv, h⟩ := h
  replace hv := q_sR_e hv
  obtain ⟨_, cg244, dg244, yg244⟩ := hv
  refine ⟨⟨some _, rfl⟩, Or.inl rfl, ag241, bg241, _, yg241, _, cg242, dg242, rfl, rfl, _, yg242, ⟨some _, rfl⟩, Or.inl rfl, ag243, bg243, _, yg243, _, cg244, dg244, rfl, rfl, _, yg244, ?_⟩
  exact ps_weak (pjX12_init_1229 h hk) ⟨rfl, trivial⟩
noncomputable def jX12_init_924 (g : ps_G) (x0 : Nat) : Option (ps_G) := Option.bind (q_nA .int g (30 : Int32)) fun g186 => Option.bind (q_wI g186 g.1 (0 : Int32) (0 : Int32)) fun g187 => Option.bind (q_wI g187 g.1 (1 : Int32) (0 : Int32)) fun g188 => Option.bind (q_wI g188 g.1 (2 : Int32) (0 : Int32)) fun g189 => Option.bind (q_wI g189 g.1 (3 : Int32) (0 : Int32)) fun g190 => Option.bind (q_wI g190 g.1 (4 : Int32) (1 : Int32)) fun g191 => Option.bind (q_wI g191 g.1 (5 : Int32) (1 : Int32)) fun g192 => Option.bind (q_wI g192 g.1 (6 : Int32) (2 : Int32)) fun g193 => Option.bind (q_wI g193 g.1 (7 : Int32) (2 : Int32)) fun g194 => Option.bind (q_wI g194 g.1 (8 : Int32) (3 : Int32)) fun g195 => Option.bind (q_wI g195 g.1 (9 : Int32) (3 : Int32)) fun g196 => Option.bind (q_wI g196 g.1 (10 : Int32) (4 : Int32)) fun g197 => Option.bind (q_wI g197 g.1 (11 : Int32) (4 : Int32)) fun g198 => Option.bind (q_wI g198 g.1 (12 : Int32) (5 : Int32)) fun g199 => Option.bind (q_wI g199 g.1 (13 : Int32) (5 : Int32)) fun g200 => Option.bind (q_wI g200 g.1 (14 : Int32) (6 : Int32)) fun g201 => Option.bind (q_wI g201 g.1 (15 : Int32) (6 : Int32)) fun g202 => Option.bind (q_wI g202 g.1 (16 : Int32) (7 : Int32)) fun g203 => Option.bind (q_wI g203 g.1 (17 : Int32) (7 : Int32)) fun g204 => Option.bind (q_wI g204 g.1 (18 : Int32) (8 : Int32)) fun g205 => Option.bind (q_wI g205 g.1 (19 : Int32) (8 : Int32)) fun g206 => Option.bind (q_wI g206 g.1 (20 : Int32) (9 : Int32)) fun g207 => Option.bind (q_wI g207 g.1 (21 : Int32) (9 : Int32)) fun g208 => Option.bind (q_wI g208 g.1 (22 : Int32) (10 : Int32)) fun g209 => Option.bind (q_wI g209 g.1 (23 : Int32) (10 : Int32)) fun g210 => Option.bind (q_wI g210 g.1 (24 : Int32) (11 : Int32)) fun g211 => Option.bind (q_wI g211 g.1 (25 : Int32) (11 : Int32)) fun g212 => Option.bind (q_wI g212 g.1 (26 : Int32) (12 : Int32)) fun g213 => Option.bind (q_wI g213 g.1 (27 : Int32) (12 : Int32)) fun g214 => Option.bind (q_wI g214 g.1 (28 : Int32) (13 : Int32)) fun g215 => Option.bind (q_wI g215 g.1 (29 : Int32) (13 : Int32)) fun g216 => Option.bind (q_sR 12 71 g216 x0 (some g.1)) fun g217 => jX12_init_1092 g217 x0
theorem pjX12_init_924 {d : Nat} {Q : ps_Rs → ps_G → Prop} {g : ps_G} {x0 : Nat} {r : ps_G} (h : jX12_init_924 g x0 = some r) (hk : Q (.inl none) r) : ps_At mX12_init (d + 2) 924 [(0, .ref x0)] [] g Q := by
  unfold jX12_init_924 at h
  refine sX12_init_924 ?_
  replace h := q_be h
  obtain ⟨g186, hv, h⟩ := h
  replace hv := q_nA_e hv
  obtain ⟨ag186, bg186, yg186⟩ := hv
  replace h := q_be h
  obtain ⟨g187, hv, h⟩ := h
  replace hv := q_wI_e hv
  obtain ⟨_, _, cg187, pg187, ig187, yg187⟩ := hv
  replace h := q_be h
  obtain ⟨g188, hv, h⟩ := h
  replace hv := q_wI_e hv
  obtain ⟨_, _, cg188, pg188, ig188, yg188⟩ := hv
  replace h := q_be h
  obtain ⟨g189, hv, h⟩ := h
  replace hv := q_wI_e hv
  obtain ⟨_, _, cg189, pg189, ig189, yg189⟩ := hv
  replace h := q_be h
  obtain ⟨g190, hv, h⟩ := h
  replace hv := q_wI_e hv
  obtain ⟨_, _, cg190, pg190, ig190, yg190⟩ := hv
  replace h := q_be h
  obtain ⟨g191, hv, h⟩ := h
  replace hv := q_wI_e hv
  obtain ⟨_, _, cg191, pg191, ig191, yg191⟩ := hv
  refine ⟨⟨some _, rfl⟩, Or.inl rfl, ag186, bg186, _, yg186, rfl, _, _, cg187, pg187, ig187, _, yg187, rfl, _, _, cg188, pg188, ig188, _, yg188, rfl, _, _, cg189, pg189, ig189, _, yg189, rfl, _, _, cg190, pg190, ig190, _, yg190, rfl, _, _, cg191, pg191, ig191, _, yg191, ?_⟩
  replace h := q_be h
  obtain ⟨g192, hv, h⟩ := h
  replace hv := q_wI_e hv
  obtain ⟨_, _, cg192, pg192, ig192, yg192⟩ := hv
  replace h := q_be h
  obtain ⟨g193, hv, h⟩ := h
  replace hv := q_wI_e hv
  obtain ⟨_, _, cg193, pg193, ig193, yg193⟩ := hv
  replace h := q_be h
  obtain ⟨g194, hv, h⟩ := h
  replace hv := q_wI_e hv
  obtain ⟨_, _, cg194, pg194, ig194, yg194⟩ := hv
  replace h := q_be h
  obtain ⟨g195, hv, h⟩ := h
  replace hv := q_wI_e hv
  obtain ⟨_, _, cg195, pg195, ig195, yg195⟩ := hv
  replace h := q_be h
  obtain ⟨g196, hv, h⟩ := h
  replace hv := q_wI_e hv
  obtain ⟨_, _, cg196, pg196, ig196, yg196⟩ := hv
  refine ⟨rfl, _, _, cg192, pg192, ig192, _, yg192, rfl, _, _, cg193, pg193, ig193, _, yg193, rfl, _, _, cg194, pg194, ig194, _, yg194, rfl, _, _, cg195, pg195, ig195, _, yg195, rfl, _, _, cg196, pg196, ig196, _, yg196, rfl, ?_⟩
  replace h := q_be h
  obtain ⟨g197, hv, h⟩ := h
  replace hv := q_wI_e hv
  obtain ⟨_, _, cg197, pg197, ig197, yg197⟩ := hv
  replace h := q_be h
  obtain ⟨g198, hv, h⟩ := h
  replace hv := q_wI_e hv
  obtain ⟨_, _, cg198, pg198, ig198, yg198⟩ := hv
  replace h := q_be h
  obtain ⟨g199, hv, h⟩ := h
  replace hv := q_wI_e hv
  obtain ⟨_, _, cg199, pg199, ig199, yg199⟩ := hv
  replace h := q_be h
  obtain ⟨g200, hv, h⟩ := h
  replace hv := q_wI_e hv
  obtain ⟨_, _, cg200, pg200, ig200, yg200⟩ := hv
  replace h := q_be h
  obtain ⟨g201, hv, h⟩ := h
  replace hv := q_wI_e hv
  obtain ⟨_, _, cg201, pg201, ig201, yg201⟩ := hv
  replace h := q_be h
  obtain ⟨g202, hv, h⟩ := h
  replace hv := q_wI_e hv
  obtain ⟨_, _, cg202, pg202, ig202, yg202⟩ := hv
  refine ⟨_, _, cg197, pg197, ig197, _, yg197, rfl, _, _, cg198, pg198, ig198, _, yg198, rfl, _, _, cg199, pg199, ig199, _, yg199, rfl, _, _, cg200, pg200, ig200, _, yg200, rfl, _, _, cg201, pg201, ig201, _, yg201, rfl, _, _, cg202, pg202, ig202, _, yg202, ?_⟩
  replace h := q_be h
  obtain ⟨g203, hv, h⟩ := h
  replace hv := q_wI_e hv
  obtain ⟨_, _, cg203, pg203, ig203, yg203⟩ := hv
  replace h := q_be h
  obtain ⟨g204, hv, h⟩ := h
  replace hv := q_wI_e hv
  obtain ⟨_, _, cg204, pg204, ig204, yg204⟩ := hv
  replace h := q_be h
  obtain ⟨g205, hv, h⟩ := h
  replace hv := q_wI_e hv
  obtain ⟨_, _, cg205, pg205, ig205, yg205⟩ := hv
  replace h := q_be h
  obtain ⟨g206, hv, h⟩ := h
  replace hv := q_wI_e hv
  obtain ⟨_, _, cg206, pg206, ig206, yg206⟩ := hv
  replace h := q_be h
  obtain ⟨g207, hv, h⟩ := h
  replace hv := q_wI_e hv
  obtain ⟨_, _, cg207, pg207, ig207, yg207⟩ := hv
  refine ⟨rfl, _, _, cg203, pg203, ig203, _, yg203, rfl, _, _, cg204, pg204, ig204, _, yg204, rfl, _, _, cg205, pg205, ig205, _, yg205, rfl, _, _, cg206, pg206, ig206, _, yg206, rfl, _, _, cg207, pg207, ig207, _, yg207, rfl, ?_⟩
  replace h := q_be h
  obtain ⟨g208, hv, h⟩ := h
  replace hv := q_wI_e hv
  obtain ⟨_, _, cg208, pg208, ig208, yg208⟩ := hv
  replace h := q_be h
  obtain ⟨g209, hv, h⟩ := h
  replace hv := q_wI_e hv
  obtain ⟨_, _, cg209, pg209, ig209, yg209⟩ := hv
  replace h := q_be h
  obtain ⟨g210, hv, h⟩ := h
  replace hv := q_wI_e hv
  obtain ⟨_, _, cg210, pg210, ig210, yg210⟩ := hv
  replace h := q_be h
  obtain ⟨g211, hv, h⟩ := h
  replace hv := q_wI_e hv
  obtain ⟨_, _, cg211, pg211, ig211, yg211⟩ := hv
  replace h := q_be h
  obtain ⟨g212, hv, h⟩ := h
  replace hv := q_wI_e hv
  obtain ⟨_, _, cg212, pg212, ig212, yg212⟩ := hv
  replace h := q_be h
  obtain ⟨g213, hv, h⟩ := h
  replace hv := q_wI_e hv
  obtain ⟨_, _, cg213, pg213, ig213, yg213⟩ := hv
  refine ⟨_, _, cg208, pg208, ig208, _, yg208, rfl, _, _, cg209, pg209, ig209, _, yg209, rfl, _, _, cg210, pg210, ig210, _, yg210, rfl, _, _, cg211, pg211, ig211, _, yg211, rfl, _, _, cg212, pg212, ig212, _, yg212, rfl, _, _, cg213, pg213, ig213, _, yg213, ?_⟩
  replace h := q_be h
  obtain ⟨g214, hv, h⟩ := h
  replace hv := q_wI_e hv
  obtain ⟨_, _, cg214, pg214, ig214, yg214⟩ := hv
  replace h := q_be h
  obtain ⟨g215, hv, h⟩ := h
  replace hv := q_wI_e hv
  obtain ⟨_, _, cg215, pg215, ig215, yg215⟩ := hv
  replace h := q_be h
  obtain ⟨g216, hv, h⟩ := h
  replace hv := q_wI_e hv
  obtain ⟨_, _, cg216, pg216, ig216, yg216⟩ := hv
  replace h := q_be h
  obtain ⟨g217, hv, h⟩ := h
  replace hv := q_sR_e hv
  obtain ⟨_, cg217, dg217, yg217⟩ := hv
  refine ⟨rfl, _, _, cg214, pg214, ig214, _, yg214, rfl, _, _, cg215, pg215, ig215, _, yg215, rfl, _, _, cg216, pg216, ig216, _, yg216, _, cg217, dg217, rfl, rfl, _, yg217, ?_⟩
  exact ps_weak (pjX12_init_1092 h hk) ⟨rfl, trivial⟩
noncomputable def jX12_init_731 (g : ps_G) (x0 : Nat) : Option (ps_G) := Option.bind (q_nA .int g (30 : Int32)) fun g154 => Option.bind (q_wI g154 g.1 (0 : Int32) (1 : Int32)) fun g155 => Option.bind (q_wI g155 g.1 (1 : Int32) (2 : Int32)) fun g156 => Option.bind (q_wI g156 g.1 (2 : Int32) (3 : Int32)) fun g157 => Option.bind (q_wI g157 g.1 (3 : Int32) (4 : Int32)) fun g158 => Option.bind (q_wI g158 g.1 (4 : Int32) (5 : Int32)) fun g159 => Option.bind (q_wI g159 g.1 (5 : Int32) (7 : Int32)) fun g160 => Option.bind (q_wI g160 g.1 (6 : Int32) (9 : Int32)) fun g161 => Option.bind (q_wI g161 g.1 (7 : Int32) (13 : Int32)) fun g162 => Option.bind (q_wI g162 g.1 (8 : Int32) (17 : Int32)) fun g163 => Option.bind (q_wI g163 g.1 (9 : Int32) (25 : Int32)) fun g164 => Option.bind (q_wI g164 g.1 (10 : Int32) (33 : Int32)) fun g165 => Option.bind (q_wI g165 g.1 (11 : Int32) (49 : Int32)) fun g166 => Option.bind (q_wI g166 g.1 (12 : Int32) (65 : Int32)) fun g167 => Option.bind (q_wI g167 g.1 (13 : Int32) (97 : Int32)) fun g168 => Option.bind (q_wI g168 g.1 (14 : Int32) (129 : Int32)) fun g169 => Option.bind (q_wI g169 g.1 (15 : Int32) (193 : Int32)) fun g170 => Option.bind (q_wI g170 g.1 (16 : Int32) (257 : Int32)) fun g171 => Option.bind (q_wI g171 g.1 (17 : Int32) (385 : Int32)) fun g172 => Option.bind (q_wI g172 g.1 (18 : Int32) (513 : Int32)) fun g173 => Option.bind (q_wI g173 g.1 (19 : Int32) (769 : Int32)) fun g174 => Option.bind (q_wI g174 g.1 (20 : Int32) (1025 : Int32)) fun g175 => Option.bind (q_wI g175 g.1 (21 : Int32) (1537 : Int32)) fun g176 => Option.bind (q_wI g176 g.1 (22 : Int32) (2049 : Int32)) fun g177 => Option.bind (q_wI g177 g.1 (23 : Int32) (3073 : Int32)) fun g178 => Option.bind (q_wI g178 g.1 (24 : Int32) (4097 : Int32)) fun g179 => Option.bind (q_wI g179 g.1 (25 : Int32) (6145 : Int32)) fun g180 => Option.bind (q_wI g180 g.1 (26 : Int32) (8193 : Int32)) fun g181 => Option.bind (q_wI g181 g.1 (27 : Int32) (12289 : Int32)) fun g182 => Option.bind (q_wI g182 g.1 (28 : Int32) (16385 : Int32)) fun g183 => Option.bind (q_wI g183 g.1 (29 : Int32) (24577 : Int32)) fun g184 => Option.bind (q_sR 12 70 g184 x0 (some g.1)) fun g185 => jX12_init_924 g185 x0
theorem pjX12_init_731 {d : Nat} {Q : ps_Rs → ps_G → Prop} {g : ps_G} {x0 : Nat} {r : ps_G} (h : jX12_init_731 g x0 = some r) (hk : Q (.inl none) r) : ps_At mX12_init (d + 2) 731 [(0, .ref x0)] [] g Q := by
  unfold jX12_init_731 at h
  refine sX12_init_731 ?_
  replace h := q_be h
  obtain ⟨g154, hv, h⟩ := h
  replace hv := q_nA_e hv
  obtain ⟨ag154, bg154, yg154⟩ := hv
  replace h := q_be h
  obtain ⟨g155, hv, h⟩ := h
  replace hv := q_wI_e hv
  obtain ⟨_, _, cg155, pg155, ig155, yg155⟩ := hv
  replace h := q_be h
  obtain ⟨g156, hv, h⟩ := h
  replace hv := q_wI_e hv
  obtain ⟨_, _, cg156, pg156, ig156, yg156⟩ := hv
  replace h := q_be h
  obtain ⟨g157, hv, h⟩ := h
  replace hv := q_wI_e hv
  obtain ⟨_, _, cg157, pg157, ig157, yg157⟩ := hv
  replace h := q_be h
  obtain ⟨g158, hv, h⟩ := h
  replace hv := q_wI_e hv
  obtain ⟨_, _, cg158, pg158, ig158, yg158⟩ := hv
  replace h := q_be h
  obtain ⟨g159, hv, h⟩ := h
  replace hv := q_wI_e hv
  obtain ⟨_, _, cg159, pg159, ig159, yg159⟩ := hv
  refine ⟨⟨some _, rfl⟩, Or.inl rfl, ag154, bg154, _, yg154, rfl, _, _, cg155, pg155, ig155, _, yg155, rfl, _, _, cg156, pg156, ig156, _, yg156, rfl, _, _, cg157, pg157, ig157, _, yg157, rfl, _, _, cg158, pg158, ig158, _, yg158, rfl, _, _, cg159, pg159, ig159, _, yg159, ?_⟩
  replace h := q_be h
  obtain ⟨g160, hv, h⟩ := h
  replace hv := q_wI_e hv
  obtain ⟨_, _, cg160, pg160, ig160, yg160⟩ := hv
  replace h := q_be h
  obtain ⟨g161, hv, h⟩ := h
  replace hv := q_wI_e hv
  obtain ⟨_, _, cg161, pg161, ig161, yg161⟩ := hv
  replace h := q_be h
  obtain ⟨g162, hv, h⟩ := h
  replace hv := q_wI_e hv
  obtain ⟨_, _, cg162, pg162, ig162, yg162⟩ := hv
  replace h := q_be h
  obtain ⟨g163, hv, h⟩ := h
  replace hv := q_wI_e hv
  obtain ⟨_, _, cg163, pg163, ig163, yg163⟩ := hv
  replace h := q_be h
  obtain ⟨g164, hv, h⟩ := h
  replace hv := q_wI_e hv
  obtain ⟨_, _, cg164, pg164, ig164, yg164⟩ := hv
  refine ⟨rfl, _, _, cg160, pg160, ig160, _, yg160, rfl, _, _, cg161, pg161, ig161, _, yg161, rfl, _, _, cg162, pg162, ig162, _, yg162, rfl, _, _, cg163, pg163, ig163, _, yg163, rfl, _, _, cg164, pg164, ig164, _, yg164, rfl, ?_⟩
  replace h := q_be h
  obtain ⟨g165, hv, h⟩ := h
  replace hv := q_wI_e hv
  obtain ⟨_, _, cg165, pg165, ig165, yg165⟩ := hv
  replace h := q_be h
  obtain ⟨g166, hv, h⟩ := h
  replace hv := q_wI_e hv
  obtain ⟨_, _, cg166, pg166, ig166, yg166⟩ := hv
  replace h := q_be h
  obtain ⟨g167, hv, h⟩ := h
  replace hv := q_wI_e hv
  obtain ⟨_, _, cg167, pg167, ig167, yg167⟩ := hv
  replace h := q_be h
  obtain ⟨g168, hv, h⟩ := h
  replace hv := q_wI_e hv
  obtain ⟨_, _, cg168, pg168, ig168, yg168⟩ := hv
  replace h := q_be h
  obtain ⟨g169, hv, h⟩ := h
  replace hv := q_wI_e hv
  obtain ⟨_, _, cg169, pg169, ig169, yg169⟩ := hv
  replace h := q_be h
  obtain ⟨g170, hv, h⟩ := h
  replace hv := q_wI_e hv
  obtain ⟨_, _, cg170, pg170, ig170, yg170⟩ := hv
  refine ⟨_, _, cg165, pg165, ig165, _, yg165, rfl, _, _, cg166, pg166, ig166, _, yg166, rfl, _, _, cg167, pg167, ig167, _, yg167, rfl, _, _, cg168, pg168, ig168, _, yg168, rfl, _, _, cg169, pg169, ig169, _, yg169, rfl, _, _, cg170, pg170, ig170, _, yg170, ?_⟩
  replace h := q_be h
  obtain ⟨g171, hv, h⟩ := h
  replace hv := q_wI_e hv
  obtain ⟨_, _, cg171, pg171, ig171, yg171⟩ := hv
  replace h := q_be h
  obtain ⟨g172, hv, h⟩ := h
  replace hv := q_wI_e hv
  obtain ⟨_, _, cg172, pg172, ig172, yg172⟩ := hv
  replace h := q_be h
  obtain ⟨g173, hv, h⟩ := h
  replace hv := q_wI_e hv
  obtain ⟨_, _, cg173, pg173, ig173, yg173⟩ := hv
  replace h := q_be h
  obtain ⟨g174, hv, h⟩ := h
  replace hv := q_wI_e hv
  obtain ⟨_, _, cg174, pg174, ig174, yg174⟩ := hv
  replace h := q_be h
  obtain ⟨g175, hv, h⟩ := h
  replace hv := q_wI_e hv
  obtain ⟨_, _, cg175, pg175, ig175, yg175⟩ := hv
  refine ⟨rfl, _, _, cg171, pg171, ig171, _, yg171, rfl, _, _, cg172, pg172, ig172, _, yg172, rfl, _, _, cg173, pg173, ig173, _, yg173, rfl, _, _, cg174, pg174, ig174, _, yg174, rfl, _, _, cg175, pg175, ig175, _, yg175, rfl, ?_⟩
  replace h := q_be h
  obtain ⟨g176, hv, h⟩ := h
  replace hv := q_wI_e hv
  obtain ⟨_, _, cg176, pg176, ig176, yg176⟩ := hv
  replace h := q_be h
  obtain ⟨g177, hv, h⟩ := h
  replace hv := q_wI_e hv
  obtain ⟨_, _, cg177, pg177, ig177, yg177⟩ := hv
  replace h := q_be h
  obtain ⟨g178, hv, h⟩ := h
  replace hv := q_wI_e hv
  obtain ⟨_, _, cg178, pg178, ig178, yg178⟩ := hv
  replace h := q_be h
  obtain ⟨g179, hv, h⟩ := h
  replace hv := q_wI_e hv
  obtain ⟨_, _, cg179, pg179, ig179, yg179⟩ := hv
  replace h := q_be h
  obtain ⟨g180, hv, h⟩ := h
  replace hv := q_wI_e hv
  obtain ⟨_, _, cg180, pg180, ig180, yg180⟩ := hv
  replace h := q_be h
  obtain ⟨g181, hv, h⟩ := h
  replace hv := q_wI_e hv
  obtain ⟨_, _, cg181, pg181, ig181, yg181⟩ := hv
  refine ⟨_, _, cg176, pg176, ig176, _, yg176, rfl, _, _, cg177, pg177, ig177, _, yg177, rfl, _, _, cg178, pg178, ig178, _, yg178, rfl, _, _, cg179, pg179, ig179, _, yg179, rfl, _, _, cg180, pg180, ig180, _, yg180, rfl, _, _, cg181, pg181, ig181, _, yg181, ?_⟩
  replace h := q_be h
  obtain ⟨g182, hv, h⟩ := h
  replace hv := q_wI_e hv
  obtain ⟨_, _, cg182, pg182, ig182, yg182⟩ := hv
  replace h := q_be h
  obtain ⟨g183, hv, h⟩ := h
  replace hv := q_wI_e hv
  obtain ⟨_, _, cg183, pg183, ig183, yg183⟩ := hv
  replace h := q_be h
  obtain ⟨g184, hv, h⟩ := h
  replace hv := q_wI_e hv
  obtain ⟨_, _, cg184, pg184, ig184, yg184⟩ := hv
  replace h := q_be h
  obtain ⟨g185, hv, h⟩ := h
  replace hv := q_sR_e hv
  obtain ⟨_, cg185, dg185, yg185⟩ := hv
  refine ⟨rfl, _, _, cg182, pg182, ig182, _, yg182, rfl, _, _, cg183, pg183, ig183, _, yg183, rfl, _, _, cg184, pg184, ig184, _, yg184, _, cg185, dg185, rfl, rfl, _, yg185, ?_⟩
  exact ps_weak (pjX12_init_924 h hk) ⟨rfl, trivial⟩
noncomputable def jX12_init_584 (g : ps_G) (x0 : Nat) : Option (ps_G) := Option.bind (q_nA .int g (29 : Int32)) fun g123 => Option.bind (q_wI g123 g.1 (0 : Int32) (0 : Int32)) fun g124 => Option.bind (q_wI g124 g.1 (1 : Int32) (0 : Int32)) fun g125 => Option.bind (q_wI g125 g.1 (2 : Int32) (0 : Int32)) fun g126 => Option.bind (q_wI g126 g.1 (3 : Int32) (0 : Int32)) fun g127 => Option.bind (q_wI g127 g.1 (4 : Int32) (0 : Int32)) fun g128 => Option.bind (q_wI g128 g.1 (5 : Int32) (0 : Int32)) fun g129 => Option.bind (q_wI g129 g.1 (6 : Int32) (0 : Int32)) fun g130 => Option.bind (q_wI g130 g.1 (7 : Int32) (0 : Int32)) fun g131 => Option.bind (q_wI g131 g.1 (8 : Int32) (1 : Int32)) fun g132 => Option.bind (q_wI g132 g.1 (9 : Int32) (1 : Int32)) fun g133 => Option.bind (q_wI g133 g.1 (10 : Int32) (1 : Int32)) fun g134 => Option.bind (q_wI g134 g.1 (11 : Int32) (1 : Int32)) fun g135 => Option.bind (q_wI g135 g.1 (12 : Int32) (2 : Int32)) fun g136 => Option.bind (q_wI g136 g.1 (13 : Int32) (2 : Int32)) fun g137 => Option.bind (q_wI g137 g.1 (14 : Int32) (2 : Int32)) fun g138 => Option.bind (q_wI g138 g.1 (15 : Int32) (2 : Int32)) fun g139 => Option.bind (q_wI g139 g.1 (16 : Int32) (3 : Int32)) fun g140 => Option.bind (q_wI g140 g.1 (17 : Int32) (3 : Int32)) fun g141 => Option.bind (q_wI g141 g.1 (18 : Int32) (3 : Int32)) fun g142 => Option.bind (q_wI g142 g.1 (19 : Int32) (3 : Int32)) fun g143 => Option.bind (q_wI g143 g.1 (20 : Int32) (4 : Int32)) fun g144 => Option.bind (q_wI g144 g.1 (21 : Int32) (4 : Int32)) fun g145 => Option.bind (q_wI g145 g.1 (22 : Int32) (4 : Int32)) fun g146 => Option.bind (q_wI g146 g.1 (23 : Int32) (4 : Int32)) fun g147 => Option.bind (q_wI g147 g.1 (24 : Int32) (5 : Int32)) fun g148 => Option.bind (q_wI g148 g.1 (25 : Int32) (5 : Int32)) fun g149 => Option.bind (q_wI g149 g.1 (26 : Int32) (5 : Int32)) fun g150 => Option.bind (q_wI g150 g.1 (27 : Int32) (5 : Int32)) fun g151 => Option.bind (q_wI g151 g.1 (28 : Int32) (0 : Int32)) fun g152 => Option.bind (q_sR 12 69 g152 x0 (some g.1)) fun g153 => jX12_init_731 g153 x0
theorem pjX12_init_584 {d : Nat} {Q : ps_Rs → ps_G → Prop} {g : ps_G} {x0 : Nat} {r : ps_G} (h : jX12_init_584 g x0 = some r) (hk : Q (.inl none) r) : ps_At mX12_init (d + 2) 584 [(0, .ref x0)] [] g Q := by
  unfold jX12_init_584 at h
  refine sX12_init_584 ?_
  replace h := q_be h
  obtain ⟨g123, hv, h⟩ := h
  replace hv := q_nA_e hv
  obtain ⟨ag123, bg123, yg123⟩ := hv
  replace h := q_be h
  obtain ⟨g124, hv, h⟩ := h
  replace hv := q_wI_e hv
  obtain ⟨_, _, cg124, pg124, ig124, yg124⟩ := hv
  replace h := q_be h
  obtain ⟨g125, hv, h⟩ := h
  replace hv := q_wI_e hv
  obtain ⟨_, _, cg125, pg125, ig125, yg125⟩ := hv
  replace h := q_be h
  obtain ⟨g126, hv, h⟩ := h
  replace hv := q_wI_e hv
  obtain ⟨_, _, cg126, pg126, ig126, yg126⟩ := hv
  replace h := q_be h
  obtain ⟨g127, hv, h⟩ := h
  replace hv := q_wI_e hv
  obtain ⟨_, _, cg127, pg127, ig127, yg127⟩ := hv
  replace h := q_be h
  obtain ⟨g128, hv, h⟩ := h
  replace hv := q_wI_e hv
  obtain ⟨_, _, cg128, pg128, ig128, yg128⟩ := hv
  refine ⟨⟨some _, rfl⟩, Or.inl rfl, ag123, bg123, _, yg123, rfl, _, _, cg124, pg124, ig124, _, yg124, rfl, _, _, cg125, pg125, ig125, _, yg125, rfl, _, _, cg126, pg126, ig126, _, yg126, rfl, _, _, cg127, pg127, ig127, _, yg127, rfl, _, _, cg128, pg128, ig128, _, yg128, ?_⟩
  replace h := q_be h
  obtain ⟨g129, hv, h⟩ := h
  replace hv := q_wI_e hv
  obtain ⟨_, _, cg129, pg129, ig129, yg129⟩ := hv
  replace h := q_be h
  obtain ⟨g130, hv, h⟩ := h
  replace hv := q_wI_e hv
  obtain ⟨_, _, cg130, pg130, ig130, yg130⟩ := hv
  replace h := q_be h
  obtain ⟨g131, hv, h⟩ := h
  replace hv := q_wI_e hv
  obtain ⟨_, _, cg131, pg131, ig131, yg131⟩ := hv
  replace h := q_be h
  obtain ⟨g132, hv, h⟩ := h
  replace hv := q_wI_e hv
  obtain ⟨_, _, cg132, pg132, ig132, yg132⟩ := hv
  replace h := q_be h
  obtain ⟨g133, hv, h⟩ := h
  replace hv := q_wI_e hv
  obtain ⟨_, _, cg133, pg133, ig133, yg133⟩ := hv
  refine ⟨rfl, _, _, cg129, pg129, ig129, _, yg129, rfl, _, _, cg130, pg130, ig130, _, yg130, rfl, _, _, cg131, pg131, ig131, _, yg131, rfl, _, _, cg132, pg132, ig132, _, yg132, rfl, _, _, cg133, pg133, ig133, _, yg133, rfl, ?_⟩
  replace h := q_be h
  obtain ⟨g134, hv, h⟩ := h
  replace hv := q_wI_e hv
  obtain ⟨_, _, cg134, pg134, ig134, yg134⟩ := hv
  replace h := q_be h
  obtain ⟨g135, hv, h⟩ := h
  replace hv := q_wI_e hv
  obtain ⟨_, _, cg135, pg135, ig135, yg135⟩ := hv
  replace h := q_be h
  obtain ⟨g136, hv, h⟩ := h
  replace hv := q_wI_e hv
  obtain ⟨_, _, cg136, pg136, ig136, yg136⟩ := hv
  replace h := q_be h
  obtain ⟨g137, hv, h⟩ := h
  replace hv := q_wI_e hv
  obtain ⟨_, _, cg137, pg137, ig137, yg137⟩ := hv
  replace h := q_be h
  obtain ⟨g138, hv, h⟩ := h
  replace hv := q_wI_e hv
  obtain ⟨_, _, cg138, pg138, ig138, yg138⟩ := hv
  replace h := q_be h
  obtain ⟨g139, hv, h⟩ := h
  replace hv := q_wI_e hv
  obtain ⟨_, _, cg139, pg139, ig139, yg139⟩ := hv
  refine ⟨_, _, cg134, pg134, ig134, _, yg134, rfl, _, _, cg135, pg135, ig135, _, yg135, rfl, _, _, cg136, pg136, ig136, _, yg136, rfl, _, _, cg137, pg137, ig137, _, yg137, rfl, _, _, cg138, pg138, ig138, _, yg138, rfl, _, _, cg139, pg139, ig139, _, yg139, ?_⟩
  replace h := q_be h
  obtain ⟨g140, hv, h⟩ := h
  replace hv := q_wI_e hv
  obtain ⟨_, _, cg140, pg140, ig140, yg140⟩ := hv
  replace h := q_be h
  obtain ⟨g141, hv, h⟩ := h
  replace hv := q_wI_e hv
  obtain ⟨_, _, cg141, pg141, ig141, yg141⟩ := hv
  replace h := q_be h
  obtain ⟨g142, hv, h⟩ := h
  replace hv := q_wI_e hv
  obtain ⟨_, _, cg142, pg142, ig142, yg142⟩ := hv
  replace h := q_be h
  obtain ⟨g143, hv, h⟩ := h
  replace hv := q_wI_e hv
  obtain ⟨_, _, cg143, pg143, ig143, yg143⟩ := hv
  replace h := q_be h
  obtain ⟨g144, hv, h⟩ := h
  replace hv := q_wI_e hv
  obtain ⟨_, _, cg144, pg144, ig144, yg144⟩ := hv
  refine ⟨rfl, _, _, cg140, pg140, ig140, _, yg140, rfl, _, _, cg141, pg141, ig141, _, yg141, rfl, _, _, cg142, pg142, ig142, _, yg142, rfl, _, _, cg143, pg143, ig143, _, yg143, rfl, _, _, cg144, pg144, ig144, _, yg144, rfl, ?_⟩
  replace h := q_be h
  obtain ⟨g145, hv, h⟩ := h
  replace hv := q_wI_e hv
  obtain ⟨_, _, cg145, pg145, ig145, yg145⟩ := hv
  replace h := q_be h
  obtain ⟨g146, hv, h⟩ := h
  replace hv := q_wI_e hv
  obtain ⟨_, _, cg146, pg146, ig146, yg146⟩ := hv
  replace h := q_be h
  obtain ⟨g147, hv, h⟩ := h
  replace hv := q_wI_e hv
  obtain ⟨_, _, cg147, pg147, ig147, yg147⟩ := hv
  replace h := q_be h
  obtain ⟨g148, hv, h⟩ := h
  replace hv := q_wI_e hv
  obtain ⟨_, _, cg148, pg148, ig148, yg148⟩ := hv
  replace h := q_be h
  obtain ⟨g149, hv, h⟩ := h
  replace hv := q_wI_e hv
  obtain ⟨_, _, cg149, pg149, ig149, yg149⟩ := hv
  replace h := q_be h
  obtain ⟨g150, hv, h⟩ := h
  replace hv := q_wI_e hv
  obtain ⟨_, _, cg150, pg150, ig150, yg150⟩ := hv
  refine ⟨_, _, cg145, pg145, ig145, _, yg145, rfl, _, _, cg146, pg146, ig146, _, yg146, rfl, _, _, cg147, pg147, ig147, _, yg147, rfl, _, _, cg148, pg148, ig148, _, yg148, rfl, _, _, cg149, pg149, ig149, _, yg149, rfl, _, _, cg150, pg150, ig150, _, yg150, ?_⟩
  replace h := q_be h
  obtain ⟨g151, hv, h⟩ := h
  replace hv := q_wI_e hv
  obtain ⟨_, _, cg151, pg151, ig151, yg151⟩ := hv
  replace h := q_be h
  obtain ⟨g152, hv, h⟩ := h
  replace hv := q_wI_e hv
  obtain ⟨_, _, cg152, pg152, ig152, yg152⟩ := hv
  replace h := q_be h
  obtain ⟨g153, hv, h⟩ := h
  replace hv := q_sR_e hv
  obtain ⟨_, cg153, dg153, yg153⟩ := hv
  refine ⟨rfl, _, _, cg151, pg151, ig151, _, yg151, rfl, _, _, cg152, pg152, ig152, _, yg152, _, cg153, dg153, rfl, rfl, _, yg153, ?_⟩
  exact ps_weak (pjX12_init_731 h hk) ⟨rfl, trivial⟩
noncomputable def jX12_init_390 (g : ps_G) (x0 : Nat) : Option (ps_G) := Option.bind (q_nA .int g (4 : Int32)) fun g88 => Option.bind (q_sR 12 66 g88 x0 (some g.1)) fun g89 => Option.bind (q_nA .int g89 (576 : Int32)) fun g90 => Option.bind (q_sR 12 67 g90 x0 (some g89.1)) fun g91 => Option.bind (q_nA .int g91 (29 : Int32)) fun g92 => Option.bind (q_wI g92 g91.1 (0 : Int32) (3 : Int32)) fun g93 => Option.bind (q_wI g93 g91.1 (1 : Int32) (4 : Int32)) fun g94 => Option.bind (q_wI g94 g91.1 (2 : Int32) (5 : Int32)) fun g95 => Option.bind (q_wI g95 g91.1 (3 : Int32) (6 : Int32)) fun g96 => Option.bind (q_wI g96 g91.1 (4 : Int32) (7 : Int32)) fun g97 => Option.bind (q_wI g97 g91.1 (5 : Int32) (8 : Int32)) fun g98 => Option.bind (q_wI g98 g91.1 (6 : Int32) (9 : Int32)) fun g99 => Option.bind (q_wI g99 g91.1 (7 : Int32) (10 : Int32)) fun g100 => Option.bind (q_wI g100 g91.1 (8 : Int32) (11 : Int32)) fun g101 => Option.bind (q_wI g101 g91.1 (9 : Int32) (13 : Int32)) fun g102 => Option.bind (q_wI g102 g91.1 (10 : Int32) (15 : Int32)) fun g103 => Option.bind (q_wI g103 g91.1 (11 : Int32) (17 : Int32)) fun g104 => Option.bind (q_wI g104 g91.1 (12 : Int32) (19 : Int32)) fun g105 => Option.bind (q_wI g105 g91.1 (13 : Int32) (23 : Int32)) fun g106 => Option.bind (q_wI g106 g91.1 (14 : Int32) (27 : Int32)) fun g107 => Option.bind (q_wI g107 g91.1 (15 : Int32) (31 : Int32)) fun g108 => Option.bind (q_wI g108 g91.1 (16 : Int32) (35 : Int32)) fun g109 => Option.bind (q_wI g109 g91.1 (17 : Int32) (43 : Int32)) fun g110 => Option.bind (q_wI g110 g91.1 (18 : Int32) (51 : Int32)) fun g111 => Option.bind (q_wI g111 g91.1 (19 : Int32) (59 : Int32)) fun g112 => Option.bind (q_wI g112 g91.1 (20 : Int32) (67 : Int32)) fun g113 => Option.bind (q_wI g113 g91.1 (21 : Int32) (83 : Int32)) fun g114 => Option.bind (q_wI g114 g91.1 (22 : Int32) (99 : Int32)) fun g115 => Option.bind (q_wI g115 g91.1 (23 : Int32) (115 : Int32)) fun g116 => Option.bind (q_wI g116 g91.1 (24 : Int32) (131 : Int32)) fun g117 => Option.bind (q_wI g117 g91.1 (25 : Int32) (163 : Int32)) fun g118 => Option.bind (q_wI g118 g91.1 (26 : Int32) (195 : Int32)) fun g119 => Option.bind (q_wI g119 g91.1 (27 : Int32) (227 : Int32)) fun g120 => Option.bind (q_wI g120 g91.1 (28 : Int32) (258 : Int32)) fun g121 => Option.bind (q_sR 12 68 g121 x0 (some g91.1)) fun g122 => jX12_init_584 g122 x0
theorem pjX12_init_390 {d : Nat} {Q : ps_Rs → ps_G → Prop} {g : ps_G} {x0 : Nat} {r : ps_G} (h : jX12_init_390 g x0 = some r) (hk : Q (.inl none) r) : ps_At mX12_init (d + 2) 390 [(0, .ref x0)] [] g Q := by
  unfold jX12_init_390 at h
  refine sX12_init_390 ?_
  replace h := q_be h
  obtain ⟨g88, hv, h⟩ := h
  replace hv := q_nA_e hv
  obtain ⟨ag88, bg88, yg88⟩ := hv
  replace h := q_be h
  obtain ⟨g89, hv, h⟩ := h
  replace hv := q_sR_e hv
  obtain ⟨_, cg89, dg89, yg89⟩ := hv
  replace h := q_be h
  obtain ⟨g90, hv, h⟩ := h
  replace hv := q_nA_e hv
  obtain ⟨ag90, bg90, yg90⟩ := hv
  replace h := q_be h
  obtain ⟨g91, hv, h⟩ := h
  replace hv := q_sR_e hv
  obtain ⟨_, cg91, dg91, yg91⟩ := hv
  replace h := q_be h
  obtain ⟨g92, hv, h⟩ := h
  replace hv := q_nA_e hv
  obtain ⟨ag92, bg92, yg92⟩ := hv
  replace h := q_be h
  obtain ⟨g93, hv, h⟩ := h
  replace hv := q_wI_e hv
  obtain ⟨_, _, cg93, pg93, ig93, yg93⟩ := hv
  refine ⟨⟨some _, rfl⟩, Or.inl rfl, ag88, bg88, _, yg88, _, cg89, dg89, rfl, rfl, _, yg89, ⟨some _, rfl⟩, Or.inl rfl, ag90, bg90, _, yg90, _, cg91, dg91, rfl, rfl, _, yg91, ⟨some _, rfl⟩, Or.inl rfl, ag92, bg92, _, yg92, rfl, _, _, cg93, pg93, ig93, _, yg93, rfl, ?_⟩
  replace h := q_be h
  obtain ⟨g94, hv, h⟩ := h
  replace hv := q_wI_e hv
  obtain ⟨_, _, cg94, pg94, ig94, yg94⟩ := hv
  replace h := q_be h
  obtain ⟨g95, hv, h⟩ := h
  replace hv := q_wI_e hv
  obtain ⟨_, _, cg95, pg95, ig95, yg95⟩ := hv
  replace h := q_be h
  obtain ⟨g96, hv, h⟩ := h
  replace hv := q_wI_e hv
  obtain ⟨_, _, cg96, pg96, ig96, yg96⟩ := hv
  replace h := q_be h
  obtain ⟨g97, hv, h⟩ := h
  replace hv := q_wI_e hv
  obtain ⟨_, _, cg97, pg97, ig97, yg97⟩ := hv
  replace h := q_be h
  obtain ⟨g98, hv, h⟩ := h
  replace hv := q_wI_e hv
  obtain ⟨_, _, cg98, pg98, ig98, yg98⟩ := hv
  replace h := q_be h
  obtain ⟨g99, hv, h⟩ := h
  replace hv := q_wI_e hv
  obtain ⟨_, _, cg99, pg99, ig99, yg99⟩ := hv
  refine ⟨_, _, cg94, pg94, ig94, _, yg94, rfl, _, _, cg95, pg95, ig95, _, yg95, rfl, _, _, cg96, pg96, ig96, _, yg96, rfl, _, _, cg97, pg97, ig97, _, yg97, rfl, _, _, cg98, pg98, ig98, _, yg98, rfl, _, _, cg99, pg99, ig99, _, yg99, ?_⟩
  replace h := q_be h
  obtain ⟨g100, hv, h⟩ := h
  replace hv := q_wI_e hv
  obtain ⟨_, _, cg100, pg100, ig100, yg100⟩ := hv
  replace h := q_be h
  obtain ⟨g101, hv, h⟩ := h
  replace hv := q_wI_e hv
  obtain ⟨_, _, cg101, pg101, ig101, yg101⟩ := hv
  replace h := q_be h
  obtain ⟨g102, hv, h⟩ := h
  replace hv := q_wI_e hv
  obtain ⟨_, _, cg102, pg102, ig102, yg102⟩ := hv
  replace h := q_be h
  obtain ⟨g103, hv, h⟩ := h
  replace hv := q_wI_e hv
  obtain ⟨_, _, cg103, pg103, ig103, yg103⟩ := hv
  replace h := q_be h
  obtain ⟨g104, hv, h⟩ := h
  replace hv := q_wI_e hv
  obtain ⟨_, _, cg104, pg104, ig104, yg104⟩ := hv
  refine ⟨rfl, _, _, cg100, pg100, ig100, _, yg100, rfl, _, _, cg101, pg101, ig101, _, yg101, rfl, _, _, cg102, pg102, ig102, _, yg102, rfl, _, _, cg103, pg103, ig103, _, yg103, rfl, _, _, cg104, pg104, ig104, _, yg104, rfl, ?_⟩
  replace h := q_be h
  obtain ⟨g105, hv, h⟩ := h
  replace hv := q_wI_e hv
  obtain ⟨_, _, cg105, pg105, ig105, yg105⟩ := hv
  replace h := q_be h
  obtain ⟨g106, hv, h⟩ := h
  replace hv := q_wI_e hv
  obtain ⟨_, _, cg106, pg106, ig106, yg106⟩ := hv
  replace h := q_be h
  obtain ⟨g107, hv, h⟩ := h
  replace hv := q_wI_e hv
  obtain ⟨_, _, cg107, pg107, ig107, yg107⟩ := hv
  replace h := q_be h
  obtain ⟨g108, hv, h⟩ := h
  replace hv := q_wI_e hv
  obtain ⟨_, _, cg108, pg108, ig108, yg108⟩ := hv
  replace h := q_be h
  obtain ⟨g109, hv, h⟩ := h
  replace hv := q_wI_e hv
  obtain ⟨_, _, cg109, pg109, ig109, yg109⟩ := hv
  replace h := q_be h
  obtain ⟨g110, hv, h⟩ := h
  replace hv := q_wI_e hv
  obtain ⟨_, _, cg110, pg110, ig110, yg110⟩ := hv
  refine ⟨_, _, cg105, pg105, ig105, _, yg105, rfl, _, _, cg106, pg106, ig106, _, yg106, rfl, _, _, cg107, pg107, ig107, _, yg107, rfl, _, _, cg108, pg108, ig108, _, yg108, rfl, _, _, cg109, pg109, ig109, _, yg109, rfl, _, _, cg110, pg110, ig110, _, yg110, ?_⟩
  replace h := q_be h
  obtain ⟨g111, hv, h⟩ := h
  replace hv := q_wI_e hv
  obtain ⟨_, _, cg111, pg111, ig111, yg111⟩ := hv
  replace h := q_be h
  obtain ⟨g112, hv, h⟩ := h
  replace hv := q_wI_e hv
  obtain ⟨_, _, cg112, pg112, ig112, yg112⟩ := hv
  replace h := q_be h
  obtain ⟨g113, hv, h⟩ := h
  replace hv := q_wI_e hv
  obtain ⟨_, _, cg113, pg113, ig113, yg113⟩ := hv
  replace h := q_be h
  obtain ⟨g114, hv, h⟩ := h
  replace hv := q_wI_e hv
  obtain ⟨_, _, cg114, pg114, ig114, yg114⟩ := hv
  replace h := q_be h
  obtain ⟨g115, hv, h⟩ := h
  replace hv := q_wI_e hv
  obtain ⟨_, _, cg115, pg115, ig115, yg115⟩ := hv
  refine ⟨rfl, _, _, cg111, pg111, ig111, _, yg111, rfl, _, _, cg112, pg112, ig112, _, yg112, rfl, _, _, cg113, pg113, ig113, _, yg113, rfl, _, _, cg114, pg114, ig114, _, yg114, rfl, _, _, cg115, pg115, ig115, _, yg115, rfl, ?_⟩
  replace h := q_be h
  obtain ⟨g116, hv, h⟩ := h
  replace hv := q_wI_e hv
  obtain ⟨_, _, cg116, pg116, ig116, yg116⟩ := hv
  replace h := q_be h
  obtain ⟨g117, hv, h⟩ := h
  replace hv := q_wI_e hv
  obtain ⟨_, _, cg117, pg117, ig117, yg117⟩ := hv
  replace h := q_be h
  obtain ⟨g118, hv, h⟩ := h
  replace hv := q_wI_e hv
  obtain ⟨_, _, cg118, pg118, ig118, yg118⟩ := hv
  replace h := q_be h
  obtain ⟨g119, hv, h⟩ := h
  replace hv := q_wI_e hv
  obtain ⟨_, _, cg119, pg119, ig119, yg119⟩ := hv
  replace h := q_be h
  obtain ⟨g120, hv, h⟩ := h
  replace hv := q_wI_e hv
  obtain ⟨_, _, cg120, pg120, ig120, yg120⟩ := hv
  replace h := q_be h
  obtain ⟨g121, hv, h⟩ := h
  replace hv := q_wI_e hv
  obtain ⟨_, _, cg121, pg121, ig121, yg121⟩ := hv
  refine ⟨_, _, cg116, pg116, ig116, _, yg116, rfl, _, _, cg117, pg117, ig117, _, yg117, rfl, _, _, cg118, pg118, ig118, _, yg118, rfl, _, _, cg119, pg119, ig119, _, yg119, rfl, _, _, cg120, pg120, ig120, _, yg120, rfl, _, _, cg121, pg121, ig121, _, yg121, ?_⟩
  replace h := q_be h
  obtain ⟨g122, hv, h⟩ := h
  replace hv := q_sR_e hv
  obtain ⟨_, cg122, dg122, yg122⟩ := hv
  refine ⟨_, cg122, dg122, rfl, rfl, _, yg122, ?_⟩
  exact ps_weak (pjX12_init_584 h hk) ⟨rfl, trivial⟩
noncomputable def jX12_init_192 (g : ps_G) (x0 : Nat) : Option (ps_G) := Option.bind (q_sI 12 38 g x0 (4 : Int32)) fun g43 => Option.bind (q_sI 12 39 g43 x0 (255 : Int32)) fun g44 => Option.bind (q_sI 12 40 g44 x0 (255 : Int32)) fun g45 => Option.bind (q_nA .int g45 (40 : Int32)) fun g46 => Option.bind (q_sR 12 44 g46 x0 (some g45.1)) fun g47 => Option.bind (q_nA .int g47 (40 : Int32)) fun g48 => Option.bind (q_sR 12 45 g48 x0 (some g47.1)) fun g49 => Option.bind (q_nA .int g49 (40 : Int32)) fun g50 => Option.bind (q_sR 12 46 g50 x0 (some g49.1)) fun g51 => Option.bind (q_nA .int g51 (576 : Int32)) fun g52 => Option.bind (q_sR 12 47 g52 x0 (some g51.1)) fun g53 => Option.bind (q_nA .int g53 (8 : Int32)) fun g54 => Option.bind (q_sR 12 48 g54 x0 (some g53.1)) fun g55 => Option.bind (q_nA .int g55 (320 : Int32)) fun g56 => Option.bind (q_sR 12 49 g56 x0 (some g55.1)) fun g57 => Option.bind (q_nA .int g57 (320 : Int32)) fun g58 => Option.bind (q_sR 12 50 g58 x0 (some g57.1)) fun g59 => Option.bind (q_nA .int g59 (320 : Int32)) fun g60 => Option.bind (q_sR 12 51 g60 x0 (some g59.1)) fun g61 => Option.bind (q_nA .int g61 (420 : Int32)) fun g62 => Option.bind (q_sR 12 53 g62 x0 (some g61.1)) fun g63 => Option.bind (q_nA .int g63 (420 : Int32)) fun g64 => Option.bind (q_sR 12 54 g64 x0 (some g63.1)) fun g65 => Option.bind (q_nA .int g65 (420 : Int32)) fun g66 => Option.bind (q_sR 12 55 g66 x0 (some g65.1)) fun g67 => Option.bind (q_nA .int g67 (420 : Int32)) fun g68 => Option.bind (q_sR 12 56 g68 x0 (some g67.1)) fun g69 => Option.bind (q_nA .int g69 (256 : Int32)) fun g70 => Option.bind (q_sR 12 57 g70 x0 (some g69.1)) fun g71 => Option.bind (q_nA .int g71 (256 : Int32)) fun g72 => Option.bind (q_sR 12 58 g72 x0 (some g71.1)) fun g73 => Option.bind (q_nA .int g73 (40 : Int32)) fun g74 => Option.bind (q_sR 12 59 g74 x0 (some g73.1)) fun g75 => Option.bind (q_nA .int g75 (3 : Int32)) fun g76 => Option.bind (q_sR 12 60 g76 x0 (some g75.1)) fun g77 => Option.bind (q_nA .int g77 (576 : Int32)) fun g78 => Option.bind (q_sR 12 61 g78 x0 (some g77.1)) fun g79 => Option.bind (q_nA .int g79 (16 : Int32)) fun g80 => Option.bind (q_sR 12 62 g80 x0 (some g79.1)) fun g81 => Option.bind (q_nA .int g81 (16 : Int32)) fun g82 => Option.bind (q_sR 12 63 g82 x0 (some g81.1)) fun g83 => Option.bind (q_nA .int g83 (16 : Int32)) fun g84 => Option.bind (q_sR 12 64 g84 x0 (some g83.1)) fun g85 => Option.bind (q_nA .int g85 (1728 : Int32)) fun g86 => Option.bind (q_sR 12 65 g86 x0 (some g85.1)) fun g87 => jX12_init_390 g87 x0
theorem pjX12_init_192 {d : Nat} {Q : ps_Rs → ps_G → Prop} {g : ps_G} {x0 : Nat} {r : ps_G} (h : jX12_init_192 g x0 = some r) (hk : Q (.inl none) r) : ps_At mX12_init (d + 2) 192 [(0, .ref x0)] [] g Q := by
  unfold jX12_init_192 at h
  refine sX12_init_192 ?_
  replace h := q_be h
  obtain ⟨g43, hv, h⟩ := h
  replace hv := q_sI_e hv
  obtain ⟨_, cg43, dg43, yg43⟩ := hv
  replace h := q_be h
  obtain ⟨g44, hv, h⟩ := h
  replace hv := q_sI_e hv
  obtain ⟨_, cg44, dg44, yg44⟩ := hv
  replace h := q_be h
  obtain ⟨g45, hv, h⟩ := h
  replace hv := q_sI_e hv
  obtain ⟨_, cg45, dg45, yg45⟩ := hv
  replace h := q_be h
  obtain ⟨g46, hv, h⟩ := h
  replace hv := q_nA_e hv
  obtain ⟨ag46, bg46, yg46⟩ := hv
  replace h := q_be h
  obtain ⟨g47, hv, h⟩ := h
  replace hv := q_sR_e hv
  obtain ⟨_, cg47, dg47, yg47⟩ := hv
  replace h := q_be h
  obtain ⟨g48, hv, h⟩ := h
  replace hv := q_nA_e hv
  obtain ⟨ag48, bg48, yg48⟩ := hv
  refine ⟨⟨some _, rfl⟩, _, cg43, dg43, rfl, rfl, _, yg43, ⟨some _, rfl⟩, _, cg44, dg44, rfl, rfl, _, yg44, ⟨some _, rfl⟩, _, cg45, dg45, rfl, rfl, _, yg45, ⟨some _, rfl⟩, Or.inl rfl, ag46, bg46, _, yg46, _, cg47, dg47, rfl, rfl, _, yg47, ⟨some _, rfl⟩, Or.inl rfl, ag48, bg48, _, yg48, ?_⟩
  replace h := q_be h
  obtain ⟨g49, hv, h⟩ := h
  replace hv := q_sR_e hv
  obtain ⟨_, cg49, dg49, yg49⟩ := hv
  replace h := q_be h
  obtain ⟨g50, hv, h⟩ := h
  replace hv := q_nA_e hv
  obtain ⟨ag50, bg50, yg50⟩ := hv
  replace h := q_be h
  obtain ⟨g51, hv, h⟩ := h
  replace hv := q_sR_e hv
  obtain ⟨_, cg51, dg51, yg51⟩ := hv
  replace h := q_be h
  obtain ⟨g52, hv, h⟩ := h
  replace hv := q_nA_e hv
  obtain ⟨ag52, bg52, yg52⟩ := hv
  replace h := q_be h
  obtain ⟨g53, hv, h⟩ := h
  replace hv := q_sR_e hv
  obtain ⟨_, cg53, dg53, yg53⟩ := hv
  replace h := q_be h
  obtain ⟨g54, hv, h⟩ := h
  replace hv := q_nA_e hv
  obtain ⟨ag54, bg54, yg54⟩ := hv
  replace h := q_be h
  obtain ⟨g55, hv, h⟩ := h
  replace hv := q_sR_e hv
  obtain ⟨_, cg55, dg55, yg55⟩ := hv
  refine ⟨_, cg49, dg49, rfl, rfl, _, yg49, ⟨some _, rfl⟩, Or.inl rfl, ag50, bg50, _, yg50, _, cg51, dg51, rfl, rfl, _, yg51, ⟨some _, rfl⟩, Or.inl rfl, ag52, bg52, _, yg52, _, cg53, dg53, rfl, rfl, _, yg53, ⟨some _, rfl⟩, Or.inl rfl, ag54, bg54, _, yg54, _, cg55, dg55, rfl, rfl, _, yg55, ?_⟩
  replace h := q_be h
  obtain ⟨g56, hv, h⟩ := h
  replace hv := q_nA_e hv
  obtain ⟨ag56, bg56, yg56⟩ := hv
  replace h := q_be h
  obtain ⟨g57, hv, h⟩ := h
  replace hv := q_sR_e hv
  obtain ⟨_, cg57, dg57, yg57⟩ := hv
  replace h := q_be h
  obtain ⟨g58, hv, h⟩ := h
  replace hv := q_nA_e hv
  obtain ⟨ag58, bg58, yg58⟩ := hv
  replace h := q_be h
  obtain ⟨g59, hv, h⟩ := h
  replace hv := q_sR_e hv
  obtain ⟨_, cg59, dg59, yg59⟩ := hv
  replace h := q_be h
  obtain ⟨g60, hv, h⟩ := h
  replace hv := q_nA_e hv
  obtain ⟨ag60, bg60, yg60⟩ := hv
  replace h := q_be h
  obtain ⟨g61, hv, h⟩ := h
  replace hv := q_sR_e hv
  obtain ⟨_, cg61, dg61, yg61⟩ := hv
  replace h := q_be h
  obtain ⟨g62, hv, h⟩ := h
  replace hv := q_nA_e hv
  obtain ⟨ag62, bg62, yg62⟩ := hv
  refine ⟨⟨some _, rfl⟩, Or.inl rfl, ag56, bg56, _, yg56, _, cg57, dg57, rfl, rfl, _, yg57, ⟨some _, rfl⟩, Or.inl rfl, ag58, bg58, _, yg58, _, cg59, dg59, rfl, rfl, _, yg59, ⟨some _, rfl⟩, Or.inl rfl, ag60, bg60, _, yg60, _, cg61, dg61, rfl, rfl, _, yg61, ⟨some _, rfl⟩, Or.inl rfl, ag62, bg62, _, yg62, ?_⟩
  replace h := q_be h
  obtain ⟨g63, hv, h⟩ := h
  replace hv := q_sR_e hv
  obtain ⟨_, cg63, dg63, yg63⟩ := hv
  replace h := q_be h
  obtain ⟨g64, hv, h⟩ := h
  replace hv := q_nA_e hv
  obtain ⟨ag64, bg64, yg64⟩ := hv
  replace h := q_be h
  obtain ⟨g65, hv, h⟩ := h
  replace hv := q_sR_e hv
  obtain ⟨_, cg65, dg65, yg65⟩ := hv
  replace h := q_be h
  obtain ⟨g66, hv, h⟩ := h
  replace hv := q_nA_e hv
  obtain ⟨ag66, bg66, yg66⟩ := hv
  replace h := q_be h
  obtain ⟨g67, hv, h⟩ := h
  replace hv := q_sR_e hv
  obtain ⟨_, cg67, dg67, yg67⟩ := hv
  replace h := q_be h
  obtain ⟨g68, hv, h⟩ := h
  replace hv := q_nA_e hv
  obtain ⟨ag68, bg68, yg68⟩ := hv
  replace h := q_be h
  obtain ⟨g69, hv, h⟩ := h
  replace hv := q_sR_e hv
  obtain ⟨_, cg69, dg69, yg69⟩ := hv
  refine ⟨_, cg63, dg63, rfl, rfl, _, yg63, ⟨some _, rfl⟩, Or.inl rfl, ag64, bg64, _, yg64, _, cg65, dg65, rfl, rfl, _, yg65, ⟨some _, rfl⟩, Or.inl rfl, ag66, bg66, _, yg66, _, cg67, dg67, rfl, rfl, _, yg67, ⟨some _, rfl⟩, Or.inl rfl, ag68, bg68, _, yg68, _, cg69, dg69, rfl, rfl, _, yg69, ?_⟩
  replace h := q_be h
  obtain ⟨g70, hv, h⟩ := h
  replace hv := q_nA_e hv
  obtain ⟨ag70, bg70, yg70⟩ := hv
  replace h := q_be h
  obtain ⟨g71, hv, h⟩ := h
  replace hv := q_sR_e hv
  obtain ⟨_, cg71, dg71, yg71⟩ := hv
  replace h := q_be h
  obtain ⟨g72, hv, h⟩ := h
  replace hv := q_nA_e hv
  obtain ⟨ag72, bg72, yg72⟩ := hv
  replace h := q_be h
  obtain ⟨g73, hv, h⟩ := h
  replace hv := q_sR_e hv
  obtain ⟨_, cg73, dg73, yg73⟩ := hv
  replace h := q_be h
  obtain ⟨g74, hv, h⟩ := h
  replace hv := q_nA_e hv
  obtain ⟨ag74, bg74, yg74⟩ := hv
  replace h := q_be h
  obtain ⟨g75, hv, h⟩ := h
  replace hv := q_sR_e hv
  obtain ⟨_, cg75, dg75, yg75⟩ := hv
  replace h := q_be h
  obtain ⟨g76, hv, h⟩ := h
  replace hv := q_nA_e hv
  obtain ⟨ag76, bg76, yg76⟩ := hv
  refine ⟨⟨some _, rfl⟩, Or.inl rfl, ag70, bg70, _, yg70, _, cg71, dg71, rfl, rfl, _, yg71, ⟨some _, rfl⟩, Or.inl rfl, ag72, bg72, _, yg72, _, cg73, dg73, rfl, rfl, _, yg73, ⟨some _, rfl⟩, Or.inl rfl, ag74, bg74, _, yg74, _, cg75, dg75, rfl, rfl, _, yg75, ⟨some _, rfl⟩, Or.inl rfl, ag76, bg76, _, yg76, ?_⟩
  replace h := q_be h
  obtain ⟨g77, hv, h⟩ := h
  replace hv := q_sR_e hv
  obtain ⟨_, cg77, dg77, yg77⟩ := hv
  replace h := q_be h
  obtain ⟨g78, hv, h⟩ := h
  replace hv := q_nA_e hv
  obtain ⟨ag78, bg78, yg78⟩ := hv
  replace h := q_be h
  obtain ⟨g79, hv, h⟩ := h
  replace hv := q_sR_e hv
  obtain ⟨_, cg79, dg79, yg79⟩ := hv
  replace h := q_be h
  obtain ⟨g80, hv, h⟩ := h
  replace hv := q_nA_e hv
  obtain ⟨ag80, bg80, yg80⟩ := hv
  replace h := q_be h
  obtain ⟨g81, hv, h⟩ := h
  replace hv := q_sR_e hv
  obtain ⟨_, cg81, dg81, yg81⟩ := hv
  replace h := q_be h
  obtain ⟨g82, hv, h⟩ := h
  replace hv := q_nA_e hv
  obtain ⟨ag82, bg82, yg82⟩ := hv
  replace h := q_be h
  obtain ⟨g83, hv, h⟩ := h
  replace hv := q_sR_e hv
  obtain ⟨_, cg83, dg83, yg83⟩ := hv
  refine ⟨_, cg77, dg77, rfl, rfl, _, yg77, ⟨some _, rfl⟩, Or.inl rfl, ag78, bg78, _, yg78, _, cg79, dg79, rfl, rfl, _, yg79, ⟨some _, rfl⟩, Or.inl rfl, ag80, bg80, _, yg80, _, cg81, dg81, rfl, rfl, _, yg81, ⟨some _, rfl⟩, Or.inl rfl, ag82, bg82, _, yg82, _, cg83, dg83, rfl, rfl, _, yg83, ?_⟩
  replace h := q_be h
  obtain ⟨g84, hv, h⟩ := h
  replace hv := q_nA_e hv
  obtain ⟨ag84, bg84, yg84⟩ := hv
  replace h := q_be h
  obtain ⟨g85, hv, h⟩ := h
  replace hv := q_sR_e hv
  obtain ⟨_, cg85, dg85, yg85⟩ := hv
  replace h := q_be h
  obtain ⟨g86, hv, h⟩ := h
  replace hv := q_nA_e hv
  obtain ⟨ag86, bg86, yg86⟩ := hv
  replace h := q_be h
  obtain ⟨g87, hv, h⟩ := h
  replace hv := q_sR_e hv
  obtain ⟨_, cg87, dg87, yg87⟩ := hv
  refine ⟨⟨some _, rfl⟩, Or.inl rfl, ag84, bg84, _, yg84, _, cg85, dg85, rfl, rfl, _, yg85, ⟨some _, rfl⟩, Or.inl rfl, ag86, bg86, _, yg86, _, cg87, dg87, rfl, rfl, _, yg87, ?_⟩
  exact ps_weak (pjX12_init_390 h hk) ⟨rfl, trivial⟩
noncomputable def fX12_init (g : ps_G) (x0 : Nat) : Option (ps_G) := Option.bind (q_nA .int g (8000 : Int32)) fun g1 => Option.bind (q_sR 12 1 g1 x0 (some g.1)) fun g2 => Option.bind (q_nA .int g2 (16000 : Int32)) fun g3 => Option.bind (q_sR 12 6 g3 x0 (some g2.1)) fun g4 => Option.bind (q_nA .int g4 (35071 : Int32)) fun g5 => Option.bind (q_sR 12 8 g5 x0 (some g4.1)) fun g6 => Option.bind (q_nA .int g6 (876775 : Int32)) fun g7 => Option.bind (q_sR 12 9 g7 x0 (some g6.1)) fun g8 => Option.bind (q_nA .boolean g8 (30 : Int32)) fun g9 => Option.bind (q_sR 12 15 g9 x0 (some g8.1)) fun g10 => Option.bind (q_nA .int g10 (18000 : Int32)) fun g11 => Option.bind (q_sR 12 16 g11 x0 (some g10.1)) fun g12 => Option.bind (q_nA .int g12 (18000 : Int32)) fun g13 => Option.bind (q_sR 12 17 g13 x0 (some g12.1)) fun g14 => Option.bind (q_nA .int g14 (576 : Int32)) fun g15 => Option.bind (q_sR 12 18 g15 x0 (some g14.1)) fun g16 => Option.bind (q_nA .boolean g16 (9 : Int32)) fun g17 => Option.bind (q_sR 12 21 g17 x0 (some g16.1)) fun g18 => Option.bind (q_nA .int g18 (576 : Int32)) fun g19 => Option.bind (q_sR 12 22 g19 x0 (some g18.1)) fun g20 => Option.bind (q_nA .int g20 (9 : Int32)) fun g21 => Option.bind (q_sR 12 24 g21 x0 (some g20.1)) fun g22 => Option.bind (q_sI 12 25 g22 x0 (1 : Int32)) fun g23 => Option.bind (q_nA .int g23 (9 : Int32)) fun g24 => Option.bind (q_sR 12 27 g24 x0 (some g23.1)) fun g25 => Option.bind (q_nA .int g25 (32 : Int32)) fun g26 => Option.bind (q_sR 12 28 g26 x0 (some g25.1)) fun g27 => Option.bind (q_nA .int g27 (256 : Int32)) fun g28 => Option.bind (q_sR 12 29 g28 x0 (some g27.1)) fun g29 => Option.bind (q_nA .int g29 (256 : Int32)) fun g30 => Option.bind (q_sR 12 30 g30 x0 (some g29.1)) fun g31 => Option.bind (q_nA .int g31 (576 : Int32)) fun g32 => Option.bind (q_sR 12 31 g32 x0 (some g31.1)) fun g33 => Option.bind (q_nA .int g33 (576 : Int32)) fun g34 => Option.bind (q_sR 12 32 g34 x0 (some g33.1)) fun g35 => Option.bind (q_nA .int g35 (2400 : Int32)) fun g36 => Option.bind (q_sR 12 33 g36 x0 (some g35.1)) fun g37 => Option.bind (q_sI 12 34 g37 x0 (-16777216 : Int32)) fun g38 => Option.bind (q_nA .int g38 (576 : Int32)) fun g39 => Option.bind (q_sR 12 35 g39 x0 (some g38.1)) fun g40 => Option.bind (q_sI 12 36 g40 x0 (8 : Int32)) fun g41 => Option.bind (q_sI 12 37 g41 x0 (255 : Int32)) fun g42 => jX12_init_192 g42 x0
theorem rX12_init {d : Nat} {Q : ps_Rs → ps_G → Prop} {g : ps_G} {x0 : Nat} {r : ps_G} (h : fX12_init g x0 = some r) (hk : Q (.inl none) r) : ps_Ok mX12_init (d + 2) [.ref x0] g Q := by
  unfold fX12_init at h
  refine sX12_init_0 ?_
  replace h := q_be h
  obtain ⟨g1, hv, h⟩ := h
  replace hv := q_nA_e hv
  obtain ⟨ag1, bg1, yg1⟩ := hv
  replace h := q_be h
  obtain ⟨g2, hv, h⟩ := h
  replace hv := q_sR_e hv
  obtain ⟨_, cg2, dg2, yg2⟩ := hv
  replace h := q_be h
  obtain ⟨g3, hv, h⟩ := h
  replace hv := q_nA_e hv
  obtain ⟨ag3, bg3, yg3⟩ := hv
  replace h := q_be h
  obtain ⟨g4, hv, h⟩ := h
  replace hv := q_sR_e hv
  obtain ⟨_, cg4, dg4, yg4⟩ := hv
  replace h := q_be h
  obtain ⟨g5, hv, h⟩ := h
  replace hv := q_nA_e hv
  obtain ⟨ag5, bg5, yg5⟩ := hv
  replace h := q_be h
  obtain ⟨g6, hv, h⟩ := h
  replace hv := q_sR_e hv
  obtain ⟨_, cg6, dg6, yg6⟩ := hv
  refine ⟨⟨some _, rfl⟩, by decide, ⟨some _, rfl⟩, Or.inl rfl, ag1, bg1, _, yg1, _, cg2, dg2, rfl, rfl, _, yg2, ⟨some _, rfl⟩, Or.inl rfl, ag3, bg3, _, yg3, _, cg4, dg4, rfl, rfl, _, yg4, ⟨some _, rfl⟩, Or.inl rfl, ag5, bg5, _, yg5, _, cg6, dg6, rfl, rfl, _, yg6, ?_⟩
  replace h := q_be h
  obtain ⟨g7, hv, h⟩ := h
  replace hv := q_nA_e hv
  obtain ⟨ag7, bg7, yg7⟩ := hv
  replace h := q_be h
  obtain ⟨g8, hv, h⟩ := h
  replace hv := q_sR_e hv
  obtain ⟨_, cg8, dg8, yg8⟩ := hv
  replace h := q_be h
  obtain ⟨g9, hv, h⟩ := h
  replace hv := q_nA_e hv
  obtain ⟨ag9, bg9, yg9⟩ := hv
  replace h := q_be h
  obtain ⟨g10, hv, h⟩ := h
  replace hv := q_sR_e hv
  obtain ⟨_, cg10, dg10, yg10⟩ := hv
  replace h := q_be h
  obtain ⟨g11, hv, h⟩ := h
  replace hv := q_nA_e hv
  obtain ⟨ag11, bg11, yg11⟩ := hv
  replace h := q_be h
  obtain ⟨g12, hv, h⟩ := h
  replace hv := q_sR_e hv
  obtain ⟨_, cg12, dg12, yg12⟩ := hv
  replace h := q_be h
  obtain ⟨g13, hv, h⟩ := h
  replace hv := q_nA_e hv
  obtain ⟨ag13, bg13, yg13⟩ := hv
  refine ⟨⟨some _, rfl⟩, Or.inl rfl, ag7, bg7, _, yg7, _, cg8, dg8, rfl, rfl, _, yg8, ⟨some _, rfl⟩, Or.inr (Or.inr rfl), ag9, bg9, _, yg9, _, cg10, dg10, rfl, rfl, _, yg10, ⟨some _, rfl⟩, Or.inl rfl, ag11, bg11, _, yg11, _, cg12, dg12, rfl, rfl, _, yg12, ⟨some _, rfl⟩, Or.inl rfl, ag13, bg13, _, yg13, ?_⟩
  replace h := q_be h
  obtain ⟨g14, hv, h⟩ := h
  replace hv := q_sR_e hv
  obtain ⟨_, cg14, dg14, yg14⟩ := hv
  replace h := q_be h
  obtain ⟨g15, hv, h⟩ := h
  replace hv := q_nA_e hv
  obtain ⟨ag15, bg15, yg15⟩ := hv
  replace h := q_be h
  obtain ⟨g16, hv, h⟩ := h
  replace hv := q_sR_e hv
  obtain ⟨_, cg16, dg16, yg16⟩ := hv
  replace h := q_be h
  obtain ⟨g17, hv, h⟩ := h
  replace hv := q_nA_e hv
  obtain ⟨ag17, bg17, yg17⟩ := hv
  replace h := q_be h
  obtain ⟨g18, hv, h⟩ := h
  replace hv := q_sR_e hv
  obtain ⟨_, cg18, dg18, yg18⟩ := hv
  replace h := q_be h
  obtain ⟨g19, hv, h⟩ := h
  replace hv := q_nA_e hv
  obtain ⟨ag19, bg19, yg19⟩ := hv
  replace h := q_be h
  obtain ⟨g20, hv, h⟩ := h
  replace hv := q_sR_e hv
  obtain ⟨_, cg20, dg20, yg20⟩ := hv
  refine ⟨_, cg14, dg14, rfl, rfl, _, yg14, ⟨some _, rfl⟩, Or.inl rfl, ag15, bg15, _, yg15, _, cg16, dg16, rfl, rfl, _, yg16, ⟨some _, rfl⟩, Or.inr (Or.inr rfl), ag17, bg17, _, yg17, _, cg18, dg18, rfl, rfl, _, yg18, ⟨some _, rfl⟩, Or.inl rfl, ag19, bg19, _, yg19, _, cg20, dg20, rfl, rfl, _, yg20, ?_⟩
  replace h := q_be h
  obtain ⟨g21, hv, h⟩ := h
  replace hv := q_nA_e hv
  obtain ⟨ag21, bg21, yg21⟩ := hv
  replace h := q_be h
  obtain ⟨g22, hv, h⟩ := h
  replace hv := q_sR_e hv
  obtain ⟨_, cg22, dg22, yg22⟩ := hv
  replace h := q_be h
  obtain ⟨g23, hv, h⟩ := h
  replace hv := q_sI_e hv
  obtain ⟨_, cg23, dg23, yg23⟩ := hv
  replace h := q_be h
  obtain ⟨g24, hv, h⟩ := h
  replace hv := q_nA_e hv
  obtain ⟨ag24, bg24, yg24⟩ := hv
  replace h := q_be h
  obtain ⟨g25, hv, h⟩ := h
  replace hv := q_sR_e hv
  obtain ⟨_, cg25, dg25, yg25⟩ := hv
  replace h := q_be h
  obtain ⟨g26, hv, h⟩ := h
  replace hv := q_nA_e hv
  obtain ⟨ag26, bg26, yg26⟩ := hv
  replace h := q_be h
  obtain ⟨g27, hv, h⟩ := h
  replace hv := q_sR_e hv
  obtain ⟨_, cg27, dg27, yg27⟩ := hv
  refine ⟨⟨some _, rfl⟩, Or.inl rfl, ag21, bg21, _, yg21, _, cg22, dg22, rfl, rfl, _, yg22, ⟨some _, rfl⟩, _, cg23, dg23, rfl, rfl, _, yg23, ⟨some _, rfl⟩, Or.inl rfl, ag24, bg24, _, yg24, _, cg25, dg25, rfl, rfl, _, yg25, ⟨some _, rfl⟩, Or.inl rfl, ag26, bg26, _, yg26, _, cg27, dg27, rfl, rfl, _, yg27, ?_⟩
  replace h := q_be h
  obtain ⟨g28, hv, h⟩ := h
  replace hv := q_nA_e hv
  obtain ⟨ag28, bg28, yg28⟩ := hv
  replace h := q_be h
  obtain ⟨g29, hv, h⟩ := h
  replace hv := q_sR_e hv
  obtain ⟨_, cg29, dg29, yg29⟩ := hv
  replace h := q_be h
  obtain ⟨g30, hv, h⟩ := h
  replace hv := q_nA_e hv
  obtain ⟨ag30, bg30, yg30⟩ := hv
  replace h := q_be h
  obtain ⟨g31, hv, h⟩ := h
  replace hv := q_sR_e hv
  obtain ⟨_, cg31, dg31, yg31⟩ := hv
  replace h := q_be h
  obtain ⟨g32, hv, h⟩ := h
  replace hv := q_nA_e hv
  obtain ⟨ag32, bg32, yg32⟩ := hv
  replace h := q_be h
  obtain ⟨g33, hv, h⟩ := h
  replace hv := q_sR_e hv
  obtain ⟨_, cg33, dg33, yg33⟩ := hv
  replace h := q_be h
  obtain ⟨g34, hv, h⟩ := h
  replace hv := q_nA_e hv
  obtain ⟨ag34, bg34, yg34⟩ := hv
  refine ⟨⟨some _, rfl⟩, Or.inl rfl, ag28, bg28, _, yg28, _, cg29, dg29, rfl, rfl, _, yg29, ⟨some _, rfl⟩, Or.inl rfl, ag30, bg30, _, yg30, _, cg31, dg31, rfl, rfl, _, yg31, ⟨some _, rfl⟩, Or.inl rfl, ag32, bg32, _, yg32, _, cg33, dg33, rfl, rfl, _, yg33, ⟨some _, rfl⟩, Or.inl rfl, ag34, bg34, _, yg34, ?_⟩
  replace h := q_be h
  obtain ⟨g35, hv, h⟩ := h
  replace hv := q_sR_e hv
  obtain ⟨_, cg35, dg35, yg35⟩ := hv
  replace h := q_be h
  obtain ⟨g36, hv, h⟩ := h
  replace hv := q_nA_e hv
  obtain ⟨ag36, bg36, yg36⟩ := hv
  replace h := q_be h
  obtain ⟨g37, hv, h⟩ := h
  replace hv := q_sR_e hv
  obtain ⟨_, cg37, dg37, yg37⟩ := hv
  replace h := q_be h
  obtain ⟨g38, hv, h⟩ := h
  replace hv := q_sI_e hv
  obtain ⟨_, cg38, dg38, yg38⟩ := hv
  replace h := q_be h
  obtain ⟨g39, hv, h⟩ := h
  replace hv := q_nA_e hv
  obtain ⟨ag39, bg39, yg39⟩ := hv
  replace h := q_be h
  obtain ⟨g40, hv, h⟩ := h
  replace hv := q_sR_e hv
  obtain ⟨_, cg40, dg40, yg40⟩ := hv
  refine ⟨_, cg35, dg35, rfl, rfl, _, yg35, ⟨some _, rfl⟩, Or.inl rfl, ag36, bg36, _, yg36, _, cg37, dg37, rfl, rfl, _, yg37, ⟨some _, rfl⟩, _, cg38, dg38, rfl, rfl, _, yg38, ⟨some _, rfl⟩, Or.inl rfl, ag39, bg39, _, yg39, _, cg40, dg40, rfl, rfl, _, yg40, ?_⟩
  replace h := q_be h
  obtain ⟨g41, hv, h⟩ := h
  replace hv := q_sI_e hv
  obtain ⟨_, cg41, dg41, yg41⟩ := hv
  replace h := q_be h
  obtain ⟨g42, hv, h⟩ := h
  replace hv := q_sI_e hv
  obtain ⟨_, cg42, dg42, yg42⟩ := hv
  refine ⟨⟨some _, rfl⟩, _, cg41, dg41, rfl, rfl, _, yg41, ⟨some _, rfl⟩, _, cg42, dg42, rfl, rfl, _, yg42, ?_⟩
  exact ps_weak (pjX12_init_192 h hk) ⟨rfl, trivial⟩
noncomputable def fX12_thrown (g : ps_G) (x0 : Nat) : Option (Int32) := Option.bind (q_fI 12 0 g x0) fun v1 => some v1
theorem rX12_thrown {d : Nat} {Q : ps_Rs → ps_G → Prop} {g : ps_G} {x0 : Nat} {r : Int32} (h : fX12_thrown g x0 = some r) (hk : Q (.inl (some (.int r))) g) : ps_Ok mX12_thrown d [.ref x0] g Q := by
  unfold fX12_thrown at h
  refine sX12_thrown_0 ?_
  replace h := q_be h
  obtain ⟨v1, hv, h⟩ := h
  replace hv := q_fI_e hv
  obtain ⟨_, cv1, dv1⟩ := hv
  cases h
  exact ⟨⟨some _, rfl⟩, _, _, cv1, dv1, rfl, hk⟩
noncomputable def bX12_tapeWord_3 (x0 : Nat) (x1 : Int32) (x2 : Int32) (g : ps_G) : Option ((Int32 × ps_G) ⊕ (ps_G)) := if x2 < 0 then (some (.inr g)) else (Option.bind (q_fR 12 1 g x0) fun v3 => Option.bind (v3) fun a4 => Option.bind (q_fI 12 2 g x0) fun v5 => Option.bind (q_wI g a4 v5 ((q_shr x1 x2) &&& (255 : Int32))) fun g6 => Option.bind (q_fI 12 2 g6 x0) fun v7 => Option.bind (q_sI 12 2 g6 x0 (v7 + (1 : Int32))) fun g8 => some (.inl (x2 + (-8 : Int32), g8)))
theorem pbX12_tapeWord_3 {d : Nat} {Q : ps_Rs → ps_G → Prop}  {x0 : Nat} {x1 : Int32} {x2 : Int32} {g : ps_G} {x : (Int32 × ps_G) ⊕ (ps_G)} (h : bX12_tapeWord_3 x0 x1 x2 g = some x) (hh : ∀ s' : Int32 × ps_G, x = .inl s' → ps_At mX12_tapeWord d 3 [(0, .ref x0), (1, .int x1), (2, .int s'.1)] [] s'.2 Q) (he : ∀ r' : ps_G, x = .inr r' → ps_At mX12_tapeWord d 39 [] [] r' Q) : ps_At mX12_tapeWord d 3 [(0, .ref x0), (1, .int x1), (2, .int x2)] [] g Q := by
  unfold bX12_tapeWord_3 at h
  refine sX12_tapeWord_3 ?_
  refine And.intro (fun hc1 => ?_) (fun hc1 => ?_)
  · replace h := q_ifp (hc1) h
    exact ps_weak (he g (Option.some.inj h).symm) trivial
  · replace h := q_ifn (hc1) h
    replace h := q_be h
    obtain ⟨v3, hv, h⟩ := h
    replace hv := q_fR_e hv
    obtain ⟨_, cv3, dv3⟩ := hv
    replace h := q_be h
    obtain ⟨a4, ea4, h⟩ := h
    subst ea4
    replace h := q_be h
    obtain ⟨v5, hv, h⟩ := h
    replace hv := q_fI_e hv
    obtain ⟨_, cv5, dv5⟩ := hv
    replace h := q_be h
    obtain ⟨g6, hv, h⟩ := h
    replace hv := q_wI_e hv
    obtain ⟨_, _, cg6, pg6, ig6, yg6⟩ := hv
    replace h := q_be h
    obtain ⟨v7, hv, h⟩ := h
    replace hv := q_fI_e hv
    obtain ⟨_, cv7, dv7⟩ := hv
    replace h := q_be h
    obtain ⟨g8, hv, h⟩ := h
    replace hv := q_sI_e hv
    obtain ⟨_, cg8, dg8, yg8⟩ := hv
    refine ⟨⟨some _, rfl⟩, _, _, cv3, dv3, ⟨some _, rfl⟩, _, _, cv5, dv5, _, _, cg6, pg6, ig6, _, yg6, ⟨some _, rfl⟩, rfl, _, _, cv7, dv7, _, cg8, dg8, rfl, rfl, _, yg8, by decide, ?_⟩
    exact ps_weak (hh (x2 + (-8 : Int32), g8) (Option.some.inj h).symm) ⟨rfl, rfl, rfl, trivial⟩
noncomputable def fX12_tapeWord (g : ps_G) (x0 : Nat) (x1 : Int32) : Option (ps_G) := Option.bind (q_lp (fun s => bX12_tapeWord_3 x0 x1 s.1 s.2) ((24 : Int32), g)) fun s11 => some s11
theorem rX12_tapeWord {d : Nat} {Q : ps_Rs → ps_G → Prop} {g : ps_G} {x0 : Nat} {x1 : Int32} {r : ps_G} (h : fX12_tapeWord g x0 x1 = some r) (hk : Q (.inl none) r) : ps_Ok mX12_tapeWord d [.ref x0, .int x1] g Q := by
  unfold fX12_tapeWord at h
  refine sX12_tapeWord_0 ?_
  refine ⟨by decide, ?_⟩
  replace h := q_be h
  obtain ⟨s11, hl, h⟩ := h
  refine ps_weak (q_lp_ok hl (fun s => ps_At mX12_tapeWord d 3 [(0, .ref x0), (1, .int x1), (2, .int s.1)] [] s.2 Q) (fun r => ps_At mX12_tapeWord d 39 [] [] r Q) (fun s x hb hh he => pbX12_tapeWord_3 hb hh he) ?_) ⟨rfl, rfl, rfl, trivial⟩
  refine (?_ : ps_At mX12_tapeWord d 39 [] [] s11 Q)
  refine sX12_tapeWord_39 ?_
  cases h
  exact ⟨rfl, rfl, hk⟩
noncomputable def fX12_feed (g : ps_G) (x0 : Nat) (x1 : Int32) (x2 : Int32) (x3 : Int32) (x4 : Int32) (x5 : Int32) : Option (Int32 × ps_G) := Option.bind (q_fI 12 2 g x0) fun v1 => Option.bind (q_sI 12 0 g x0 (if (v1 + (20 : Int32)) ≤ (8000 : Int32) then (0 : Int32) else (1 : Int32))) fun g5 => Option.bind (q_fI 12 0 g5 x0) fun v6 => if v6 ≤ 0 then (Option.bind (q_ob 12 g5 x0) fun u8 => Option.bind (fX12_tapeWord g5 x0 x1) fun v9 => Option.bind (q_ob 12 v9 x0) fun u10 => Option.bind (fX12_tapeWord v9 x0 x2) fun v11 => Option.bind (q_ob 12 v11 x0) fun u12 => Option.bind (fX12_tapeWord v11 x0 x3) fun v13 => Option.bind (q_ob 12 v13 x0) fun u14 => Option.bind (fX12_tapeWord v13 x0 x4) fun v15 => Option.bind (q_ob 12 v15 x0) fun u16 => Option.bind (fX12_tapeWord v15 x0 x5) fun v17 => Option.bind (q_fI 12 2 v17 x0) fun v18 => some (v18, v17)) else (some ((0 : Int32), g5))
theorem rX12_feed {d : Nat} {Q : ps_Rs → ps_G → Prop} {g : ps_G} {x0 : Nat} {x1 : Int32} {x2 : Int32} {x3 : Int32} {x4 : Int32} {x5 : Int32} {r : Int32 × ps_G} (h : fX12_feed g x0 x1 x2 x3 x4 x5 = some r) (hk : Q (.inl (some (.int r.1))) r.2) : ps_Ok mX12_feed (d + 1) [.ref x0, .int x1, .int x2, .int x3, .int x4, .int x5] g Q := by
  unfold fX12_feed at h
  refine sX12_feed_0 ?_
  replace h := q_be h
  obtain ⟨v1, hv, h⟩ := h
  replace hv := q_fI_e hv
  obtain ⟨_, cv1, dv1⟩ := hv
  have kJ4 : ∀ w3 : Int32, w3 = (if (v1 + (20 : Int32)) ≤ (8000 : Int32) then (0 : Int32) else (1 : Int32)) → ps_At mX12_feed (d + 1) 19 [(0, .ref x0), (1, .int x1), (2, .int x2), (3, .int x3), (4, .int x4), (5, .int x5)] [.int w3, .ref x0] g Q := by
    rintro _ rfl
    refine sX12_feed_19 ?_
    replace h := q_be h
    obtain ⟨g5, hv, h⟩ := h
    replace hv := q_sI_e hv
    obtain ⟨_, cg5, dg5, yg5⟩ := hv
    replace h := q_be h
    obtain ⟨v6, hv, h⟩ := h
    replace hv := q_fI_e hv
    obtain ⟨_, cv6, dv6⟩ := hv
    refine ⟨_, cg5, dg5, rfl, rfl, _, yg5, ⟨some _, rfl⟩, _, _, cv6, dv6, ?_⟩
    refine And.intro (fun hc7 => ?_) (fun hc7 => ?_)
    · replace h := q_ifp (hc7) h
      refine sX12_feed_31 ?_
      replace h := q_be h
      obtain ⟨u8, hv, h⟩ := h
      replace hv := q_ob_e hv
      obtain ⟨_, cu8⟩ := hv
      replace h := q_be h
      obtain ⟨v9, hv, h⟩ := h
      refine ⟨⟨some _, rfl⟩, ⟨_, cu8⟩, ?_⟩
      refine rX12_tapeWord hv ?_
      replace h := q_be h
      obtain ⟨u10, hv, h⟩ := h
      replace hv := q_ob_e hv
      obtain ⟨_, cu10⟩ := hv
      replace h := q_be h
      obtain ⟨v11, hv, h⟩ := h
      refine ⟨⟨some _, rfl⟩, ⟨_, cu10⟩, ?_⟩
      refine rX12_tapeWord hv ?_
      replace h := q_be h
      obtain ⟨u12, hv, h⟩ := h
      replace hv := q_ob_e hv
      obtain ⟨_, cu12⟩ := hv
      replace h := q_be h
      obtain ⟨v13, hv, h⟩ := h
      refine ⟨⟨some _, rfl⟩, ⟨_, cu12⟩, ?_⟩
      refine rX12_tapeWord hv ?_
      replace h := q_be h
      obtain ⟨u14, hv, h⟩ := h
      replace hv := q_ob_e hv
      obtain ⟨_, cu14⟩ := hv
      replace h := q_be h
      obtain ⟨v15, hv, h⟩ := h
      refine ⟨⟨some _, rfl⟩, ⟨_, cu14⟩, ?_⟩
      refine rX12_tapeWord hv ?_
      replace h := q_be h
      obtain ⟨u16, hv, h⟩ := h
      replace hv := q_ob_e hv
      obtain ⟨_, cu16⟩ := hv
      replace h := q_be h
      obtain ⟨v17, hv, h⟩ := h
      refine ⟨⟨some _, rfl⟩, ⟨_, cu16⟩, ?_⟩
      refine rX12_tapeWord hv ?_
      replace h := q_be h
      obtain ⟨v18, hv, h⟩ := h
      replace hv := q_fI_e hv
      obtain ⟨_, cv18, dv18⟩ := hv
      cases h
      exact ⟨⟨some _, rfl⟩, _, _, cv18, dv18, rfl, hk⟩
    · replace h := q_ifn (hc7) h
      cases h
      exact ⟨rfl, hk⟩
  refine ⟨⟨some _, rfl⟩, ⟨some _, rfl⟩, _, _, cv1, dv1, ?_⟩
  refine And.intro (fun hc2 => ?_) (fun hc2 => ?_)
  · refine sX12_feed_18 ?_
    exact ps_weak (kJ4 _ (if_pos (hc2)).symm) ⟨rfl, rfl, rfl, rfl, rfl, rfl, trivial⟩
  · exact ps_weak (kJ4 _ (if_neg (hc2)).symm) ⟨rfl, rfl, rfl, rfl, rfl, rfl, trivial⟩
def fX12_in (x0 : Int32) (x1 : Int32) (x2 : Int32) : Int32 := (if (x0 < x1) ∨ (x2 < x0) then (0 : Int32) else (1 : Int32))
theorem rX12_in {d : Nat} {Q : ps_Rs → ps_G → Prop} {g : ps_G} {x0 : Int32} {x1 : Int32} {x2 : Int32} {r : Int32} (h : fX12_in x0 x1 x2 = r) (hk : Q (.inl (some (.int r))) g) : ps_Ok mX12_in d [.int x0, .int x1, .int x2] g Q := by
  unfold fX12_in at h
  refine sX12_in_0 ?_
  have kJ4 : ∀ w3 : Int32, w3 = (if (x0 < x1) ∨ (x2 < x0) then (0 : Int32) else (1 : Int32)) → ps_At mX12_in d 15 [] [.int w3] g Q := by
    rintro _ rfl
    refine sX12_in_15 ?_
    subst h
    exact ⟨rfl, q_ib (Or.inl rfl) (Or.inr rfl), hk⟩
  refine And.intro (fun hc1 => ?_) (fun hc1 => ?_)
  · refine sX12_in_14 ?_
    exact ps_weak (kJ4 _ (if_pos (Or.inl hc1)).symm) trivial
  · refine And.intro (fun hc2 => ?_) (fun hc2 => ?_)
    · refine sX12_in_14 ?_
      exact ps_weak (kJ4 _ (if_pos (Or.inr (hc2))).symm) trivial
    · exact ps_weak (kJ4 _ (if_neg (not_or.mpr ⟨hc1, hc2⟩)).symm) trivial
theorem zX12_in {x0 : Int32} {x1 : Int32} {x2 : Int32} : fX12_in x0 x1 x2 = 0 ∨ fX12_in x0 x1 x2 = 1 := by
  unfold fX12_in
  repeat' split
  all_goals first | exact Or.inl rfl | exact Or.inr rfl
noncomputable def fX12_end (g : ps_G) (x0 : Nat) (x1 : Int32) : Option (Int32 × ps_G) := Option.bind (q_fI 12 2 g x0) fun v1 => Option.bind (q_sI 12 0 g x0 (if (fX12_in x1 (0 : Int32) v1) = 0 then (1 : Int32) else (0 : Int32))) fun g5 => Option.bind (q_fI 12 0 g5 x0) fun v6 => if v6 ≤ 0 then (Option.bind (q_sI 12 2 g5 x0 x1) fun g8 => some (x1, g8)) else (some ((0 : Int32), g5))
theorem rX12_end {d : Nat} {Q : ps_Rs → ps_G → Prop} {g : ps_G} {x0 : Nat} {x1 : Int32} {r : Int32 × ps_G} (h : fX12_end g x0 x1 = some r) (hk : Q (.inl (some (.int r.1))) r.2) : ps_Ok mX12_end (d + 1) [.ref x0, .int x1] g Q := by
  unfold fX12_end at h
  refine sX12_end_0 ?_
  replace h := q_be h
  obtain ⟨v1, hv, h⟩ := h
  replace hv := q_fI_e hv
  obtain ⟨_, cv1, dv1⟩ := hv
  refine ⟨⟨some _, rfl⟩, ⟨some _, rfl⟩, _, _, cv1, dv1, ?_⟩
  refine rX12_in rfl ?_
  have kJ4 : ∀ w3 : Int32, w3 = (if (fX12_in x1 (0 : Int32) v1) = 0 then (1 : Int32) else (0 : Int32)) → ps_At mX12_end (d + 1) 18 [(0, .ref x0), (1, .int x1)] [.int w3, .ref x0] g Q := by
    rintro _ rfl
    refine sX12_end_18 ?_
    replace h := q_be h
    obtain ⟨g5, hv, h⟩ := h
    replace hv := q_sI_e hv
    obtain ⟨_, cg5, dg5, yg5⟩ := hv
    replace h := q_be h
    obtain ⟨v6, hv, h⟩ := h
    replace hv := q_fI_e hv
    obtain ⟨_, cv6, dv6⟩ := hv
    refine ⟨_, cg5, dg5, rfl, rfl, _, yg5, ⟨some _, rfl⟩, _, _, cv6, dv6, ?_⟩
    refine And.intro (fun hc7 => ?_) (fun hc7 => ?_)
    · replace h := q_ifp (hc7) h
      refine sX12_end_30 ?_
      replace h := q_be h
      obtain ⟨g8, hv, h⟩ := h
      replace hv := q_sI_e hv
      obtain ⟨_, cg8, dg8, yg8⟩ := hv
      cases h
      exact ⟨⟨some _, rfl⟩, _, cg8, dg8, rfl, rfl, _, yg8, rfl, hk⟩
    · replace h := q_ifn (hc7) h
      cases h
      exact ⟨rfl, hk⟩
  refine And.intro (fun hc2 => ?_) (fun hc2 => ?_)
  · refine sX12_end_17 ?_
    exact ps_weak (kJ4 _ (if_pos (hc2)).symm) ⟨rfl, rfl, trivial⟩
  · exact ps_weak (kJ4 _ (if_neg (hc2)).symm) ⟨rfl, rfl, trivial⟩
noncomputable def jX12_fault_29 (g : ps_G) (k0 : Int32) : Option (Int32 × ps_G) := some (k0, g)
theorem pjX12_fault_29 {d : Nat} {Q : ps_Rs → ps_G → Prop} {g : ps_G} {k0 : Int32} {r : Int32 × ps_G} (h : jX12_fault_29 g k0 = some r) (hk : Q (.inl (some (.int r.1))) r.2) : ps_At mX12_fault d 29 [] [.int k0] g Q := by
  unfold jX12_fault_29 at h
  refine sX12_fault_29 ?_
  cases h
  exact ⟨rfl, hk⟩
noncomputable def fX12_fault (g : ps_G) (x0 : Nat) (x1 : Int32) : Option (Int32 × ps_G) := Option.bind (q_sI 12 0 g x0 (0 : Int32)) fun g1 => if ¬ x1 = 0 then (if ¬ x1 = (1 : Int32) then (jX12_fault_29 g1 (-1 : Int32)) else (Option.bind (q_fI 12 5 g1 x0) fun v7 => jX12_fault_29 g1 v7)) else (Option.bind (q_fI 12 4 g1 x0) fun v10 => jX12_fault_29 g1 v10)
theorem rX12_fault {d : Nat} {Q : ps_Rs → ps_G → Prop} {g : ps_G} {x0 : Nat} {x1 : Int32} {r : Int32 × ps_G} (h : fX12_fault g x0 x1 = some r) (hk : Q (.inl (some (.int r.1))) r.2) : ps_Ok mX12_fault d [.ref x0, .int x1] g Q := by
  unfold fX12_fault at h
  refine sX12_fault_0 ?_
  replace h := q_be h
  obtain ⟨g1, hv, h⟩ := h
  replace hv := q_sI_e hv
  obtain ⟨_, cg1, dg1, yg1⟩ := hv
  refine ⟨⟨some _, rfl⟩, _, cg1, dg1, rfl, rfl, _, yg1, ?_⟩
  refine And.intro (fun hc2 => ?_) (fun hc2 => ?_)
  · replace h := q_ifp (hc2) h
    refine sX12_fault_16 ?_
    refine And.intro (fun hc5 => ?_) (fun hc5 => ?_)
    · replace h := q_ifp (hc5) h
      refine sX12_fault_28 ?_
      exact ps_weak (pjX12_fault_29 h hk) trivial
    · replace h := q_ifn (hc5) h
      replace h := q_be h
      obtain ⟨v7, hv, h⟩ := h
      replace hv := q_fI_e hv
      obtain ⟨_, cv7, dv7⟩ := hv
      refine ⟨⟨some _, rfl⟩, _, _, cv7, dv7, ?_⟩
      exact ps_weak (pjX12_fault_29 h hk) trivial
  · replace h := q_ifn (hc2) h
    replace h := q_be h
    obtain ⟨v10, hv, h⟩ := h
    replace hv := q_fI_e hv
    obtain ⟨_, cv10, dv10⟩ := hv
    refine ⟨⟨some _, rfl⟩, _, _, cv10, dv10, ?_⟩
    exact ps_weak (pjX12_fault_29 h hk) trivial
noncomputable def jX12_open_42 (g : ps_G) : Option (ps_G) := some g
theorem pjX12_open_42 {d : Nat} {Q : ps_Rs → ps_G → Prop} {g : ps_G}  {r : ps_G} (h : jX12_open_42 g = some r) (hk : Q (.inl none) r) : ps_At mX12_open (d + 2) 42 [] [] g Q := by
  unfold jX12_open_42 at h
  refine sX12_open_42 ?_
  cases h
  exact ⟨rfl, rfl, hk⟩
noncomputable def jX12_open_26 (g : ps_G) (x0 : Nat) (x1 : Int32) (x2 : Int32) (k0 : Nat) (k1 : Int32) : Option (ps_G) := Option.bind (q_sI 12 0 g k0 k1) fun g2 => Option.bind (q_fI 12 0 g2 x0) fun v3 => if ¬ v3 = 0 then (jX12_open_42 g2) else (Option.bind (q_ob 12 g2 x0) fun u6 => Option.bind (fX12_fresh g2 x0 x1 x2) fun v7 => jX12_open_42 v7)
theorem pjX12_open_26 {d : Nat} {Q : ps_Rs → ps_G → Prop} {g : ps_G} {x0 : Nat} {x1 : Int32} {x2 : Int32} {k0 : Nat} {k1 : Int32} {r : ps_G} (h : jX12_open_26 g x0 x1 x2 k0 k1 = some r) (hk : Q (.inl none) r) : ps_At mX12_open (d + 2) 26 [(0, .ref x0), (1, .int x1), (2, .int x2)] [.int k1, .ref k0] g Q := by
  unfold jX12_open_26 at h
  refine sX12_open_26 ?_
  replace h := q_be h
  obtain ⟨g2, hv, h⟩ := h
  replace hv := q_sI_e hv
  obtain ⟨_, cg2, dg2, yg2⟩ := hv
  replace h := q_be h
  obtain ⟨v3, hv, h⟩ := h
  replace hv := q_fI_e hv
  obtain ⟨_, cv3, dv3⟩ := hv
  refine ⟨_, cg2, dg2, rfl, rfl, _, yg2, ⟨some _, rfl⟩, _, _, cv3, dv3, ?_⟩
  refine And.intro (fun hc4 => ?_) (fun hc4 => ?_)
  · replace h := q_ifp (hc4) h
    exact ps_weak (pjX12_open_42 h hk) trivial
  · replace h := q_ifn (hc4) h
    replace h := q_be h
    obtain ⟨u6, hv, h⟩ := h
    replace hv := q_ob_e hv
    obtain ⟨_, cu6⟩ := hv
    replace h := q_be h
    obtain ⟨v7, hv, h⟩ := h
    refine ⟨⟨some _, rfl⟩, ⟨_, cu6⟩, ?_⟩
    refine rX12_fresh hv ?_
    exact ps_weak (pjX12_open_42 h hk) trivial
noncomputable def jX12_open_25 (g : ps_G) (x0 : Nat) (x1 : Int32) (x2 : Int32) (k0 : Nat) : Option (ps_G) := jX12_open_26 g x0 x1 x2 k0 (1 : Int32)
theorem pjX12_open_25 {d : Nat} {Q : ps_Rs → ps_G → Prop} {g : ps_G} {x0 : Nat} {x1 : Int32} {x2 : Int32} {k0 : Nat} {r : ps_G} (h : jX12_open_25 g x0 x1 x2 k0 = some r) (hk : Q (.inl none) r) : ps_At mX12_open (d + 2) 25 [(0, .ref x0), (1, .int x1), (2, .int x2)] [.ref k0] g Q := by
  unfold jX12_open_25 at h
  refine sX12_open_25 ?_
  exact ps_weak (pjX12_open_26 h hk) ⟨rfl, rfl, rfl, trivial⟩
noncomputable def fX12_open (g : ps_G) (x0 : Nat) (x1 : Int32) (x2 : Int32) : Option (ps_G) := if (fX12_in x1 (1 : Int32) (24 : Int32)) = 0 then (jX12_open_25 g x0 x1 x2 x0) else (if (fX12_in x2 (1 : Int32) (24 : Int32)) = 0 then (jX12_open_25 g x0 x1 x2 x0) else (jX12_open_26 g x0 x1 x2 x0 (0 : Int32)))
theorem rX12_open {d : Nat} {Q : ps_Rs → ps_G → Prop} {g : ps_G} {x0 : Nat} {x1 : Int32} {x2 : Int32} {r : ps_G} (h : fX12_open g x0 x1 x2 = some r) (hk : Q (.inl none) r) : ps_Ok mX12_open (d + 2) [.ref x0, .int x1, .int x2] g Q := by
  unfold fX12_open at h
  refine sX12_open_0 ?_
  refine ⟨⟨some _, rfl⟩, ?_⟩
  refine rX12_in rfl ?_
  refine And.intro (fun hc1 => ?_) (fun hc1 => ?_)
  · replace h := q_ifp (hc1) h
    exact ps_weak (pjX12_open_25 h hk) ⟨rfl, rfl, rfl, trivial⟩
  · replace h := q_ifn (hc1) h
    refine rX12_in rfl ?_
    refine And.intro (fun hc10 => ?_) (fun hc10 => ?_)
    · replace h := q_ifp (hc10) h
      exact ps_weak (pjX12_open_25 h hk) ⟨rfl, rfl, rfl, trivial⟩
    · replace h := q_ifn (hc10) h
      exact ps_weak (pjX12_open_26 h hk) ⟨rfl, rfl, rfl, trivial⟩
noncomputable def bX12_bring_2 (x0 : Nat) (x1 : Int32) (g : ps_G) : Option ((Int32 × ps_G) ⊕ (ps_G)) := if (35071 : Int32) ≤ x1 then (some (.inr g)) else (Option.bind (q_fR 12 8 g x0) fun v3 => Option.bind (v3) fun a4 => Option.bind (q_fR 12 9 g x0) fun v5 => Option.bind (v5) fun a6 => Option.bind (q_fI 12 10 g x0) fun v7 => Option.bind (q_fI 12 11 g x0) fun v8 => Option.bind (q_aI g a6 (((35071 : Int32) * (q_rem (v7 + v8) (25 : Int32))) + x1)) fun v9 => Option.bind (q_wI g a4 x1 v9) fun g10 => some (.inl (x1 + (1 : Int32), g10)))
theorem pbX12_bring_2 {d : Nat} {Q : ps_Rs → ps_G → Prop}  {x0 : Nat} {x1 : Int32} {g : ps_G} {x : (Int32 × ps_G) ⊕ (ps_G)} (h : bX12_bring_2 x0 x1 g = some x) (hh : ∀ s' : Int32 × ps_G, x = .inl s' → ps_At mX12_bring d 2 [(0, .ref x0), (1, .int s'.1)] [] s'.2 Q) (he : ∀ r' : ps_G, x = .inr r' → ps_At mX12_bring d 42 [] [] r' Q) : ps_At mX12_bring d 2 [(0, .ref x0), (1, .int x1)] [] g Q := by
  unfold bX12_bring_2 at h
  refine sX12_bring_2 ?_
  refine And.intro (fun hc1 => ?_) (fun hc1 => ?_)
  · replace h := q_ifp (hc1) h
    exact ps_weak (he g (Option.some.inj h).symm) trivial
  · replace h := q_ifn (hc1) h
    replace h := q_be h
    obtain ⟨v3, hv, h⟩ := h
    replace hv := q_fR_e hv
    obtain ⟨_, cv3, dv3⟩ := hv
    replace h := q_be h
    obtain ⟨a4, ea4, h⟩ := h
    subst ea4
    replace h := q_be h
    obtain ⟨v5, hv, h⟩ := h
    replace hv := q_fR_e hv
    obtain ⟨_, cv5, dv5⟩ := hv
    replace h := q_be h
    obtain ⟨a6, ea6, h⟩ := h
    subst ea6
    replace h := q_be h
    obtain ⟨v7, hv, h⟩ := h
    replace hv := q_fI_e hv
    obtain ⟨_, cv7, dv7⟩ := hv
    replace h := q_be h
    obtain ⟨v8, hv, h⟩ := h
    replace hv := q_fI_e hv
    obtain ⟨_, cv8, dv8⟩ := hv
    replace h := q_be h
    obtain ⟨v9, hv, h⟩ := h
    replace hv := q_aI_e hv
    obtain ⟨_, _, cv9, iv9, yv9⟩ := hv
    replace h := q_be h
    obtain ⟨g10, hv, h⟩ := h
    replace hv := q_wI_e hv
    obtain ⟨_, _, cg10, pg10, ig10, yg10⟩ := hv
    refine ⟨⟨some _, rfl⟩, _, _, cv3, dv3, ⟨some _, rfl⟩, _, _, cv5, dv5, ⟨some _, rfl⟩, _, _, cv7, dv7, ⟨some _, rfl⟩, _, _, cv8, dv8, by decide, _, rfl, _, _, cv9, iv9, _, yv9, _, _, cg10, pg10, ig10, _, yg10, by decide, ?_⟩
    exact ps_weak (hh (x1 + (1 : Int32), g10) (Option.some.inj h).symm) ⟨rfl, rfl, trivial⟩
noncomputable def fX12_bring (g : ps_G) (x0 : Nat) : Option (ps_G) := Option.bind (q_lp (fun s => bX12_bring_2 x0 s.1 s.2) ((0 : Int32), g)) fun s13 => some s13
theorem rX12_bring {d : Nat} {Q : ps_Rs → ps_G → Prop} {g : ps_G} {x0 : Nat} {r : ps_G} (h : fX12_bring g x0 = some r) (hk : Q (.inl none) r) : ps_Ok mX12_bring d [.ref x0] g Q := by
  unfold fX12_bring at h
  refine sX12_bring_0 ?_
  refine ⟨by decide, ?_⟩
  replace h := q_be h
  obtain ⟨s13, hl, h⟩ := h
  refine ps_weak (q_lp_ok hl (fun s => ps_At mX12_bring d 2 [(0, .ref x0), (1, .int s.1)] [] s.2 Q) (fun r => ps_At mX12_bring d 42 [] [] r Q) (fun s x hb hh he => pbX12_bring_2 hb hh he) ?_) ⟨rfl, rfl, trivial⟩
  refine (?_ : ps_At mX12_bring d 42 [] [] s13 Q)
  refine sX12_bring_42 ?_
  cases h
  exact ⟨rfl, rfl, hk⟩
noncomputable def fX12_undo (g : ps_G) (x0 : Nat) : Option (Int32 × ps_G) := Option.bind (q_fI 12 11 g x0) fun v1 => Option.bind (q_sI 12 0 g x0 (if ¬ v1 = 0 then (0 : Int32) else (1 : Int32))) fun g5 => Option.bind (q_fI 12 0 g5 x0) fun v6 => if v6 ≤ 0 then (Option.bind (q_fI 12 11 g5 x0) fun v8 => Option.bind (q_sI 12 11 g5 x0 (v8 - (1 : Int32))) fun g9 => Option.bind (q_ob 12 g9 x0) fun u10 => Option.bind (fX12_bring g9 x0) fun v11 => Option.bind (q_ob 12 v11 x0) fun u12 => Option.bind (fX12_forget v11 x0) fun v13 => Option.bind (q_fI 12 11 v13 x0) fun v14 => some (v14, v13)) else (some ((0 : Int32), g5))
theorem rX12_undo {d : Nat} {Q : ps_Rs → ps_G → Prop} {g : ps_G} {x0 : Nat} {r : Int32 × ps_G} (h : fX12_undo g x0 = some r) (hk : Q (.inl (some (.int r.1))) r.2) : ps_Ok mX12_undo (d + 1) [.ref x0] g Q := by
  unfold fX12_undo at h
  refine sX12_undo_0 ?_
  replace h := q_be h
  obtain ⟨v1, hv, h⟩ := h
  replace hv := q_fI_e hv
  obtain ⟨_, cv1, dv1⟩ := hv
  have kJ4 : ∀ w3 : Int32, w3 = (if ¬ v1 = 0 then (0 : Int32) else (1 : Int32)) → ps_At mX12_undo (d + 1) 13 [(0, .ref x0)] [.int w3, .ref x0] g Q := by
    rintro _ rfl
    refine sX12_undo_13 ?_
    replace h := q_be h
    obtain ⟨g5, hv, h⟩ := h
    replace hv := q_sI_e hv
    obtain ⟨_, cg5, dg5, yg5⟩ := hv
    replace h := q_be h
    obtain ⟨v6, hv, h⟩ := h
    replace hv := q_fI_e hv
    obtain ⟨_, cv6, dv6⟩ := hv
    refine ⟨_, cg5, dg5, rfl, rfl, _, yg5, ⟨some _, rfl⟩, _, _, cv6, dv6, ?_⟩
    refine And.intro (fun hc7 => ?_) (fun hc7 => ?_)
    · replace h := q_ifp (hc7) h
      refine sX12_undo_25 ?_
      replace h := q_be h
      obtain ⟨v8, hv, h⟩ := h
      replace hv := q_fI_e hv
      obtain ⟨_, cv8, dv8⟩ := hv
      replace h := q_be h
      obtain ⟨g9, hv, h⟩ := h
      replace hv := q_sI_e hv
      obtain ⟨_, cg9, dg9, yg9⟩ := hv
      replace h := q_be h
      obtain ⟨u10, hv, h⟩ := h
      replace hv := q_ob_e hv
      obtain ⟨_, cu10⟩ := hv
      replace h := q_be h
      obtain ⟨v11, hv, h⟩ := h
      refine ⟨⟨some _, rfl⟩, rfl, _, _, cv8, dv8, _, cg9, dg9, rfl, rfl, _, yg9, ⟨some _, rfl⟩, ⟨_, cu10⟩, ?_⟩
      refine rX12_bring hv ?_
      replace h := q_be h
      obtain ⟨u12, hv, h⟩ := h
      replace hv := q_ob_e hv
      obtain ⟨_, cu12⟩ := hv
      replace h := q_be h
      obtain ⟨v13, hv, h⟩ := h
      refine ⟨⟨some _, rfl⟩, ⟨_, cu12⟩, ?_⟩
      refine rX12_forget hv ?_
      replace h := q_be h
      obtain ⟨v14, hv, h⟩ := h
      replace hv := q_fI_e hv
      obtain ⟨_, cv14, dv14⟩ := hv
      cases h
      exact ⟨⟨some _, rfl⟩, _, _, cv14, dv14, rfl, hk⟩
    · replace h := q_ifn (hc7) h
      cases h
      exact ⟨rfl, hk⟩
  refine ⟨⟨some _, rfl⟩, ⟨some _, rfl⟩, _, _, cv1, dv1, ?_⟩
  refine And.intro (fun hc2 => ?_) (fun hc2 => ?_)
  · refine sX12_undo_12 ?_
    exact ps_weak (kJ4 _ (if_pos (hc2)).symm) ⟨rfl, trivial⟩
  · exact ps_weak (kJ4 _ (if_neg (hc2)).symm) ⟨rfl, trivial⟩
noncomputable def fX12_redo (g : ps_G) (x0 : Nat) : Option (Int32 × ps_G) := Option.bind (q_fI 12 11 g x0) fun v1 => Option.bind (q_fI 12 12 g x0) fun v2 => Option.bind (q_sI 12 0 g x0 (if ¬ (v1 + (1 : Int32)) = v2 then (0 : Int32) else (1 : Int32))) fun g6 => Option.bind (q_fI 12 0 g6 x0) fun v7 => if v7 ≤ 0 then (Option.bind (q_fI 12 11 g6 x0) fun v9 => Option.bind (q_sI 12 11 g6 x0 (v9 + (1 : Int32))) fun g10 => Option.bind (q_ob 12 g10 x0) fun u11 => Option.bind (fX12_bring g10 x0) fun v12 => Option.bind (q_ob 12 v12 x0) fun u13 => Option.bind (fX12_forget v12 x0) fun v14 => Option.bind (q_fI 12 11 v14 x0) fun v15 => some (v15, v14)) else (some ((0 : Int32), g6))
theorem rX12_redo {d : Nat} {Q : ps_Rs → ps_G → Prop} {g : ps_G} {x0 : Nat} {r : Int32 × ps_G} (h : fX12_redo g x0 = some r) (hk : Q (.inl (some (.int r.1))) r.2) : ps_Ok mX12_redo (d + 1) [.ref x0] g Q := by
  unfold fX12_redo at h
  refine sX12_redo_0 ?_
  replace h := q_be h
  obtain ⟨v1, hv, h⟩ := h
  replace hv := q_fI_e hv
  obtain ⟨_, cv1, dv1⟩ := hv
  replace h := q_be h
  obtain ⟨v2, hv, h⟩ := h
  replace hv := q_fI_e hv
  obtain ⟨_, cv2, dv2⟩ := hv
  have kJ5 : ∀ w4 : Int32, w4 = (if ¬ (v1 + (1 : Int32)) = v2 then (0 : Int32) else (1 : Int32)) → ps_At mX12_redo (d + 1) 19 [(0, .ref x0)] [.int w4, .ref x0] g Q := by
    rintro _ rfl
    refine sX12_redo_19 ?_
    replace h := q_be h
    obtain ⟨g6, hv, h⟩ := h
    replace hv := q_sI_e hv
    obtain ⟨_, cg6, dg6, yg6⟩ := hv
    replace h := q_be h
    obtain ⟨v7, hv, h⟩ := h
    replace hv := q_fI_e hv
    obtain ⟨_, cv7, dv7⟩ := hv
    refine ⟨_, cg6, dg6, rfl, rfl, _, yg6, ⟨some _, rfl⟩, _, _, cv7, dv7, ?_⟩
    refine And.intro (fun hc8 => ?_) (fun hc8 => ?_)
    · replace h := q_ifp (hc8) h
      refine sX12_redo_31 ?_
      replace h := q_be h
      obtain ⟨v9, hv, h⟩ := h
      replace hv := q_fI_e hv
      obtain ⟨_, cv9, dv9⟩ := hv
      replace h := q_be h
      obtain ⟨g10, hv, h⟩ := h
      replace hv := q_sI_e hv
      obtain ⟨_, cg10, dg10, yg10⟩ := hv
      replace h := q_be h
      obtain ⟨u11, hv, h⟩ := h
      replace hv := q_ob_e hv
      obtain ⟨_, cu11⟩ := hv
      replace h := q_be h
      obtain ⟨v12, hv, h⟩ := h
      refine ⟨⟨some _, rfl⟩, rfl, _, _, cv9, dv9, _, cg10, dg10, rfl, rfl, _, yg10, ⟨some _, rfl⟩, ⟨_, cu11⟩, ?_⟩
      refine rX12_bring hv ?_
      replace h := q_be h
      obtain ⟨u13, hv, h⟩ := h
      replace hv := q_ob_e hv
      obtain ⟨_, cu13⟩ := hv
      replace h := q_be h
      obtain ⟨v14, hv, h⟩ := h
      refine ⟨⟨some _, rfl⟩, ⟨_, cu13⟩, ?_⟩
      refine rX12_forget hv ?_
      replace h := q_be h
      obtain ⟨v15, hv, h⟩ := h
      replace hv := q_fI_e hv
      obtain ⟨_, cv15, dv15⟩ := hv
      cases h
      exact ⟨⟨some _, rfl⟩, _, _, cv15, dv15, rfl, hk⟩
    · replace h := q_ifn (hc8) h
      cases h
      exact ⟨rfl, hk⟩
  refine ⟨⟨some _, rfl⟩, ⟨some _, rfl⟩, _, _, cv1, dv1, ⟨some _, rfl⟩, _, _, cv2, dv2, ?_⟩
  refine And.intro (fun hc3 => ?_) (fun hc3 => ?_)
  · refine sX12_redo_18 ?_
    exact ps_weak (kJ5 _ (if_pos (hc3)).symm) ⟨rfl, trivial⟩
  · exact ps_weak (kJ5 _ (if_neg (hc3)).symm) ⟨rfl, trivial⟩
noncomputable def fX12_get (g : ps_G) (x0 : Nat) (x1 : Int32) (x2 : Int32) : Option (Int32) := Option.bind (q_fR 12 8 g x0) fun v1 => Option.bind (v1) fun a2 => Option.bind (q_aI g a2 (((1169 : Int32) * x1) + x2)) fun v3 => some v3
theorem rX12_get {d : Nat} {Q : ps_Rs → ps_G → Prop} {g : ps_G} {x0 : Nat} {x1 : Int32} {x2 : Int32} {r : Int32} (h : fX12_get g x0 x1 x2 = some r) (hk : Q (.inl (some (.int r))) g) : ps_Ok mX12_get d [.ref x0, .int x1, .int x2] g Q := by
  unfold fX12_get at h
  refine sX12_get_0 ?_
  replace h := q_be h
  obtain ⟨v1, hv, h⟩ := h
  replace hv := q_fR_e hv
  obtain ⟨_, cv1, dv1⟩ := hv
  replace h := q_be h
  obtain ⟨a2, ea2, h⟩ := h
  subst ea2
  replace h := q_be h
  obtain ⟨v3, hv, h⟩ := h
  replace hv := q_aI_e hv
  obtain ⟨_, _, cv3, iv3, yv3⟩ := hv
  cases h
  exact ⟨⟨some _, rfl⟩, _, _, cv1, dv1, _, _, cv3, iv3, _, yv3, rfl, hk⟩
noncomputable def jX12_isLayer_25 (g : ps_G) (k0 : Int32) : Option (Int32) := Option.bind (q_bl k0) fun v3 => some v3
theorem pjX12_isLayer_25 {d : Nat} {Q : ps_Rs → ps_G → Prop} {g : ps_G} {k0 : Int32} {r : Int32} (h : jX12_isLayer_25 g k0 = some r) (hk : Q (.inl (some (.int r))) g) : ps_At mX12_isLayer (d + 1) 25 [] [.int k0] g Q := by
  unfold jX12_isLayer_25 at h
  refine sX12_isLayer_25 ?_
  replace h := q_be h
  obtain ⟨v3, hv, h⟩ := h
  replace hv := q_bl_e hv
  obtain ⟨zv3, rfl⟩ := hv
  cases h
  exact ⟨rfl, zv3, hk⟩
noncomputable def jX12_isLayer_24 (g : ps_G) : Option (Int32) := jX12_isLayer_25 g (0 : Int32)
theorem pjX12_isLayer_24 {d : Nat} {Q : ps_Rs → ps_G → Prop} {g : ps_G}  {r : Int32} (h : jX12_isLayer_24 g = some r) (hk : Q (.inl (some (.int r))) g) : ps_At mX12_isLayer (d + 1) 24 [] [] g Q := by
  unfold jX12_isLayer_24 at h
  refine sX12_isLayer_24 ?_
  exact ps_weak (pjX12_isLayer_25 h hk) trivial
noncomputable def fX12_isLayer (g : ps_G) (x0 : Nat) (x1 : Int32) : Option (Int32) := if (x1 < 0) ∨ ((30 : Int32) ≤ x1) then (jX12_isLayer_24 g) else (Option.bind (q_ob 12 g x0) fun u4 => Option.bind (fX12_get g x0 x1 (0 : Int32)) fun v5 => if ¬ v5 = (1 : Int32) then (jX12_isLayer_24 g) else (jX12_isLayer_25 g (1 : Int32)))
theorem rX12_isLayer {d : Nat} {Q : ps_Rs → ps_G → Prop} {g : ps_G} {x0 : Nat} {x1 : Int32} {r : Int32} (h : fX12_isLayer g x0 x1 = some r) (hk : Q (.inl (some (.int r))) g) : ps_Ok mX12_isLayer (d + 1) [.ref x0, .int x1] g Q := by
  unfold fX12_isLayer at h
  refine sX12_isLayer_0 ?_
  have kT9 : (jX12_isLayer_24 g) = some r → ps_At mX12_isLayer (d + 1) 24 [] [] g Q := fun h => by
    exact ps_weak (pjX12_isLayer_24 h hk) trivial
  refine And.intro (fun hc1 => ?_) (fun hc1 => ?_)
  · exact ps_weak (kT9 (q_ifp (Or.inl hc1) h)) trivial
  · refine And.intro (fun hc2 => ?_) (fun hc2 => ?_)
    · exact ps_weak (kT9 (q_ifp (Or.inr (hc2)) h)) trivial
    · replace h := q_ifn (not_or.mpr ⟨hc1, hc2⟩) h
      replace h := q_be h
      obtain ⟨u4, hv, h⟩ := h
      replace hv := q_ob_e hv
      obtain ⟨_, cu4⟩ := hv
      replace h := q_be h
      obtain ⟨v5, hv, h⟩ := h
      refine ⟨⟨some _, rfl⟩, ⟨_, cu4⟩, ?_⟩
      refine rX12_get hv ?_
      refine And.intro (fun hc6 => ?_) (fun hc6 => ?_)
      · replace h := q_ifp (hc6) h
        exact ps_weak (pjX12_isLayer_24 h hk) trivial
      · replace h := q_ifn (hc6) h
        exact ps_weak (pjX12_isLayer_25 h hk) trivial
noncomputable def jX12_is_23 (g : ps_G) (k0 : Int32) : Option (Int32) := Option.bind (q_bl k0) fun v4 => some v4
theorem pjX12_is_23 {d : Nat} {Q : ps_Rs → ps_G → Prop} {g : ps_G} {k0 : Int32} {r : Int32} (h : jX12_is_23 g k0 = some r) (hk : Q (.inl (some (.int r))) g) : ps_At mX12_is (d + 2) 23 [] [.int k0] g Q := by
  unfold jX12_is_23 at h
  refine sX12_is_23 ?_
  replace h := q_be h
  obtain ⟨v4, hv, h⟩ := h
  replace hv := q_bl_e hv
  obtain ⟨zv4, rfl⟩ := hv
  cases h
  exact ⟨rfl, zv4, hk⟩
noncomputable def jX12_is_22 (g : ps_G) : Option (Int32) := jX12_is_23 g (0 : Int32)
theorem pjX12_is_22 {d : Nat} {Q : ps_Rs → ps_G → Prop} {g : ps_G}  {r : Int32} (h : jX12_is_22 g = some r) (hk : Q (.inl (some (.int r))) g) : ps_At mX12_is (d + 2) 22 [] [] g Q := by
  unfold jX12_is_22 at h
  refine sX12_is_22 ?_
  exact ps_weak (pjX12_is_23 h hk) trivial
noncomputable def fX12_is (g : ps_G) (x0 : Nat) (x1 : Int32) (x2 : Int32) : Option (Int32) := Option.bind (q_ob 12 g x0) fun u1 => Option.bind (fX12_isLayer g x0 x1) fun v2 => if v2 = 0 then (jX12_is_22 g) else (Option.bind (q_ob 12 g x0) fun u5 => Option.bind (fX12_get g x0 x1 (1 : Int32)) fun v6 => if ¬ v6 = x2 then (jX12_is_22 g) else (jX12_is_23 g (1 : Int32)))
theorem rX12_is {d : Nat} {Q : ps_Rs → ps_G → Prop} {g : ps_G} {x0 : Nat} {x1 : Int32} {x2 : Int32} {r : Int32} (h : fX12_is g x0 x1 x2 = some r) (hk : Q (.inl (some (.int r))) g) : ps_Ok mX12_is (d + 2) [.ref x0, .int x1, .int x2] g Q := by
  unfold fX12_is at h
  refine sX12_is_0 ?_
  replace h := q_be h
  obtain ⟨u1, hv, h⟩ := h
  replace hv := q_ob_e hv
  obtain ⟨_, cu1⟩ := hv
  replace h := q_be h
  obtain ⟨v2, hv, h⟩ := h
  refine ⟨⟨some _, rfl⟩, ⟨_, cu1⟩, ?_⟩
  refine rX12_isLayer hv ?_
  refine And.intro (fun hc3 => ?_) (fun hc3 => ?_)
  · replace h := q_ifp (hc3) h
    exact ps_weak (pjX12_is_22 h hk) trivial
  · replace h := q_ifn (hc3) h
    replace h := q_be h
    obtain ⟨u5, hv, h⟩ := h
    replace hv := q_ob_e hv
    obtain ⟨_, cu5⟩ := hv
    replace h := q_be h
    obtain ⟨v6, hv, h⟩ := h
    refine ⟨⟨some _, rfl⟩, ⟨_, cu5⟩, ?_⟩
    refine rX12_get hv ?_
    refine And.intro (fun hc7 => ?_) (fun hc7 => ?_)
    · replace h := q_ifp (hc7) h
      exact ps_weak (pjX12_is_22 h hk) trivial
    · replace h := q_ifn (hc7) h
      exact ps_weak (pjX12_is_23 h hk) trivial
noncomputable def jX12_isParent_19 (g : ps_G) (k0 : Int32) : Option (Int32) := Option.bind (q_bl k0) fun v2 => some v2
theorem pjX12_isParent_19 {d : Nat} {Q : ps_Rs → ps_G → Prop} {g : ps_G} {k0 : Int32} {r : Int32} (h : jX12_isParent_19 g k0 = some r) (hk : Q (.inl (some (.int r))) g) : ps_At mX12_isParent (d + 3) 19 [] [.int k0] g Q := by
  unfold jX12_isParent_19 at h
  refine sX12_isParent_19 ?_
  replace h := q_be h
  obtain ⟨v2, hv, h⟩ := h
  replace hv := q_bl_e hv
  obtain ⟨zv2, rfl⟩ := hv
  cases h
  exact ⟨rfl, zv2, hk⟩
noncomputable def jX12_isParent_14 (g : ps_G) : Option (Int32) := jX12_isParent_19 g (1 : Int32)
theorem pjX12_isParent_14 {d : Nat} {Q : ps_Rs → ps_G → Prop} {g : ps_G}  {r : Int32} (h : jX12_isParent_14 g = some r) (hk : Q (.inl (some (.int r))) g) : ps_At mX12_isParent (d + 3) 14 [] [] g Q := by
  unfold jX12_isParent_14 at h
  refine sX12_isParent_14 ?_
  exact ps_weak (pjX12_isParent_19 h hk) trivial
noncomputable def fX12_isParent (g : ps_G) (x0 : Nat) (x1 : Int32) : Option (Int32) := if x1 = (-1 : Int32) then (jX12_isParent_14 g) else (Option.bind (q_ob 12 g x0) fun u3 => Option.bind (fX12_is g x0 x1 (1 : Int32)) fun v4 => if v4 = 0 then (jX12_isParent_19 g (0 : Int32)) else (jX12_isParent_14 g))
theorem rX12_isParent {d : Nat} {Q : ps_Rs → ps_G → Prop} {g : ps_G} {x0 : Nat} {x1 : Int32} {r : Int32} (h : fX12_isParent g x0 x1 = some r) (hk : Q (.inl (some (.int r))) g) : ps_Ok mX12_isParent (d + 3) [.ref x0, .int x1] g Q := by
  unfold fX12_isParent at h
  refine sX12_isParent_0 ?_
  refine And.intro (fun hc1 => ?_) (fun hc1 => ?_)
  · replace h := q_ifp (hc1) h
    exact ps_weak (pjX12_isParent_14 h hk) trivial
  · replace h := q_ifn (hc1) h
    replace h := q_be h
    obtain ⟨u3, hv, h⟩ := h
    replace hv := q_ob_e hv
    obtain ⟨_, cu3⟩ := hv
    replace h := q_be h
    obtain ⟨v4, hv, h⟩ := h
    refine ⟨⟨some _, rfl⟩, ⟨_, cu3⟩, ?_⟩
    refine rX12_is hv ?_
    refine And.intro (fun hc5 => ?_) (fun hc5 => ?_)
    · replace h := q_ifp (hc5) h
      refine sX12_isParent_18 ?_
      exact ps_weak (pjX12_isParent_19 h hk) trivial
    · replace h := q_ifn (hc5) h
      exact ps_weak (pjX12_isParent_14 h hk) trivial
noncomputable def jX12_many_35_4 (g : ps_G) (x0 : Nat) (x1 : Int32) (x3 : Int32) (k0 : Int32) : Option ((Int32 × Int32) ⊕ (Int32)) := some (.inl (k0, x3 + (1 : Int32)))
theorem pjX12_many_35_4 {d : Nat} {Q : ps_Rs → ps_G → Prop} {g : ps_G} {x0 : Nat} {x1 : Int32} {x3 : Int32} {k0 : Int32} {x : (Int32 × Int32) ⊕ (Int32)} (h : jX12_many_35_4 g x0 x1 x3 k0 = some x) (hh : ∀ s' : Int32 × Int32, x = .inl s' → ps_At mX12_many (d + 2) 4 [(0, .ref x0), (1, .int x1), (2, .int s'.1), (3, .int s'.2)] [] g Q) (he : ∀ r' : Int32, x = .inr r' → ps_At mX12_many (d + 2) 42 [(2, .int r')] [] g Q) : ps_At mX12_many (d + 2) 35 [(0, .ref x0), (1, .int x1), (3, .int x3)] [.int k0] g Q := by
  unfold jX12_many_35_4 at h
  refine sX12_many_35 ?_
  refine ⟨by decide, by decide, ?_⟩
  exact ps_weak (hh (k0, x3 + (1 : Int32)) (Option.some.inj h).symm) ⟨rfl, rfl, rfl, rfl, trivial⟩
noncomputable def jX12_many_34_4 (g : ps_G) (x0 : Nat) (x1 : Int32) (x2 : Int32) (x3 : Int32) : Option ((Int32 × Int32) ⊕ (Int32)) := jX12_many_35_4 g x0 x1 x3 x2
theorem pjX12_many_34_4 {d : Nat} {Q : ps_Rs → ps_G → Prop} {g : ps_G} {x0 : Nat} {x1 : Int32} {x2 : Int32} {x3 : Int32} {x : (Int32 × Int32) ⊕ (Int32)} (h : jX12_many_34_4 g x0 x1 x2 x3 = some x) (hh : ∀ s' : Int32 × Int32, x = .inl s' → ps_At mX12_many (d + 2) 4 [(0, .ref x0), (1, .int x1), (2, .int s'.1), (3, .int s'.2)] [] g Q) (he : ∀ r' : Int32, x = .inr r' → ps_At mX12_many (d + 2) 42 [(2, .int r')] [] g Q) : ps_At mX12_many (d + 2) 34 [(0, .ref x0), (1, .int x1), (2, .int x2), (3, .int x3)] [] g Q := by
  unfold jX12_many_34_4 at h
  refine sX12_many_34 ?_
  exact ps_weak (pjX12_many_35_4 h hh he) ⟨rfl, rfl, rfl, trivial⟩
noncomputable def bX12_many_4 (g : ps_G) (x0 : Nat) (x1 : Int32) (x2 : Int32) (x3 : Int32) : Option ((Int32 × Int32) ⊕ (Int32)) := if (30 : Int32) ≤ x3 then (some (.inr x2)) else (Option.bind (q_ob 12 g x0) fun u3 => Option.bind (fX12_isLayer g x0 x3) fun v4 => if v4 = 0 then (jX12_many_34_4 g x0 x1 x2 x3) else (Option.bind (q_ob 12 g x0) fun u6 => Option.bind (fX12_get g x0 x3 (2 : Int32)) fun v7 => if ¬ v7 = x1 then (jX12_many_34_4 g x0 x1 x2 x3) else (jX12_many_35_4 g x0 x1 x3 (x2 + (1 : Int32)))))
theorem pbX12_many_4 {d : Nat} {Q : ps_Rs → ps_G → Prop} {g : ps_G} {x0 : Nat} {x1 : Int32} {x2 : Int32} {x3 : Int32} {x : (Int32 × Int32) ⊕ (Int32)} (h : bX12_many_4 g x0 x1 x2 x3 = some x) (hh : ∀ s' : Int32 × Int32, x = .inl s' → ps_At mX12_many (d + 2) 4 [(0, .ref x0), (1, .int x1), (2, .int s'.1), (3, .int s'.2)] [] g Q) (he : ∀ r' : Int32, x = .inr r' → ps_At mX12_many (d + 2) 42 [(2, .int r')] [] g Q) : ps_At mX12_many (d + 2) 4 [(0, .ref x0), (1, .int x1), (2, .int x2), (3, .int x3)] [] g Q := by
  unfold bX12_many_4 at h
  refine sX12_many_4 ?_
  refine And.intro (fun hc1 => ?_) (fun hc1 => ?_)
  · replace h := q_ifp (hc1) h
    exact ps_weak (he x2 (Option.some.inj h).symm) ⟨rfl, trivial⟩
  · replace h := q_ifn (hc1) h
    replace h := q_be h
    obtain ⟨u3, hv, h⟩ := h
    replace hv := q_ob_e hv
    obtain ⟨_, cu3⟩ := hv
    replace h := q_be h
    obtain ⟨v4, hv, h⟩ := h
    refine ⟨⟨some _, rfl⟩, ⟨_, cu3⟩, ?_⟩
    refine rX12_isLayer hv ?_
    refine And.intro (fun hc5 => ?_) (fun hc5 => ?_)
    · replace h := q_ifp (hc5) h
      exact ps_weak (pjX12_many_34_4 h hh he) ⟨rfl, rfl, rfl, rfl, trivial⟩
    · replace h := q_ifn (hc5) h
      replace h := q_be h
      obtain ⟨u6, hv, h⟩ := h
      replace hv := q_ob_e hv
      obtain ⟨_, cu6⟩ := hv
      replace h := q_be h
      obtain ⟨v7, hv, h⟩ := h
      refine ⟨⟨some _, rfl⟩, ⟨_, cu6⟩, ?_⟩
      refine rX12_get hv ?_
      refine And.intro (fun hc8 => ?_) (fun hc8 => ?_)
      · replace h := q_ifp (hc8) h
        exact ps_weak (pjX12_many_34_4 h hh he) ⟨rfl, rfl, rfl, rfl, trivial⟩
      · replace h := q_ifn (hc8) h
        exact ps_weak (pjX12_many_35_4 h hh he) ⟨rfl, rfl, rfl, trivial⟩
noncomputable def fX12_many (g : ps_G) (x0 : Nat) (x1 : Int32) : Option (Int32) := Option.bind (q_lp (fun s => bX12_many_4 g x0 x1 s.1 s.2) ((0 : Int32), (0 : Int32))) fun s15 => some s15
theorem rX12_many {d : Nat} {Q : ps_Rs → ps_G → Prop} {g : ps_G} {x0 : Nat} {x1 : Int32} {r : Int32} (h : fX12_many g x0 x1 = some r) (hk : Q (.inl (some (.int r))) g) : ps_Ok mX12_many (d + 2) [.ref x0, .int x1] g Q := by
  unfold fX12_many at h
  refine sX12_many_0 ?_
  refine ⟨by decide, by decide, ?_⟩
  replace h := q_be h
  obtain ⟨s15, hl, h⟩ := h
  refine ps_weak (q_lp_ok hl (fun s => ps_At mX12_many (d + 2) 4 [(0, .ref x0), (1, .int x1), (2, .int s.1), (3, .int s.2)] [] g Q) (fun r => ps_At mX12_many (d + 2) 42 [(2, .int r)] [] g Q) (fun s x hb hh he => pbX12_many_4 hb hh he) ?_) ⟨rfl, rfl, rfl, rfl, trivial⟩
  refine (?_ : ps_At mX12_many (d + 2) 42 [(2, .int s15)] [] g Q)
  refine sX12_many_42 ?_
  cases h
  exact ⟨rfl, hk⟩
noncomputable def fX12_put (g : ps_G) (x0 : Nat) (x1 : Int32) (x2 : Int32) (x3 : Int32) : Option (ps_G) := Option.bind (q_fR 12 8 g x0) fun v1 => Option.bind (v1) fun a2 => Option.bind (q_wI g a2 (((1169 : Int32) * x1) + x2) x3) fun g3 => some g3
theorem rX12_put {d : Nat} {Q : ps_Rs → ps_G → Prop} {g : ps_G} {x0 : Nat} {x1 : Int32} {x2 : Int32} {x3 : Int32} {r : ps_G} (h : fX12_put g x0 x1 x2 x3 = some r) (hk : Q (.inl none) r) : ps_Ok mX12_put d [.ref x0, .int x1, .int x2, .int x3] g Q := by
  unfold fX12_put at h
  refine sX12_put_0 ?_
  replace h := q_be h
  obtain ⟨v1, hv, h⟩ := h
  replace hv := q_fR_e hv
  obtain ⟨_, cv1, dv1⟩ := hv
  replace h := q_be h
  obtain ⟨a2, ea2, h⟩ := h
  subst ea2
  replace h := q_be h
  obtain ⟨g3, hv, h⟩ := h
  replace hv := q_wI_e hv
  obtain ⟨_, _, cg3, pg3, ig3, yg3⟩ := hv
  cases h
  exact ⟨⟨some _, rfl⟩, _, _, cv1, dv1, _, _, cg3, pg3, ig3, _, yg3, rfl, rfl, hk⟩
noncomputable def jX12_shift_57_3 (g : ps_G) (x0 : Nat) (x1 : Int32) (x2 : Int32) (x3 : Int32) (x4 : Int32) : Option ((Int32 × ps_G) ⊕ (ps_G)) := some (.inl (x4 + (1 : Int32), g))
theorem pjX12_shift_57_3 {d : Nat} {Q : ps_Rs → ps_G → Prop} {g : ps_G} {x0 : Nat} {x1 : Int32} {x2 : Int32} {x3 : Int32} {x4 : Int32} {x : (Int32 × ps_G) ⊕ (ps_G)} (h : jX12_shift_57_3 g x0 x1 x2 x3 x4 = some x) (hh : ∀ s' : Int32 × ps_G, x = .inl s' → ps_At mX12_shift (d + 2) 3 [(0, .ref x0), (1, .int x1), (2, .int x2), (3, .int x3), (4, .int s'.1)] [] s'.2 Q) (he : ∀ r' : ps_G, x = .inr r' → ps_At mX12_shift (d + 2) 63 [] [] r' Q) : ps_At mX12_shift (d + 2) 57 [(0, .ref x0), (1, .int x1), (2, .int x2), (3, .int x3), (4, .int x4)] [] g Q := by
  unfold jX12_shift_57_3 at h
  refine sX12_shift_57 ?_
  refine ⟨by decide, ?_⟩
  exact ps_weak (hh (x4 + (1 : Int32), g) (Option.some.inj h).symm) ⟨rfl, rfl, rfl, rfl, rfl, trivial⟩
noncomputable def bX12_shift_3 (x0 : Nat) (x1 : Int32) (x2 : Int32) (x3 : Int32) (x4 : Int32) (g : ps_G) : Option ((Int32 × ps_G) ⊕ (ps_G)) := if (30 : Int32) ≤ x4 then (some (.inr g)) else (Option.bind (q_ob 12 g x0) fun u3 => Option.bind (fX12_isLayer g x0 x4) fun v4 => if v4 = 0 then (jX12_shift_57_3 g x0 x1 x2 x3 x4) else (Option.bind (q_ob 12 g x0) fun u7 => Option.bind (fX12_get g x0 x4 (2 : Int32)) fun v8 => if ¬ v8 = x1 then (jX12_shift_57_3 g x0 x1 x2 x3 x4) else (Option.bind (q_ob 12 g x0) fun u11 => Option.bind (fX12_get g x0 x4 (3 : Int32)) fun v12 => if v12 < x2 then (jX12_shift_57_3 g x0 x1 x2 x3 x4) else (Option.bind (q_ob 12 g x0) fun u15 => Option.bind (fX12_get g x0 x4 (3 : Int32)) fun v16 => Option.bind (q_ob 12 g x0) fun u17 => Option.bind (fX12_put g x0 x4 (3 : Int32) (v16 + x3)) fun v18 => jX12_shift_57_3 v18 x0 x1 x2 x3 x4))))
theorem pbX12_shift_3 {d : Nat} {Q : ps_Rs → ps_G → Prop}  {x0 : Nat} {x1 : Int32} {x2 : Int32} {x3 : Int32} {x4 : Int32} {g : ps_G} {x : (Int32 × ps_G) ⊕ (ps_G)} (h : bX12_shift_3 x0 x1 x2 x3 x4 g = some x) (hh : ∀ s' : Int32 × ps_G, x = .inl s' → ps_At mX12_shift (d + 2) 3 [(0, .ref x0), (1, .int x1), (2, .int x2), (3, .int x3), (4, .int s'.1)] [] s'.2 Q) (he : ∀ r' : ps_G, x = .inr r' → ps_At mX12_shift (d + 2) 63 [] [] r' Q) : ps_At mX12_shift (d + 2) 3 [(0, .ref x0), (1, .int x1), (2, .int x2), (3, .int x3), (4, .int x4)] [] g Q := by
  unfold bX12_shift_3 at h
  refine sX12_shift_3 ?_
  refine And.intro (fun hc1 => ?_) (fun hc1 => ?_)
  · replace h := q_ifp (hc1) h
    exact ps_weak (he g (Option.some.inj h).symm) trivial
  · replace h := q_ifn (hc1) h
    replace h := q_be h
    obtain ⟨u3, hv, h⟩ := h
    replace hv := q_ob_e hv
    obtain ⟨_, cu3⟩ := hv
    replace h := q_be h
    obtain ⟨v4, hv, h⟩ := h
    refine ⟨⟨some _, rfl⟩, ⟨_, cu3⟩, ?_⟩
    refine rX12_isLayer hv ?_
    refine And.intro (fun hc5 => ?_) (fun hc5 => ?_)
    · replace h := q_ifp (hc5) h
      exact ps_weak (pjX12_shift_57_3 h hh he) ⟨rfl, rfl, rfl, rfl, rfl, trivial⟩
    · replace h := q_ifn (hc5) h
      replace h := q_be h
      obtain ⟨u7, hv, h⟩ := h
      replace hv := q_ob_e hv
      obtain ⟨_, cu7⟩ := hv
      replace h := q_be h
      obtain ⟨v8, hv, h⟩ := h
      refine ⟨⟨some _, rfl⟩, ⟨_, cu7⟩, ?_⟩
      refine rX12_get hv ?_
      refine And.intro (fun hc9 => ?_) (fun hc9 => ?_)
      · replace h := q_ifp (hc9) h
        exact ps_weak (pjX12_shift_57_3 h hh he) ⟨rfl, rfl, rfl, rfl, rfl, trivial⟩
      · replace h := q_ifn (hc9) h
        replace h := q_be h
        obtain ⟨u11, hv, h⟩ := h
        replace hv := q_ob_e hv
        obtain ⟨_, cu11⟩ := hv
        replace h := q_be h
        obtain ⟨v12, hv, h⟩ := h
        refine ⟨⟨some _, rfl⟩, ⟨_, cu11⟩, ?_⟩
        refine rX12_get hv ?_
        refine And.intro (fun hc13 => ?_) (fun hc13 => ?_)
        · replace h := q_ifp (hc13) h
          exact ps_weak (pjX12_shift_57_3 h hh he) ⟨rfl, rfl, rfl, rfl, rfl, trivial⟩
        · replace h := q_ifn (hc13) h
          replace h := q_be h
          obtain ⟨u15, hv, h⟩ := h
          replace hv := q_ob_e hv
          obtain ⟨_, cu15⟩ := hv
          replace h := q_be h
          obtain ⟨v16, hv, h⟩ := h
          refine ⟨⟨some _, rfl⟩, ⟨some _, rfl⟩, ⟨_, cu15⟩, ?_⟩
          refine rX12_get hv ?_
          replace h := q_be h
          obtain ⟨u17, hv, h⟩ := h
          replace hv := q_ob_e hv
          obtain ⟨_, cu17⟩ := hv
          replace h := q_be h
          obtain ⟨v18, hv, h⟩ := h
          refine ⟨⟨_, cu17⟩, ?_⟩
          refine rX12_put hv ?_
          exact ps_weak (pjX12_shift_57_3 h hh he) ⟨rfl, rfl, rfl, rfl, rfl, trivial⟩
noncomputable def fX12_shift (g : ps_G) (x0 : Nat) (x1 : Int32) (x2 : Int32) (x3 : Int32) : Option (ps_G) := Option.bind (q_lp (fun s => bX12_shift_3 x0 x1 x2 x3 s.1 s.2) ((0 : Int32), g)) fun s27 => some s27
theorem rX12_shift {d : Nat} {Q : ps_Rs → ps_G → Prop} {g : ps_G} {x0 : Nat} {x1 : Int32} {x2 : Int32} {x3 : Int32} {r : ps_G} (h : fX12_shift g x0 x1 x2 x3 = some r) (hk : Q (.inl none) r) : ps_Ok mX12_shift (d + 2) [.ref x0, .int x1, .int x2, .int x3] g Q := by
  unfold fX12_shift at h
  refine sX12_shift_0 ?_
  refine ⟨by decide, ?_⟩
  replace h := q_be h
  obtain ⟨s27, hl, h⟩ := h
  refine ps_weak (q_lp_ok hl (fun s => ps_At mX12_shift (d + 2) 3 [(0, .ref x0), (1, .int x1), (2, .int x2), (3, .int x3), (4, .int s.1)] [] s.2 Q) (fun r => ps_At mX12_shift (d + 2) 63 [] [] r Q) (fun s x hb hh he => pbX12_shift_3 hb hh he) ?_) ⟨rfl, rfl, rfl, rfl, rfl, trivial⟩
  refine (?_ : ps_At mX12_shift (d + 2) 63 [] [] s27 Q)
  refine sX12_shift_63 ?_
  cases h
  exact ⟨rfl, rfl, hk⟩
noncomputable def bX12_newLayer_32 (x0 : Nat) (x1 : Int32) (x2 : Int32) (x3 : Int32) (x4 : Int32) (x5 : Int32) (g : ps_G) : Option ((Int32 × ps_G) ⊕ (ps_G)) := if (1169 : Int32) ≤ x5 then (some (.inr g)) else (Option.bind (q_ob 12 g x0) fun u12 => Option.bind (fX12_put g x0 x4 x5 (0 : Int32)) fun v13 => some (.inl (x5 + (1 : Int32), v13)))
theorem pbX12_newLayer_32 {d : Nat} {Q : ps_Rs → ps_G → Prop}  {x0 : Nat} {x1 : Int32} {x2 : Int32} {x3 : Int32} {x4 : Int32} {x5 : Int32} {g : ps_G} {x : (Int32 × ps_G) ⊕ (ps_G)} (h : bX12_newLayer_32 x0 x1 x2 x3 x4 x5 g = some x) (hh : ∀ s' : Int32 × ps_G, x = .inl s' → ps_At mX12_newLayer (d + 3) 32 [(0, .ref x0), (1, .int x1), (2, .int x2), (3, .int x3), (4, .int x4), (5, .int s'.1)] [] s'.2 Q) (he : ∀ r' : ps_G, x = .inr r' → ps_At mX12_newLayer (d + 3) 55 [(0, .ref x0), (1, .int x1), (2, .int x2), (3, .int x3), (4, .int x4)] [] r' Q) : ps_At mX12_newLayer (d + 3) 32 [(0, .ref x0), (1, .int x1), (2, .int x2), (3, .int x3), (4, .int x4), (5, .int x5)] [] g Q := by
  unfold bX12_newLayer_32 at h
  refine sX12_newLayer_32 ?_
  refine And.intro (fun hc10 => ?_) (fun hc10 => ?_)
  · replace h := q_ifp (hc10) h
    exact ps_weak (he g (Option.some.inj h).symm) ⟨rfl, rfl, rfl, rfl, rfl, trivial⟩
  · replace h := q_ifn (hc10) h
    replace h := q_be h
    obtain ⟨u12, hv, h⟩ := h
    replace hv := q_ob_e hv
    obtain ⟨_, cu12⟩ := hv
    replace h := q_be h
    obtain ⟨v13, hv, h⟩ := h
    refine ⟨⟨some _, rfl⟩, ⟨_, cu12⟩, ?_⟩
    refine rX12_put hv ?_
    refine ⟨by decide, ?_⟩
    exact ps_weak (hh (x5 + (1 : Int32), v13) (Option.some.inj h).symm) ⟨rfl, rfl, rfl, rfl, rfl, rfl, trivial⟩
noncomputable def jX12_newLayer_121 (g : ps_G) (x4 : Int32) : Option (Int32 × ps_G) := some (x4, g)
theorem pjX12_newLayer_121 {d : Nat} {Q : ps_Rs → ps_G → Prop} {g : ps_G} {x4 : Int32} {r : Int32 × ps_G} (h : jX12_newLayer_121 g x4 = some r) (hk : Q (.inl (some (.int r.1))) r.2) : ps_At mX12_newLayer (d + 3) 121 [(4, .int x4)] [] g Q := by
  unfold jX12_newLayer_121 at h
  refine sX12_newLayer_121 ?_
  cases h
  exact ⟨rfl, hk⟩
noncomputable def fX12_newLayer (g : ps_G) (x0 : Nat) (x1 : Int32) (x2 : Int32) (x3 : Int32) : Option (Int32 × ps_G) := Option.bind (q_fR 12 8 g x0) fun v1 => Option.bind (v1) fun a2 => Option.bind (q_aI g a2 (35070 : Int32)) fun v3 => Option.bind (q_fR 12 8 g x0) fun v4 => Option.bind (v4) fun a5 => Option.bind (q_aI g a5 (35070 : Int32)) fun v6 => Option.bind (q_wI g a5 (35070 : Int32) (v6 + (1 : Int32))) fun g7 => Option.bind (q_ob 12 g7 x0) fun u8 => Option.bind (fX12_shift g7 x0 x2 x3 (1 : Int32)) fun v9 => Option.bind (q_lp (fun s => bX12_newLayer_32 x0 x1 x2 x3 v3 s.1 s.2) ((0 : Int32), v9)) fun s16 => Option.bind (q_ob 12 s16 x0) fun u17 => Option.bind (fX12_put s16 x0 v3 (0 : Int32) (1 : Int32)) fun v18 => Option.bind (q_ob 12 v18 x0) fun u19 => Option.bind (fX12_put v18 x0 v3 (1 : Int32) x1) fun v20 => Option.bind (q_ob 12 v20 x0) fun u21 => Option.bind (fX12_put v20 x0 v3 (2 : Int32) x2) fun v22 => Option.bind (q_ob 12 v22 x0) fun u23 => Option.bind (fX12_put v22 x0 v3 (3 : Int32) x3) fun v24 => Option.bind (q_ob 12 v24 x0) fun u25 => Option.bind (fX12_put v24 x0 v3 (4 : Int32) (255 : Int32)) fun v26 => Option.bind (q_ob 12 v26 x0) fun u27 => Option.bind (fX12_put v26 x0 v3 (6 : Int32) (1 : Int32)) fun v28 => if ¬ x1 = (5 : Int32) then (jX12_newLayer_121 v28 v3) else (Option.bind (q_ob 12 v28 x0) fun u31 => Option.bind (fX12_put v28 x0 v3 (11 : Int32) (8 : Int32)) fun v32 => jX12_newLayer_121 v32 v3)
theorem rX12_newLayer {d : Nat} {Q : ps_Rs → ps_G → Prop} {g : ps_G} {x0 : Nat} {x1 : Int32} {x2 : Int32} {x3 : Int32} {r : Int32 × ps_G} (h : fX12_newLayer g x0 x1 x2 x3 = some r) (hk : Q (.inl (some (.int r.1))) r.2) : ps_Ok mX12_newLayer (d + 3) [.ref x0, .int x1, .int x2, .int x3] g Q := by
  unfold fX12_newLayer at h
  refine sX12_newLayer_0 ?_
  replace h := q_be h
  obtain ⟨v1, hv, h⟩ := h
  replace hv := q_fR_e hv
  obtain ⟨_, cv1, dv1⟩ := hv
  replace h := q_be h
  obtain ⟨a2, ea2, h⟩ := h
  subst ea2
  replace h := q_be h
  obtain ⟨v3, hv, h⟩ := h
  replace hv := q_aI_e hv
  obtain ⟨_, _, cv3, iv3, yv3⟩ := hv
  replace h := q_be h
  obtain ⟨v4, hv, h⟩ := h
  replace hv := q_fR_e hv
  obtain ⟨_, cv4, dv4⟩ := hv
  replace h := q_be h
  obtain ⟨a5, ea5, h⟩ := h
  subst ea5
  replace h := q_be h
  obtain ⟨v6, hv, h⟩ := h
  replace hv := q_aI_e hv
  obtain ⟨_, _, cv6, iv6, yv6⟩ := hv
  replace h := q_be h
  obtain ⟨g7, hv, h⟩ := h
  replace hv := q_wI_e hv
  obtain ⟨_, _, cg7, pg7, ig7, yg7⟩ := hv
  replace h := q_be h
  obtain ⟨u8, hv, h⟩ := h
  replace hv := q_ob_e hv
  obtain ⟨_, cu8⟩ := hv
  replace h := q_be h
  obtain ⟨v9, hv, h⟩ := h
  refine ⟨⟨some _, rfl⟩, _, _, cv1, dv1, _, _, cv3, iv3, _, yv3, by decide, ⟨some _, rfl⟩, _, _, cv4, dv4, rfl, rfl, _, _, cv6, iv6, _, yv6, _, _, cg7, pg7, ig7, _, yg7, ⟨some _, rfl⟩, ⟨_, cu8⟩, ?_⟩
  refine rX12_shift hv ?_
  refine ⟨by decide, ?_⟩
  replace h := q_be h
  obtain ⟨s16, hl, h⟩ := h
  refine ps_weak (q_lp_ok hl (fun s => ps_At mX12_newLayer (d + 3) 32 [(0, .ref x0), (1, .int x1), (2, .int x2), (3, .int x3), (4, .int v3), (5, .int s.1)] [] s.2 Q) (fun r => ps_At mX12_newLayer (d + 3) 55 [(0, .ref x0), (1, .int x1), (2, .int x2), (3, .int x3), (4, .int v3)] [] r Q) (fun s x hb hh he => pbX12_newLayer_32 hb hh he) ?_) ⟨rfl, rfl, rfl, rfl, rfl, rfl, trivial⟩
  refine (?_ : ps_At mX12_newLayer (d + 3) 55 [(0, .ref x0), (1, .int x1), (2, .int x2), (3, .int x3), (4, .int v3)] [] s16 Q)
  refine sX12_newLayer_55 ?_
  replace h := q_be h
  obtain ⟨u17, hv, h⟩ := h
  replace hv := q_ob_e hv
  obtain ⟨_, cu17⟩ := hv
  replace h := q_be h
  obtain ⟨v18, hv, h⟩ := h
  refine ⟨⟨some _, rfl⟩, ⟨_, cu17⟩, ?_⟩
  refine rX12_put hv ?_
  replace h := q_be h
  obtain ⟨u19, hv, h⟩ := h
  replace hv := q_ob_e hv
  obtain ⟨_, cu19⟩ := hv
  replace h := q_be h
  obtain ⟨v20, hv, h⟩ := h
  refine ⟨⟨some _, rfl⟩, ⟨_, cu19⟩, ?_⟩
  refine rX12_put hv ?_
  replace h := q_be h
  obtain ⟨u21, hv, h⟩ := h
  replace hv := q_ob_e hv
  obtain ⟨_, cu21⟩ := hv
  replace h := q_be h
  obtain ⟨v22, hv, h⟩ := h
  refine ⟨⟨some _, rfl⟩, ⟨_, cu21⟩, ?_⟩
  refine rX12_put hv ?_
  replace h := q_be h
  obtain ⟨u23, hv, h⟩ := h
  replace hv := q_ob_e hv
  obtain ⟨_, cu23⟩ := hv
  replace h := q_be h
  obtain ⟨v24, hv, h⟩ := h
  refine ⟨⟨some _, rfl⟩, ⟨_, cu23⟩, ?_⟩
  refine rX12_put hv ?_
  replace h := q_be h
  obtain ⟨u25, hv, h⟩ := h
  replace hv := q_ob_e hv
  obtain ⟨_, cu25⟩ := hv
  replace h := q_be h
  obtain ⟨v26, hv, h⟩ := h
  refine ⟨⟨some _, rfl⟩, ⟨_, cu25⟩, ?_⟩
  refine rX12_put hv ?_
  replace h := q_be h
  obtain ⟨u27, hv, h⟩ := h
  replace hv := q_ob_e hv
  obtain ⟨_, cu27⟩ := hv
  replace h := q_be h
  obtain ⟨v28, hv, h⟩ := h
  refine ⟨⟨some _, rfl⟩, ⟨_, cu27⟩, ?_⟩
  refine rX12_put hv ?_
  refine And.intro (fun hc29 => ?_) (fun hc29 => ?_)
  · replace h := q_ifp (hc29) h
    exact ps_weak (pjX12_newLayer_121 h hk) ⟨rfl, trivial⟩
  · replace h := q_ifn (hc29) h
    replace h := q_be h
    obtain ⟨u31, hv, h⟩ := h
    replace hv := q_ob_e hv
    obtain ⟨_, cu31⟩ := hv
    replace h := q_be h
    obtain ⟨v32, hv, h⟩ := h
    refine ⟨⟨some _, rfl⟩, ⟨_, cu31⟩, ?_⟩
    refine rX12_put hv ?_
    exact ps_weak (pjX12_newLayer_121 h hk) ⟨rfl, trivial⟩
noncomputable def jX12_edited_35 (g : ps_G) (x0 : Nat) : Option (ps_G) := Option.bind (q_fI 12 11 g x0) fun v6 => Option.bind (q_sI 12 12 g x0 (v6 + (1 : Int32))) fun g7 => Option.bind (q_ob 12 g7 x0) fun u8 => Option.bind (fX12_keep g7 x0) fun v9 => some v9
theorem pjX12_edited_35 {d : Nat} {Q : ps_Rs → ps_G → Prop} {g : ps_G} {x0 : Nat} {r : ps_G} (h : jX12_edited_35 g x0 = some r) (hk : Q (.inl none) r) : ps_At mX12_edited (d + 1) 35 [(0, .ref x0)] [] g Q := by
  unfold jX12_edited_35 at h
  refine sX12_edited_35 ?_
  replace h := q_be h
  obtain ⟨v6, hv, h⟩ := h
  replace hv := q_fI_e hv
  obtain ⟨_, cv6, dv6⟩ := hv
  replace h := q_be h
  obtain ⟨g7, hv, h⟩ := h
  replace hv := q_sI_e hv
  obtain ⟨_, cg7, dg7, yg7⟩ := hv
  replace h := q_be h
  obtain ⟨u8, hv, h⟩ := h
  replace hv := q_ob_e hv
  obtain ⟨_, cu8⟩ := hv
  replace h := q_be h
  obtain ⟨v9, hv, h⟩ := h
  refine ⟨⟨some _, rfl⟩, ⟨some _, rfl⟩, _, _, cv6, dv6, _, cg7, dg7, rfl, rfl, _, yg7, ⟨some _, rfl⟩, ⟨_, cu8⟩, ?_⟩
  refine rX12_keep hv ?_
  cases h
  exact ⟨rfl, rfl, hk⟩
noncomputable def fX12_edited (g : ps_G) (x0 : Nat) : Option (ps_G) := Option.bind (q_fI 12 11 g x0) fun v1 => if ¬ v1 = (24 : Int32) then (Option.bind (q_fI 12 11 g x0) fun v4 => Option.bind (q_sI 12 11 g x0 (v4 + (1 : Int32))) fun g5 => jX12_edited_35 g5 x0) else (Option.bind (q_fI 12 10 g x0) fun v10 => Option.bind (q_sI 12 10 g x0 (q_rem (v10 + (1 : Int32)) (25 : Int32))) fun g11 => jX12_edited_35 g11 x0)
theorem rX12_edited {d : Nat} {Q : ps_Rs → ps_G → Prop} {g : ps_G} {x0 : Nat} {r : ps_G} (h : fX12_edited g x0 = some r) (hk : Q (.inl none) r) : ps_Ok mX12_edited (d + 1) [.ref x0] g Q := by
  unfold fX12_edited at h
  refine sX12_edited_0 ?_
  replace h := q_be h
  obtain ⟨v1, hv, h⟩ := h
  replace hv := q_fI_e hv
  obtain ⟨_, cv1, dv1⟩ := hv
  refine ⟨⟨some _, rfl⟩, _, _, cv1, dv1, ?_⟩
  refine And.intro (fun hc2 => ?_) (fun hc2 => ?_)
  · replace h := q_ifp (hc2) h
    refine sX12_edited_25 ?_
    replace h := q_be h
    obtain ⟨v4, hv, h⟩ := h
    replace hv := q_fI_e hv
    obtain ⟨_, cv4, dv4⟩ := hv
    replace h := q_be h
    obtain ⟨g5, hv, h⟩ := h
    replace hv := q_sI_e hv
    obtain ⟨_, cg5, dg5, yg5⟩ := hv
    refine ⟨⟨some _, rfl⟩, rfl, _, _, cv4, dv4, _, cg5, dg5, rfl, rfl, _, yg5, ?_⟩
    exact ps_weak (pjX12_edited_35 h hk) ⟨rfl, trivial⟩
  · replace h := q_ifn (hc2) h
    replace h := q_be h
    obtain ⟨v10, hv, h⟩ := h
    replace hv := q_fI_e hv
    obtain ⟨_, cv10, dv10⟩ := hv
    replace h := q_be h
    obtain ⟨g11, hv, h⟩ := h
    replace hv := q_sI_e hv
    obtain ⟨_, cg11, dg11, yg11⟩ := hv
    refine ⟨⟨some _, rfl⟩, ⟨some _, rfl⟩, _, _, cv10, dv10, by decide, _, rfl, _, cg11, dg11, rfl, rfl, _, yg11, ?_⟩
    exact ps_weak (pjX12_edited_35 h hk) ⟨rfl, trivial⟩
noncomputable def jX12_layer_78 (g : ps_G) (x0 : Nat) (x1 : Int32) (x2 : Int32) (x3 : Int32) (k0 : Nat) (k1 : Int32) : Option (Int32 × ps_G) := Option.bind (q_sI 12 0 g k0 k1) fun g15 => Option.bind (q_fI 12 0 g15 x0) fun v16 => if v16 ≤ 0 then (Option.bind (q_ob 12 g15 x0) fun u18 => q_b2 (fX12_newLayer g15 x0 x1 x2 x3) fun v19 g20 => Option.bind (q_ob 12 g20 x0) fun u21 => Option.bind (fX12_edited g20 x0) fun v22 => Option.bind (q_ob 12 v22 x0) fun u23 => Option.bind (fX12_forget v22 x0) fun v24 => some (v19, v24)) else (some ((0 : Int32), g15))
theorem pjX12_layer_78 {d : Nat} {Q : ps_Rs → ps_G → Prop} {g : ps_G} {x0 : Nat} {x1 : Int32} {x2 : Int32} {x3 : Int32} {k0 : Nat} {k1 : Int32} {r : Int32 × ps_G} (h : jX12_layer_78 g x0 x1 x2 x3 k0 k1 = some r) (hk : Q (.inl (some (.int r.1))) r.2) : ps_At mX12_layer (d + 4) 78 [(0, .ref x0), (1, .int x1), (2, .int x2), (3, .int x3)] [.int k1, .ref k0] g Q := by
  unfold jX12_layer_78 at h
  refine sX12_layer_78 ?_
  replace h := q_be h
  obtain ⟨g15, hv, h⟩ := h
  replace hv := q_sI_e hv
  obtain ⟨_, cg15, dg15, yg15⟩ := hv
  replace h := q_be h
  obtain ⟨v16, hv, h⟩ := h
  replace hv := q_fI_e hv
  obtain ⟨_, cv16, dv16⟩ := hv
  refine ⟨_, cg15, dg15, rfl, rfl, _, yg15, ⟨some _, rfl⟩, _, _, cv16, dv16, ?_⟩
  refine And.intro (fun hc17 => ?_) (fun hc17 => ?_)
  · replace h := q_ifp (hc17) h
    refine sX12_layer_90 ?_
    replace h := q_be h
    obtain ⟨u18, hv, h⟩ := h
    replace hv := q_ob_e hv
    obtain ⟨_, cu18⟩ := hv
    replace h := q_b2_e h
    obtain ⟨v19, g20, hv, h⟩ := h
    refine ⟨⟨some _, rfl⟩, ⟨_, cu18⟩, ?_⟩
    refine rX12_newLayer hv ?_
    replace h := q_be h
    obtain ⟨u21, hv, h⟩ := h
    replace hv := q_ob_e hv
    obtain ⟨_, cu21⟩ := hv
    replace h := q_be h
    obtain ⟨v22, hv, h⟩ := h
    refine ⟨by decide, ⟨some _, rfl⟩, ⟨_, cu21⟩, ?_⟩
    refine rX12_edited hv ?_
    replace h := q_be h
    obtain ⟨u23, hv, h⟩ := h
    replace hv := q_ob_e hv
    obtain ⟨_, cu23⟩ := hv
    replace h := q_be h
    obtain ⟨v24, hv, h⟩ := h
    refine ⟨⟨some _, rfl⟩, ⟨_, cu23⟩, ?_⟩
    refine rX12_forget hv ?_
    cases h
    exact ⟨rfl, hk⟩
  · replace h := q_ifn (hc17) h
    cases h
    exact ⟨rfl, hk⟩
noncomputable def jX12_layer_39 (g : ps_G) (x0 : Nat) (x1 : Int32) (x2 : Int32) (x3 : Int32) (x4 : Int32) (k0 : Int32) : Option (Int32 × ps_G) := if k0 = 0 then (if ¬ x4 = 0 then (Option.bind (q_fR 12 8 g x0) fun v9 => Option.bind (v9) fun a10 => Option.bind (q_aI g a10 (35070 : Int32)) fun v11 => jX12_layer_78 g x0 x1 x2 x3 x0 (if ¬ v11 = (30 : Int32) then (0 : Int32) else (3 : Int32))) else (jX12_layer_78 g x0 x1 x2 x3 x0 (2 : Int32))) else (jX12_layer_78 g x0 x1 x2 x3 x0 (1 : Int32))
theorem pjX12_layer_39 {d : Nat} {Q : ps_Rs → ps_G → Prop} {g : ps_G} {x0 : Nat} {x1 : Int32} {x2 : Int32} {x3 : Int32} {x4 : Int32} {k0 : Int32} {r : Int32 × ps_G} (h : jX12_layer_39 g x0 x1 x2 x3 x4 k0 = some r) (hk : Q (.inl (some (.int r.1))) r.2) : ps_At mX12_layer (d + 4) 39 [(0, .ref x0), (1, .int x1), (2, .int x2), (3, .int x3), (4, .int x4)] [.int k0] g Q := by
  unfold jX12_layer_39 at h
  refine sX12_layer_39 ?_
  refine ⟨by decide, ⟨some _, rfl⟩, ?_⟩
  refine And.intro (fun hc4 => ?_) (fun hc4 => ?_)
  · replace h := q_ifp (hc4) h
    refine sX12_layer_51 ?_
    refine And.intro (fun hc7 => ?_) (fun hc7 => ?_)
    · replace h := q_ifp (hc7) h
      refine sX12_layer_60 ?_
      replace h := q_be h
      obtain ⟨v9, hv, h⟩ := h
      replace hv := q_fR_e hv
      obtain ⟨_, cv9, dv9⟩ := hv
      replace h := q_be h
      obtain ⟨a10, ea10, h⟩ := h
      subst ea10
      replace h := q_be h
      obtain ⟨v11, hv, h⟩ := h
      replace hv := q_aI_e hv
      obtain ⟨_, _, cv11, iv11, yv11⟩ := hv
      have kJ14 : ∀ w13 : Int32, w13 = (if ¬ v11 = (30 : Int32) then (0 : Int32) else (3 : Int32)) → ps_At mX12_layer (d + 4) 78 [(0, .ref x0), (1, .int x1), (2, .int x2), (3, .int x3)] [.int w13, .ref x0] g Q := by
        rintro _ rfl
        exact ps_weak (pjX12_layer_78 h hk) ⟨rfl, rfl, rfl, rfl, trivial⟩
      refine ⟨⟨some _, rfl⟩, _, _, cv9, dv9, _, _, cv11, iv11, _, yv11, ?_⟩
      refine And.intro (fun hc12 => ?_) (fun hc12 => ?_)
      · refine sX12_layer_77 ?_
        exact ps_weak (kJ14 _ (if_pos (hc12)).symm) ⟨rfl, rfl, rfl, rfl, trivial⟩
      · exact ps_weak (kJ14 _ (if_neg (hc12)).symm) ⟨rfl, rfl, rfl, rfl, trivial⟩
    · replace h := q_ifn (hc7) h
      exact ps_weak (pjX12_layer_78 h hk) ⟨rfl, rfl, rfl, rfl, trivial⟩
  · replace h := q_ifn (hc4) h
    exact ps_weak (pjX12_layer_78 h hk) ⟨rfl, rfl, rfl, rfl, trivial⟩
noncomputable def jX12_layer_34 (g : ps_G) (x0 : Nat) (x1 : Int32) (x2 : Int32) (x3 : Int32) (x4 : Int32) : Option (Int32 × ps_G) := jX12_layer_39 g x0 x1 x2 x3 x4 (1 : Int32)
theorem pjX12_layer_34 {d : Nat} {Q : ps_Rs → ps_G → Prop} {g : ps_G} {x0 : Nat} {x1 : Int32} {x2 : Int32} {x3 : Int32} {x4 : Int32} {r : Int32 × ps_G} (h : jX12_layer_34 g x0 x1 x2 x3 x4 = some r) (hk : Q (.inl (some (.int r.1))) r.2) : ps_At mX12_layer (d + 4) 34 [(0, .ref x0), (1, .int x1), (2, .int x2), (3, .int x3), (4, .int x4)] [] g Q := by
  unfold jX12_layer_34 at h
  refine sX12_layer_34 ?_
  exact ps_weak (pjX12_layer_39 h hk) ⟨rfl, rfl, rfl, rfl, rfl, trivial⟩
noncomputable def jX12_layer_38 (g : ps_G) (x0 : Nat) (x1 : Int32) (x2 : Int32) (x3 : Int32) (x4 : Int32) : Option (Int32 × ps_G) := jX12_layer_39 g x0 x1 x2 x3 x4 (0 : Int32)
theorem pjX12_layer_38 {d : Nat} {Q : ps_Rs → ps_G → Prop} {g : ps_G} {x0 : Nat} {x1 : Int32} {x2 : Int32} {x3 : Int32} {x4 : Int32} {r : Int32 × ps_G} (h : jX12_layer_38 g x0 x1 x2 x3 x4 = some r) (hk : Q (.inl (some (.int r.1))) r.2) : ps_At mX12_layer (d + 4) 38 [(0, .ref x0), (1, .int x1), (2, .int x2), (3, .int x3), (4, .int x4)] [] g Q := by
  unfold jX12_layer_38 at h
  refine sX12_layer_38 ?_
  exact ps_weak (pjX12_layer_39 h hk) ⟨rfl, rfl, rfl, rfl, rfl, trivial⟩
noncomputable def fX12_layer (g : ps_G) (x0 : Nat) (x1 : Int32) (x2 : Int32) (x3 : Int32) : Option (Int32 × ps_G) := Option.bind (q_ob 12 g x0) fun u1 => Option.bind (fX12_isParent g x0 x2) fun v2 => if (fX12_in x1 (0 : Int32) (5 : Int32)) = 0 then (jX12_layer_34 g x0 x1 x2 x3 v2) else (if v2 = 0 then (jX12_layer_38 g x0 x1 x2 x3 v2) else (Option.bind (q_ob 12 g x0) fun u32 => Option.bind (fX12_many g x0 x2) fun v33 => if ¬ (fX12_in x3 (0 : Int32) v33) = 0 then (jX12_layer_38 g x0 x1 x2 x3 v2) else (jX12_layer_34 g x0 x1 x2 x3 v2)))
theorem rX12_layer {d : Nat} {Q : ps_Rs → ps_G → Prop} {g : ps_G} {x0 : Nat} {x1 : Int32} {x2 : Int32} {x3 : Int32} {r : Int32 × ps_G} (h : fX12_layer g x0 x1 x2 x3 = some r) (hk : Q (.inl (some (.int r.1))) r.2) : ps_Ok mX12_layer (d + 4) [.ref x0, .int x1, .int x2, .int x3] g Q := by
  unfold fX12_layer at h
  refine sX12_layer_0 ?_
  replace h := q_be h
  obtain ⟨u1, hv, h⟩ := h
  replace hv := q_ob_e hv
  obtain ⟨_, cu1⟩ := hv
  replace h := q_be h
  obtain ⟨v2, hv, h⟩ := h
  refine ⟨⟨some _, rfl⟩, ⟨_, cu1⟩, ?_⟩
  refine rX12_isParent hv ?_
  refine ⟨by decide, ?_⟩
  refine rX12_in rfl ?_
  refine And.intro (fun hc3 => ?_) (fun hc3 => ?_)
  · replace h := q_ifp (hc3) h
    exact ps_weak (pjX12_layer_34 h hk) ⟨rfl, rfl, rfl, rfl, rfl, trivial⟩
  · replace h := q_ifn (hc3) h
    refine And.intro (fun hc31 => ?_) (fun hc31 => ?_)
    · replace h := q_ifp (hc31) h
      exact ps_weak (pjX12_layer_38 h hk) ⟨rfl, rfl, rfl, rfl, rfl, trivial⟩
    · replace h := q_ifn (hc31) h
      replace h := q_be h
      obtain ⟨u32, hv, h⟩ := h
      replace hv := q_ob_e hv
      obtain ⟨_, cu32⟩ := hv
      replace h := q_be h
      obtain ⟨v33, hv, h⟩ := h
      refine ⟨⟨some _, rfl⟩, ⟨_, cu32⟩, ?_⟩
      refine rX12_many hv ?_
      refine rX12_in rfl ?_
      refine And.intro (fun hc34 => ?_) (fun hc34 => ?_)
      · replace h := q_ifp (hc34) h
        exact ps_weak (pjX12_layer_38 h hk) ⟨rfl, rfl, rfl, rfl, rfl, trivial⟩
      · replace h := q_ifn (hc34) h
        exact ps_weak (pjX12_layer_34 h hk) ⟨rfl, rfl, rfl, rfl, rfl, trivial⟩
noncomputable def bX12_isIn_2 (g : ps_G) (x0 : Nat) (x2 : Int32) (x3 : Int32) : Option ((Int32) ⊕ (Int32)) := if (x3 < 0) ∨ (x3 = x2) then (some (.inr x3)) else (Option.bind (q_ob 12 g x0) fun u4 => Option.bind (fX12_get g x0 x3 (2 : Int32)) fun v5 => some (.inl v5))
theorem pbX12_isIn_2 {d : Nat} {Q : ps_Rs → ps_G → Prop} {g : ps_G} {x0 : Nat} {x2 : Int32} {x3 : Int32} {x : (Int32) ⊕ (Int32)} (h : bX12_isIn_2 g x0 x2 x3 = some x) (hh : ∀ s' : Int32, x = .inl s' → ps_At mX12_isIn (d + 1) 2 [(0, .ref x0), (2, .int x2), (3, .int s')] [] g Q) (he : ∀ r' : Int32, x = .inr r' → ps_At mX12_isIn (d + 1) 21 [(3, .int r')] [] g Q) : ps_At mX12_isIn (d + 1) 2 [(0, .ref x0), (2, .int x2), (3, .int x3)] [] g Q := by
  unfold bX12_isIn_2 at h
  refine sX12_isIn_2 ?_
  have kT6 : (some (.inr x3)) = some x → ps_At mX12_isIn (d + 1) 21 [(3, .int x3)] [] g Q := fun h => by
    exact ps_weak (he x3 (Option.some.inj h).symm) ⟨rfl, trivial⟩
  refine And.intro (fun hc1 => ?_) (fun hc1 => ?_)
  · exact ps_weak (kT6 (q_ifp (Or.inl hc1) h)) ⟨rfl, trivial⟩
  · refine And.intro (fun hc2 => ?_) (fun hc2 => ?_)
    · exact ps_weak (kT6 (q_ifp (Or.inr (hc2)) h)) ⟨rfl, trivial⟩
    · replace h := q_ifn (not_or.mpr ⟨hc1, hc2⟩) h
      replace h := q_be h
      obtain ⟨u4, hv, h⟩ := h
      replace hv := q_ob_e hv
      obtain ⟨_, cu4⟩ := hv
      replace h := q_be h
      obtain ⟨v5, hv, h⟩ := h
      refine ⟨⟨some _, rfl⟩, ⟨_, cu4⟩, ?_⟩
      refine rX12_get hv ?_
      refine ⟨by decide, ?_⟩
      exact ps_weak (hh v5 (Option.some.inj h).symm) ⟨rfl, rfl, rfl, trivial⟩
noncomputable def jX12_isIn_21 (g : ps_G) (x3 : Int32) : Option (Int32) := some (if x3 < 0 then (0 : Int32) else (1 : Int32))
theorem pjX12_isIn_21 {d : Nat} {Q : ps_Rs → ps_G → Prop} {g : ps_G} {x3 : Int32} {r : Int32} (h : jX12_isIn_21 g x3 = some r) (hk : Q (.inl (some (.int r))) g) : ps_At mX12_isIn (d + 1) 21 [(3, .int x3)] [] g Q := by
  unfold jX12_isIn_21 at h
  refine sX12_isIn_21 ?_
  have kJ11 : ∀ w10 : Int32, w10 = (if x3 < 0 then (0 : Int32) else (1 : Int32)) → ps_At mX12_isIn (d + 1) 30 [] [.int w10] g Q := by
    rintro _ rfl
    refine sX12_isIn_30 ?_
    cases h
    exact ⟨rfl, q_ib (Or.inl rfl) (Or.inr rfl), hk⟩
  refine And.intro (fun hc9 => ?_) (fun hc9 => ?_)
  · refine sX12_isIn_29 ?_
    exact ps_weak (kJ11 _ (if_pos (hc9)).symm) trivial
  · exact ps_weak (kJ11 _ (if_neg (hc9)).symm) trivial
noncomputable def fX12_isIn (g : ps_G) (x0 : Nat) (x1 : Int32) (x2 : Int32) : Option (Int32) := Option.bind (q_lp (fun s => bX12_isIn_2 g x0 x2 s) x1) fun s8 => jX12_isIn_21 g s8
theorem rX12_isIn {d : Nat} {Q : ps_Rs → ps_G → Prop} {g : ps_G} {x0 : Nat} {x1 : Int32} {x2 : Int32} {r : Int32} (h : fX12_isIn g x0 x1 x2 = some r) (hk : Q (.inl (some (.int r))) g) : ps_Ok mX12_isIn (d + 1) [.ref x0, .int x1, .int x2] g Q := by
  unfold fX12_isIn at h
  refine sX12_isIn_0 ?_
  refine ⟨by decide, ?_⟩
  replace h := q_be h
  obtain ⟨s8, hl, h⟩ := h
  refine ps_weak (q_lp_ok hl (fun s => ps_At mX12_isIn (d + 1) 2 [(0, .ref x0), (2, .int x2), (3, .int s)] [] g Q) (fun r => ps_At mX12_isIn (d + 1) 21 [(3, .int r)] [] g Q) (fun s x hb hh he => pbX12_isIn_2 hb hh he) ?_) ⟨rfl, rfl, rfl, trivial⟩
  refine (?_ : ps_At mX12_isIn (d + 1) 21 [(3, .int s8)] [] g Q)
  exact ps_weak (pjX12_isIn_21 h hk) ⟨rfl, trivial⟩
noncomputable def jX12_takeAway_54_17 (g : ps_G) (x0 : Nat) (x1 : Int32) (x2 : Int32) (x3 : Int32) (x4 : Int32) (k0 : Option Nat) (k1 : Int32) (k2 : Int32) : Option ((Int32 × ps_G) ⊕ (ps_G)) := Option.bind (k0) fun a12 => Option.bind (q_wB g a12 k1 k2) fun g13 => some (.inl (x4 + (1 : Int32), g13))
theorem pjX12_takeAway_54_17 {d : Nat} {Q : ps_Rs → ps_G → Prop} {g : ps_G} {x0 : Nat} {x1 : Int32} {x2 : Int32} {x3 : Int32} {x4 : Int32} {k0 : Option Nat} {k1 : Int32} {k2 : Int32} {x : (Int32 × ps_G) ⊕ (ps_G)} (h : jX12_takeAway_54_17 g x0 x1 x2 x3 x4 k0 k1 k2 = some x) (hh : ∀ s' : Int32 × ps_G, x = .inl s' → ps_At mX12_takeAway (d + 3) 17 [(0, .ref x0), (1, .int x1), (2, .int x2), (3, .int x3), (4, .int s'.1)] [] s'.2 Q) (he : ∀ r' : ps_G, x = .inr r' → ps_At mX12_takeAway (d + 3) 61 [(0, .ref x0), (2, .int x2), (3, .int x3)] [] r' Q) : ps_At mX12_takeAway (d + 3) 54 [(0, .ref x0), (1, .int x1), (2, .int x2), (3, .int x3), (4, .int x4)] [.int k2, .int k1, va_rf k0] g Q := by
  unfold jX12_takeAway_54_17 at h
  refine sX12_takeAway_54 ?_
  replace h := q_be h
  obtain ⟨a12, ea12, h⟩ := h
  subst ea12
  replace h := q_be h
  obtain ⟨g13, hv, h⟩ := h
  replace hv := q_wB_e hv
  obtain ⟨_, _, cg13, ig13, yg13⟩ := hv
  refine ⟨_, _, cg13, ig13, _, yg13, by decide, ?_⟩
  exact ps_weak (hh (x4 + (1 : Int32), g13) (Option.some.inj h).symm) ⟨rfl, rfl, rfl, rfl, rfl, trivial⟩
noncomputable def jX12_takeAway_53_17 (g : ps_G) (x0 : Nat) (x1 : Int32) (x2 : Int32) (x3 : Int32) (x4 : Int32) (k0 : Option Nat) (k1 : Int32) : Option ((Int32 × ps_G) ⊕ (ps_G)) := jX12_takeAway_54_17 g x0 x1 x2 x3 x4 k0 k1 (0 : Int32)
theorem pjX12_takeAway_53_17 {d : Nat} {Q : ps_Rs → ps_G → Prop} {g : ps_G} {x0 : Nat} {x1 : Int32} {x2 : Int32} {x3 : Int32} {x4 : Int32} {k0 : Option Nat} {k1 : Int32} {x : (Int32 × ps_G) ⊕ (ps_G)} (h : jX12_takeAway_53_17 g x0 x1 x2 x3 x4 k0 k1 = some x) (hh : ∀ s' : Int32 × ps_G, x = .inl s' → ps_At mX12_takeAway (d + 3) 17 [(0, .ref x0), (1, .int x1), (2, .int x2), (3, .int x3), (4, .int s'.1)] [] s'.2 Q) (he : ∀ r' : ps_G, x = .inr r' → ps_At mX12_takeAway (d + 3) 61 [(0, .ref x0), (2, .int x2), (3, .int x3)] [] r' Q) : ps_At mX12_takeAway (d + 3) 53 [(0, .ref x0), (1, .int x1), (2, .int x2), (3, .int x3), (4, .int x4)] [.int k1, va_rf k0] g Q := by
  unfold jX12_takeAway_53_17 at h
  refine sX12_takeAway_53 ?_
  exact ps_weak (pjX12_takeAway_54_17 h hh he) ⟨rfl, rfl, rfl, rfl, rfl, trivial⟩
noncomputable def bX12_takeAway_17 (x0 : Nat) (x1 : Int32) (x2 : Int32) (x3 : Int32) (x4 : Int32) (g : ps_G) : Option ((Int32 × ps_G) ⊕ (ps_G)) := if (30 : Int32) ≤ x4 then (some (.inr g)) else (Option.bind (q_fR 12 15 g x0) fun v7 => Option.bind (v7) fun a8 => Option.bind (q_ob 12 g x0) fun u9 => Option.bind (fX12_isLayer g x0 x4) fun v10 => if v10 = 0 then (jX12_takeAway_53_17 g x0 x1 x2 x3 x4 (some a8) x4) else (Option.bind (q_ob 12 g x0) fun u14 => Option.bind (fX12_isIn g x0 x4 x1) fun v15 => if v15 = 0 then (jX12_takeAway_53_17 g x0 x1 x2 x3 x4 (some a8) x4) else (jX12_takeAway_54_17 g x0 x1 x2 x3 x4 (some a8) x4 (1 : Int32))))
theorem pbX12_takeAway_17 {d : Nat} {Q : ps_Rs → ps_G → Prop}  {x0 : Nat} {x1 : Int32} {x2 : Int32} {x3 : Int32} {x4 : Int32} {g : ps_G} {x : (Int32 × ps_G) ⊕ (ps_G)} (h : bX12_takeAway_17 x0 x1 x2 x3 x4 g = some x) (hh : ∀ s' : Int32 × ps_G, x = .inl s' → ps_At mX12_takeAway (d + 3) 17 [(0, .ref x0), (1, .int x1), (2, .int x2), (3, .int x3), (4, .int s'.1)] [] s'.2 Q) (he : ∀ r' : ps_G, x = .inr r' → ps_At mX12_takeAway (d + 3) 61 [(0, .ref x0), (2, .int x2), (3, .int x3)] [] r' Q) : ps_At mX12_takeAway (d + 3) 17 [(0, .ref x0), (1, .int x1), (2, .int x2), (3, .int x3), (4, .int x4)] [] g Q := by
  unfold bX12_takeAway_17 at h
  refine sX12_takeAway_17 ?_
  refine And.intro (fun hc5 => ?_) (fun hc5 => ?_)
  · replace h := q_ifp (hc5) h
    exact ps_weak (he g (Option.some.inj h).symm) ⟨rfl, rfl, rfl, trivial⟩
  · replace h := q_ifn (hc5) h
    replace h := q_be h
    obtain ⟨v7, hv, h⟩ := h
    replace hv := q_fR_e hv
    obtain ⟨_, cv7, dv7⟩ := hv
    replace h := q_be h
    obtain ⟨a8, ea8, h⟩ := h
    subst ea8
    replace h := q_be h
    obtain ⟨u9, hv, h⟩ := h
    replace hv := q_ob_e hv
    obtain ⟨_, cu9⟩ := hv
    replace h := q_be h
    obtain ⟨v10, hv, h⟩ := h
    refine ⟨⟨some _, rfl⟩, _, _, cv7, dv7, ⟨some _, rfl⟩, ⟨_, cu9⟩, ?_⟩
    refine rX12_isLayer hv ?_
    refine And.intro (fun hc11 => ?_) (fun hc11 => ?_)
    · replace h := q_ifp (hc11) h
      exact ps_weak (pjX12_takeAway_53_17 h hh he) ⟨rfl, rfl, rfl, rfl, rfl, trivial⟩
    · replace h := q_ifn (hc11) h
      replace h := q_be h
      obtain ⟨u14, hv, h⟩ := h
      replace hv := q_ob_e hv
      obtain ⟨_, cu14⟩ := hv
      replace h := q_be h
      obtain ⟨v15, hv, h⟩ := h
      refine ⟨⟨some _, rfl⟩, ⟨_, cu14⟩, ?_⟩
      refine rX12_isIn hv ?_
      refine And.intro (fun hc16 => ?_) (fun hc16 => ?_)
      · replace h := q_ifp (hc16) h
        exact ps_weak (pjX12_takeAway_53_17 h hh he) ⟨rfl, rfl, rfl, rfl, rfl, trivial⟩
      · replace h := q_ifn (hc16) h
        exact ps_weak (pjX12_takeAway_54_17 h hh he) ⟨rfl, rfl, rfl, rfl, rfl, trivial⟩
noncomputable def jX12_takeAway_89_64 (g : ps_G) (x0 : Nat) (x2 : Int32) (x3 : Int32) (x4 : Int32) : Option ((Int32 × ps_G) ⊕ (ps_G)) := some (.inl (x4 + (1 : Int32), g))
theorem pjX12_takeAway_89_64 {d : Nat} {Q : ps_Rs → ps_G → Prop} {g : ps_G} {x0 : Nat} {x2 : Int32} {x3 : Int32} {x4 : Int32} {x : (Int32 × ps_G) ⊕ (ps_G)} (h : jX12_takeAway_89_64 g x0 x2 x3 x4 = some x) (hh : ∀ s' : Int32 × ps_G, x = .inl s' → ps_At mX12_takeAway (d + 3) 64 [(0, .ref x0), (2, .int x2), (3, .int x3), (4, .int s'.1)] [] s'.2 Q) (he : ∀ r' : ps_G, x = .inr r' → ps_At mX12_takeAway (d + 3) 95 [(0, .ref x0), (2, .int x2), (3, .int x3)] [] r' Q) : ps_At mX12_takeAway (d + 3) 89 [(0, .ref x0), (2, .int x2), (3, .int x3), (4, .int x4)] [] g Q := by
  unfold jX12_takeAway_89_64 at h
  refine sX12_takeAway_89 ?_
  refine ⟨by decide, ?_⟩
  exact ps_weak (hh (x4 + (1 : Int32), g) (Option.some.inj h).symm) ⟨rfl, rfl, rfl, rfl, trivial⟩
noncomputable def bX12_takeAway_64 (x0 : Nat) (x2 : Int32) (x3 : Int32) (x4 : Int32) (g : ps_G) : Option ((Int32 × ps_G) ⊕ (ps_G)) := if (30 : Int32) ≤ x4 then (some (.inr g)) else (Option.bind (q_fR 12 15 g x0) fun v26 => Option.bind (v26) fun a27 => Option.bind (q_aB g a27 x4) fun v28 => if v28 = 0 then (jX12_takeAway_89_64 g x0 x2 x3 x4) else (Option.bind (q_ob 12 g x0) fun u31 => Option.bind (fX12_put g x0 x4 (0 : Int32) (0 : Int32)) fun v32 => jX12_takeAway_89_64 v32 x0 x2 x3 x4))
theorem pbX12_takeAway_64 {d : Nat} {Q : ps_Rs → ps_G → Prop}  {x0 : Nat} {x2 : Int32} {x3 : Int32} {x4 : Int32} {g : ps_G} {x : (Int32 × ps_G) ⊕ (ps_G)} (h : bX12_takeAway_64 x0 x2 x3 x4 g = some x) (hh : ∀ s' : Int32 × ps_G, x = .inl s' → ps_At mX12_takeAway (d + 3) 64 [(0, .ref x0), (2, .int x2), (3, .int x3), (4, .int s'.1)] [] s'.2 Q) (he : ∀ r' : ps_G, x = .inr r' → ps_At mX12_takeAway (d + 3) 95 [(0, .ref x0), (2, .int x2), (3, .int x3)] [] r' Q) : ps_At mX12_takeAway (d + 3) 64 [(0, .ref x0), (2, .int x2), (3, .int x3), (4, .int x4)] [] g Q := by
  unfold bX12_takeAway_64 at h
  refine sX12_takeAway_64 ?_
  refine And.intro (fun hc24 => ?_) (fun hc24 => ?_)
  · replace h := q_ifp (hc24) h
    exact ps_weak (he g (Option.some.inj h).symm) ⟨rfl, rfl, rfl, trivial⟩
  · replace h := q_ifn (hc24) h
    replace h := q_be h
    obtain ⟨v26, hv, h⟩ := h
    replace hv := q_fR_e hv
    obtain ⟨_, cv26, dv26⟩ := hv
    replace h := q_be h
    obtain ⟨a27, ea27, h⟩ := h
    subst ea27
    replace h := q_be h
    obtain ⟨v28, hv, h⟩ := h
    replace hv := q_aB_e hv
    obtain ⟨_, _, cv28, iv28, yv28⟩ := hv
    refine ⟨⟨some _, rfl⟩, _, _, cv26, dv26, _, _, cv28, iv28, _, yv28, ?_⟩
    refine And.intro (fun hc29 => ?_) (fun hc29 => ?_)
    · replace h := q_ifp (hc29) h
      exact ps_weak (pjX12_takeAway_89_64 h hh he) ⟨rfl, rfl, rfl, rfl, trivial⟩
    · replace h := q_ifn (hc29) h
      replace h := q_be h
      obtain ⟨u31, hv, h⟩ := h
      replace hv := q_ob_e hv
      obtain ⟨_, cu31⟩ := hv
      replace h := q_be h
      obtain ⟨v32, hv, h⟩ := h
      refine ⟨⟨some _, rfl⟩, ⟨_, cu31⟩, ?_⟩
      refine rX12_put hv ?_
      exact ps_weak (pjX12_takeAway_89_64 h hh he) ⟨rfl, rfl, rfl, rfl, trivial⟩
noncomputable def fX12_takeAway (g : ps_G) (x0 : Nat) (x1 : Int32) : Option (ps_G) := Option.bind (q_ob 12 g x0) fun u1 => Option.bind (fX12_get g x0 x1 (2 : Int32)) fun v2 => Option.bind (q_ob 12 g x0) fun u3 => Option.bind (fX12_get g x0 x1 (3 : Int32)) fun v4 => Option.bind (q_lp (fun s => bX12_takeAway_17 x0 x1 v2 v4 s.1 s.2) ((0 : Int32), g)) fun s23 => Option.bind (q_lp (fun s => bX12_takeAway_64 x0 v2 v4 s.1 s.2) ((0 : Int32), s23)) fun s37 => Option.bind (q_ob 12 s37 x0) fun u38 => Option.bind (fX12_shift s37 x0 v2 (v4 + (1 : Int32)) (-1 : Int32)) fun v39 => some v39
theorem rX12_takeAway {d : Nat} {Q : ps_Rs → ps_G → Prop} {g : ps_G} {x0 : Nat} {x1 : Int32} {r : ps_G} (h : fX12_takeAway g x0 x1 = some r) (hk : Q (.inl none) r) : ps_Ok mX12_takeAway (d + 3) [.ref x0, .int x1] g Q := by
  unfold fX12_takeAway at h
  refine sX12_takeAway_0 ?_
  replace h := q_be h
  obtain ⟨u1, hv, h⟩ := h
  replace hv := q_ob_e hv
  obtain ⟨_, cu1⟩ := hv
  replace h := q_be h
  obtain ⟨v2, hv, h⟩ := h
  refine ⟨⟨some _, rfl⟩, ⟨_, cu1⟩, ?_⟩
  refine rX12_get hv ?_
  replace h := q_be h
  obtain ⟨u3, hv, h⟩ := h
  replace hv := q_ob_e hv
  obtain ⟨_, cu3⟩ := hv
  replace h := q_be h
  obtain ⟨v4, hv, h⟩ := h
  refine ⟨by decide, ⟨some _, rfl⟩, ⟨_, cu3⟩, ?_⟩
  refine rX12_get hv ?_
  refine ⟨by decide, by decide, ?_⟩
  replace h := q_be h
  obtain ⟨s23, hl, h⟩ := h
  refine ps_weak (q_lp_ok hl (fun s => ps_At mX12_takeAway (d + 3) 17 [(0, .ref x0), (1, .int x1), (2, .int v2), (3, .int v4), (4, .int s.1)] [] s.2 Q) (fun r => ps_At mX12_takeAway (d + 3) 61 [(0, .ref x0), (2, .int v2), (3, .int v4)] [] r Q) (fun s x hb hh he => pbX12_takeAway_17 hb hh he) ?_) ⟨rfl, rfl, rfl, rfl, rfl, trivial⟩
  refine (?_ : ps_At mX12_takeAway (d + 3) 61 [(0, .ref x0), (2, .int v2), (3, .int v4)] [] s23 Q)
  refine sX12_takeAway_61 ?_
  refine ⟨by decide, ?_⟩
  replace h := q_be h
  obtain ⟨s37, hl, h⟩ := h
  refine ps_weak (q_lp_ok hl (fun s => ps_At mX12_takeAway (d + 3) 64 [(0, .ref x0), (2, .int v2), (3, .int v4), (4, .int s.1)] [] s.2 Q) (fun r => ps_At mX12_takeAway (d + 3) 95 [(0, .ref x0), (2, .int v2), (3, .int v4)] [] r Q) (fun s x hb hh he => pbX12_takeAway_64 hb hh he) ?_) ⟨rfl, rfl, rfl, rfl, trivial⟩
  refine (?_ : ps_At mX12_takeAway (d + 3) 95 [(0, .ref x0), (2, .int v2), (3, .int v4)] [] s37 Q)
  refine sX12_takeAway_95 ?_
  replace h := q_be h
  obtain ⟨u38, hv, h⟩ := h
  replace hv := q_ob_e hv
  obtain ⟨_, cu38⟩ := hv
  replace h := q_be h
  obtain ⟨v39, hv, h⟩ := h
  refine ⟨⟨some _, rfl⟩, ⟨_, cu38⟩, ?_⟩
  refine rX12_shift hv ?_
  cases h
  exact ⟨rfl, rfl, hk⟩
noncomputable def fX12_drop (g : ps_G) (x0 : Nat) (x1 : Int32) : Option (ps_G) := Option.bind (q_ob 12 g x0) fun u1 => Option.bind (fX12_isLayer g x0 x1) fun v2 => Option.bind (q_sI 12 0 g x0 (if v2 = 0 then (1 : Int32) else (0 : Int32))) fun g6 => Option.bind (q_fI 12 0 g6 x0) fun v7 => if v7 ≤ 0 then (Option.bind (q_ob 12 g6 x0) fun u9 => Option.bind (fX12_takeAway g6 x0 x1) fun v10 => Option.bind (q_ob 12 v10 x0) fun u11 => Option.bind (fX12_edited v10 x0) fun v12 => Option.bind (q_ob 12 v12 x0) fun u13 => Option.bind (fX12_forget v12 x0) fun v14 => some v14) else (some g6)
theorem rX12_drop {d : Nat} {Q : ps_Rs → ps_G → Prop} {g : ps_G} {x0 : Nat} {x1 : Int32} {r : ps_G} (h : fX12_drop g x0 x1 = some r) (hk : Q (.inl none) r) : ps_Ok mX12_drop (d + 4) [.ref x0, .int x1] g Q := by
  unfold fX12_drop at h
  refine sX12_drop_0 ?_
  replace h := q_be h
  obtain ⟨u1, hv, h⟩ := h
  replace hv := q_ob_e hv
  obtain ⟨_, cu1⟩ := hv
  replace h := q_be h
  obtain ⟨v2, hv, h⟩ := h
  refine ⟨⟨some _, rfl⟩, ⟨some _, rfl⟩, ⟨_, cu1⟩, ?_⟩
  refine rX12_isLayer hv ?_
  have kJ5 : ∀ w4 : Int32, w4 = (if v2 = 0 then (1 : Int32) else (0 : Int32)) → ps_At mX12_drop (d + 4) 14 [(0, .ref x0), (1, .int x1)] [.int w4, .ref x0] g Q := by
    rintro _ rfl
    refine sX12_drop_14 ?_
    replace h := q_be h
    obtain ⟨g6, hv, h⟩ := h
    replace hv := q_sI_e hv
    obtain ⟨_, cg6, dg6, yg6⟩ := hv
    replace h := q_be h
    obtain ⟨v7, hv, h⟩ := h
    replace hv := q_fI_e hv
    obtain ⟨_, cv7, dv7⟩ := hv
    refine ⟨_, cg6, dg6, rfl, rfl, _, yg6, ⟨some _, rfl⟩, _, _, cv7, dv7, ?_⟩
    refine And.intro (fun hc8 => ?_) (fun hc8 => ?_)
    · replace h := q_ifp (hc8) h
      refine sX12_drop_25 ?_
      replace h := q_be h
      obtain ⟨u9, hv, h⟩ := h
      replace hv := q_ob_e hv
      obtain ⟨_, cu9⟩ := hv
      replace h := q_be h
      obtain ⟨v10, hv, h⟩ := h
      refine ⟨⟨some _, rfl⟩, ⟨_, cu9⟩, ?_⟩
      refine rX12_takeAway hv ?_
      replace h := q_be h
      obtain ⟨u11, hv, h⟩ := h
      replace hv := q_ob_e hv
      obtain ⟨_, cu11⟩ := hv
      replace h := q_be h
      obtain ⟨v12, hv, h⟩ := h
      refine ⟨⟨some _, rfl⟩, ⟨_, cu11⟩, ?_⟩
      refine rX12_edited hv ?_
      replace h := q_be h
      obtain ⟨u13, hv, h⟩ := h
      replace hv := q_ob_e hv
      obtain ⟨_, cu13⟩ := hv
      replace h := q_be h
      obtain ⟨v14, hv, h⟩ := h
      refine ⟨⟨some _, rfl⟩, ⟨_, cu13⟩, ?_⟩
      refine rX12_forget hv ?_
      cases h
      exact ⟨rfl, rfl, hk⟩
    · replace h := q_ifn (hc8) h
      cases h
      exact ⟨rfl, rfl, hk⟩
  refine And.intro (fun hc3 => ?_) (fun hc3 => ?_)
  · refine sX12_drop_13 ?_
    exact ps_weak (kJ5 _ (if_pos (hc3)).symm) ⟨rfl, rfl, trivial⟩
  · exact ps_weak (kJ5 _ (if_neg (hc3)).symm) ⟨rfl, rfl, trivial⟩
noncomputable def jX12_move_101 (g : ps_G) (x0 : Nat) (x1 : Int32) (x2 : Int32) (x3 : Int32) (k0 : Nat) (k1 : Int32) : Option (ps_G) := Option.bind (q_sI 12 0 g k0 k1) fun g11 => Option.bind (q_fI 12 0 g11 x0) fun v12 => if v12 ≤ 0 then (Option.bind (q_ob 12 g11 x0) fun u14 => Option.bind (fX12_get g11 x0 x1 (2 : Int32)) fun v15 => Option.bind (q_ob 12 g11 x0) fun u16 => Option.bind (fX12_get g11 x0 x1 (3 : Int32)) fun v17 => Option.bind (q_ob 12 g11 x0) fun u18 => Option.bind (fX12_put g11 x0 x1 (0 : Int32) (0 : Int32)) fun v19 => Option.bind (q_ob 12 v19 x0) fun u20 => Option.bind (fX12_shift v19 x0 v15 (v17 + (1 : Int32)) (-1 : Int32)) fun v21 => Option.bind (q_ob 12 v21 x0) fun u22 => Option.bind (fX12_shift v21 x0 x2 x3 (1 : Int32)) fun v23 => Option.bind (q_ob 12 v23 x0) fun u24 => Option.bind (fX12_put v23 x0 x1 (0 : Int32) (1 : Int32)) fun v25 => Option.bind (q_ob 12 v25 x0) fun u26 => Option.bind (fX12_put v25 x0 x1 (2 : Int32) x2) fun v27 => Option.bind (q_ob 12 v27 x0) fun u28 => Option.bind (fX12_put v27 x0 x1 (3 : Int32) x3) fun v29 => Option.bind (q_ob 12 v29 x0) fun u30 => Option.bind (fX12_edited v29 x0) fun v31 => Option.bind (q_ob 12 v31 x0) fun u32 => Option.bind (fX12_forget v31 x0) fun v33 => some v33) else (some g11)
theorem pjX12_move_101 {d : Nat} {Q : ps_Rs → ps_G → Prop} {g : ps_G} {x0 : Nat} {x1 : Int32} {x2 : Int32} {x3 : Int32} {k0 : Nat} {k1 : Int32} {r : ps_G} (h : jX12_move_101 g x0 x1 x2 x3 k0 k1 = some r) (hk : Q (.inl none) r) : ps_At mX12_move (d + 4) 101 [(0, .ref x0), (1, .int x1), (2, .int x2), (3, .int x3)] [.int k1, .ref k0] g Q := by
  unfold jX12_move_101 at h
  refine sX12_move_101 ?_
  replace h := q_be h
  obtain ⟨g11, hv, h⟩ := h
  replace hv := q_sI_e hv
  obtain ⟨_, cg11, dg11, yg11⟩ := hv
  replace h := q_be h
  obtain ⟨v12, hv, h⟩ := h
  replace hv := q_fI_e hv
  obtain ⟨_, cv12, dv12⟩ := hv
  refine ⟨_, cg11, dg11, rfl, rfl, _, yg11, ⟨some _, rfl⟩, _, _, cv12, dv12, ?_⟩
  refine And.intro (fun hc13 => ?_) (fun hc13 => ?_)
  · replace h := q_ifp (hc13) h
    refine sX12_move_112 ?_
    replace h := q_be h
    obtain ⟨u14, hv, h⟩ := h
    replace hv := q_ob_e hv
    obtain ⟨_, cu14⟩ := hv
    replace h := q_be h
    obtain ⟨v15, hv, h⟩ := h
    refine ⟨⟨some _, rfl⟩, ⟨_, cu14⟩, ?_⟩
    refine rX12_get hv ?_
    replace h := q_be h
    obtain ⟨u16, hv, h⟩ := h
    replace hv := q_ob_e hv
    obtain ⟨_, cu16⟩ := hv
    replace h := q_be h
    obtain ⟨v17, hv, h⟩ := h
    refine ⟨by decide, ⟨some _, rfl⟩, ⟨_, cu16⟩, ?_⟩
    refine rX12_get hv ?_
    replace h := q_be h
    obtain ⟨u18, hv, h⟩ := h
    replace hv := q_ob_e hv
    obtain ⟨_, cu18⟩ := hv
    replace h := q_be h
    obtain ⟨v19, hv, h⟩ := h
    refine ⟨by decide, ⟨some _, rfl⟩, ⟨_, cu18⟩, ?_⟩
    refine rX12_put hv ?_
    replace h := q_be h
    obtain ⟨u20, hv, h⟩ := h
    replace hv := q_ob_e hv
    obtain ⟨_, cu20⟩ := hv
    replace h := q_be h
    obtain ⟨v21, hv, h⟩ := h
    refine ⟨⟨some _, rfl⟩, ⟨_, cu20⟩, ?_⟩
    refine rX12_shift hv ?_
    replace h := q_be h
    obtain ⟨u22, hv, h⟩ := h
    replace hv := q_ob_e hv
    obtain ⟨_, cu22⟩ := hv
    replace h := q_be h
    obtain ⟨v23, hv, h⟩ := h
    refine ⟨⟨some _, rfl⟩, ⟨_, cu22⟩, ?_⟩
    refine rX12_shift hv ?_
    replace h := q_be h
    obtain ⟨u24, hv, h⟩ := h
    replace hv := q_ob_e hv
    obtain ⟨_, cu24⟩ := hv
    replace h := q_be h
    obtain ⟨v25, hv, h⟩ := h
    refine ⟨⟨some _, rfl⟩, ⟨_, cu24⟩, ?_⟩
    refine rX12_put hv ?_
    replace h := q_be h
    obtain ⟨u26, hv, h⟩ := h
    replace hv := q_ob_e hv
    obtain ⟨_, cu26⟩ := hv
    replace h := q_be h
    obtain ⟨v27, hv, h⟩ := h
    refine ⟨⟨some _, rfl⟩, ⟨_, cu26⟩, ?_⟩
    refine rX12_put hv ?_
    replace h := q_be h
    obtain ⟨u28, hv, h⟩ := h
    replace hv := q_ob_e hv
    obtain ⟨_, cu28⟩ := hv
    replace h := q_be h
    obtain ⟨v29, hv, h⟩ := h
    refine ⟨⟨some _, rfl⟩, ⟨_, cu28⟩, ?_⟩
    refine rX12_put hv ?_
    replace h := q_be h
    obtain ⟨u30, hv, h⟩ := h
    replace hv := q_ob_e hv
    obtain ⟨_, cu30⟩ := hv
    replace h := q_be h
    obtain ⟨v31, hv, h⟩ := h
    refine ⟨⟨some _, rfl⟩, ⟨_, cu30⟩, ?_⟩
    refine rX12_edited hv ?_
    replace h := q_be h
    obtain ⟨u32, hv, h⟩ := h
    replace hv := q_ob_e hv
    obtain ⟨_, cu32⟩ := hv
    replace h := q_be h
    obtain ⟨v33, hv, h⟩ := h
    refine ⟨⟨some _, rfl⟩, ⟨_, cu32⟩, ?_⟩
    refine rX12_forget hv ?_
    cases h
    exact ⟨rfl, rfl, hk⟩
  · replace h := q_ifn (hc13) h
    cases h
    exact ⟨rfl, rfl, hk⟩
noncomputable def jX12_move_100 (g : ps_G) (x0 : Nat) (x1 : Int32) (x2 : Int32) (x3 : Int32) (k0 : Nat) : Option (ps_G) := jX12_move_101 g x0 x1 x2 x3 k0 (0 : Int32)
theorem pjX12_move_100 {d : Nat} {Q : ps_Rs → ps_G → Prop} {g : ps_G} {x0 : Nat} {x1 : Int32} {x2 : Int32} {x3 : Int32} {k0 : Nat} {r : ps_G} (h : jX12_move_100 g x0 x1 x2 x3 k0 = some r) (hk : Q (.inl none) r) : ps_At mX12_move (d + 4) 100 [(0, .ref x0), (1, .int x1), (2, .int x2), (3, .int x3)] [.ref k0] g Q := by
  unfold jX12_move_100 at h
  refine sX12_move_100 ?_
  exact ps_weak (pjX12_move_101 h hk) ⟨rfl, rfl, rfl, rfl, trivial⟩
noncomputable def jX12_move_62 (g : ps_G) (x0 : Nat) (x1 : Int32) (x2 : Int32) (x3 : Int32) (x4 : Int32) (k0 : Int32) : Option (ps_G) := if k0 = 0 then (if ¬ x4 = 0 then (if x2 < 0 then (jX12_move_100 g x0 x1 x2 x3 x0) else (Option.bind (q_ob 12 g x0) fun u36 => Option.bind (fX12_isIn g x0 x2 x1) fun v37 => if v37 = 0 then (jX12_move_100 g x0 x1 x2 x3 x0) else (jX12_move_101 g x0 x1 x2 x3 x0 (3 : Int32)))) else (jX12_move_101 g x0 x1 x2 x3 x0 (2 : Int32))) else (jX12_move_101 g x0 x1 x2 x3 x0 (1 : Int32))
theorem pjX12_move_62 {d : Nat} {Q : ps_Rs → ps_G → Prop} {g : ps_G} {x0 : Nat} {x1 : Int32} {x2 : Int32} {x3 : Int32} {x4 : Int32} {k0 : Int32} {r : ps_G} (h : jX12_move_62 g x0 x1 x2 x3 x4 k0 = some r) (hk : Q (.inl none) r) : ps_At mX12_move (d + 4) 62 [(0, .ref x0), (1, .int x1), (2, .int x2), (3, .int x3), (4, .int x4)] [.int k0] g Q := by
  unfold jX12_move_62 at h
  refine sX12_move_62 ?_
  refine ⟨by decide, ⟨some _, rfl⟩, ?_⟩
  refine And.intro (fun hc5 => ?_) (fun hc5 => ?_)
  · replace h := q_ifp (hc5) h
    refine sX12_move_74 ?_
    refine And.intro (fun hc8 => ?_) (fun hc8 => ?_)
    · replace h := q_ifp (hc8) h
      refine sX12_move_83 ?_
      refine And.intro (fun hc10 => ?_) (fun hc10 => ?_)
      · replace h := q_ifp (hc10) h
        exact ps_weak (pjX12_move_100 h hk) ⟨rfl, rfl, rfl, rfl, trivial⟩
      · replace h := q_ifn (hc10) h
        replace h := q_be h
        obtain ⟨u36, hv, h⟩ := h
        replace hv := q_ob_e hv
        obtain ⟨_, cu36⟩ := hv
        replace h := q_be h
        obtain ⟨v37, hv, h⟩ := h
        refine ⟨⟨some _, rfl⟩, ⟨_, cu36⟩, ?_⟩
        refine rX12_isIn hv ?_
        refine And.intro (fun hc38 => ?_) (fun hc38 => ?_)
        · replace h := q_ifp (hc38) h
          exact ps_weak (pjX12_move_100 h hk) ⟨rfl, rfl, rfl, rfl, trivial⟩
        · replace h := q_ifn (hc38) h
          exact ps_weak (pjX12_move_101 h hk) ⟨rfl, rfl, rfl, rfl, trivial⟩
    · replace h := q_ifn (hc8) h
      exact ps_weak (pjX12_move_101 h hk) ⟨rfl, rfl, rfl, rfl, trivial⟩
  · replace h := q_ifn (hc5) h
    exact ps_weak (pjX12_move_101 h hk) ⟨rfl, rfl, rfl, rfl, trivial⟩
noncomputable def jX12_move_61 (g : ps_G) (x0 : Nat) (x1 : Int32) (x2 : Int32) (x3 : Int32) (x4 : Int32) : Option (ps_G) := jX12_move_62 g x0 x1 x2 x3 x4 (0 : Int32)
theorem pjX12_move_61 {d : Nat} {Q : ps_Rs → ps_G → Prop} {g : ps_G} {x0 : Nat} {x1 : Int32} {x2 : Int32} {x3 : Int32} {x4 : Int32} {r : ps_G} (h : jX12_move_61 g x0 x1 x2 x3 x4 = some r) (hk : Q (.inl none) r) : ps_At mX12_move (d + 4) 61 [(0, .ref x0), (1, .int x1), (2, .int x2), (3, .int x3), (4, .int x4)] [] g Q := by
  unfold jX12_move_61 at h
  refine sX12_move_61 ?_
  exact ps_weak (pjX12_move_62 h hk) ⟨rfl, rfl, rfl, rfl, rfl, trivial⟩
noncomputable def jX12_move_21 (g : ps_G) (x0 : Nat) (x1 : Int32) (x2 : Int32) (x3 : Int32) (k0 : Int32) : Option (ps_G) := if k0 = 0 then (jX12_move_61 g x0 x1 x2 x3 k0) else (Option.bind (q_ob 12 g x0) fun u47 => Option.bind (fX12_many g x0 x2) fun v48 => Option.bind (q_ob 12 g x0) fun u49 => Option.bind (fX12_get g x0 x1 (2 : Int32)) fun v50 => if ¬ (fX12_in x3 (0 : Int32) (v48 - (if ¬ v50 = x2 then (0 : Int32) else (1 : Int32)))) = 0 then (jX12_move_61 g x0 x1 x2 x3 k0) else (jX12_move_62 g x0 x1 x2 x3 k0 (1 : Int32)))
theorem pjX12_move_21 {d : Nat} {Q : ps_Rs → ps_G → Prop} {g : ps_G} {x0 : Nat} {x1 : Int32} {x2 : Int32} {x3 : Int32} {k0 : Int32} {r : ps_G} (h : jX12_move_21 g x0 x1 x2 x3 k0 = some r) (hk : Q (.inl none) r) : ps_At mX12_move (d + 4) 21 [(0, .ref x0), (1, .int x1), (2, .int x2), (3, .int x3)] [.int k0] g Q := by
  unfold jX12_move_21 at h
  refine sX12_move_21 ?_
  refine ⟨by decide, ?_⟩
  refine And.intro (fun hc4 => ?_) (fun hc4 => ?_)
  · replace h := q_ifp (hc4) h
    exact ps_weak (pjX12_move_61 h hk) ⟨rfl, rfl, rfl, rfl, rfl, trivial⟩
  · replace h := q_ifn (hc4) h
    replace h := q_be h
    obtain ⟨u47, hv, h⟩ := h
    replace hv := q_ob_e hv
    obtain ⟨_, cu47⟩ := hv
    replace h := q_be h
    obtain ⟨v48, hv, h⟩ := h
    refine ⟨⟨some _, rfl⟩, ⟨_, cu47⟩, ?_⟩
    refine rX12_many hv ?_
    replace h := q_be h
    obtain ⟨u49, hv, h⟩ := h
    replace hv := q_ob_e hv
    obtain ⟨_, cu49⟩ := hv
    replace h := q_be h
    obtain ⟨v50, hv, h⟩ := h
    refine ⟨⟨some _, rfl⟩, ⟨_, cu49⟩, ?_⟩
    refine rX12_get hv ?_
    have kJ53 : ∀ w52 : Int32, w52 = (if ¬ v50 = x2 then (0 : Int32) else (1 : Int32)) → ps_At mX12_move (d + 4) 50 [(0, .ref x0), (1, .int x1), (2, .int x2), (3, .int x3), (4, .int k0)] [.int w52, .int v48, .int (0 : Int32), .int x3] g Q := by
      rintro _ rfl
      refine sX12_move_50 ?_
      refine rX12_in rfl ?_
      refine And.intro (fun hc54 => ?_) (fun hc54 => ?_)
      · replace h := q_ifp (hc54) h
        exact ps_weak (pjX12_move_61 h hk) ⟨rfl, rfl, rfl, rfl, rfl, trivial⟩
      · replace h := q_ifn (hc54) h
        exact ps_weak (pjX12_move_62 h hk) ⟨rfl, rfl, rfl, rfl, rfl, trivial⟩
    refine And.intro (fun hc51 => ?_) (fun hc51 => ?_)
    · refine sX12_move_49 ?_
      exact ps_weak (kJ53 _ (if_pos (hc51)).symm) ⟨rfl, rfl, rfl, rfl, rfl, trivial⟩
    · exact ps_weak (kJ53 _ (if_neg (hc51)).symm) ⟨rfl, rfl, rfl, rfl, rfl, trivial⟩
noncomputable def jX12_move_20 (g : ps_G) (x0 : Nat) (x1 : Int32) (x2 : Int32) (x3 : Int32) : Option (ps_G) := jX12_move_21 g x0 x1 x2 x3 (0 : Int32)
theorem pjX12_move_20 {d : Nat} {Q : ps_Rs → ps_G → Prop} {g : ps_G} {x0 : Nat} {x1 : Int32} {x2 : Int32} {x3 : Int32} {r : ps_G} (h : jX12_move_20 g x0 x1 x2 x3 = some r) (hk : Q (.inl none) r) : ps_At mX12_move (d + 4) 20 [(0, .ref x0), (1, .int x1), (2, .int x2), (3, .int x3)] [] g Q := by
  unfold jX12_move_20 at h
  refine sX12_move_20 ?_
  exact ps_weak (pjX12_move_21 h hk) ⟨rfl, rfl, rfl, rfl, trivial⟩
noncomputable def fX12_move (g : ps_G) (x0 : Nat) (x1 : Int32) (x2 : Int32) (x3 : Int32) : Option (ps_G) := Option.bind (q_ob 12 g x0) fun u1 => Option.bind (fX12_isLayer g x0 x1) fun v2 => if v2 = 0 then (jX12_move_20 g x0 x1 x2 x3) else (Option.bind (q_ob 12 g x0) fun u59 => Option.bind (fX12_isParent g x0 x2) fun v60 => if v60 = 0 then (jX12_move_20 g x0 x1 x2 x3) else (jX12_move_21 g x0 x1 x2 x3 (1 : Int32)))
theorem rX12_move {d : Nat} {Q : ps_Rs → ps_G → Prop} {g : ps_G} {x0 : Nat} {x1 : Int32} {x2 : Int32} {x3 : Int32} {r : ps_G} (h : fX12_move g x0 x1 x2 x3 = some r) (hk : Q (.inl none) r) : ps_Ok mX12_move (d + 4) [.ref x0, .int x1, .int x2, .int x3] g Q := by
  unfold fX12_move at h
  refine sX12_move_0 ?_
  replace h := q_be h
  obtain ⟨u1, hv, h⟩ := h
  replace hv := q_ob_e hv
  obtain ⟨_, cu1⟩ := hv
  replace h := q_be h
  obtain ⟨v2, hv, h⟩ := h
  refine ⟨⟨some _, rfl⟩, ⟨_, cu1⟩, ?_⟩
  refine rX12_isLayer hv ?_
  refine And.intro (fun hc3 => ?_) (fun hc3 => ?_)
  · replace h := q_ifp (hc3) h
    exact ps_weak (pjX12_move_20 h hk) ⟨rfl, rfl, rfl, rfl, trivial⟩
  · replace h := q_ifn (hc3) h
    replace h := q_be h
    obtain ⟨u59, hv, h⟩ := h
    replace hv := q_ob_e hv
    obtain ⟨_, cu59⟩ := hv
    replace h := q_be h
    obtain ⟨v60, hv, h⟩ := h
    refine ⟨⟨some _, rfl⟩, ⟨_, cu59⟩, ?_⟩
    refine rX12_isParent hv ?_
    refine And.intro (fun hc61 => ?_) (fun hc61 => ?_)
    · replace h := q_ifp (hc61) h
      exact ps_weak (pjX12_move_20 h hk) ⟨rfl, rfl, rfl, rfl, trivial⟩
    · replace h := q_ifn (hc61) h
      exact ps_weak (pjX12_move_21 h hk) ⟨rfl, rfl, rfl, rfl, trivial⟩
noncomputable def jX12_set_100 (g : ps_G) (x0 : Nat) (x1 : Int32) (x2 : Int32) (x3 : Int32) (k0 : Nat) (k1 : Int32) : Option (ps_G) := Option.bind (q_sI 12 0 g k0 k1) fun g25 => Option.bind (q_fI 12 0 g25 x0) fun v26 => if v26 ≤ 0 then (Option.bind (q_ob 12 g25 x0) fun u28 => Option.bind (fX12_put g25 x0 x1 ((4 : Int32) + x2) x3) fun v29 => Option.bind (q_ob 12 v29 x0) fun u30 => Option.bind (fX12_edited v29 x0) fun v31 => Option.bind (q_ob 12 v31 x0) fun u32 => Option.bind (fX12_forget v31 x0) fun v33 => some v33) else (some g25)
theorem pjX12_set_100 {d : Nat} {Q : ps_Rs → ps_G → Prop} {g : ps_G} {x0 : Nat} {x1 : Int32} {x2 : Int32} {x3 : Int32} {k0 : Nat} {k1 : Int32} {r : ps_G} (h : jX12_set_100 g x0 x1 x2 x3 k0 k1 = some r) (hk : Q (.inl none) r) : ps_At mX12_set (d + 2) 100 [(0, .ref x0), (1, .int x1), (2, .int x2), (3, .int x3)] [.int k1, .ref k0] g Q := by
  unfold jX12_set_100 at h
  refine sX12_set_100 ?_
  replace h := q_be h
  obtain ⟨g25, hv, h⟩ := h
  replace hv := q_sI_e hv
  obtain ⟨_, cg25, dg25, yg25⟩ := hv
  replace h := q_be h
  obtain ⟨v26, hv, h⟩ := h
  replace hv := q_fI_e hv
  obtain ⟨_, cv26, dv26⟩ := hv
  refine ⟨_, cg25, dg25, rfl, rfl, _, yg25, ⟨some _, rfl⟩, _, _, cv26, dv26, ?_⟩
  refine And.intro (fun hc27 => ?_) (fun hc27 => ?_)
  · replace h := q_ifp (hc27) h
    refine sX12_set_111 ?_
    replace h := q_be h
    obtain ⟨u28, hv, h⟩ := h
    replace hv := q_ob_e hv
    obtain ⟨_, cu28⟩ := hv
    replace h := q_be h
    obtain ⟨v29, hv, h⟩ := h
    refine ⟨⟨some _, rfl⟩, ⟨_, cu28⟩, ?_⟩
    refine rX12_put hv ?_
    replace h := q_be h
    obtain ⟨u30, hv, h⟩ := h
    replace hv := q_ob_e hv
    obtain ⟨_, cu30⟩ := hv
    replace h := q_be h
    obtain ⟨v31, hv, h⟩ := h
    refine ⟨⟨some _, rfl⟩, ⟨_, cu30⟩, ?_⟩
    refine rX12_edited hv ?_
    replace h := q_be h
    obtain ⟨u32, hv, h⟩ := h
    replace hv := q_ob_e hv
    obtain ⟨_, cu32⟩ := hv
    replace h := q_be h
    obtain ⟨v33, hv, h⟩ := h
    refine ⟨⟨some _, rfl⟩, ⟨_, cu32⟩, ?_⟩
    refine rX12_forget hv ?_
    cases h
    exact ⟨rfl, rfl, hk⟩
  · replace h := q_ifn (hc27) h
    cases h
    exact ⟨rfl, rfl, hk⟩
noncomputable def jX12_set_75 (g : ps_G) (x0 : Nat) (x1 : Int32) (x2 : Int32) (x3 : Int32) (k0 : Int32) : Option (ps_G) := if ¬ k0 = 0 then (Option.bind (q_ob 12 g x0) fun u20 => Option.bind (fX12_isLayer g x0 x1) fun v21 => jX12_set_100 g x0 x1 x2 x3 x0 (if v21 = 0 then (2 : Int32) else (0 : Int32))) else (jX12_set_100 g x0 x1 x2 x3 x0 (1 : Int32))
theorem pjX12_set_75 {d : Nat} {Q : ps_Rs → ps_G → Prop} {g : ps_G} {x0 : Nat} {x1 : Int32} {x2 : Int32} {x3 : Int32} {k0 : Int32} {r : ps_G} (h : jX12_set_75 g x0 x1 x2 x3 k0 = some r) (hk : Q (.inl none) r) : ps_At mX12_set (d + 2) 75 [(0, .ref x0), (1, .int x1), (2, .int x2), (3, .int x3)] [.int k0] g Q := by
  unfold jX12_set_75 at h
  refine sX12_set_75 ?_
  refine ⟨by decide, ⟨some _, rfl⟩, ?_⟩
  refine And.intro (fun hc18 => ?_) (fun hc18 => ?_)
  · replace h := q_ifp (hc18) h
    refine sX12_set_87 ?_
    replace h := q_be h
    obtain ⟨u20, hv, h⟩ := h
    replace hv := q_ob_e hv
    obtain ⟨_, cu20⟩ := hv
    replace h := q_be h
    obtain ⟨v21, hv, h⟩ := h
    refine ⟨⟨some _, rfl⟩, ⟨_, cu20⟩, ?_⟩
    refine rX12_isLayer hv ?_
    have kJ24 : ∀ w23 : Int32, w23 = (if v21 = 0 then (2 : Int32) else (0 : Int32)) → ps_At mX12_set (d + 2) 100 [(0, .ref x0), (1, .int x1), (2, .int x2), (3, .int x3)] [.int w23, .ref x0] g Q := by
      rintro _ rfl
      exact ps_weak (pjX12_set_100 h hk) ⟨rfl, rfl, rfl, rfl, trivial⟩
    refine And.intro (fun hc22 => ?_) (fun hc22 => ?_)
    · refine sX12_set_99 ?_
      exact ps_weak (kJ24 _ (if_pos (hc22)).symm) ⟨rfl, rfl, rfl, rfl, trivial⟩
    · exact ps_weak (kJ24 _ (if_neg (hc22)).symm) ⟨rfl, rfl, rfl, rfl, trivial⟩
  · replace h := q_ifn (hc18) h
    exact ps_weak (pjX12_set_100 h hk) ⟨rfl, rfl, rfl, rfl, trivial⟩
noncomputable def jX12_set_74 (g : ps_G) (x0 : Nat) (x1 : Int32) (x2 : Int32) (x3 : Int32) : Option (ps_G) := jX12_set_75 g x0 x1 x2 x3 (0 : Int32)
theorem pjX12_set_74 {d : Nat} {Q : ps_Rs → ps_G → Prop} {g : ps_G} {x0 : Nat} {x1 : Int32} {x2 : Int32} {x3 : Int32} {r : ps_G} (h : jX12_set_74 g x0 x1 x2 x3 = some r) (hk : Q (.inl none) r) : ps_At mX12_set (d + 2) 74 [(0, .ref x0), (1, .int x1), (2, .int x2), (3, .int x3)] [] g Q := by
  unfold jX12_set_74 at h
  refine sX12_set_74 ?_
  exact ps_weak (pjX12_set_75 h hk) ⟨rfl, rfl, rfl, rfl, trivial⟩
noncomputable def fX12_set (g : ps_G) (x0 : Nat) (x1 : Int32) (x2 : Int32) (x3 : Int32) : Option (ps_G) := if ¬ x2 = 0 then (if ¬ x2 = (1 : Int32) then (if ¬ (x2 = (2 : Int32)) ∧ (¬ x2 = (3 : Int32)) then (if ¬ (x2 = (4 : Int32)) ∧ (¬ x2 = (5 : Int32)) then (jX12_set_74 g x0 x1 x2 x3) else (if (fX12_in x3 (-64 : Int32) (64 : Int32)) = 0 then (jX12_set_74 g x0 x1 x2 x3) else (jX12_set_75 g x0 x1 x2 x3 (1 : Int32)))) else (jX12_set_75 g x0 x1 x2 x3 (fX12_in x3 (0 : Int32) (1 : Int32)))) else (jX12_set_75 g x0 x1 x2 x3 (fX12_in x3 (0 : Int32) (15 : Int32)))) else (jX12_set_75 g x0 x1 x2 x3 (fX12_in x3 (0 : Int32) (255 : Int32)))
theorem rX12_set {d : Nat} {Q : ps_Rs → ps_G → Prop} {g : ps_G} {x0 : Nat} {x1 : Int32} {x2 : Int32} {x3 : Int32} {r : ps_G} (h : fX12_set g x0 x1 x2 x3 = some r) (hk : Q (.inl none) r) : ps_Ok mX12_set (d + 2) [.ref x0, .int x1, .int x2, .int x3] g Q := by
  unfold fX12_set at h
  refine sX12_set_0 ?_
  refine And.intro (fun hc1 => ?_) (fun hc1 => ?_)
  · replace h := q_ifp (hc1) h
    refine sX12_set_15 ?_
    refine And.intro (fun hc7 => ?_) (fun hc7 => ?_)
    · replace h := q_ifp (hc7) h
      refine sX12_set_30 ?_
      have kF44 : (jX12_set_75 g x0 x1 x2 x3 (fX12_in x3 (0 : Int32) (1 : Int32))) = some r → ps_At mX12_set (d + 2) 40 [(0, .ref x0), (1, .int x1), (2, .int x2), (3, .int x3)] [] g Q := fun h => by
        refine sX12_set_40 ?_
        refine rX12_in rfl ?_
        exact ps_weak (pjX12_set_75 h hk) ⟨rfl, rfl, rfl, rfl, trivial⟩
      refine And.intro (fun hc12 => ?_) (fun hc12 => ?_)
      · exact ps_weak (kF44 (q_ifn (fun z => z.1 hc12) h)) ⟨rfl, rfl, rfl, rfl, trivial⟩
      · refine And.intro (fun hc13 => ?_) (fun hc13 => ?_)
        · replace h := q_ifp (⟨hc12, hc13⟩) h
          refine sX12_set_49 ?_
          have kF42 : (if (fX12_in x3 (-64 : Int32) (64 : Int32)) = 0 then (jX12_set_74 g x0 x1 x2 x3) else (jX12_set_75 g x0 x1 x2 x3 (1 : Int32))) = some r → ps_At mX12_set (d + 2) 59 [(0, .ref x0), (1, .int x1), (2, .int x2), (3, .int x3)] [] g Q := fun h => by
            refine sX12_set_59 ?_
            refine rX12_in rfl ?_
            refine And.intro (fun hc38 => ?_) (fun hc38 => ?_)
            · replace h := q_ifp (hc38) h
              exact ps_weak (pjX12_set_74 h hk) ⟨rfl, rfl, rfl, rfl, trivial⟩
            · replace h := q_ifn (hc38) h
              exact ps_weak (pjX12_set_75 h hk) ⟨rfl, rfl, rfl, rfl, trivial⟩
          refine And.intro (fun hc16 => ?_) (fun hc16 => ?_)
          · exact ps_weak (kF42 (q_ifn (fun z => z.1 hc16) h)) ⟨rfl, rfl, rfl, rfl, trivial⟩
          · refine And.intro (fun hc17 => ?_) (fun hc17 => ?_)
            · replace h := q_ifp (⟨hc16, hc17⟩) h
              exact ps_weak (pjX12_set_74 h hk) ⟨rfl, rfl, rfl, rfl, trivial⟩
            · exact ps_weak (kF42 (q_ifn (fun z => hc17 z.2) h)) ⟨rfl, rfl, rfl, rfl, trivial⟩
        · exact ps_weak (kF44 (q_ifn (fun z => hc13 z.2) h)) ⟨rfl, rfl, rfl, rfl, trivial⟩
    · replace h := q_ifn (hc7) h
      refine rX12_in rfl ?_
      exact ps_weak (pjX12_set_75 h hk) ⟨rfl, rfl, rfl, rfl, trivial⟩
  · replace h := q_ifn (hc1) h
    refine rX12_in rfl ?_
    exact ps_weak (pjX12_set_75 h hk) ⟨rfl, rfl, rfl, rfl, trivial⟩
noncomputable def jX12_mask_120_59 (g : ps_G) (x0 : Nat) (x1 : Int32) (x2 : Int32) (x3 : Int32) (k0 : Nat) (k1 : Int32) (k2 : Int32) (k3 : Int32) : Option ((Int32 × ps_G) ⊕ (ps_G)) := Option.bind (q_ob 12 g k0) fun u25 => Option.bind (fX12_put g k0 k1 k2 k3) fun v26 => some (.inl (x3 + (1 : Int32), v26))
theorem pjX12_mask_120_59 {d : Nat} {Q : ps_Rs → ps_G → Prop} {g : ps_G} {x0 : Nat} {x1 : Int32} {x2 : Int32} {x3 : Int32} {k0 : Nat} {k1 : Int32} {k2 : Int32} {k3 : Int32} {x : (Int32 × ps_G) ⊕ (ps_G)} (h : jX12_mask_120_59 g x0 x1 x2 x3 k0 k1 k2 k3 = some x) (hh : ∀ s' : Int32 × ps_G, x = .inl s' → ps_At mX12_mask (d + 2) 59 [(0, .ref x0), (1, .int x1), (2, .int x2), (3, .int s'.1)] [] s'.2 Q) (he : ∀ r' : ps_G, x = .inr r' → ps_At mX12_mask (d + 2) 129 [(0, .ref x0), (1, .int x1), (2, .int x2)] [] r' Q) : ps_At mX12_mask (d + 2) 120 [(0, .ref x0), (1, .int x1), (2, .int x2), (3, .int x3)] [.int k3, .int k2, .int k1, .ref k0] g Q := by
  unfold jX12_mask_120_59 at h
  refine sX12_mask_120 ?_
  replace h := q_be h
  obtain ⟨u25, hv, h⟩ := h
  replace hv := q_ob_e hv
  obtain ⟨_, cu25⟩ := hv
  replace h := q_be h
  obtain ⟨v26, hv, h⟩ := h
  refine ⟨⟨_, cu25⟩, ?_⟩
  refine rX12_put hv ?_
  refine ⟨by decide, ?_⟩
  exact ps_weak (hh (x3 + (1 : Int32), v26) (Option.some.inj h).symm) ⟨rfl, rfl, rfl, rfl, trivial⟩
noncomputable def bX12_mask_59 (x0 : Nat) (x1 : Int32) (x2 : Int32) (x3 : Int32) (g : ps_G) : Option ((Int32 × ps_G) ⊕ (ps_G)) := if (576 : Int32) ≤ x3 then (some (.inr g)) else (if ¬ x2 = 0 then (if ¬ x2 = (1 : Int32) then (if ¬ x2 = (2 : Int32) then (jX12_mask_120_59 g x0 x1 x2 x3 x0 x1 ((593 : Int32) + x3) (255 : Int32)) else (Option.bind (q_ob 12 g x0) fun u27 => Option.bind (fX12_get g x0 x1 ((593 : Int32) + x3)) fun v28 => jX12_mask_120_59 g x0 x1 x2 x3 x0 x1 ((593 : Int32) + x3) ((255 : Int32) - v28))) else (Option.bind (q_fR 12 31 g x0) fun v31 => Option.bind (v31) fun a32 => Option.bind (q_aI g a32 x3) fun v33 => jX12_mask_120_59 g x0 x1 x2 x3 x0 x1 ((593 : Int32) + x3) v33)) else (jX12_mask_120_59 g x0 x1 x2 x3 x0 x1 ((593 : Int32) + x3) (0 : Int32)))
theorem pbX12_mask_59 {d : Nat} {Q : ps_Rs → ps_G → Prop}  {x0 : Nat} {x1 : Int32} {x2 : Int32} {x3 : Int32} {g : ps_G} {x : (Int32 × ps_G) ⊕ (ps_G)} (h : bX12_mask_59 x0 x1 x2 x3 g = some x) (hh : ∀ s' : Int32 × ps_G, x = .inl s' → ps_At mX12_mask (d + 2) 59 [(0, .ref x0), (1, .int x1), (2, .int x2), (3, .int s'.1)] [] s'.2 Q) (he : ∀ r' : ps_G, x = .inr r' → ps_At mX12_mask (d + 2) 129 [(0, .ref x0), (1, .int x1), (2, .int x2)] [] r' Q) : ps_At mX12_mask (d + 2) 59 [(0, .ref x0), (1, .int x1), (2, .int x2), (3, .int x3)] [] g Q := by
  unfold bX12_mask_59 at h
  refine sX12_mask_59 ?_
  refine And.intro (fun hc11 => ?_) (fun hc11 => ?_)
  · replace h := q_ifp (hc11) h
    exact ps_weak (he g (Option.some.inj h).symm) ⟨rfl, rfl, rfl, trivial⟩
  · replace h := q_ifn (hc11) h
    refine ⟨⟨some _, rfl⟩, ?_⟩
    refine And.intro (fun hc16 => ?_) (fun hc16 => ?_)
    · replace h := q_ifp (hc16) h
      refine sX12_mask_81 ?_
      refine And.intro (fun hc20 => ?_) (fun hc20 => ?_)
      · replace h := q_ifp (hc20) h
        refine sX12_mask_95 ?_
        refine And.intro (fun hc23 => ?_) (fun hc23 => ?_)
        · replace h := q_ifp (hc23) h
          refine sX12_mask_117 ?_
          exact ps_weak (pjX12_mask_120_59 h hh he) ⟨rfl, rfl, rfl, rfl, trivial⟩
        · replace h := q_ifn (hc23) h
          replace h := q_be h
          obtain ⟨u27, hv, h⟩ := h
          replace hv := q_ob_e hv
          obtain ⟨_, cu27⟩ := hv
          replace h := q_be h
          obtain ⟨v28, hv, h⟩ := h
          refine ⟨⟨some _, rfl⟩, ⟨_, cu27⟩, ?_⟩
          refine rX12_get hv ?_
          exact ps_weak (pjX12_mask_120_59 h hh he) ⟨rfl, rfl, rfl, rfl, trivial⟩
      · replace h := q_ifn (hc20) h
        replace h := q_be h
        obtain ⟨v31, hv, h⟩ := h
        replace hv := q_fR_e hv
        obtain ⟨_, cv31, dv31⟩ := hv
        replace h := q_be h
        obtain ⟨a32, ea32, h⟩ := h
        subst ea32
        replace h := q_be h
        obtain ⟨v33, hv, h⟩ := h
        replace hv := q_aI_e hv
        obtain ⟨_, _, cv33, iv33, yv33⟩ := hv
        refine ⟨⟨some _, rfl⟩, _, _, cv31, dv31, _, _, cv33, iv33, _, yv33, ?_⟩
        exact ps_weak (pjX12_mask_120_59 h hh he) ⟨rfl, rfl, rfl, rfl, trivial⟩
    · replace h := q_ifn (hc16) h
      exact ps_weak (pjX12_mask_120_59 h hh he) ⟨rfl, rfl, rfl, rfl, trivial⟩
noncomputable def jX12_mask_46 (g : ps_G) (x0 : Nat) (x1 : Int32) (x2 : Int32) (k0 : Nat) (k1 : Int32) : Option (ps_G) := Option.bind (q_sI 12 0 g k0 k1) fun g8 => Option.bind (q_fI 12 0 g8 x0) fun v9 => if v9 ≤ 0 then (Option.bind (q_lp (fun s => bX12_mask_59 x0 x1 x2 s.1 s.2) ((0 : Int32), g8)) fun s40 => Option.bind (q_ob 12 s40 x0) fun u44 => Option.bind (fX12_put s40 x0 x1 (10 : Int32) (if ¬ x2 = 0 then (1 : Int32) else (0 : Int32))) fun v45 => Option.bind (q_ob 12 v45 x0) fun u46 => Option.bind (fX12_edited v45 x0) fun v47 => Option.bind (q_ob 12 v47 x0) fun u48 => Option.bind (fX12_forget v47 x0) fun v49 => some v49) else (some g8)
theorem pjX12_mask_46 {d : Nat} {Q : ps_Rs → ps_G → Prop} {g : ps_G} {x0 : Nat} {x1 : Int32} {x2 : Int32} {k0 : Nat} {k1 : Int32} {r : ps_G} (h : jX12_mask_46 g x0 x1 x2 k0 k1 = some r) (hk : Q (.inl none) r) : ps_At mX12_mask (d + 2) 46 [(0, .ref x0), (1, .int x1), (2, .int x2)] [.int k1, .ref k0] g Q := by
  unfold jX12_mask_46 at h
  refine sX12_mask_46 ?_
  replace h := q_be h
  obtain ⟨g8, hv, h⟩ := h
  replace hv := q_sI_e hv
  obtain ⟨_, cg8, dg8, yg8⟩ := hv
  replace h := q_be h
  obtain ⟨v9, hv, h⟩ := h
  replace hv := q_fI_e hv
  obtain ⟨_, cv9, dv9⟩ := hv
  refine ⟨_, cg8, dg8, rfl, rfl, _, yg8, ⟨some _, rfl⟩, _, _, cv9, dv9, ?_⟩
  refine And.intro (fun hc10 => ?_) (fun hc10 => ?_)
  · replace h := q_ifp (hc10) h
    refine sX12_mask_57 ?_
    refine ⟨by decide, ?_⟩
    replace h := q_be h
    obtain ⟨s40, hl, h⟩ := h
    refine ps_weak (q_lp_ok hl (fun s => ps_At mX12_mask (d + 2) 59 [(0, .ref x0), (1, .int x1), (2, .int x2), (3, .int s.1)] [] s.2 Q) (fun r => ps_At mX12_mask (d + 2) 129 [(0, .ref x0), (1, .int x1), (2, .int x2)] [] r Q) (fun s x hb hh he => pbX12_mask_59 hb hh he) ?_) ⟨rfl, rfl, rfl, rfl, trivial⟩
    refine (?_ : ps_At mX12_mask (d + 2) 129 [(0, .ref x0), (1, .int x1), (2, .int x2)] [] s40 Q)
    refine sX12_mask_129 ?_
    have kJ43 : ∀ w42 : Int32, w42 = (if ¬ x2 = 0 then (1 : Int32) else (0 : Int32)) → ps_At mX12_mask (d + 2) 142 [(0, .ref x0)] [.int w42, .int (10 : Int32), .int x1, .ref x0] s40 Q := by
      rintro _ rfl
      refine sX12_mask_142 ?_
      replace h := q_be h
      obtain ⟨u44, hv, h⟩ := h
      replace hv := q_ob_e hv
      obtain ⟨_, cu44⟩ := hv
      replace h := q_be h
      obtain ⟨v45, hv, h⟩ := h
      refine ⟨⟨_, cu44⟩, ?_⟩
      refine rX12_put hv ?_
      replace h := q_be h
      obtain ⟨u46, hv, h⟩ := h
      replace hv := q_ob_e hv
      obtain ⟨_, cu46⟩ := hv
      replace h := q_be h
      obtain ⟨v47, hv, h⟩ := h
      refine ⟨⟨some _, rfl⟩, ⟨_, cu46⟩, ?_⟩
      refine rX12_edited hv ?_
      replace h := q_be h
      obtain ⟨u48, hv, h⟩ := h
      replace hv := q_ob_e hv
      obtain ⟨_, cu48⟩ := hv
      replace h := q_be h
      obtain ⟨v49, hv, h⟩ := h
      refine ⟨⟨some _, rfl⟩, ⟨_, cu48⟩, ?_⟩
      refine rX12_forget hv ?_
      cases h
      exact ⟨rfl, rfl, hk⟩
    refine ⟨⟨some _, rfl⟩, ?_⟩
    refine And.intro (fun hc41 => ?_) (fun hc41 => ?_)
    · refine sX12_mask_141 ?_
      exact ps_weak (kJ43 _ (if_pos (hc41)).symm) ⟨rfl, trivial⟩
    · exact ps_weak (kJ43 _ (if_neg (hc41)).symm) ⟨rfl, trivial⟩
  · replace h := q_ifn (hc10) h
    cases h
    exact ⟨rfl, rfl, hk⟩
noncomputable def jX12_mask_45 (g : ps_G) (x0 : Nat) (x1 : Int32) (x2 : Int32) (k0 : Nat) : Option (ps_G) := jX12_mask_46 g x0 x1 x2 k0 (0 : Int32)
theorem pjX12_mask_45 {d : Nat} {Q : ps_Rs → ps_G → Prop} {g : ps_G} {x0 : Nat} {x1 : Int32} {x2 : Int32} {k0 : Nat} {r : ps_G} (h : jX12_mask_45 g x0 x1 x2 k0 = some r) (hk : Q (.inl none) r) : ps_At mX12_mask (d + 2) 45 [(0, .ref x0), (1, .int x1), (2, .int x2)] [.ref k0] g Q := by
  unfold jX12_mask_45 at h
  refine sX12_mask_45 ?_
  exact ps_weak (pjX12_mask_46 h hk) ⟨rfl, rfl, rfl, trivial⟩
noncomputable def fX12_mask (g : ps_G) (x0 : Nat) (x1 : Int32) (x2 : Int32) : Option (ps_G) := if ¬ (fX12_in x2 (0 : Int32) (3 : Int32)) = 0 then (Option.bind (q_ob 12 g x0) fun u3 => Option.bind (fX12_isLayer g x0 x1) fun v4 => if ¬ v4 = 0 then (if ¬ x2 = (2 : Int32) then (jX12_mask_45 g x0 x1 x2 x0) else (Option.bind (q_ob 12 g x0) fun u52 => Option.bind (fX12_get g x0 x1 (10 : Int32)) fun v53 => if ¬ v53 = 0 then (jX12_mask_45 g x0 x1 x2 x0) else (jX12_mask_46 g x0 x1 x2 x0 (3 : Int32)))) else (jX12_mask_46 g x0 x1 x2 x0 (2 : Int32))) else (jX12_mask_46 g x0 x1 x2 x0 (1 : Int32))
theorem rX12_mask {d : Nat} {Q : ps_Rs → ps_G → Prop} {g : ps_G} {x0 : Nat} {x1 : Int32} {x2 : Int32} {r : ps_G} (h : fX12_mask g x0 x1 x2 = some r) (hk : Q (.inl none) r) : ps_Ok mX12_mask (d + 2) [.ref x0, .int x1, .int x2] g Q := by
  unfold fX12_mask at h
  refine sX12_mask_0 ?_
  refine ⟨⟨some _, rfl⟩, ?_⟩
  refine rX12_in rfl ?_
  refine And.intro (fun hc1 => ?_) (fun hc1 => ?_)
  · replace h := q_ifp (hc1) h
    refine sX12_mask_14 ?_
    replace h := q_be h
    obtain ⟨u3, hv, h⟩ := h
    replace hv := q_ob_e hv
    obtain ⟨_, cu3⟩ := hv
    replace h := q_be h
    obtain ⟨v4, hv, h⟩ := h
    refine ⟨⟨some _, rfl⟩, ⟨_, cu3⟩, ?_⟩
    refine rX12_isLayer hv ?_
    refine And.intro (fun hc5 => ?_) (fun hc5 => ?_)
    · replace h := q_ifp (hc5) h
      refine sX12_mask_26 ?_
      refine And.intro (fun hc7 => ?_) (fun hc7 => ?_)
      · replace h := q_ifp (hc7) h
        exact ps_weak (pjX12_mask_45 h hk) ⟨rfl, rfl, rfl, trivial⟩
      · replace h := q_ifn (hc7) h
        replace h := q_be h
        obtain ⟨u52, hv, h⟩ := h
        replace hv := q_ob_e hv
        obtain ⟨_, cu52⟩ := hv
        replace h := q_be h
        obtain ⟨v53, hv, h⟩ := h
        refine ⟨⟨some _, rfl⟩, ⟨_, cu52⟩, ?_⟩
        refine rX12_get hv ?_
        refine And.intro (fun hc54 => ?_) (fun hc54 => ?_)
        · replace h := q_ifp (hc54) h
          exact ps_weak (pjX12_mask_45 h hk) ⟨rfl, rfl, rfl, trivial⟩
        · replace h := q_ifn (hc54) h
          exact ps_weak (pjX12_mask_46 h hk) ⟨rfl, rfl, rfl, trivial⟩
    · replace h := q_ifn (hc5) h
      exact ps_weak (pjX12_mask_46 h hk) ⟨rfl, rfl, rfl, trivial⟩
  · replace h := q_ifn (hc1) h
    exact ps_weak (pjX12_mask_46 h hk) ⟨rfl, rfl, rfl, trivial⟩
def fX12_isFilter (x0 : Int32) (x1 : Int32) : Int32 := if x0 = 0 then (fX12_in x1 (1 : Int32) (4 : Int32)) else (if x0 = 1 ∨ x0 = 6 ∨ x0 = 9 ∨ x0 = 12 ∨ x0 = 13 then (fX12_in x1 (0 : Int32) (255 : Int32)) else (if x0 = 2 ∨ x0 = 3 ∨ x0 = 4 ∨ x0 = 8 ∨ x0 = 10 ∨ x0 = 11 then ((if ¬ x1 = 0 then (0 : Int32) else (1 : Int32))) else (if x0 = 5 then (fX12_in x1 (2 : Int32) (8 : Int32)) else (if x0 = 7 then (fX12_in x1 (2 : Int32) (64 : Int32)) else ((0 : Int32))))))
theorem rX12_isFilter {d : Nat} {Q : ps_Rs → ps_G → Prop} {g : ps_G} {x0 : Int32} {x1 : Int32} {r : Int32} (h : fX12_isFilter x0 x1 = r) (hk : Q (.inl (some (.int r))) g) : ps_Ok mX12_isFilter (d + 1) [.int x0, .int x1] g Q := by
  unfold fX12_isFilter at h
  refine sX12_isFilter_0 ?_
  refine sX12_isFilter_1 ?_
  by_cases hc1 : x0 = 0
  · replace h := q_ifp hc1 h
    have eT : ps_tsel 1 113 0 13 #[71, 94, 103, 103, 103, 78, 94, 86, 103, 94, 103, 103, 94, 94] x0 = 72 := by
      rw [hc1]; decide +kernel
    refine ps_at_eq eT ?_
    refine sX12_isFilter_72 ?_
    refine rX12_in rfl ?_
    subst h
    exact ⟨rfl, zX12_in, hk⟩
  replace h := q_ifn hc1 h
  by_cases hc2 : x0 = 1 ∨ x0 = 6 ∨ x0 = 9 ∨ x0 = 12 ∨ x0 = 13
  · replace h := q_ifp hc2 h
    have eT : ps_tsel 1 113 0 13 #[71, 94, 103, 103, 103, 78, 94, 86, 103, 94, 103, 103, 94, 94] x0 = 95 := by
      rcases hc2 with e9 | e9 | e9 | e9 | e9 <;> (rw [e9]; decide +kernel)
    refine ps_at_eq eT ?_
    refine sX12_isFilter_95 ?_
    refine rX12_in rfl ?_
    subst h
    exact ⟨rfl, zX12_in, hk⟩
  replace h := q_ifn hc2 h
  by_cases hc3 : x0 = 2 ∨ x0 = 3 ∨ x0 = 4 ∨ x0 = 8 ∨ x0 = 10 ∨ x0 = 11
  · replace h := q_ifp hc3 h
    have eT : ps_tsel 1 113 0 13 #[71, 94, 103, 103, 103, 78, 94, 86, 103, 94, 103, 103, 94, 94] x0 = 104 := by
      rcases hc3 with e9 | e9 | e9 | e9 | e9 | e9 <;> (rw [e9]; decide +kernel)
    refine ps_at_eq eT ?_
    refine sX12_isFilter_104 ?_
    have kJ6 : ∀ w5 : Int32, w5 = (if ¬ x1 = 0 then (0 : Int32) else (1 : Int32)) → ps_At mX12_isFilter (d + 1) 113 [] [.int w5] g Q := by
      rintro _ rfl
      refine sX12_isFilter_113 ?_
      subst h
      exact ⟨rfl, q_ib (Or.inl rfl) (Or.inr rfl), hk⟩
    refine And.intro (fun hc4 => ?_) (fun hc4 => ?_)
    · refine sX12_isFilter_112 ?_
      exact ps_weak (kJ6 _ (if_pos (hc4)).symm) trivial
    · exact ps_weak (kJ6 _ (if_neg (hc4)).symm) trivial
  replace h := q_ifn hc3 h
  by_cases hc7 : x0 = 5
  · replace h := q_ifp hc7 h
    have eT : ps_tsel 1 113 0 13 #[71, 94, 103, 103, 103, 78, 94, 86, 103, 94, 103, 103, 94, 94] x0 = 79 := by
      rw [hc7]; decide +kernel
    refine ps_at_eq eT ?_
    refine sX12_isFilter_79 ?_
    refine rX12_in rfl ?_
    subst h
    exact ⟨rfl, zX12_in, hk⟩
  replace h := q_ifn hc7 h
  by_cases hc8 : x0 = 7
  · replace h := q_ifp hc8 h
    have eT : ps_tsel 1 113 0 13 #[71, 94, 103, 103, 103, 78, 94, 86, 103, 94, 103, 103, 94, 94] x0 = 87 := by
      rw [hc8]; decide +kernel
    refine ps_at_eq eT ?_
    refine sX12_isFilter_87 ?_
    refine rX12_in rfl ?_
    subst h
    exact ⟨rfl, zX12_in, hk⟩
  replace h := q_ifn hc8 h
  have eD : ps_tsel 1 113 0 13 #[71, 94, 103, 103, 103, 78, 94, 86, 103, 94, 103, 103, 94, 94] x0 = 114 := by
    refine q_tsd (by decide +kernel) (fun z h1 h2 => ?_)
    have hz : z = 0 ∨ z = 1 ∨ z = 2 ∨ z = 3 ∨ z = 4 ∨ z = 5 ∨ z = 6 ∨ z = 7 ∨ z = 8 ∨ z = 9 ∨ z = 10 ∨ z = 11 ∨ z = 12 ∨ z = 13 := by omega
    rcases hz with rfl | rfl | rfl | rfl | rfl | rfl | rfl | rfl | rfl | rfl | rfl | rfl | rfl | rfl
    · exact Or.inl (q_tsx (v := 0) (fun z => hc1 z))
    · exact Or.inl (q_tsx (v := 1) (fun z => hc2 (Or.inl z)))
    · exact Or.inl (q_tsx (v := 2) (fun z => hc3 (Or.inl z)))
    · exact Or.inl (q_tsx (v := 3) (fun z => hc3 ((fun z => (Or.inr (Or.inl z))) z)))
    · exact Or.inl (q_tsx (v := 4) (fun z => hc3 ((fun z => (Or.inr (Or.inr (Or.inl z)))) z)))
    · exact Or.inl (q_tsx (v := 5) (fun z => hc7 z))
    · exact Or.inl (q_tsx (v := 6) (fun z => hc2 ((fun z => (Or.inr (Or.inl z))) z)))
    · exact Or.inl (q_tsx (v := 7) (fun z => hc8 z))
    · exact Or.inl (q_tsx (v := 8) (fun z => hc3 ((fun z => (Or.inr (Or.inr (Or.inr (Or.inl z))))) z)))
    · exact Or.inl (q_tsx (v := 9) (fun z => hc2 ((fun z => (Or.inr (Or.inr (Or.inl z)))) z)))
    · exact Or.inl (q_tsx (v := 10) (fun z => hc3 ((fun z => (Or.inr (Or.inr (Or.inr (Or.inr (Or.inl z)))))) z)))
    · exact Or.inl (q_tsx (v := 11) (fun z => hc3 ((fun z => (Or.inr (Or.inr (Or.inr (Or.inr (Or.inr z)))))) z)))
    · exact Or.inl (q_tsx (v := 12) (fun z => hc2 ((fun z => (Or.inr (Or.inr (Or.inr (Or.inl z))))) z)))
    · exact Or.inl (q_tsx (v := 13) (fun z => hc2 ((fun z => (Or.inr (Or.inr (Or.inr (Or.inr z))))) z)))
  refine ps_at_eq eD ?_
  refine sX12_isFilter_114 ?_
  subst h
  exact ⟨rfl, Or.inl rfl, hk⟩
theorem zX12_isFilter {x0 : Int32} {x1 : Int32} : fX12_isFilter x0 x1 = 0 ∨ fX12_isFilter x0 x1 = 1 := by
  unfold fX12_isFilter
  repeat' split
  all_goals first | exact Or.inl rfl | exact Or.inr rfl | exact zX12_in
noncomputable def jX12_colours_127 (g : ps_G) (x0 : Nat) : Option (ps_G) := Option.bind (q_ob 12 g x0) fun u18 => Option.bind (fX12_edited g x0) fun v19 => Option.bind (q_ob 12 v19 x0) fun u20 => Option.bind (fX12_forget v19 x0) fun v21 => some v21
theorem pjX12_colours_127 {d : Nat} {Q : ps_Rs → ps_G → Prop} {g : ps_G} {x0 : Nat} {r : ps_G} (h : jX12_colours_127 g x0 = some r) (hk : Q (.inl none) r) : ps_At mX12_colours (d + 2) 127 [(0, .ref x0)] [] g Q := by
  unfold jX12_colours_127 at h
  refine sX12_colours_127 ?_
  replace h := q_be h
  obtain ⟨u18, hv, h⟩ := h
  replace hv := q_ob_e hv
  obtain ⟨_, cu18⟩ := hv
  replace h := q_be h
  obtain ⟨v19, hv, h⟩ := h
  refine ⟨⟨some _, rfl⟩, ⟨_, cu18⟩, ?_⟩
  refine rX12_edited hv ?_
  replace h := q_be h
  obtain ⟨u20, hv, h⟩ := h
  replace hv := q_ob_e hv
  obtain ⟨_, cu20⟩ := hv
  replace h := q_be h
  obtain ⟨v21, hv, h⟩ := h
  refine ⟨⟨some _, rfl⟩, ⟨_, cu20⟩, ?_⟩
  refine rX12_forget hv ?_
  cases h
  exact ⟨rfl, rfl, hk⟩
noncomputable def jX12_colours_66 (g : ps_G) (x0 : Nat) (x1 : Int32) (x2 : Int32) (x3 : Int32) (x4 : Int32) (k0 : Int32) : Option (ps_G) := Option.bind (q_sI 12 0 g x0 (if k0 = 0 then (if 0 ≤ x4 then (0 : Int32) else (2 : Int32)) else (1 : Int32))) fun g10 => Option.bind (q_fI 12 0 g10 x0) fun v11 => if v11 ≤ 0 then (Option.bind (q_ob 12 g10 x0) fun u13 => Option.bind (fX12_put g10 x0 x1 (11 : Int32) x2) fun v14 => if ¬ (x4 = (3 : Int32)) ∧ (¬ x4 = (5 : Int32)) then (jX12_colours_127 v14 x0) else (Option.bind (q_ob 12 v14 x0) fun u22 => Option.bind (fX12_put v14 x0 x1 (12 : Int32) x3) fun v23 => jX12_colours_127 v23 x0)) else (some g10)
theorem pjX12_colours_66 {d : Nat} {Q : ps_Rs → ps_G → Prop} {g : ps_G} {x0 : Nat} {x1 : Int32} {x2 : Int32} {x3 : Int32} {x4 : Int32} {k0 : Int32} {r : ps_G} (h : jX12_colours_66 g x0 x1 x2 x3 x4 k0 = some r) (hk : Q (.inl none) r) : ps_At mX12_colours (d + 2) 66 [(0, .ref x0), (1, .int x1), (2, .int x2), (3, .int x3), (4, .int x4)] [.int k0] g Q := by
  unfold jX12_colours_66 at h
  refine sX12_colours_66 ?_
  have kJ9 : ∀ w8 : Int32, w8 = (if k0 = 0 then (if 0 ≤ x4 then (0 : Int32) else (2 : Int32)) else (1 : Int32)) → ps_At mX12_colours (d + 2) 88 [(0, .ref x0), (1, .int x1), (2, .int x2), (3, .int x3), (4, .int x4)] [.int w8, .ref x0] g Q := by
    rintro _ rfl
    refine sX12_colours_88 ?_
    replace h := q_be h
    obtain ⟨g10, hv, h⟩ := h
    replace hv := q_sI_e hv
    obtain ⟨_, cg10, dg10, yg10⟩ := hv
    replace h := q_be h
    obtain ⟨v11, hv, h⟩ := h
    replace hv := q_fI_e hv
    obtain ⟨_, cv11, dv11⟩ := hv
    refine ⟨_, cg10, dg10, rfl, rfl, _, yg10, ⟨some _, rfl⟩, _, _, cv11, dv11, ?_⟩
    refine And.intro (fun hc12 => ?_) (fun hc12 => ?_)
    · replace h := q_ifp (hc12) h
      refine sX12_colours_99 ?_
      replace h := q_be h
      obtain ⟨u13, hv, h⟩ := h
      replace hv := q_ob_e hv
      obtain ⟨_, cu13⟩ := hv
      replace h := q_be h
      obtain ⟨v14, hv, h⟩ := h
      refine ⟨⟨some _, rfl⟩, ⟨_, cu13⟩, ?_⟩
      refine rX12_put hv ?_
      have kF25 : (Option.bind (q_ob 12 v14 x0) fun u22 => Option.bind (fX12_put v14 x0 x1 (12 : Int32) x3) fun v23 => jX12_colours_127 v23 x0) = some r → ps_At mX12_colours (d + 2) 119 [(0, .ref x0), (1, .int x1), (3, .int x3)] [] v14 Q := fun h => by
        refine sX12_colours_119 ?_
        replace h := q_be h
        obtain ⟨u22, hv, h⟩ := h
        replace hv := q_ob_e hv
        obtain ⟨_, cu22⟩ := hv
        replace h := q_be h
        obtain ⟨v23, hv, h⟩ := h
        refine ⟨⟨some _, rfl⟩, ⟨_, cu22⟩, ?_⟩
        refine rX12_put hv ?_
        exact ps_weak (pjX12_colours_127 h hk) ⟨rfl, trivial⟩
      refine And.intro (fun hc15 => ?_) (fun hc15 => ?_)
      · exact ps_weak (kF25 (q_ifn (fun z => z.1 hc15) h)) ⟨rfl, rfl, rfl, trivial⟩
      · refine And.intro (fun hc16 => ?_) (fun hc16 => ?_)
        · replace h := q_ifp (⟨hc15, hc16⟩) h
          exact ps_weak (pjX12_colours_127 h hk) ⟨rfl, trivial⟩
        · exact ps_weak (kF25 (q_ifn (fun z => hc16 z.2) h)) ⟨rfl, rfl, rfl, trivial⟩
    · replace h := q_ifn (hc12) h
      cases h
      exact ⟨rfl, rfl, hk⟩
  refine ⟨by decide, ⟨some _, rfl⟩, ?_⟩
  refine And.intro (fun hc7 => ?_) (fun hc7 => ?_)
  · refine sX12_colours_78 ?_
    have kJ30 : ∀ w29 : Int32, w29 = (if 0 ≤ x4 then (0 : Int32) else (2 : Int32)) → ps_At mX12_colours (d + 2) 88 [(0, .ref x0), (1, .int x1), (2, .int x2), (3, .int x3), (4, .int x4)] [.int w29, .ref x0] g Q := by
      rintro _ rfl
      exact ps_weak (kJ9 _ (if_pos (hc7)).symm) ⟨rfl, rfl, rfl, rfl, rfl, trivial⟩
    refine And.intro (fun hc28 => ?_) (fun hc28 => ?_)
    · refine sX12_colours_87 ?_
      exact ps_weak (kJ30 _ (if_pos (hc28)).symm) ⟨rfl, rfl, rfl, rfl, rfl, trivial⟩
    · exact ps_weak (kJ30 _ (if_neg (hc28)).symm) ⟨rfl, rfl, rfl, rfl, rfl, trivial⟩
  · exact ps_weak (kJ9 _ (if_neg (hc7)).symm) ⟨rfl, rfl, rfl, rfl, rfl, trivial⟩
noncomputable def jX12_colours_61 (g : ps_G) (x0 : Nat) (x1 : Int32) (x2 : Int32) (x3 : Int32) (x4 : Int32) : Option (ps_G) := jX12_colours_66 g x0 x1 x2 x3 x4 (1 : Int32)
theorem pjX12_colours_61 {d : Nat} {Q : ps_Rs → ps_G → Prop} {g : ps_G} {x0 : Nat} {x1 : Int32} {x2 : Int32} {x3 : Int32} {x4 : Int32} {r : ps_G} (h : jX12_colours_61 g x0 x1 x2 x3 x4 = some r) (hk : Q (.inl none) r) : ps_At mX12_colours (d + 2) 61 [(0, .ref x0), (1, .int x1), (2, .int x2), (3, .int x3), (4, .int x4)] [] g Q := by
  unfold jX12_colours_61 at h
  refine sX12_colours_61 ?_
  exact ps_weak (pjX12_colours_66 h hk) ⟨rfl, rfl, rfl, rfl, rfl, trivial⟩
noncomputable def jX12_colours_65 (g : ps_G) (x0 : Nat) (x1 : Int32) (x2 : Int32) (x3 : Int32) (x4 : Int32) : Option (ps_G) := jX12_colours_66 g x0 x1 x2 x3 x4 (0 : Int32)
theorem pjX12_colours_65 {d : Nat} {Q : ps_Rs → ps_G → Prop} {g : ps_G} {x0 : Nat} {x1 : Int32} {x2 : Int32} {x3 : Int32} {x4 : Int32} {r : ps_G} (h : jX12_colours_65 g x0 x1 x2 x3 x4 = some r) (hk : Q (.inl none) r) : ps_At mX12_colours (d + 2) 65 [(0, .ref x0), (1, .int x1), (2, .int x2), (3, .int x3), (4, .int x4)] [] g Q := by
  unfold jX12_colours_65 at h
  refine sX12_colours_65 ?_
  exact ps_weak (pjX12_colours_66 h hk) ⟨rfl, rfl, rfl, rfl, rfl, trivial⟩
noncomputable def jX12_colours_47 (g : ps_G) (x0 : Nat) (x1 : Int32) (x2 : Int32) (x3 : Int32) (x4 : Int32) : Option (ps_G) := if ¬ x4 = (5 : Int32) then (jX12_colours_65 g x0 x1 x2 x3 x4) else (if ¬ (fX12_isFilter x2 x3) = 0 then (jX12_colours_65 g x0 x1 x2 x3 x4) else (jX12_colours_61 g x0 x1 x2 x3 x4))
theorem pjX12_colours_47 {d : Nat} {Q : ps_Rs → ps_G → Prop} {g : ps_G} {x0 : Nat} {x1 : Int32} {x2 : Int32} {x3 : Int32} {x4 : Int32} {r : ps_G} (h : jX12_colours_47 g x0 x1 x2 x3 x4 = some r) (hk : Q (.inl none) r) : ps_At mX12_colours (d + 2) 47 [(0, .ref x0), (1, .int x1), (2, .int x2), (3, .int x3), (4, .int x4)] [] g Q := by
  unfold jX12_colours_47 at h
  refine sX12_colours_47 ?_
  refine And.intro (fun hc32 => ?_) (fun hc32 => ?_)
  · replace h := q_ifp (hc32) h
    exact ps_weak (pjX12_colours_65 h hk) ⟨rfl, rfl, rfl, rfl, rfl, trivial⟩
  · replace h := q_ifn (hc32) h
    refine rX12_isFilter rfl ?_
    refine And.intro (fun hc33 => ?_) (fun hc33 => ?_)
    · replace h := q_ifp (hc33) h
      exact ps_weak (pjX12_colours_65 h hk) ⟨rfl, rfl, rfl, rfl, rfl, trivial⟩
    · replace h := q_ifn (hc33) h
      exact ps_weak (pjX12_colours_61 h hk) ⟨rfl, rfl, rfl, rfl, rfl, trivial⟩
noncomputable def jX12_colours_18 (g : ps_G) (x0 : Nat) (x1 : Int32) (x2 : Int32) (x3 : Int32) (k0 : Int32) : Option (ps_G) := if (k0 = 0) ∨ (k0 = (1 : Int32)) then (jX12_colours_61 g x0 x1 x2 x3 k0) else (if ¬ k0 = (4 : Int32) then (jX12_colours_47 g x0 x1 x2 x3 k0) else (if (fX12_in x2 (0 : Int32) (7 : Int32)) = 0 then (jX12_colours_61 g x0 x1 x2 x3 k0) else (jX12_colours_47 g x0 x1 x2 x3 k0)))
theorem pjX12_colours_18 {d : Nat} {Q : ps_Rs → ps_G → Prop} {g : ps_G} {x0 : Nat} {x1 : Int32} {x2 : Int32} {x3 : Int32} {k0 : Int32} {r : ps_G} (h : jX12_colours_18 g x0 x1 x2 x3 k0 = some r) (hk : Q (.inl none) r) : ps_At mX12_colours (d + 2) 18 [(0, .ref x0), (1, .int x1), (2, .int x2), (3, .int x3)] [.int k0] g Q := by
  unfold jX12_colours_18 at h
  refine sX12_colours_18 ?_
  have kT43 : (jX12_colours_61 g x0 x1 x2 x3 k0) = some r → ps_At mX12_colours (d + 2) 61 [(0, .ref x0), (1, .int x1), (2, .int x2), (3, .int x3), (4, .int k0)] [] g Q := fun h => by
    exact ps_weak (pjX12_colours_61 h hk) ⟨rfl, rfl, rfl, rfl, rfl, trivial⟩
  refine ⟨by decide, ?_⟩
  refine And.intro (fun hc5 => ?_) (fun hc5 => ?_)
  · exact ps_weak (kT43 (q_ifp (Or.inl hc5) h)) ⟨rfl, rfl, rfl, rfl, rfl, trivial⟩
  · refine And.intro (fun hc6 => ?_) (fun hc6 => ?_)
    · exact ps_weak (kT43 (q_ifp (Or.inr (hc6)) h)) ⟨rfl, rfl, rfl, rfl, rfl, trivial⟩
    · replace h := q_ifn (not_or.mpr ⟨hc5, hc6⟩) h
      refine And.intro (fun hc31 => ?_) (fun hc31 => ?_)
      · replace h := q_ifp (hc31) h
        exact ps_weak (pjX12_colours_47 h hk) ⟨rfl, rfl, rfl, rfl, rfl, trivial⟩
      · replace h := q_ifn (hc31) h
        refine rX12_in rfl ?_
        refine And.intro (fun hc38 => ?_) (fun hc38 => ?_)
        · replace h := q_ifp (hc38) h
          exact ps_weak (pjX12_colours_61 h hk) ⟨rfl, rfl, rfl, rfl, rfl, trivial⟩
        · replace h := q_ifn (hc38) h
          exact ps_weak (pjX12_colours_47 h hk) ⟨rfl, rfl, rfl, rfl, rfl, trivial⟩
noncomputable def fX12_colours (g : ps_G) (x0 : Nat) (x1 : Int32) (x2 : Int32) (x3 : Int32) : Option (ps_G) := Option.bind (q_ob 12 g x0) fun u1 => Option.bind (fX12_isLayer g x0 x1) fun v2 => if v2 = 0 then (jX12_colours_18 g x0 x1 x2 x3 (-1 : Int32)) else (Option.bind (q_ob 12 g x0) fun u45 => Option.bind (fX12_get g x0 x1 (1 : Int32)) fun v46 => jX12_colours_18 g x0 x1 x2 x3 v46)
theorem rX12_colours {d : Nat} {Q : ps_Rs → ps_G → Prop} {g : ps_G} {x0 : Nat} {x1 : Int32} {x2 : Int32} {x3 : Int32} {r : ps_G} (h : fX12_colours g x0 x1 x2 x3 = some r) (hk : Q (.inl none) r) : ps_Ok mX12_colours (d + 2) [.ref x0, .int x1, .int x2, .int x3] g Q := by
  unfold fX12_colours at h
  refine sX12_colours_0 ?_
  replace h := q_be h
  obtain ⟨u1, hv, h⟩ := h
  replace hv := q_ob_e hv
  obtain ⟨_, cu1⟩ := hv
  replace h := q_be h
  obtain ⟨v2, hv, h⟩ := h
  refine ⟨⟨some _, rfl⟩, ⟨_, cu1⟩, ?_⟩
  refine rX12_isLayer hv ?_
  refine And.intro (fun hc3 => ?_) (fun hc3 => ?_)
  · replace h := q_ifp (hc3) h
    refine sX12_colours_17 ?_
    exact ps_weak (pjX12_colours_18 h hk) ⟨rfl, rfl, rfl, rfl, trivial⟩
  · replace h := q_ifn (hc3) h
    replace h := q_be h
    obtain ⟨u45, hv, h⟩ := h
    replace hv := q_ob_e hv
    obtain ⟨_, cu45⟩ := hv
    replace h := q_be h
    obtain ⟨v46, hv, h⟩ := h
    refine ⟨⟨some _, rfl⟩, ⟨_, cu45⟩, ?_⟩
    refine rX12_get hv ?_
    exact ps_weak (pjX12_colours_18 h hk) ⟨rfl, rfl, rfl, rfl, trivial⟩
noncomputable def jX12_ramp_93 (g : ps_G) (x0 : Nat) (x1 : Int32) (x2 : Int32) (x3 : Int32) (x4 : Int32) (x5 : Int32) (k0 : Nat) (k1 : Int32) : Option (ps_G) := Option.bind (q_sI 12 0 g k0 k1) fun g3 => Option.bind (q_fI 12 0 g3 x0) fun v4 => if v4 ≤ 0 then (Option.bind (q_ob 12 g3 x0) fun u6 => Option.bind (fX12_put g3 x0 x1 (13 : Int32) x2) fun v7 => Option.bind (q_ob 12 v7 x0) fun u8 => Option.bind (fX12_put v7 x0 x1 (14 : Int32) x3) fun v9 => Option.bind (q_ob 12 v9 x0) fun u10 => Option.bind (fX12_put v9 x0 x1 (15 : Int32) x4) fun v11 => Option.bind (q_ob 12 v11 x0) fun u12 => Option.bind (fX12_put v11 x0 x1 (16 : Int32) x5) fun v13 => Option.bind (q_ob 12 v13 x0) fun u14 => Option.bind (fX12_edited v13 x0) fun v15 => Option.bind (q_ob 12 v15 x0) fun u16 => Option.bind (fX12_forget v15 x0) fun v17 => some v17) else (some g3)
theorem pjX12_ramp_93 {d : Nat} {Q : ps_Rs → ps_G → Prop} {g : ps_G} {x0 : Nat} {x1 : Int32} {x2 : Int32} {x3 : Int32} {x4 : Int32} {x5 : Int32} {k0 : Nat} {k1 : Int32} {r : ps_G} (h : jX12_ramp_93 g x0 x1 x2 x3 x4 x5 k0 k1 = some r) (hk : Q (.inl none) r) : ps_At mX12_ramp (d + 3) 93 [(0, .ref x0), (1, .int x1), (2, .int x2), (3, .int x3), (4, .int x4), (5, .int x5)] [.int k1, .ref k0] g Q := by
  unfold jX12_ramp_93 at h
  refine sX12_ramp_93 ?_
  replace h := q_be h
  obtain ⟨g3, hv, h⟩ := h
  replace hv := q_sI_e hv
  obtain ⟨_, cg3, dg3, yg3⟩ := hv
  replace h := q_be h
  obtain ⟨v4, hv, h⟩ := h
  replace hv := q_fI_e hv
  obtain ⟨_, cv4, dv4⟩ := hv
  refine ⟨_, cg3, dg3, rfl, rfl, _, yg3, ⟨some _, rfl⟩, _, _, cv4, dv4, ?_⟩
  refine And.intro (fun hc5 => ?_) (fun hc5 => ?_)
  · replace h := q_ifp (hc5) h
    refine sX12_ramp_104 ?_
    replace h := q_be h
    obtain ⟨u6, hv, h⟩ := h
    replace hv := q_ob_e hv
    obtain ⟨_, cu6⟩ := hv
    replace h := q_be h
    obtain ⟨v7, hv, h⟩ := h
    refine ⟨⟨some _, rfl⟩, ⟨_, cu6⟩, ?_⟩
    refine rX12_put hv ?_
    replace h := q_be h
    obtain ⟨u8, hv, h⟩ := h
    replace hv := q_ob_e hv
    obtain ⟨_, cu8⟩ := hv
    replace h := q_be h
    obtain ⟨v9, hv, h⟩ := h
    refine ⟨⟨some _, rfl⟩, ⟨_, cu8⟩, ?_⟩
    refine rX12_put hv ?_
    replace h := q_be h
    obtain ⟨u10, hv, h⟩ := h
    replace hv := q_ob_e hv
    obtain ⟨_, cu10⟩ := hv
    replace h := q_be h
    obtain ⟨v11, hv, h⟩ := h
    refine ⟨⟨some _, rfl⟩, ⟨_, cu10⟩, ?_⟩
    refine rX12_put hv ?_
    replace h := q_be h
    obtain ⟨u12, hv, h⟩ := h
    replace hv := q_ob_e hv
    obtain ⟨_, cu12⟩ := hv
    replace h := q_be h
    obtain ⟨v13, hv, h⟩ := h
    refine ⟨⟨some _, rfl⟩, ⟨_, cu12⟩, ?_⟩
    refine rX12_put hv ?_
    replace h := q_be h
    obtain ⟨u14, hv, h⟩ := h
    replace hv := q_ob_e hv
    obtain ⟨_, cu14⟩ := hv
    replace h := q_be h
    obtain ⟨v15, hv, h⟩ := h
    refine ⟨⟨some _, rfl⟩, ⟨_, cu14⟩, ?_⟩
    refine rX12_edited hv ?_
    replace h := q_be h
    obtain ⟨u16, hv, h⟩ := h
    replace hv := q_ob_e hv
    obtain ⟨_, cu16⟩ := hv
    replace h := q_be h
    obtain ⟨v17, hv, h⟩ := h
    refine ⟨⟨some _, rfl⟩, ⟨_, cu16⟩, ?_⟩
    refine rX12_forget hv ?_
    cases h
    exact ⟨rfl, rfl, hk⟩
  · replace h := q_ifn (hc5) h
    cases h
    exact ⟨rfl, rfl, hk⟩
noncomputable def jX12_ramp_76 (g : ps_G) (x0 : Nat) (x1 : Int32) (x2 : Int32) (x3 : Int32) (x4 : Int32) (x5 : Int32) (k0 : Nat) : Option (ps_G) := jX12_ramp_93 g x0 x1 x2 x3 x4 x5 k0 (1 : Int32)
theorem pjX12_ramp_76 {d : Nat} {Q : ps_Rs → ps_G → Prop} {g : ps_G} {x0 : Nat} {x1 : Int32} {x2 : Int32} {x3 : Int32} {x4 : Int32} {x5 : Int32} {k0 : Nat} {r : ps_G} (h : jX12_ramp_76 g x0 x1 x2 x3 x4 x5 k0 = some r) (hk : Q (.inl none) r) : ps_At mX12_ramp (d + 3) 76 [(0, .ref x0), (1, .int x1), (2, .int x2), (3, .int x3), (4, .int x4), (5, .int x5)] [.ref k0] g Q := by
  unfold jX12_ramp_76 at h
  refine sX12_ramp_76 ?_
  exact ps_weak (pjX12_ramp_93 h hk) ⟨rfl, rfl, rfl, rfl, rfl, rfl, trivial⟩
noncomputable def jX12_ramp_80 (g : ps_G) (x0 : Nat) (x1 : Int32) (x2 : Int32) (x3 : Int32) (x4 : Int32) (x5 : Int32) (k0 : Nat) : Option (ps_G) := Option.bind (q_ob 12 g x0) fun u23 => Option.bind (fX12_isLayer g x0 x1) fun v24 => jX12_ramp_93 g x0 x1 x2 x3 x4 x5 k0 (if v24 = 0 then (2 : Int32) else (0 : Int32))
theorem pjX12_ramp_80 {d : Nat} {Q : ps_Rs → ps_G → Prop} {g : ps_G} {x0 : Nat} {x1 : Int32} {x2 : Int32} {x3 : Int32} {x4 : Int32} {x5 : Int32} {k0 : Nat} {r : ps_G} (h : jX12_ramp_80 g x0 x1 x2 x3 x4 x5 k0 = some r) (hk : Q (.inl none) r) : ps_At mX12_ramp (d + 3) 80 [(0, .ref x0), (1, .int x1), (2, .int x2), (3, .int x3), (4, .int x4), (5, .int x5)] [.ref k0] g Q := by
  unfold jX12_ramp_80 at h
  refine sX12_ramp_80 ?_
  replace h := q_be h
  obtain ⟨u23, hv, h⟩ := h
  replace hv := q_ob_e hv
  obtain ⟨_, cu23⟩ := hv
  replace h := q_be h
  obtain ⟨v24, hv, h⟩ := h
  refine ⟨⟨some _, rfl⟩, ⟨_, cu23⟩, ?_⟩
  refine rX12_isLayer hv ?_
  have kJ27 : ∀ w26 : Int32, w26 = (if v24 = 0 then (2 : Int32) else (0 : Int32)) → ps_At mX12_ramp (d + 3) 93 [(0, .ref x0), (1, .int x1), (2, .int x2), (3, .int x3), (4, .int x4), (5, .int x5)] [.int w26, .ref k0] g Q := by
    rintro _ rfl
    exact ps_weak (pjX12_ramp_93 h hk) ⟨rfl, rfl, rfl, rfl, rfl, rfl, trivial⟩
  refine And.intro (fun hc25 => ?_) (fun hc25 => ?_)
  · refine sX12_ramp_92 ?_
    exact ps_weak (kJ27 _ (if_pos (hc25)).symm) ⟨rfl, rfl, rfl, rfl, rfl, rfl, trivial⟩
  · exact ps_weak (kJ27 _ (if_neg (hc25)).symm) ⟨rfl, rfl, rfl, rfl, rfl, rfl, trivial⟩
noncomputable def jX12_ramp_51 (g : ps_G) (x0 : Nat) (x1 : Int32) (x2 : Int32) (x3 : Int32) (x4 : Int32) (x5 : Int32) (k0 : Int32) : Option (ps_G) := if k0 = 0 then (jX12_ramp_76 g x0 x1 x2 x3 x4 x5 x0) else (Option.bind (q_ob 12 g x0) fun u20 => Option.bind (fX12_isLayer g x0 x1) fun v21 => if v21 = 0 then (jX12_ramp_80 g x0 x1 x2 x3 x4 x5 x0) else (Option.bind (q_ob 12 g x0) fun u28 => Option.bind (fX12_is g x0 x1 (3 : Int32)) fun v29 => if ¬ v29 = 0 then (jX12_ramp_80 g x0 x1 x2 x3 x4 x5 x0) else (jX12_ramp_76 g x0 x1 x2 x3 x4 x5 x0)))
theorem pjX12_ramp_51 {d : Nat} {Q : ps_Rs → ps_G → Prop} {g : ps_G} {x0 : Nat} {x1 : Int32} {x2 : Int32} {x3 : Int32} {x4 : Int32} {x5 : Int32} {k0 : Int32} {r : ps_G} (h : jX12_ramp_51 g x0 x1 x2 x3 x4 x5 k0 = some r) (hk : Q (.inl none) r) : ps_At mX12_ramp (d + 3) 51 [(0, .ref x0), (1, .int x1), (2, .int x2), (3, .int x3), (4, .int x4), (5, .int x5)] [.int k0] g Q := by
  unfold jX12_ramp_51 at h
  refine sX12_ramp_51 ?_
  refine ⟨by decide, ⟨some _, rfl⟩, ?_⟩
  refine And.intro (fun hc2 => ?_) (fun hc2 => ?_)
  · replace h := q_ifp (hc2) h
    exact ps_weak (pjX12_ramp_76 h hk) ⟨rfl, rfl, rfl, rfl, rfl, rfl, trivial⟩
  · replace h := q_ifn (hc2) h
    replace h := q_be h
    obtain ⟨u20, hv, h⟩ := h
    replace hv := q_ob_e hv
    obtain ⟨_, cu20⟩ := hv
    replace h := q_be h
    obtain ⟨v21, hv, h⟩ := h
    refine ⟨⟨some _, rfl⟩, ⟨_, cu20⟩, ?_⟩
    refine rX12_isLayer hv ?_
    refine And.intro (fun hc22 => ?_) (fun hc22 => ?_)
    · replace h := q_ifp (hc22) h
      exact ps_weak (pjX12_ramp_80 h hk) ⟨rfl, rfl, rfl, rfl, rfl, rfl, trivial⟩
    · replace h := q_ifn (hc22) h
      replace h := q_be h
      obtain ⟨u28, hv, h⟩ := h
      replace hv := q_ob_e hv
      obtain ⟨_, cu28⟩ := hv
      replace h := q_be h
      obtain ⟨v29, hv, h⟩ := h
      refine ⟨⟨some _, rfl⟩, ⟨_, cu28⟩, ?_⟩
      refine rX12_is hv ?_
      refine And.intro (fun hc30 => ?_) (fun hc30 => ?_)
      · replace h := q_ifp (hc30) h
        exact ps_weak (pjX12_ramp_80 h hk) ⟨rfl, rfl, rfl, rfl, rfl, rfl, trivial⟩
      · replace h := q_ifn (hc30) h
        exact ps_weak (pjX12_ramp_76 h hk) ⟨rfl, rfl, rfl, rfl, rfl, rfl, trivial⟩
noncomputable def jX12_ramp_50 (g : ps_G) (x0 : Nat) (x1 : Int32) (x2 : Int32) (x3 : Int32) (x4 : Int32) (x5 : Int32) : Option (ps_G) := jX12_ramp_51 g x0 x1 x2 x3 x4 x5 (0 : Int32)
theorem pjX12_ramp_50 {d : Nat} {Q : ps_Rs → ps_G → Prop} {g : ps_G} {x0 : Nat} {x1 : Int32} {x2 : Int32} {x3 : Int32} {x4 : Int32} {x5 : Int32} {r : ps_G} (h : jX12_ramp_50 g x0 x1 x2 x3 x4 x5 = some r) (hk : Q (.inl none) r) : ps_At mX12_ramp (d + 3) 50 [(0, .ref x0), (1, .int x1), (2, .int x2), (3, .int x3), (4, .int x4), (5, .int x5)] [] g Q := by
  unfold jX12_ramp_50 at h
  refine sX12_ramp_50 ?_
  exact ps_weak (pjX12_ramp_51 h hk) ⟨rfl, rfl, rfl, rfl, rfl, rfl, trivial⟩
noncomputable def fX12_ramp (g : ps_G) (x0 : Nat) (x1 : Int32) (x2 : Int32) (x3 : Int32) (x4 : Int32) (x5 : Int32) : Option (ps_G) := if (fX12_in x2 (-100 : Int32) (100 : Int32)) = 0 then (jX12_ramp_50 g x0 x1 x2 x3 x4 x5) else (if (fX12_in x3 (-100 : Int32) (100 : Int32)) = 0 then (jX12_ramp_50 g x0 x1 x2 x3 x4 x5) else (if (fX12_in x4 (-100 : Int32) (100 : Int32)) = 0 then (jX12_ramp_50 g x0 x1 x2 x3 x4 x5) else (if (fX12_in x5 (-100 : Int32) (100 : Int32)) = 0 then (jX12_ramp_50 g x0 x1 x2 x3 x4 x5) else (jX12_ramp_51 g x0 x1 x2 x3 x4 x5 (1 : Int32)))))
theorem rX12_ramp {d : Nat} {Q : ps_Rs → ps_G → Prop} {g : ps_G} {x0 : Nat} {x1 : Int32} {x2 : Int32} {x3 : Int32} {x4 : Int32} {x5 : Int32} {r : ps_G} (h : fX12_ramp g x0 x1 x2 x3 x4 x5 = some r) (hk : Q (.inl none) r) : ps_Ok mX12_ramp (d + 3) [.ref x0, .int x1, .int x2, .int x3, .int x4, .int x5] g Q := by
  unfold fX12_ramp at h
  refine sX12_ramp_0 ?_
  refine rX12_in rfl ?_
  refine And.intro (fun hc1 => ?_) (fun hc1 => ?_)
  · replace h := q_ifp (hc1) h
    exact ps_weak (pjX12_ramp_50 h hk) ⟨rfl, rfl, rfl, rfl, rfl, rfl, trivial⟩
  · replace h := q_ifn (hc1) h
    refine rX12_in rfl ?_
    refine And.intro (fun hc37 => ?_) (fun hc37 => ?_)
    · replace h := q_ifp (hc37) h
      exact ps_weak (pjX12_ramp_50 h hk) ⟨rfl, rfl, rfl, rfl, rfl, rfl, trivial⟩
    · replace h := q_ifn (hc37) h
      refine rX12_in rfl ?_
      refine And.intro (fun hc38 => ?_) (fun hc38 => ?_)
      · replace h := q_ifp (hc38) h
        exact ps_weak (pjX12_ramp_50 h hk) ⟨rfl, rfl, rfl, rfl, rfl, rfl, trivial⟩
      · replace h := q_ifn (hc38) h
        refine rX12_in rfl ?_
        refine And.intro (fun hc39 => ?_) (fun hc39 => ?_)
        · replace h := q_ifp (hc39) h
          exact ps_weak (pjX12_ramp_50 h hk) ⟨rfl, rfl, rfl, rfl, rfl, rfl, trivial⟩
        · replace h := q_ifn (hc39) h
          exact ps_weak (pjX12_ramp_51 h hk) ⟨rfl, rfl, rfl, rfl, rfl, rfl, trivial⟩
noncomputable def jX12_about_28 (g : ps_G) (x0 : Nat) (x1 : Int32) (x2 : Int32) (k0 : Nat) (k1 : Int32) : Option (Int32 × ps_G) := Option.bind (q_sI 12 0 g k0 k1) fun g8 => Option.bind (q_fI 12 0 g8 x0) fun v9 => if v9 ≤ 0 then (if ¬ x2 = (9 : Int32) then (if (9 : Int32) ≤ x2 then (if (12 : Int32) ≤ x2 then (Option.bind (q_ob 12 g8 x0) fun u14 => Option.bind (fX12_get g8 x0 x1 (x2 + (1 : Int32))) fun v15 => some (v15, g8)) else (Option.bind (q_ob 12 g8 x0) fun u16 => Option.bind (fX12_get g8 x0 x1 (x2 + (1 : Int32))) fun v17 => some (v17, g8))) else (Option.bind (q_ob 12 g8 x0) fun u20 => Option.bind (fX12_get g8 x0 x1 (x2 + (1 : Int32))) fun v21 => some (v21, g8))) else (Option.bind (q_ob 12 g8 x0) fun u24 => Option.bind (fX12_many g8 x0 x1) fun v25 => some (v25, g8))) else (some ((0 : Int32), g8))
theorem pjX12_about_28 {d : Nat} {Q : ps_Rs → ps_G → Prop} {g : ps_G} {x0 : Nat} {x1 : Int32} {x2 : Int32} {k0 : Nat} {k1 : Int32} {r : Int32 × ps_G} (h : jX12_about_28 g x0 x1 x2 k0 k1 = some r) (hk : Q (.inl (some (.int r.1))) r.2) : ps_At mX12_about (d + 3) 28 [(0, .ref x0), (1, .int x1), (2, .int x2)] [.int k1, .ref k0] g Q := by
  unfold jX12_about_28 at h
  refine sX12_about_28 ?_
  replace h := q_be h
  obtain ⟨g8, hv, h⟩ := h
  replace hv := q_sI_e hv
  obtain ⟨_, cg8, dg8, yg8⟩ := hv
  replace h := q_be h
  obtain ⟨v9, hv, h⟩ := h
  replace hv := q_fI_e hv
  obtain ⟨_, cv9, dv9⟩ := hv
  refine ⟨_, cg8, dg8, rfl, rfl, _, yg8, ⟨some _, rfl⟩, _, _, cv9, dv9, ?_⟩
  refine And.intro (fun hc10 => ?_) (fun hc10 => ?_)
  · replace h := q_ifp (hc10) h
    refine sX12_about_40 ?_
    refine And.intro (fun hc11 => ?_) (fun hc11 => ?_)
    · replace h := q_ifp (hc11) h
      refine sX12_about_52 ?_
      refine And.intro (fun hc12 => ?_) (fun hc12 => ?_)
      · replace h := q_ifp (hc12) h
        refine sX12_about_67 ?_
        refine And.intro (fun hc13 => ?_) (fun hc13 => ?_)
        · replace h := q_ifp (hc13) h
          refine sX12_about_82 ?_
          replace h := q_be h
          obtain ⟨u14, hv, h⟩ := h
          replace hv := q_ob_e hv
          obtain ⟨_, cu14⟩ := hv
          replace h := q_be h
          obtain ⟨v15, hv, h⟩ := h
          refine ⟨⟨some _, rfl⟩, ⟨_, cu14⟩, ?_⟩
          refine rX12_get hv ?_
          cases h
          exact ⟨rfl, hk⟩
        · replace h := q_ifn (hc13) h
          replace h := q_be h
          obtain ⟨u16, hv, h⟩ := h
          replace hv := q_ob_e hv
          obtain ⟨_, cu16⟩ := hv
          replace h := q_be h
          obtain ⟨v17, hv, h⟩ := h
          refine ⟨⟨some _, rfl⟩, ⟨_, cu16⟩, ?_⟩
          refine rX12_get hv ?_
          cases h
          exact ⟨rfl, hk⟩
      · replace h := q_ifn (hc12) h
        replace h := q_be h
        obtain ⟨u20, hv, h⟩ := h
        replace hv := q_ob_e hv
        obtain ⟨_, cu20⟩ := hv
        replace h := q_be h
        obtain ⟨v21, hv, h⟩ := h
        refine ⟨⟨some _, rfl⟩, ⟨_, cu20⟩, ?_⟩
        refine rX12_get hv ?_
        cases h
        exact ⟨rfl, hk⟩
    · replace h := q_ifn (hc11) h
      replace h := q_be h
      obtain ⟨u24, hv, h⟩ := h
      replace hv := q_ob_e hv
      obtain ⟨_, cu24⟩ := hv
      replace h := q_be h
      obtain ⟨v25, hv, h⟩ := h
      refine ⟨⟨some _, rfl⟩, ⟨_, cu24⟩, ?_⟩
      refine rX12_many hv ?_
      cases h
      exact ⟨rfl, hk⟩
  · replace h := q_ifn (hc10) h
    cases h
    exact ⟨rfl, hk⟩
noncomputable def fX12_about (g : ps_G) (x0 : Nat) (x1 : Int32) (x2 : Int32) : Option (Int32 × ps_G) := if ¬ (fX12_in x2 (0 : Int32) (15 : Int32)) = 0 then (Option.bind (q_ob 12 g x0) fun u3 => Option.bind (fX12_isLayer g x0 x1) fun v4 => jX12_about_28 g x0 x1 x2 x0 (if ¬ v4 = 0 then (0 : Int32) else (2 : Int32))) else (jX12_about_28 g x0 x1 x2 x0 (1 : Int32))
theorem rX12_about {d : Nat} {Q : ps_Rs → ps_G → Prop} {g : ps_G} {x0 : Nat} {x1 : Int32} {x2 : Int32} {r : Int32 × ps_G} (h : fX12_about g x0 x1 x2 = some r) (hk : Q (.inl (some (.int r.1))) r.2) : ps_Ok mX12_about (d + 3) [.ref x0, .int x1, .int x2] g Q := by
  unfold fX12_about at h
  refine sX12_about_0 ?_
  refine ⟨⟨some _, rfl⟩, ?_⟩
  refine rX12_in rfl ?_
  refine And.intro (fun hc1 => ?_) (fun hc1 => ?_)
  · replace h := q_ifp (hc1) h
    refine sX12_about_15 ?_
    replace h := q_be h
    obtain ⟨u3, hv, h⟩ := h
    replace hv := q_ob_e hv
    obtain ⟨_, cu3⟩ := hv
    replace h := q_be h
    obtain ⟨v4, hv, h⟩ := h
    refine ⟨⟨some _, rfl⟩, ⟨_, cu3⟩, ?_⟩
    refine rX12_isLayer hv ?_
    have kJ7 : ∀ w6 : Int32, w6 = (if ¬ v4 = 0 then (0 : Int32) else (2 : Int32)) → ps_At mX12_about (d + 3) 28 [(0, .ref x0), (1, .int x1), (2, .int x2)] [.int w6, .ref x0] g Q := by
      rintro _ rfl
      exact ps_weak (pjX12_about_28 h hk) ⟨rfl, rfl, rfl, trivial⟩
    refine And.intro (fun hc5 => ?_) (fun hc5 => ?_)
    · refine sX12_about_27 ?_
      exact ps_weak (kJ7 _ (if_pos (hc5)).symm) ⟨rfl, rfl, rfl, trivial⟩
    · exact ps_weak (kJ7 _ (if_neg (hc5)).symm) ⟨rfl, rfl, rfl, trivial⟩
  · replace h := q_ifn (hc1) h
    exact ps_weak (pjX12_about_28 h hk) ⟨rfl, rfl, rfl, trivial⟩
noncomputable def jX12_isPlace_29 (g : ps_G) (k0 : Int32) : Option (Int32) := Option.bind (q_bl k0) fun v3 => some v3
theorem pjX12_isPlace_29 {d : Nat} {Q : ps_Rs → ps_G → Prop} {g : ps_G} {k0 : Int32} {r : Int32} (h : jX12_isPlace_29 g k0 = some r) (hk : Q (.inl (some (.int r))) g) : ps_At mX12_isPlace d 29 [] [.int k0] g Q := by
  unfold jX12_isPlace_29 at h
  refine sX12_isPlace_29 ?_
  replace h := q_be h
  obtain ⟨v3, hv, h⟩ := h
  replace hv := q_bl_e hv
  obtain ⟨zv3, rfl⟩ := hv
  cases h
  exact ⟨rfl, zv3, hk⟩
noncomputable def jX12_isPlace_28 (g : ps_G) : Option (Int32) := jX12_isPlace_29 g (0 : Int32)
theorem pjX12_isPlace_28 {d : Nat} {Q : ps_Rs → ps_G → Prop} {g : ps_G}  {r : Int32} (h : jX12_isPlace_28 g = some r) (hk : Q (.inl (some (.int r))) g) : ps_At mX12_isPlace d 28 [] [] g Q := by
  unfold jX12_isPlace_28 at h
  refine sX12_isPlace_28 ?_
  exact ps_weak (pjX12_isPlace_29 h hk) trivial
noncomputable def fX12_isPlace (g : ps_G) (x0 : Nat) (x1 : Int32) (x2 : Int32) : Option (Int32) := if (x1 < 0) ∨ (x2 < 0) then (jX12_isPlace_28 g) else (Option.bind (q_fI 12 13 g x0) fun v4 => if v4 ≤ x1 then (jX12_isPlace_28 g) else (Option.bind (q_fI 12 14 g x0) fun v6 => if v6 ≤ x2 then (jX12_isPlace_28 g) else (jX12_isPlace_29 g (1 : Int32))))
theorem rX12_isPlace {d : Nat} {Q : ps_Rs → ps_G → Prop} {g : ps_G} {x0 : Nat} {x1 : Int32} {x2 : Int32} {r : Int32} (h : fX12_isPlace g x0 x1 x2 = some r) (hk : Q (.inl (some (.int r))) g) : ps_Ok mX12_isPlace d [.ref x0, .int x1, .int x2] g Q := by
  unfold fX12_isPlace at h
  refine sX12_isPlace_0 ?_
  have kT12 : (jX12_isPlace_28 g) = some r → ps_At mX12_isPlace d 28 [] [] g Q := fun h => by
    exact ps_weak (pjX12_isPlace_28 h hk) trivial
  refine And.intro (fun hc1 => ?_) (fun hc1 => ?_)
  · exact ps_weak (kT12 (q_ifp (Or.inl hc1) h)) trivial
  · refine And.intro (fun hc2 => ?_) (fun hc2 => ?_)
    · exact ps_weak (kT12 (q_ifp (Or.inr (hc2)) h)) trivial
    · replace h := q_ifn (not_or.mpr ⟨hc1, hc2⟩) h
      replace h := q_be h
      obtain ⟨v4, hv, h⟩ := h
      replace hv := q_fI_e hv
      obtain ⟨_, cv4, dv4⟩ := hv
      refine ⟨⟨some _, rfl⟩, _, _, cv4, dv4, ?_⟩
      refine And.intro (fun hc5 => ?_) (fun hc5 => ?_)
      · replace h := q_ifp (hc5) h
        exact ps_weak (pjX12_isPlace_28 h hk) trivial
      · replace h := q_ifn (hc5) h
        replace h := q_be h
        obtain ⟨v6, hv, h⟩ := h
        replace hv := q_fI_e hv
        obtain ⟨_, cv6, dv6⟩ := hv
        refine ⟨⟨some _, rfl⟩, _, _, cv6, dv6, ?_⟩
        refine And.intro (fun hc7 => ?_) (fun hc7 => ?_)
        · replace h := q_ifp (hc7) h
          exact ps_weak (pjX12_isPlace_28 h hk) trivial
        · replace h := q_ifn (hc7) h
          exact ps_weak (pjX12_isPlace_29 h hk) trivial
noncomputable def fX12_at (g : ps_G) (x0 : Nat) (x1 : Int32) (x2 : Int32) : Option (Int32) := Option.bind (q_fI 12 13 g x0) fun v1 => some ((v1 * x2) + x1)
theorem rX12_at {d : Nat} {Q : ps_Rs → ps_G → Prop} {g : ps_G} {x0 : Nat} {x1 : Int32} {x2 : Int32} {r : Int32} (h : fX12_at g x0 x1 x2 = some r) (hk : Q (.inl (some (.int r))) g) : ps_Ok mX12_at d [.ref x0, .int x1, .int x2] g Q := by
  unfold fX12_at at h
  refine sX12_at_0 ?_
  replace h := q_be h
  obtain ⟨v1, hv, h⟩ := h
  replace hv := q_fI_e hv
  obtain ⟨_, cv1, dv1⟩ := hv
  cases h
  exact ⟨⟨some _, rfl⟩, _, _, cv1, dv1, rfl, hk⟩
noncomputable def jX12_pixel_52 (g : ps_G) (k0 : Int32) : Option (Int32 × ps_G) := some (k0, g)
theorem pjX12_pixel_52 {d : Nat} {Q : ps_Rs → ps_G → Prop} {g : ps_G} {k0 : Int32} {r : Int32 × ps_G} (h : jX12_pixel_52 g k0 = some r) (hk : Q (.inl (some (.int r.1))) r.2) : ps_At mX12_pixel (d + 3) 52 [] [.int k0] g Q := by
  unfold jX12_pixel_52 at h
  refine sX12_pixel_52 ?_
  cases h
  exact ⟨rfl, hk⟩
noncomputable def jX12_pixel_24 (g : ps_G) (x0 : Nat) (x1 : Int32) (x2 : Int32) (x3 : Int32) (k0 : Nat) (k1 : Int32) : Option (Int32 × ps_G) := Option.bind (q_sI 12 0 g k0 k1) fun g4 => Option.bind (q_fI 12 0 g4 x0) fun v5 => if v5 ≤ 0 then (Option.bind (q_ob 12 g4 x0) fun u8 => Option.bind (fX12_at g4 x0 x2 x3) fun v9 => Option.bind (q_ob 12 g4 x0) fun u10 => Option.bind (fX12_get g4 x0 x1 ((17 : Int32) + v9)) fun v11 => jX12_pixel_52 g4 v11) else (jX12_pixel_52 g4 (0 : Int32))
theorem pjX12_pixel_24 {d : Nat} {Q : ps_Rs → ps_G → Prop} {g : ps_G} {x0 : Nat} {x1 : Int32} {x2 : Int32} {x3 : Int32} {k0 : Nat} {k1 : Int32} {r : Int32 × ps_G} (h : jX12_pixel_24 g x0 x1 x2 x3 k0 k1 = some r) (hk : Q (.inl (some (.int r.1))) r.2) : ps_At mX12_pixel (d + 3) 24 [(0, .ref x0), (1, .int x1), (2, .int x2), (3, .int x3)] [.int k1, .ref k0] g Q := by
  unfold jX12_pixel_24 at h
  refine sX12_pixel_24 ?_
  replace h := q_be h
  obtain ⟨g4, hv, h⟩ := h
  replace hv := q_sI_e hv
  obtain ⟨_, cg4, dg4, yg4⟩ := hv
  replace h := q_be h
  obtain ⟨v5, hv, h⟩ := h
  replace hv := q_fI_e hv
  obtain ⟨_, cv5, dv5⟩ := hv
  refine ⟨_, cg4, dg4, rfl, rfl, _, yg4, ⟨some _, rfl⟩, _, _, cv5, dv5, ?_⟩
  refine And.intro (fun hc6 => ?_) (fun hc6 => ?_)
  · replace h := q_ifp (hc6) h
    refine sX12_pixel_38 ?_
    replace h := q_be h
    obtain ⟨u8, hv, h⟩ := h
    replace hv := q_ob_e hv
    obtain ⟨_, cu8⟩ := hv
    replace h := q_be h
    obtain ⟨v9, hv, h⟩ := h
    refine ⟨⟨some _, rfl⟩, ⟨some _, rfl⟩, ⟨_, cu8⟩, ?_⟩
    refine rX12_at hv ?_
    replace h := q_be h
    obtain ⟨u10, hv, h⟩ := h
    replace hv := q_ob_e hv
    obtain ⟨_, cu10⟩ := hv
    replace h := q_be h
    obtain ⟨v11, hv, h⟩ := h
    refine ⟨⟨_, cu10⟩, ?_⟩
    refine rX12_get hv ?_
    exact ps_weak (pjX12_pixel_52 h hk) trivial
  · replace h := q_ifn (hc6) h
    exact ps_weak (pjX12_pixel_52 h hk) trivial
noncomputable def jX12_pixel_23 (g : ps_G) (x0 : Nat) (x1 : Int32) (x2 : Int32) (x3 : Int32) (k0 : Nat) : Option (Int32 × ps_G) := jX12_pixel_24 g x0 x1 x2 x3 k0 (1 : Int32)
theorem pjX12_pixel_23 {d : Nat} {Q : ps_Rs → ps_G → Prop} {g : ps_G} {x0 : Nat} {x1 : Int32} {x2 : Int32} {x3 : Int32} {k0 : Nat} {r : Int32 × ps_G} (h : jX12_pixel_23 g x0 x1 x2 x3 k0 = some r) (hk : Q (.inl (some (.int r.1))) r.2) : ps_At mX12_pixel (d + 3) 23 [(0, .ref x0), (1, .int x1), (2, .int x2), (3, .int x3)] [.ref k0] g Q := by
  unfold jX12_pixel_23 at h
  refine sX12_pixel_23 ?_
  exact ps_weak (pjX12_pixel_24 h hk) ⟨rfl, rfl, rfl, rfl, trivial⟩
noncomputable def fX12_pixel (g : ps_G) (x0 : Nat) (x1 : Int32) (x2 : Int32) (x3 : Int32) : Option (Int32 × ps_G) := Option.bind (q_ob 12 g x0) fun u1 => Option.bind (fX12_is g x0 x1 (0 : Int32)) fun v2 => if v2 = 0 then (jX12_pixel_23 g x0 x1 x2 x3 x0) else (Option.bind (q_ob 12 g x0) fun u14 => Option.bind (fX12_isPlace g x0 x2 x3) fun v15 => if v15 = 0 then (jX12_pixel_23 g x0 x1 x2 x3 x0) else (jX12_pixel_24 g x0 x1 x2 x3 x0 (0 : Int32)))
theorem rX12_pixel {d : Nat} {Q : ps_Rs → ps_G → Prop} {g : ps_G} {x0 : Nat} {x1 : Int32} {x2 : Int32} {x3 : Int32} {r : Int32 × ps_G} (h : fX12_pixel g x0 x1 x2 x3 = some r) (hk : Q (.inl (some (.int r.1))) r.2) : ps_Ok mX12_pixel (d + 3) [.ref x0, .int x1, .int x2, .int x3] g Q := by
  unfold fX12_pixel at h
  refine sX12_pixel_0 ?_
  replace h := q_be h
  obtain ⟨u1, hv, h⟩ := h
  replace hv := q_ob_e hv
  obtain ⟨_, cu1⟩ := hv
  replace h := q_be h
  obtain ⟨v2, hv, h⟩ := h
  refine ⟨⟨some _, rfl⟩, ⟨some _, rfl⟩, ⟨_, cu1⟩, ?_⟩
  refine rX12_is hv ?_
  refine And.intro (fun hc3 => ?_) (fun hc3 => ?_)
  · replace h := q_ifp (hc3) h
    exact ps_weak (pjX12_pixel_23 h hk) ⟨rfl, rfl, rfl, rfl, trivial⟩
  · replace h := q_ifn (hc3) h
    replace h := q_be h
    obtain ⟨u14, hv, h⟩ := h
    replace hv := q_ob_e hv
    obtain ⟨_, cu14⟩ := hv
    replace h := q_be h
    obtain ⟨v15, hv, h⟩ := h
    refine ⟨⟨some _, rfl⟩, ⟨_, cu14⟩, ?_⟩
    refine rX12_isPlace hv ?_
    refine And.intro (fun hc16 => ?_) (fun hc16 => ?_)
    · replace h := q_ifp (hc16) h
      exact ps_weak (pjX12_pixel_23 h hk) ⟨rfl, rfl, rfl, rfl, trivial⟩
    · replace h := q_ifn (hc16) h
      exact ps_weak (pjX12_pixel_24 h hk) ⟨rfl, rfl, rfl, rfl, trivial⟩
noncomputable def jX12_masked_66 (g : ps_G) (k0 : Int32) : Option (Int32 × ps_G) := some (k0, g)
theorem pjX12_masked_66 {d : Nat} {Q : ps_Rs → ps_G → Prop} {g : ps_G} {k0 : Int32} {r : Int32 × ps_G} (h : jX12_masked_66 g k0 = some r) (hk : Q (.inl (some (.int r.1))) r.2) : ps_At mX12_masked (d + 2) 66 [] [.int k0] g Q := by
  unfold jX12_masked_66 at h
  refine sX12_masked_66 ?_
  cases h
  exact ⟨rfl, hk⟩
noncomputable def jX12_masked_23 (g : ps_G) (x0 : Nat) (x1 : Int32) (x2 : Int32) (x3 : Int32) (k0 : Nat) (k1 : Int32) : Option (Int32 × ps_G) := Option.bind (q_sI 12 0 g k0 k1) fun g4 => Option.bind (q_fI 12 0 g4 x0) fun v5 => if v5 ≤ 0 then (Option.bind (q_ob 12 g4 x0) fun u8 => Option.bind (fX12_get g4 x0 x1 (10 : Int32)) fun v9 => if ¬ v9 = 0 then (Option.bind (q_ob 12 g4 x0) fun u12 => Option.bind (fX12_at g4 x0 x2 x3) fun v13 => Option.bind (q_ob 12 g4 x0) fun u14 => Option.bind (fX12_get g4 x0 x1 ((593 : Int32) + v13)) fun v15 => jX12_masked_66 g4 v15) else (jX12_masked_66 g4 (-1 : Int32))) else (jX12_masked_66 g4 (0 : Int32))
theorem pjX12_masked_23 {d : Nat} {Q : ps_Rs → ps_G → Prop} {g : ps_G} {x0 : Nat} {x1 : Int32} {x2 : Int32} {x3 : Int32} {k0 : Nat} {k1 : Int32} {r : Int32 × ps_G} (h : jX12_masked_23 g x0 x1 x2 x3 k0 k1 = some r) (hk : Q (.inl (some (.int r.1))) r.2) : ps_At mX12_masked (d + 2) 23 [(0, .ref x0), (1, .int x1), (2, .int x2), (3, .int x3)] [.int k1, .ref k0] g Q := by
  unfold jX12_masked_23 at h
  refine sX12_masked_23 ?_
  replace h := q_be h
  obtain ⟨g4, hv, h⟩ := h
  replace hv := q_sI_e hv
  obtain ⟨_, cg4, dg4, yg4⟩ := hv
  replace h := q_be h
  obtain ⟨v5, hv, h⟩ := h
  replace hv := q_fI_e hv
  obtain ⟨_, cv5, dv5⟩ := hv
  refine ⟨_, cg4, dg4, rfl, rfl, _, yg4, ⟨some _, rfl⟩, _, _, cv5, dv5, ?_⟩
  refine And.intro (fun hc6 => ?_) (fun hc6 => ?_)
  · replace h := q_ifp (hc6) h
    refine sX12_masked_37 ?_
    replace h := q_be h
    obtain ⟨u8, hv, h⟩ := h
    replace hv := q_ob_e hv
    obtain ⟨_, cu8⟩ := hv
    replace h := q_be h
    obtain ⟨v9, hv, h⟩ := h
    refine ⟨⟨some _, rfl⟩, ⟨_, cu8⟩, ?_⟩
    refine rX12_get hv ?_
    refine And.intro (fun hc10 => ?_) (fun hc10 => ?_)
    · replace h := q_ifp (hc10) h
      refine sX12_masked_51 ?_
      replace h := q_be h
      obtain ⟨u12, hv, h⟩ := h
      replace hv := q_ob_e hv
      obtain ⟨_, cu12⟩ := hv
      replace h := q_be h
      obtain ⟨v13, hv, h⟩ := h
      refine ⟨⟨some _, rfl⟩, ⟨some _, rfl⟩, ⟨_, cu12⟩, ?_⟩
      refine rX12_at hv ?_
      replace h := q_be h
      obtain ⟨u14, hv, h⟩ := h
      replace hv := q_ob_e hv
      obtain ⟨_, cu14⟩ := hv
      replace h := q_be h
      obtain ⟨v15, hv, h⟩ := h
      refine ⟨⟨_, cu14⟩, ?_⟩
      refine rX12_get hv ?_
      exact ps_weak (pjX12_masked_66 h hk) trivial
    · replace h := q_ifn (hc10) h
      exact ps_weak (pjX12_masked_66 h hk) trivial
  · replace h := q_ifn (hc6) h
    exact ps_weak (pjX12_masked_66 h hk) trivial
noncomputable def jX12_masked_22 (g : ps_G) (x0 : Nat) (x1 : Int32) (x2 : Int32) (x3 : Int32) (k0 : Nat) : Option (Int32 × ps_G) := jX12_masked_23 g x0 x1 x2 x3 k0 (1 : Int32)
theorem pjX12_masked_22 {d : Nat} {Q : ps_Rs → ps_G → Prop} {g : ps_G} {x0 : Nat} {x1 : Int32} {x2 : Int32} {x3 : Int32} {k0 : Nat} {r : Int32 × ps_G} (h : jX12_masked_22 g x0 x1 x2 x3 k0 = some r) (hk : Q (.inl (some (.int r.1))) r.2) : ps_At mX12_masked (d + 2) 22 [(0, .ref x0), (1, .int x1), (2, .int x2), (3, .int x3)] [.ref k0] g Q := by
  unfold jX12_masked_22 at h
  refine sX12_masked_22 ?_
  exact ps_weak (pjX12_masked_23 h hk) ⟨rfl, rfl, rfl, rfl, trivial⟩
noncomputable def fX12_masked (g : ps_G) (x0 : Nat) (x1 : Int32) (x2 : Int32) (x3 : Int32) : Option (Int32 × ps_G) := Option.bind (q_ob 12 g x0) fun u1 => Option.bind (fX12_isLayer g x0 x1) fun v2 => if v2 = 0 then (jX12_masked_22 g x0 x1 x2 x3 x0) else (Option.bind (q_ob 12 g x0) fun u20 => Option.bind (fX12_isPlace g x0 x2 x3) fun v21 => if v21 = 0 then (jX12_masked_22 g x0 x1 x2 x3 x0) else (jX12_masked_23 g x0 x1 x2 x3 x0 (0 : Int32)))
theorem rX12_masked {d : Nat} {Q : ps_Rs → ps_G → Prop} {g : ps_G} {x0 : Nat} {x1 : Int32} {x2 : Int32} {x3 : Int32} {r : Int32 × ps_G} (h : fX12_masked g x0 x1 x2 x3 = some r) (hk : Q (.inl (some (.int r.1))) r.2) : ps_Ok mX12_masked (d + 2) [.ref x0, .int x1, .int x2, .int x3] g Q := by
  unfold fX12_masked at h
  refine sX12_masked_0 ?_
  replace h := q_be h
  obtain ⟨u1, hv, h⟩ := h
  replace hv := q_ob_e hv
  obtain ⟨_, cu1⟩ := hv
  replace h := q_be h
  obtain ⟨v2, hv, h⟩ := h
  refine ⟨⟨some _, rfl⟩, ⟨some _, rfl⟩, ⟨_, cu1⟩, ?_⟩
  refine rX12_isLayer hv ?_
  refine And.intro (fun hc3 => ?_) (fun hc3 => ?_)
  · replace h := q_ifp (hc3) h
    exact ps_weak (pjX12_masked_22 h hk) ⟨rfl, rfl, rfl, rfl, trivial⟩
  · replace h := q_ifn (hc3) h
    replace h := q_be h
    obtain ⟨u20, hv, h⟩ := h
    replace hv := q_ob_e hv
    obtain ⟨_, cu20⟩ := hv
    replace h := q_be h
    obtain ⟨v21, hv, h⟩ := h
    refine ⟨⟨some _, rfl⟩, ⟨_, cu20⟩, ?_⟩
    refine rX12_isPlace hv ?_
    refine And.intro (fun hc22 => ?_) (fun hc22 => ?_)
    · replace h := q_ifp (hc22) h
      exact ps_weak (pjX12_masked_22 h hk) ⟨rfl, rfl, rfl, rfl, trivial⟩
    · replace h := q_ifn (hc22) h
      exact ps_weak (pjX12_masked_23 h hk) ⟨rfl, rfl, rfl, rfl, trivial⟩
noncomputable def fX12_across (g : ps_G) (x0 : Nat) : Option (Int32) := Option.bind (q_fI 12 13 g x0) fun v1 => some ((v1 + (7 : Int32)) / (8 : Int32))
theorem rX12_across {d : Nat} {Q : ps_Rs → ps_G → Prop} {g : ps_G} {x0 : Nat} {r : Int32} (h : fX12_across g x0 = some r) (hk : Q (.inl (some (.int r))) g) : ps_Ok mX12_across d [.ref x0] g Q := by
  unfold fX12_across at h
  refine sX12_across_0 ?_
  replace h := q_be h
  obtain ⟨v1, hv, h⟩ := h
  replace hv := q_fI_e hv
  obtain ⟨_, cv1, dv1⟩ := hv
  cases h
  exact ⟨⟨some _, rfl⟩, _, _, cv1, dv1, by decide, _, rfl, rfl, hk⟩
noncomputable def bX12_depthOf_9 (g : ps_G) (x0 : Nat) (x2 : Int32) (x3 : Int32) : Option ((Int32 × Int32) ⊕ (Int32)) := if x3 < 0 then (some (.inr x2)) else (Option.bind (q_ob 12 g x0) fun u5 => Option.bind (fX12_get g x0 x3 (2 : Int32)) fun v6 => some (.inl (x2 + (1 : Int32), v6)))
theorem pbX12_depthOf_9 {d : Nat} {Q : ps_Rs → ps_G → Prop} {g : ps_G} {x0 : Nat} {x2 : Int32} {x3 : Int32} {x : (Int32 × Int32) ⊕ (Int32)} (h : bX12_depthOf_9 g x0 x2 x3 = some x) (hh : ∀ s' : Int32 × Int32, x = .inl s' → ps_At mX12_depthOf (d + 1) 9 [(0, .ref x0), (2, .int s'.1), (3, .int s'.2)] [] g Q) (he : ∀ r' : Int32, x = .inr r' → ps_At mX12_depthOf (d + 1) 26 [(2, .int r')] [] g Q) : ps_At mX12_depthOf (d + 1) 9 [(0, .ref x0), (2, .int x2), (3, .int x3)] [] g Q := by
  unfold bX12_depthOf_9 at h
  refine sX12_depthOf_9 ?_
  refine And.intro (fun hc3 => ?_) (fun hc3 => ?_)
  · replace h := q_ifp (hc3) h
    exact ps_weak (he x2 (Option.some.inj h).symm) ⟨rfl, trivial⟩
  · replace h := q_ifn (hc3) h
    replace h := q_be h
    obtain ⟨u5, hv, h⟩ := h
    replace hv := q_ob_e hv
    obtain ⟨_, cu5⟩ := hv
    replace h := q_be h
    obtain ⟨v6, hv, h⟩ := h
    refine ⟨by decide, ⟨some _, rfl⟩, ⟨_, cu5⟩, ?_⟩
    refine rX12_get hv ?_
    refine ⟨by decide, ?_⟩
    exact ps_weak (hh (x2 + (1 : Int32), v6) (Option.some.inj h).symm) ⟨rfl, rfl, rfl, trivial⟩
noncomputable def fX12_depthOf (g : ps_G) (x0 : Nat) (x1 : Int32) : Option (Int32) := Option.bind (q_ob 12 g x0) fun u1 => Option.bind (fX12_get g x0 x1 (2 : Int32)) fun v2 => Option.bind (q_lp (fun s => bX12_depthOf_9 g x0 s.1 s.2) ((0 : Int32), v2)) fun s9 => some s9
theorem rX12_depthOf {d : Nat} {Q : ps_Rs → ps_G → Prop} {g : ps_G} {x0 : Nat} {x1 : Int32} {r : Int32} (h : fX12_depthOf g x0 x1 = some r) (hk : Q (.inl (some (.int r))) g) : ps_Ok mX12_depthOf (d + 1) [.ref x0, .int x1] g Q := by
  unfold fX12_depthOf at h
  refine sX12_depthOf_0 ?_
  replace h := q_be h
  obtain ⟨u1, hv, h⟩ := h
  replace hv := q_ob_e hv
  obtain ⟨_, cu1⟩ := hv
  replace h := q_be h
  obtain ⟨v2, hv, h⟩ := h
  refine ⟨by decide, ⟨some _, rfl⟩, ⟨_, cu1⟩, ?_⟩
  refine rX12_get hv ?_
  refine ⟨by decide, ?_⟩
  replace h := q_be h
  obtain ⟨s9, hl, h⟩ := h
  refine ps_weak (q_lp_ok hl (fun s => ps_At mX12_depthOf (d + 1) 9 [(0, .ref x0), (2, .int s.1), (3, .int s.2)] [] g Q) (fun r => ps_At mX12_depthOf (d + 1) 26 [(2, .int r)] [] g Q) (fun s x hb hh he => pbX12_depthOf_9 hb hh he) ?_) ⟨rfl, rfl, rfl, trivial⟩
  refine (?_ : ps_At mX12_depthOf (d + 1) 26 [(2, .int s9)] [] g Q)
  refine sX12_depthOf_26 ?_
  cases h
  exact ⟨rfl, hk⟩
