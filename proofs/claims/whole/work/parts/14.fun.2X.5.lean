noncomputable def fX11_source (g : ps_G) (x0 : Nat) (x1 : Int32) (x2 : Int32) : Option ((String ⊕ Unit) × ps_G) := q_tc (fX11_range g x1 (-100 : Int32) (100 : Int32)) fun v1 g2 => q_tc (fX11_range g2 x2 (-100 : Int32) (100 : Int32)) fun v3 g4 => Option.bind (q_fR 11 8 g4 x0) fun v5 => Option.bind (v5) fun a6 => Option.bind (q_sI 1 6 g4 a6 x1) fun g7 => Option.bind (q_fR 11 8 g7 x0) fun v8 => Option.bind (v8) fun a9 => Option.bind (q_sI 1 7 g7 a9 x2) fun g10 => some (.inr (), g10)
theorem rX11_source {d : Nat} {Q : ps_Rs → ps_G → Prop} {g : ps_G} {x0 : Nat} {x1 : Int32} {x2 : Int32} {r : (String ⊕ Unit) × ps_G} (h : fX11_source g x0 x1 x2 = some r) (hk : Q (q_rV r.1) r.2) : ps_Ok mX11_source (d + 7) [.ref x0, .int x1, .int x2] g Q := by
  unfold fX11_source at h
  refine sX11_source_0 ?_
  replace h := q_tc_e h
  rcases h with ⟨E, g2, hv, rfl⟩ | ⟨v1, g2, hv, h⟩
  · exact rX11_range hv ⟨rfl, hk⟩
  refine rX11_range hv ?_
  replace h := q_tc_e h
  rcases h with ⟨E, g4, hv, rfl⟩ | ⟨v3, g4, hv, h⟩
  · exact rX11_range hv ⟨rfl, hk⟩
  refine rX11_range hv ?_
  replace h := q_be h
  obtain ⟨v5, hv, h⟩ := h
  replace hv := q_fR_e hv
  obtain ⟨_, cv5, dv5⟩ := hv
  replace h := q_be h
  obtain ⟨a6, ea6, h⟩ := h
  subst ea6
  replace h := q_be h
  obtain ⟨g7, hv, h⟩ := h
  replace hv := q_sI_e hv
  obtain ⟨_, cg7, dg7, yg7⟩ := hv
  replace h := q_be h
  obtain ⟨v8, hv, h⟩ := h
  replace hv := q_fR_e hv
  obtain ⟨_, cv8, dv8⟩ := hv
  replace h := q_be h
  obtain ⟨a9, ea9, h⟩ := h
  subst ea9
  replace h := q_be h
  obtain ⟨g10, hv, h⟩ := h
  replace hv := q_sI_e hv
  obtain ⟨_, cg10, dg10, yg10⟩ := hv
  cases h
  exact ⟨⟨some _, rfl⟩, _, _, cv5, dv5, _, cg7, dg7, rfl, rfl, _, yg7, ⟨some _, rfl⟩, _, _, cv8, dv8, _, cg10, dg10, rfl, rfl, _, yg10, rfl, rfl, hk⟩
noncomputable def jX1_addPoint_56 (g : ps_G) : Option (ps_G) := some g
theorem pjX1_addPoint_56 {d : Nat} {Q : ps_Rs → ps_G → Prop} {g : ps_G}  {r : ps_G} (h : jX1_addPoint_56 g = some r) (hk : Q (.inl none) r) : ps_At mX1_addPoint d 56 [] [] g Q := by
  unfold jX1_addPoint_56 at h
  refine sX1_addPoint_56 ?_
  cases h
  exact ⟨rfl, rfl, hk⟩
noncomputable def fX1_addPoint (g : ps_G) (x0 : Nat) (x1 : Int32) (x2 : Int32) (x3 : Int32) : Option (ps_G) := Option.bind (q_fI 1 8 g x0) fun v1 => if v1 < 0 then (jX1_addPoint_56 g) else (Option.bind (q_fI 1 8 g x0) fun v4 => if (20 : Int32) ≤ v4 then (jX1_addPoint_56 g) else (Option.bind (q_fR 1 9 g x0) fun v7 => Option.bind (v7) fun a8 => Option.bind (q_fI 1 8 g x0) fun v9 => Option.bind (q_wI g a8 v9 x1) fun g10 => Option.bind (q_fR 1 10 g10 x0) fun v11 => Option.bind (v11) fun a12 => Option.bind (q_fI 1 8 g10 x0) fun v13 => Option.bind (q_wI g10 a12 v13 x2) fun g14 => Option.bind (q_fR 1 11 g14 x0) fun v15 => Option.bind (v15) fun a16 => Option.bind (q_fI 1 8 g14 x0) fun v17 => Option.bind (q_wI g14 a16 v17 x3) fun g18 => Option.bind (q_fI 1 8 g18 x0) fun v19 => Option.bind (q_sI 1 8 g18 x0 (v19 + (1 : Int32))) fun g20 => jX1_addPoint_56 g20))
theorem rX1_addPoint {d : Nat} {Q : ps_Rs → ps_G → Prop} {g : ps_G} {x0 : Nat} {x1 : Int32} {x2 : Int32} {x3 : Int32} {r : ps_G} (h : fX1_addPoint g x0 x1 x2 x3 = some r) (hk : Q (.inl none) r) : ps_Ok mX1_addPoint d [.ref x0, .int x1, .int x2, .int x3] g Q := by
  unfold fX1_addPoint at h
  refine sX1_addPoint_0 ?_
  replace h := q_be h
  obtain ⟨v1, hv, h⟩ := h
  replace hv := q_fI_e hv
  obtain ⟨_, cv1, dv1⟩ := hv
  refine ⟨⟨some _, rfl⟩, _, _, cv1, dv1, ?_⟩
  refine And.intro (fun hc2 => ?_) (fun hc2 => ?_)
  · replace h := q_ifp (hc2) h
    exact ps_weak (pjX1_addPoint_56 h hk) trivial
  · replace h := q_ifn (hc2) h
    replace h := q_be h
    obtain ⟨v4, hv, h⟩ := h
    replace hv := q_fI_e hv
    obtain ⟨_, cv4, dv4⟩ := hv
    refine ⟨⟨some _, rfl⟩, _, _, cv4, dv4, ?_⟩
    refine And.intro (fun hc5 => ?_) (fun hc5 => ?_)
    · replace h := q_ifp (hc5) h
      exact ps_weak (pjX1_addPoint_56 h hk) trivial
    · replace h := q_ifn (hc5) h
      replace h := q_be h
      obtain ⟨v7, hv, h⟩ := h
      replace hv := q_fR_e hv
      obtain ⟨_, cv7, dv7⟩ := hv
      replace h := q_be h
      obtain ⟨a8, ea8, h⟩ := h
      subst ea8
      replace h := q_be h
      obtain ⟨v9, hv, h⟩ := h
      replace hv := q_fI_e hv
      obtain ⟨_, cv9, dv9⟩ := hv
      replace h := q_be h
      obtain ⟨g10, hv, h⟩ := h
      replace hv := q_wI_e hv
      obtain ⟨_, _, cg10, pg10, ig10, yg10⟩ := hv
      replace h := q_be h
      obtain ⟨v11, hv, h⟩ := h
      replace hv := q_fR_e hv
      obtain ⟨_, cv11, dv11⟩ := hv
      replace h := q_be h
      obtain ⟨a12, ea12, h⟩ := h
      subst ea12
      replace h := q_be h
      obtain ⟨v13, hv, h⟩ := h
      replace hv := q_fI_e hv
      obtain ⟨_, cv13, dv13⟩ := hv
      replace h := q_be h
      obtain ⟨g14, hv, h⟩ := h
      replace hv := q_wI_e hv
      obtain ⟨_, _, cg14, pg14, ig14, yg14⟩ := hv
      replace h := q_be h
      obtain ⟨v15, hv, h⟩ := h
      replace hv := q_fR_e hv
      obtain ⟨_, cv15, dv15⟩ := hv
      replace h := q_be h
      obtain ⟨a16, ea16, h⟩ := h
      subst ea16
      replace h := q_be h
      obtain ⟨v17, hv, h⟩ := h
      replace hv := q_fI_e hv
      obtain ⟨_, cv17, dv17⟩ := hv
      refine ⟨⟨some _, rfl⟩, _, _, cv7, dv7, ⟨some _, rfl⟩, _, _, cv9, dv9, _, _, cg10, pg10, ig10, _, yg10, ⟨some _, rfl⟩, _, _, cv11, dv11, ⟨some _, rfl⟩, _, _, cv13, dv13, _, _, cg14, pg14, ig14, _, yg14, ⟨some _, rfl⟩, _, _, cv15, dv15, ⟨some _, rfl⟩, _, _, cv17, dv17, ?_⟩
      replace h := q_be h
      obtain ⟨g18, hv, h⟩ := h
      replace hv := q_wI_e hv
      obtain ⟨_, _, cg18, pg18, ig18, yg18⟩ := hv
      replace h := q_be h
      obtain ⟨v19, hv, h⟩ := h
      replace hv := q_fI_e hv
      obtain ⟨_, cv19, dv19⟩ := hv
      replace h := q_be h
      obtain ⟨g20, hv, h⟩ := h
      replace hv := q_sI_e hv
      obtain ⟨_, cg20, dg20, yg20⟩ := hv
      refine ⟨_, _, cg18, pg18, ig18, _, yg18, ⟨some _, rfl⟩, rfl, _, _, cv19, dv19, _, cg20, dg20, rfl, rfl, _, yg20, ?_⟩
      exact ps_weak (pjX1_addPoint_56 h hk) trivial
noncomputable def fX11_point (g : ps_G) (x0 : Nat) (x1 : Int32) (x2 : Int32) (x3 : Int32) : Option ((String ⊕ Int32) × ps_G) := q_tc (fX11_range g x1 (-200 : Int32) (200 : Int32)) fun v1 g2 => q_tc (fX11_range g2 x2 (-200 : Int32) (200 : Int32)) fun v3 g4 => q_tc (fX11_range g4 x3 (0 : Int32) (255 : Int32)) fun v5 g6 => Option.bind (q_fR 11 8 g6 x0) fun v7 => Option.bind (v7) fun a8 => Option.bind (q_fI 1 8 g6 a8) fun v9 => if v9 < (20 : Int32) then (Option.bind (q_fR 11 8 g6 x0) fun v11 => Option.bind (v11) fun a12 => Option.bind (q_ob 1 g6 a12) fun u13 => Option.bind (fX1_addPoint g6 a12 x1 x2 x3) fun v14 => Option.bind (q_fR 11 8 v14 x0) fun v15 => Option.bind (v15) fun a16 => Option.bind (q_fI 1 8 v14 a16) fun v17 => some (.inr v17, v14)) else (some (.inl "java/lang/IndexOutOfBoundsException", ps_nw g6 6 ps_e0))
theorem rX11_point {d : Nat} {Q : ps_Rs → ps_G → Prop} {g : ps_G} {x0 : Nat} {x1 : Int32} {x2 : Int32} {x3 : Int32} {r : (String ⊕ Int32) × ps_G} (h : fX11_point g x0 x1 x2 x3 = some r) (hk : Q (q_rI r.1) r.2) : ps_Ok mX11_point (d + 7) [.ref x0, .int x1, .int x2, .int x3] g Q := by
  unfold fX11_point at h
  refine sX11_point_0 ?_
  replace h := q_tc_e h
  rcases h with ⟨E, g2, hv, rfl⟩ | ⟨v1, g2, hv, h⟩
  · exact rX11_range hv ⟨rfl, hk⟩
  refine rX11_range hv ?_
  replace h := q_tc_e h
  rcases h with ⟨E, g4, hv, rfl⟩ | ⟨v3, g4, hv, h⟩
  · exact rX11_range hv ⟨rfl, hk⟩
  refine rX11_range hv ?_
  replace h := q_tc_e h
  rcases h with ⟨E, g6, hv, rfl⟩ | ⟨v5, g6, hv, h⟩
  · exact rX11_range hv ⟨rfl, hk⟩
  refine rX11_range hv ?_
  replace h := q_be h
  obtain ⟨v7, hv, h⟩ := h
  replace hv := q_fR_e hv
  obtain ⟨_, cv7, dv7⟩ := hv
  replace h := q_be h
  obtain ⟨a8, ea8, h⟩ := h
  subst ea8
  replace h := q_be h
  obtain ⟨v9, hv, h⟩ := h
  replace hv := q_fI_e hv
  obtain ⟨_, cv9, dv9⟩ := hv
  refine ⟨⟨some _, rfl⟩, _, _, cv7, dv7, _, _, cv9, dv9, ?_⟩
  refine And.intro (fun hc10 => ?_) (fun hc10 => ?_)
  · replace h := q_ifp (hc10) h
    refine sX11_point_51 ?_
    replace h := q_be h
    obtain ⟨v11, hv, h⟩ := h
    replace hv := q_fR_e hv
    obtain ⟨_, cv11, dv11⟩ := hv
    replace h := q_be h
    obtain ⟨a12, ea12, h⟩ := h
    subst ea12
    replace h := q_be h
    obtain ⟨u13, hv, h⟩ := h
    replace hv := q_ob_e hv
    obtain ⟨_, cu13⟩ := hv
    replace h := q_be h
    obtain ⟨v14, hv, h⟩ := h
    refine ⟨⟨some _, rfl⟩, _, _, cv11, dv11, ⟨_, cu13⟩, ?_⟩
    refine rX1_addPoint hv ?_
    replace h := q_be h
    obtain ⟨v15, hv, h⟩ := h
    replace hv := q_fR_e hv
    obtain ⟨_, cv15, dv15⟩ := hv
    replace h := q_be h
    obtain ⟨a16, ea16, h⟩ := h
    subst ea16
    replace h := q_be h
    obtain ⟨v17, hv, h⟩ := h
    replace hv := q_fI_e hv
    obtain ⟨_, cv17, dv17⟩ := hv
    cases h
    exact ⟨⟨some _, rfl⟩, _, _, cv15, dv15, _, _, cv17, dv17, rfl, hk⟩
  · replace h := q_ifn (hc10) h
    cases h
    exact sX11_point_40 (by decide) hk
noncomputable def fX5_clearCurve (g : ps_G) (x0 : Nat) (x1 : Int32) : Option (Int32 × ps_G) := Option.bind (q_fR 5 2 g x0) fun v1 => Option.bind (v1) fun a2 => Option.bind (q_wI g a2 x1 (0 : Int32)) fun g3 => some ((0 : Int32), g3)
theorem rX5_clearCurve {d : Nat} {Q : ps_Rs → ps_G → Prop} {g : ps_G} {x0 : Nat} {x1 : Int32} {r : Int32 × ps_G} (h : fX5_clearCurve g x0 x1 = some r) (hk : Q (.inl (some (.int r.1))) r.2) : ps_Ok mX5_clearCurve d [.ref x0, .int x1] g Q := by
  unfold fX5_clearCurve at h
  refine sX5_clearCurve_0 ?_
  replace h := q_be h
  obtain ⟨v1, hv, h⟩ := h
  replace hv := q_fR_e hv
  obtain ⟨_, cv1, dv1⟩ := hv
  replace h := q_be h
  obtain ⟨a2, ea2, h⟩ := h
  subst ea2
  replace h := q_be h
  obtain ⟨g3, hv, h⟩ := h
  replace hv := q_wI_e hv
  obtain ⟨_, _, cg3, pg3, ig3, yg3⟩ := hv
  cases h
  exact ⟨⟨some _, rfl⟩, _, _, cv1, dv1, _, _, cg3, pg3, ig3, _, yg3, rfl, hk⟩
noncomputable def bX5_bendCurve_17 (g : ps_G) (x0 : Nat) (x1 : Int32) (x2 : Int32) (x3 : Int32) (x4 : Int32) (x5 : Int32) (x6 : Int32) : Option ((Int32) ⊕ (Int32)) := if x5 ≤ x6 then (some (.inr x6)) else (Option.bind (q_fR 5 0 g x0) fun v6 => Option.bind (v6) fun a7 => Option.bind (q_aI g a7 (x4 + x6)) fun v8 => if x2 ≤ v8 then (some (.inr x6)) else (some (.inl (x6 + (1 : Int32)))))
theorem pbX5_bendCurve_17 {d : Nat} {Q : ps_Rs → ps_G → Prop} {g : ps_G} {x0 : Nat} {x1 : Int32} {x2 : Int32} {x3 : Int32} {x4 : Int32} {x5 : Int32} {x6 : Int32} {x : (Int32) ⊕ (Int32)} (h : bX5_bendCurve_17 g x0 x1 x2 x3 x4 x5 x6 = some x) (hh : ∀ s' : Int32, x = .inl s' → ps_At mX5_bendCurve d 17 [(0, .ref x0), (1, .int x1), (2, .int x2), (3, .int x3), (4, .int x4), (5, .int x5), (6, .int s')] [] g Q) (he : ∀ r' : Int32, x = .inr r' → ps_At mX5_bendCurve d 44 [(0, .ref x0), (1, .int x1), (2, .int x2), (3, .int x3), (4, .int x4), (5, .int x5), (6, .int r')] [] g Q) : ps_At mX5_bendCurve d 17 [(0, .ref x0), (1, .int x1), (2, .int x2), (3, .int x3), (4, .int x4), (5, .int x5), (6, .int x6)] [] g Q := by
  unfold bX5_bendCurve_17 at h
  refine sX5_bendCurve_17 ?_
  refine And.intro (fun hc4 => ?_) (fun hc4 => ?_)
  · replace h := q_ifp (hc4) h
    exact ps_weak (he x6 (Option.some.inj h).symm) ⟨rfl, rfl, rfl, rfl, rfl, rfl, rfl, trivial⟩
  · replace h := q_ifn (hc4) h
    replace h := q_be h
    obtain ⟨v6, hv, h⟩ := h
    replace hv := q_fR_e hv
    obtain ⟨_, cv6, dv6⟩ := hv
    replace h := q_be h
    obtain ⟨a7, ea7, h⟩ := h
    subst ea7
    replace h := q_be h
    obtain ⟨v8, hv, h⟩ := h
    replace hv := q_aI_e hv
    obtain ⟨_, _, cv8, iv8, yv8⟩ := hv
    refine ⟨⟨some _, rfl⟩, _, _, cv6, dv6, _, _, cv8, iv8, _, yv8, ?_⟩
    refine And.intro (fun hc9 => ?_) (fun hc9 => ?_)
    · replace h := q_ifp (hc9) h
      exact ps_weak (he x6 (Option.some.inj h).symm) ⟨rfl, rfl, rfl, rfl, rfl, rfl, rfl, trivial⟩
    · replace h := q_ifn (hc9) h
      refine ⟨by decide, ?_⟩
      exact ps_weak (hh (x6 + (1 : Int32)) (Option.some.inj h).symm) ⟨rfl, rfl, rfl, rfl, rfl, rfl, rfl, trivial⟩
noncomputable def bX5_bendCurve_92 (x0 : Nat) (x1 : Int32) (x2 : Int32) (x3 : Int32) (x4 : Int32) (x5 : Int32) (x6 : Int32) (x7 : Int32) (g : ps_G) : Option ((Int32 × ps_G) ⊕ (ps_G)) := if x7 ≤ x6 then (some (.inr g)) else (Option.bind (q_fR 5 0 g x0) fun v19 => Option.bind (v19) fun a20 => Option.bind (q_fR 5 0 g x0) fun v21 => Option.bind (v21) fun a22 => Option.bind (q_aI g a22 ((x4 + x7) - (1 : Int32))) fun v23 => Option.bind (q_wI g a20 (x4 + x7) v23) fun g24 => Option.bind (q_fR 5 1 g24 x0) fun v25 => Option.bind (v25) fun a26 => Option.bind (q_fR 5 1 g24 x0) fun v27 => Option.bind (v27) fun a28 => Option.bind (q_aI g24 a28 ((x4 + x7) - (1 : Int32))) fun v29 => Option.bind (q_wI g24 a26 (x4 + x7) v29) fun g30 => some (.inl (x7 + (-1 : Int32), g30)))
theorem pbX5_bendCurve_92 {d : Nat} {Q : ps_Rs → ps_G → Prop}  {x0 : Nat} {x1 : Int32} {x2 : Int32} {x3 : Int32} {x4 : Int32} {x5 : Int32} {x6 : Int32} {x7 : Int32} {g : ps_G} {x : (Int32 × ps_G) ⊕ (ps_G)} (h : bX5_bendCurve_92 x0 x1 x2 x3 x4 x5 x6 x7 g = some x) (hh : ∀ s' : Int32 × ps_G, x = .inl s' → ps_At mX5_bendCurve d 92 [(0, .ref x0), (1, .int x1), (2, .int x2), (3, .int x3), (4, .int x4), (5, .int x5), (6, .int x6), (7, .int s'.1)] [] s'.2 Q) (he : ∀ r' : ps_G, x = .inr r' → ps_At mX5_bendCurve d 149 [(0, .ref x0), (1, .int x1), (2, .int x2), (3, .int x3), (4, .int x4), (5, .int x5), (6, .int x6)] [] r' Q) : ps_At mX5_bendCurve d 92 [(0, .ref x0), (1, .int x1), (2, .int x2), (3, .int x3), (4, .int x4), (5, .int x5), (6, .int x6), (7, .int x7)] [] g Q := by
  unfold bX5_bendCurve_92 at h
  refine sX5_bendCurve_92 ?_
  refine And.intro (fun hc17 => ?_) (fun hc17 => ?_)
  · replace h := q_ifp (hc17) h
    exact ps_weak (he g (Option.some.inj h).symm) ⟨rfl, rfl, rfl, rfl, rfl, rfl, rfl, trivial⟩
  · replace h := q_ifn (hc17) h
    replace h := q_be h
    obtain ⟨v19, hv, h⟩ := h
    replace hv := q_fR_e hv
    obtain ⟨_, cv19, dv19⟩ := hv
    replace h := q_be h
    obtain ⟨a20, ea20, h⟩ := h
    subst ea20
    replace h := q_be h
    obtain ⟨v21, hv, h⟩ := h
    replace hv := q_fR_e hv
    obtain ⟨_, cv21, dv21⟩ := hv
    replace h := q_be h
    obtain ⟨a22, ea22, h⟩ := h
    subst ea22
    replace h := q_be h
    obtain ⟨v23, hv, h⟩ := h
    replace hv := q_aI_e hv
    obtain ⟨_, _, cv23, iv23, yv23⟩ := hv
    replace h := q_be h
    obtain ⟨g24, hv, h⟩ := h
    replace hv := q_wI_e hv
    obtain ⟨_, _, cg24, pg24, ig24, yg24⟩ := hv
    replace h := q_be h
    obtain ⟨v25, hv, h⟩ := h
    replace hv := q_fR_e hv
    obtain ⟨_, cv25, dv25⟩ := hv
    replace h := q_be h
    obtain ⟨a26, ea26, h⟩ := h
    subst ea26
    replace h := q_be h
    obtain ⟨v27, hv, h⟩ := h
    replace hv := q_fR_e hv
    obtain ⟨_, cv27, dv27⟩ := hv
    replace h := q_be h
    obtain ⟨a28, ea28, h⟩ := h
    subst ea28
    replace h := q_be h
    obtain ⟨v29, hv, h⟩ := h
    replace hv := q_aI_e hv
    obtain ⟨_, _, cv29, iv29, yv29⟩ := hv
    replace h := q_be h
    obtain ⟨g30, hv, h⟩ := h
    replace hv := q_wI_e hv
    obtain ⟨_, _, cg30, pg30, ig30, yg30⟩ := hv
    refine ⟨⟨some _, rfl⟩, _, _, cv19, dv19, ⟨some _, rfl⟩, _, _, cv21, dv21, _, _, cv23, iv23, _, yv23, _, _, cg24, pg24, ig24, _, yg24, ⟨some _, rfl⟩, _, _, cv25, dv25, ⟨some _, rfl⟩, _, _, cv27, dv27, _, _, cv29, iv29, _, yv29, _, _, cg30, pg30, ig30, _, yg30, ?_⟩
    refine ⟨by decide, ?_⟩
    exact ps_weak (hh (x7 + (-1 : Int32), g30) (Option.some.inj h).symm) ⟨rfl, rfl, rfl, rfl, rfl, rfl, rfl, rfl, trivial⟩
noncomputable def jX5_bendCurve_79 (g : ps_G) (x0 : Nat) (x1 : Int32) (x2 : Int32) (x3 : Int32) (x4 : Int32) (x5 : Int32) (x6 : Int32) : Option (Int32 × ps_G) := if x5 < (8 : Int32) then (Option.bind (q_lp (fun s => bX5_bendCurve_92 x0 x1 x2 x3 x4 x5 x6 s.1 s.2) (x5, g)) fun s33 => Option.bind (q_fR 5 0 s33 x0) fun v34 => Option.bind (v34) fun a35 => Option.bind (q_wI s33 a35 (x4 + x6) x2) fun g36 => Option.bind (q_fR 5 1 g36 x0) fun v37 => Option.bind (v37) fun a38 => Option.bind (q_wI g36 a38 (x4 + x6) x3) fun g39 => Option.bind (q_fR 5 2 g39 x0) fun v40 => Option.bind (v40) fun a41 => Option.bind (q_wI g39 a41 x1 (x5 + (1 : Int32))) fun g42 => some (x5 + (1 : Int32), g42)) else (some ((-1 : Int32), g))
theorem pjX5_bendCurve_79 {d : Nat} {Q : ps_Rs → ps_G → Prop} {g : ps_G} {x0 : Nat} {x1 : Int32} {x2 : Int32} {x3 : Int32} {x4 : Int32} {x5 : Int32} {x6 : Int32} {r : Int32 × ps_G} (h : jX5_bendCurve_79 g x0 x1 x2 x3 x4 x5 x6 = some r) (hk : Q (.inl (some (.int r.1))) r.2) : ps_At mX5_bendCurve d 79 [(0, .ref x0), (1, .int x1), (2, .int x2), (3, .int x3), (4, .int x4), (5, .int x5), (6, .int x6)] [] g Q := by
  unfold jX5_bendCurve_79 at h
  refine sX5_bendCurve_79 ?_
  refine And.intro (fun hc16 => ?_) (fun hc16 => ?_)
  · replace h := q_ifp (hc16) h
    refine sX5_bendCurve_88 ?_
    refine ⟨by decide, ?_⟩
    replace h := q_be h
    obtain ⟨s33, hl, h⟩ := h
    refine ps_weak (q_lp_ok hl (fun s => ps_At mX5_bendCurve d 92 [(0, .ref x0), (1, .int x1), (2, .int x2), (3, .int x3), (4, .int x4), (5, .int x5), (6, .int x6), (7, .int s.1)] [] s.2 Q) (fun r => ps_At mX5_bendCurve d 149 [(0, .ref x0), (1, .int x1), (2, .int x2), (3, .int x3), (4, .int x4), (5, .int x5), (6, .int x6)] [] r Q) (fun s x hb hh he => pbX5_bendCurve_92 hb hh he) ?_) ⟨rfl, rfl, rfl, rfl, rfl, rfl, rfl, rfl, trivial⟩
    refine (?_ : ps_At mX5_bendCurve d 149 [(0, .ref x0), (1, .int x1), (2, .int x2), (3, .int x3), (4, .int x4), (5, .int x5), (6, .int x6)] [] s33 Q)
    refine sX5_bendCurve_149 ?_
    replace h := q_be h
    obtain ⟨v34, hv, h⟩ := h
    replace hv := q_fR_e hv
    obtain ⟨_, cv34, dv34⟩ := hv
    replace h := q_be h
    obtain ⟨a35, ea35, h⟩ := h
    subst ea35
    replace h := q_be h
    obtain ⟨g36, hv, h⟩ := h
    replace hv := q_wI_e hv
    obtain ⟨_, _, cg36, pg36, ig36, yg36⟩ := hv
    replace h := q_be h
    obtain ⟨v37, hv, h⟩ := h
    replace hv := q_fR_e hv
    obtain ⟨_, cv37, dv37⟩ := hv
    replace h := q_be h
    obtain ⟨a38, ea38, h⟩ := h
    subst ea38
    replace h := q_be h
    obtain ⟨g39, hv, h⟩ := h
    replace hv := q_wI_e hv
    obtain ⟨_, _, cg39, pg39, ig39, yg39⟩ := hv
    replace h := q_be h
    obtain ⟨v40, hv, h⟩ := h
    replace hv := q_fR_e hv
    obtain ⟨_, cv40, dv40⟩ := hv
    replace h := q_be h
    obtain ⟨a41, ea41, h⟩ := h
    subst ea41
    replace h := q_be h
    obtain ⟨g42, hv, h⟩ := h
    replace hv := q_wI_e hv
    obtain ⟨_, _, cg42, pg42, ig42, yg42⟩ := hv
    cases h
    exact ⟨⟨some _, rfl⟩, _, _, cv34, dv34, _, _, cg36, pg36, ig36, _, yg36, ⟨some _, rfl⟩, _, _, cv37, dv37, _, _, cg39, pg39, ig39, _, yg39, ⟨some _, rfl⟩, _, _, cv40, dv40, _, _, cg42, pg42, ig42, _, yg42, rfl, hk⟩
  · replace h := q_ifn (hc16) h
    cases h
    exact ⟨rfl, hk⟩
noncomputable def jX5_bendCurve_44 (g : ps_G) (x0 : Nat) (x1 : Int32) (x2 : Int32) (x3 : Int32) (x4 : Int32) (x5 : Int32) (x6 : Int32) : Option (Int32 × ps_G) := if x5 ≤ x6 then (jX5_bendCurve_79 g x0 x1 x2 x3 x4 x5 x6) else (Option.bind (q_fR 5 0 g x0) fun v45 => Option.bind (v45) fun a46 => Option.bind (q_aI g a46 (x4 + x6)) fun v47 => if ¬ v47 = x2 then (jX5_bendCurve_79 g x0 x1 x2 x3 x4 x5 x6) else (Option.bind (q_fR 5 1 g x0) fun v49 => Option.bind (v49) fun a50 => Option.bind (q_wI g a50 (x4 + x6) x3) fun g51 => some (x5, g51)))
theorem pjX5_bendCurve_44 {d : Nat} {Q : ps_Rs → ps_G → Prop} {g : ps_G} {x0 : Nat} {x1 : Int32} {x2 : Int32} {x3 : Int32} {x4 : Int32} {x5 : Int32} {x6 : Int32} {r : Int32 × ps_G} (h : jX5_bendCurve_44 g x0 x1 x2 x3 x4 x5 x6 = some r) (hk : Q (.inl (some (.int r.1))) r.2) : ps_At mX5_bendCurve d 44 [(0, .ref x0), (1, .int x1), (2, .int x2), (3, .int x3), (4, .int x4), (5, .int x5), (6, .int x6)] [] g Q := by
  unfold jX5_bendCurve_44 at h
  refine sX5_bendCurve_44 ?_
  refine And.intro (fun hc15 => ?_) (fun hc15 => ?_)
  · replace h := q_ifp (hc15) h
    exact ps_weak (pjX5_bendCurve_79 h hk) ⟨rfl, rfl, rfl, rfl, rfl, rfl, rfl, trivial⟩
  · replace h := q_ifn (hc15) h
    replace h := q_be h
    obtain ⟨v45, hv, h⟩ := h
    replace hv := q_fR_e hv
    obtain ⟨_, cv45, dv45⟩ := hv
    replace h := q_be h
    obtain ⟨a46, ea46, h⟩ := h
    subst ea46
    replace h := q_be h
    obtain ⟨v47, hv, h⟩ := h
    replace hv := q_aI_e hv
    obtain ⟨_, _, cv47, iv47, yv47⟩ := hv
    refine ⟨⟨some _, rfl⟩, _, _, cv45, dv45, _, _, cv47, iv47, _, yv47, ?_⟩
    refine And.intro (fun hc48 => ?_) (fun hc48 => ?_)
    · replace h := q_ifp (hc48) h
      exact ps_weak (pjX5_bendCurve_79 h hk) ⟨rfl, rfl, rfl, rfl, rfl, rfl, rfl, trivial⟩
    · replace h := q_ifn (hc48) h
      replace h := q_be h
      obtain ⟨v49, hv, h⟩ := h
      replace hv := q_fR_e hv
      obtain ⟨_, cv49, dv49⟩ := hv
      replace h := q_be h
      obtain ⟨a50, ea50, h⟩ := h
      subst ea50
      replace h := q_be h
      obtain ⟨g51, hv, h⟩ := h
      replace hv := q_wI_e hv
      obtain ⟨_, _, cg51, pg51, ig51, yg51⟩ := hv
      cases h
      exact ⟨⟨some _, rfl⟩, _, _, cv49, dv49, _, _, cg51, pg51, ig51, _, yg51, rfl, hk⟩
noncomputable def fX5_bendCurve (g : ps_G) (x0 : Nat) (x1 : Int32) (x2 : Int32) (x3 : Int32) : Option (Int32 × ps_G) := Option.bind (q_fR 5 2 g x0) fun v1 => Option.bind (v1) fun a2 => Option.bind (q_aI g a2 x1) fun v3 => Option.bind (q_lp (fun s => bX5_bendCurve_17 g x0 x1 x2 x3 (x1 * (8 : Int32)) v3 s) (0 : Int32)) fun s14 => jX5_bendCurve_44 g x0 x1 x2 x3 (x1 * (8 : Int32)) v3 s14
theorem rX5_bendCurve {d : Nat} {Q : ps_Rs → ps_G → Prop} {g : ps_G} {x0 : Nat} {x1 : Int32} {x2 : Int32} {x3 : Int32} {r : Int32 × ps_G} (h : fX5_bendCurve g x0 x1 x2 x3 = some r) (hk : Q (.inl (some (.int r.1))) r.2) : ps_Ok mX5_bendCurve d [.ref x0, .int x1, .int x2, .int x3] g Q := by
  unfold fX5_bendCurve at h
  refine sX5_bendCurve_0 ?_
  replace h := q_be h
  obtain ⟨v1, hv, h⟩ := h
  replace hv := q_fR_e hv
  obtain ⟨_, cv1, dv1⟩ := hv
  replace h := q_be h
  obtain ⟨a2, ea2, h⟩ := h
  subst ea2
  replace h := q_be h
  obtain ⟨v3, hv, h⟩ := h
  replace hv := q_aI_e hv
  obtain ⟨_, _, cv3, iv3, yv3⟩ := hv
  refine ⟨by decide, ⟨some _, rfl⟩, _, _, cv1, dv1, _, _, cv3, iv3, _, yv3, by decide, by decide, ?_⟩
  replace h := q_be h
  obtain ⟨s14, hl, h⟩ := h
  refine ps_weak (q_lp_ok hl (fun s => ps_At mX5_bendCurve d 17 [(0, .ref x0), (1, .int x1), (2, .int x2), (3, .int x3), (4, .int (x1 * (8 : Int32))), (5, .int v3), (6, .int s)] [] g Q) (fun r => ps_At mX5_bendCurve d 44 [(0, .ref x0), (1, .int x1), (2, .int x2), (3, .int x3), (4, .int (x1 * (8 : Int32))), (5, .int v3), (6, .int r)] [] g Q) (fun s x hb hh he => pbX5_bendCurve_17 hb hh he) ?_) ⟨rfl, rfl, rfl, rfl, rfl, rfl, rfl, trivial⟩
  refine (?_ : ps_At mX5_bendCurve d 44 [(0, .ref x0), (1, .int x1), (2, .int x2), (3, .int x3), (4, .int (x1 * (8 : Int32))), (5, .int v3), (6, .int s14)] [] g Q)
  exact ps_weak (pjX5_bendCurve_44 h hk) ⟨rfl, rfl, rfl, rfl, rfl, rfl, rfl, trivial⟩
noncomputable def jX11_curve_68 (g : ps_G) (x0 : Nat) (k0 : Int32) : Option ((String ⊕ Int32) × ps_G) := if 0 ≤ k0 then (Option.bind (q_fR 11 6 g x0) fun v16 => Option.bind (v16) fun a17 => Option.bind (q_ob 10 g a17) fun u18 => Option.bind (fX10_forgetAll g a17) fun v19 => some (.inr k0, v19)) else (some (.inl "java/lang/IndexOutOfBoundsException", ps_nw g 6 ps_e0))
theorem pjX11_curve_68 {d : Nat} {Q : ps_Rs → ps_G → Prop} {g : ps_G} {x0 : Nat} {k0 : Int32} {r : (String ⊕ Int32) × ps_G} (h : jX11_curve_68 g x0 k0 = some r) (hk : Q (q_rI r.1) r.2) : ps_At mX11_curve (d + 7) 68 [(0, .ref x0)] [.int k0] g Q := by
  unfold jX11_curve_68 at h
  refine sX11_curve_68 ?_
  refine ⟨by decide, ?_⟩
  refine And.intro (fun hc15 => ?_) (fun hc15 => ?_)
  · replace h := q_ifp (hc15) h
    refine sX11_curve_86 ?_
    replace h := q_be h
    obtain ⟨v16, hv, h⟩ := h
    replace hv := q_fR_e hv
    obtain ⟨_, cv16, dv16⟩ := hv
    replace h := q_be h
    obtain ⟨a17, ea17, h⟩ := h
    subst ea17
    replace h := q_be h
    obtain ⟨u18, hv, h⟩ := h
    replace hv := q_ob_e hv
    obtain ⟨_, cu18⟩ := hv
    replace h := q_be h
    obtain ⟨v19, hv, h⟩ := h
    refine ⟨⟨some _, rfl⟩, _, _, cv16, dv16, ⟨_, cu18⟩, ?_⟩
    refine rX10_forgetAll hv ?_
    cases h
    exact ⟨rfl, hk⟩
  · replace h := q_ifn (hc15) h
    cases h
    exact sX11_curve_75 (by decide) hk
noncomputable def jX11_curve_34 (g : ps_G) (x0 : Nat) (x1 : Int32) (x2 : Int32) (x3 : Int32) (x4 : Int32) : Option ((String ⊕ Int32) × ps_G) := if 0 ≤ x3 then (Option.bind (q_fR 11 5 g x0) fun v10 => Option.bind (v10) fun a11 => Option.bind (q_ob 5 g a11) fun u12 => q_b2 (fX5_bendCurve g a11 ((x1 * (4 : Int32)) + x2) x3 x4) fun v13 g14 => jX11_curve_68 g14 x0 v13) else (Option.bind (q_fR 11 5 g x0) fun v22 => Option.bind (v22) fun a23 => Option.bind (q_ob 5 g a23) fun u24 => q_b2 (fX5_clearCurve g a23 ((x1 * (4 : Int32)) + x2)) fun v25 g26 => jX11_curve_68 g26 x0 v25)
theorem pjX11_curve_34 {d : Nat} {Q : ps_Rs → ps_G → Prop} {g : ps_G} {x0 : Nat} {x1 : Int32} {x2 : Int32} {x3 : Int32} {x4 : Int32} {r : (String ⊕ Int32) × ps_G} (h : jX11_curve_34 g x0 x1 x2 x3 x4 = some r) (hk : Q (q_rI r.1) r.2) : ps_At mX11_curve (d + 7) 34 [(0, .ref x0), (1, .int x1), (2, .int x2), (3, .int x3), (4, .int x4)] [] g Q := by
  unfold jX11_curve_34 at h
  refine sX11_curve_34 ?_
  refine And.intro (fun hc8 => ?_) (fun hc8 => ?_)
  · replace h := q_ifp (hc8) h
    refine sX11_curve_53 ?_
    replace h := q_be h
    obtain ⟨v10, hv, h⟩ := h
    replace hv := q_fR_e hv
    obtain ⟨_, cv10, dv10⟩ := hv
    replace h := q_be h
    obtain ⟨a11, ea11, h⟩ := h
    subst ea11
    replace h := q_be h
    obtain ⟨u12, hv, h⟩ := h
    replace hv := q_ob_e hv
    obtain ⟨_, cu12⟩ := hv
    replace h := q_b2_e h
    obtain ⟨v13, g14, hv, h⟩ := h
    refine ⟨⟨some _, rfl⟩, _, _, cv10, dv10, ⟨_, cu12⟩, ?_⟩
    refine rX5_bendCurve hv ?_
    exact ps_weak (pjX11_curve_68 h hk) ⟨rfl, trivial⟩
  · replace h := q_ifn (hc8) h
    replace h := q_be h
    obtain ⟨v22, hv, h⟩ := h
    replace hv := q_fR_e hv
    obtain ⟨_, cv22, dv22⟩ := hv
    replace h := q_be h
    obtain ⟨a23, ea23, h⟩ := h
    subst ea23
    replace h := q_be h
    obtain ⟨u24, hv, h⟩ := h
    replace hv := q_ob_e hv
    obtain ⟨_, cu24⟩ := hv
    replace h := q_b2_e h
    obtain ⟨v25, g26, hv, h⟩ := h
    refine ⟨⟨some _, rfl⟩, _, _, cv22, dv22, ⟨_, cu24⟩, ?_⟩
    refine rX5_clearCurve hv ?_
    exact ps_weak (pjX11_curve_68 h hk) ⟨rfl, trivial⟩
noncomputable def fX11_curve (g : ps_G) (x0 : Nat) (x1 : Int32) (x2 : Int32) (x3 : Int32) (x4 : Int32) : Option ((String ⊕ Int32) × ps_G) := q_tc (fX11_range g x1 (0 : Int32) (7 : Int32)) fun v1 g2 => q_tc (fX11_range g2 x2 (0 : Int32) (3 : Int32)) fun v3 g4 => q_tc (fX11_range g4 x3 (-1 : Int32) (255 : Int32)) fun v5 g6 => if x3 < 0 then (jX11_curve_34 g6 x0 x1 x2 x3 x4) else (q_tc (fX11_range g6 x4 (0 : Int32) (255 : Int32)) fun v29 g30 => jX11_curve_34 g30 x0 x1 x2 x3 x4)
theorem rX11_curve {d : Nat} {Q : ps_Rs → ps_G → Prop} {g : ps_G} {x0 : Nat} {x1 : Int32} {x2 : Int32} {x3 : Int32} {x4 : Int32} {r : (String ⊕ Int32) × ps_G} (h : fX11_curve g x0 x1 x2 x3 x4 = some r) (hk : Q (q_rI r.1) r.2) : ps_Ok mX11_curve (d + 7) [.ref x0, .int x1, .int x2, .int x3, .int x4] g Q := by
  unfold fX11_curve at h
  refine sX11_curve_0 ?_
  replace h := q_tc_e h
  rcases h with ⟨E, g2, hv, rfl⟩ | ⟨v1, g2, hv, h⟩
  · exact rX11_range hv ⟨rfl, hk⟩
  refine rX11_range hv ?_
  replace h := q_tc_e h
  rcases h with ⟨E, g4, hv, rfl⟩ | ⟨v3, g4, hv, h⟩
  · exact rX11_range hv ⟨rfl, hk⟩
  refine rX11_range hv ?_
  replace h := q_tc_e h
  rcases h with ⟨E, g6, hv, rfl⟩ | ⟨v5, g6, hv, h⟩
  · exact rX11_range hv ⟨rfl, hk⟩
  refine rX11_range hv ?_
  refine And.intro (fun hc7 => ?_) (fun hc7 => ?_)
  · replace h := q_ifp (hc7) h
    exact ps_weak (pjX11_curve_34 h hk) ⟨rfl, rfl, rfl, rfl, rfl, trivial⟩
  · replace h := q_ifn (hc7) h
    replace h := q_tc_e h
    rcases h with ⟨E, g30, hv, rfl⟩ | ⟨v29, g30, hv, h⟩
    · exact rX11_range hv ⟨rfl, hk⟩
    refine rX11_range hv ?_
    exact ps_weak (pjX11_curve_34 h hk) ⟨rfl, rfl, rfl, rfl, rfl, trivial⟩
noncomputable def jX11_kernel_105 (g : ps_G) (x0 : Nat) : Option ((String ⊕ Unit) × ps_G) := Option.bind (q_fR 11 6 g x0) fun v21 => Option.bind (v21) fun a22 => Option.bind (q_ob 10 g a22) fun u23 => Option.bind (fX10_forgetAll g a22) fun v24 => some (.inr (), v24)
theorem pjX11_kernel_105 {d : Nat} {Q : ps_Rs → ps_G → Prop} {g : ps_G} {x0 : Nat} {r : (String ⊕ Unit) × ps_G} (h : jX11_kernel_105 g x0 = some r) (hk : Q (q_rV r.1) r.2) : ps_At mX11_kernel (d + 7) 105 [(0, .ref x0)] [] g Q := by
  unfold jX11_kernel_105 at h
  refine sX11_kernel_105 ?_
  replace h := q_be h
  obtain ⟨v21, hv, h⟩ := h
  replace hv := q_fR_e hv
  obtain ⟨_, cv21, dv21⟩ := hv
  replace h := q_be h
  obtain ⟨a22, ea22, h⟩ := h
  subst ea22
  replace h := q_be h
  obtain ⟨u23, hv, h⟩ := h
  replace hv := q_ob_e hv
  obtain ⟨_, cu23⟩ := hv
  replace h := q_be h
  obtain ⟨v24, hv, h⟩ := h
  refine ⟨⟨some _, rfl⟩, _, _, cv21, dv21, ⟨_, cu23⟩, ?_⟩
  refine rX10_forgetAll hv ?_
  cases h
  exact ⟨rfl, rfl, hk⟩
noncomputable def fX11_kernel (g : ps_G) (x0 : Nat) (x1 : Int32) (x2 : Int32) : Option ((String ⊕ Unit) × ps_G) := q_tc (fX11_range g x1 (0 : Int32) (10 : Int32)) fun v1 g2 => q_tc (fX11_range g2 x2 (if ¬ x1 = (9 : Int32) then (if ¬ x1 = (10 : Int32) then (-100 : Int32) else (-255 : Int32)) else (1 : Int32)) (if ¬ x1 = (9 : Int32) then (if ¬ x1 = (10 : Int32) then (100 : Int32) else (255 : Int32)) else (1000 : Int32))) fun v9 g10 => if ¬ x1 = (9 : Int32) then (if ¬ x1 = (10 : Int32) then (Option.bind (q_fR 11 5 g10 x0) fun v16 => Option.bind (v16) fun a17 => Option.bind (q_fR 5 3 g10 a17) fun v18 => Option.bind (v18) fun a19 => Option.bind (q_wI g10 a19 x1 x2) fun g20 => jX11_kernel_105 g20 x0) else (Option.bind (q_fR 11 5 g10 x0) fun v25 => Option.bind (v25) fun a26 => Option.bind (q_sI 5 5 g10 a26 x2) fun g27 => jX11_kernel_105 g27 x0)) else (Option.bind (q_fR 11 5 g10 x0) fun v30 => Option.bind (v30) fun a31 => Option.bind (q_sI 5 4 g10 a31 x2) fun g32 => jX11_kernel_105 g32 x0)
theorem rX11_kernel {d : Nat} {Q : ps_Rs → ps_G → Prop} {g : ps_G} {x0 : Nat} {x1 : Int32} {x2 : Int32} {r : (String ⊕ Unit) × ps_G} (h : fX11_kernel g x0 x1 x2 = some r) (hk : Q (q_rV r.1) r.2) : ps_Ok mX11_kernel (d + 7) [.ref x0, .int x1, .int x2] g Q := by
  unfold fX11_kernel at h
  refine sX11_kernel_0 ?_
  replace h := q_tc_e h
  rcases h with ⟨E, g2, hv, rfl⟩ | ⟨v1, g2, hv, h⟩
  · exact rX11_range hv ⟨rfl, hk⟩
  refine rX11_range hv ?_
  have kJ5 : ∀ w4 : Int32, w4 = (if ¬ x1 = (9 : Int32) then (if ¬ x1 = (10 : Int32) then (-100 : Int32) else (-255 : Int32)) else (1 : Int32)) → ps_At mX11_kernel (d + 7) 32 [(0, .ref x0), (1, .int x1), (2, .int x2)] [.int w4, .int x2] g2 Q := by
    rintro _ rfl
    refine sX11_kernel_32 ?_
    have kJ8 : ∀ w7 : Int32, w7 = (if ¬ x1 = (9 : Int32) then (if ¬ x1 = (10 : Int32) then (100 : Int32) else (255 : Int32)) else (1000 : Int32)) → ps_At mX11_kernel (d + 7) 58 [(0, .ref x0), (1, .int x1), (2, .int x2)] [.int w7, .int (if ¬ x1 = (9 : Int32) then (if ¬ x1 = (10 : Int32) then (-100 : Int32) else (-255 : Int32)) else (1 : Int32)), .int x2] g2 Q := by
      rintro _ rfl
      refine sX11_kernel_58 ?_
      replace h := q_tc_e h
      rcases h with ⟨E, g10, hv, rfl⟩ | ⟨v9, g10, hv, h⟩
      · exact rX11_range hv ⟨rfl, hk⟩
      refine rX11_range hv ?_
      refine And.intro (fun hc11 => ?_) (fun hc11 => ?_)
      · replace h := q_ifp (hc11) h
        refine sX11_kernel_78 ?_
        refine And.intro (fun hc14 => ?_) (fun hc14 => ?_)
        · replace h := q_ifp (hc14) h
          refine sX11_kernel_95 ?_
          replace h := q_be h
          obtain ⟨v16, hv, h⟩ := h
          replace hv := q_fR_e hv
          obtain ⟨_, cv16, dv16⟩ := hv
          replace h := q_be h
          obtain ⟨a17, ea17, h⟩ := h
          subst ea17
          replace h := q_be h
          obtain ⟨v18, hv, h⟩ := h
          replace hv := q_fR_e hv
          obtain ⟨_, cv18, dv18⟩ := hv
          replace h := q_be h
          obtain ⟨a19, ea19, h⟩ := h
          subst ea19
          replace h := q_be h
          obtain ⟨g20, hv, h⟩ := h
          replace hv := q_wI_e hv
          obtain ⟨_, _, cg20, pg20, ig20, yg20⟩ := hv
          refine ⟨⟨some _, rfl⟩, _, _, cv16, dv16, _, _, cv18, dv18, _, _, cg20, pg20, ig20, _, yg20, ?_⟩
          exact ps_weak (pjX11_kernel_105 h hk) ⟨rfl, trivial⟩
        · replace h := q_ifn (hc14) h
          replace h := q_be h
          obtain ⟨v25, hv, h⟩ := h
          replace hv := q_fR_e hv
          obtain ⟨_, cv25, dv25⟩ := hv
          replace h := q_be h
          obtain ⟨a26, ea26, h⟩ := h
          subst ea26
          replace h := q_be h
          obtain ⟨g27, hv, h⟩ := h
          replace hv := q_sI_e hv
          obtain ⟨_, cg27, dg27, yg27⟩ := hv
          refine ⟨⟨some _, rfl⟩, _, _, cv25, dv25, _, cg27, dg27, rfl, rfl, _, yg27, ?_⟩
          exact ps_weak (pjX11_kernel_105 h hk) ⟨rfl, trivial⟩
      · replace h := q_ifn (hc11) h
        replace h := q_be h
        obtain ⟨v30, hv, h⟩ := h
        replace hv := q_fR_e hv
        obtain ⟨_, cv30, dv30⟩ := hv
        replace h := q_be h
        obtain ⟨a31, ea31, h⟩ := h
        subst ea31
        replace h := q_be h
        obtain ⟨g32, hv, h⟩ := h
        replace hv := q_sI_e hv
        obtain ⟨_, cg32, dg32, yg32⟩ := hv
        refine ⟨⟨some _, rfl⟩, _, _, cv30, dv30, _, cg32, dg32, rfl, rfl, _, yg32, ?_⟩
        exact ps_weak (pjX11_kernel_105 h hk) ⟨rfl, trivial⟩
    refine And.intro (fun hc6 => ?_) (fun hc6 => ?_)
    · refine sX11_kernel_44 ?_
      have kJ37 : ∀ w36 : Int32, w36 = (if ¬ x1 = (10 : Int32) then (100 : Int32) else (255 : Int32)) → ps_At mX11_kernel (d + 7) 58 [(0, .ref x0), (1, .int x1), (2, .int x2)] [.int w36, .int (if ¬ x1 = (9 : Int32) then (if ¬ x1 = (10 : Int32) then (-100 : Int32) else (-255 : Int32)) else (1 : Int32)), .int x2] g2 Q := by
        rintro _ rfl
        exact ps_weak (kJ8 _ (if_pos (hc6)).symm) ⟨rfl, rfl, rfl, trivial⟩
      refine And.intro (fun hc35 => ?_) (fun hc35 => ?_)
      · refine sX11_kernel_56 ?_
        exact ps_weak (kJ37 _ (if_pos (hc35)).symm) ⟨rfl, rfl, rfl, trivial⟩
      · exact ps_weak (kJ37 _ (if_neg (hc35)).symm) ⟨rfl, rfl, rfl, trivial⟩
    · exact ps_weak (kJ8 _ (if_neg (hc6)).symm) ⟨rfl, rfl, rfl, trivial⟩
  refine And.intro (fun hc3 => ?_) (fun hc3 => ?_)
  · refine sX11_kernel_18 ?_
    have kJ40 : ∀ w39 : Int32, w39 = (if ¬ x1 = (10 : Int32) then (-100 : Int32) else (-255 : Int32)) → ps_At mX11_kernel (d + 7) 32 [(0, .ref x0), (1, .int x1), (2, .int x2)] [.int w39, .int x2] g2 Q := by
      rintro _ rfl
      exact ps_weak (kJ5 _ (if_pos (hc3)).symm) ⟨rfl, rfl, rfl, trivial⟩
    refine And.intro (fun hc38 => ?_) (fun hc38 => ?_)
    · refine sX11_kernel_30 ?_
      exact ps_weak (kJ40 _ (if_pos (hc38)).symm) ⟨rfl, rfl, rfl, trivial⟩
    · exact ps_weak (kJ40 _ (if_neg (hc38)).symm) ⟨rfl, rfl, rfl, trivial⟩
  · exact ps_weak (kJ5 _ (if_neg (hc3)).symm) ⟨rfl, rfl, rfl, trivial⟩
noncomputable def fX11_profile (g : ps_G) (x0 : Nat) (x1 : Int32) (x2 : Int32) (x3 : Int32) : Option ((String ⊕ Unit) × ps_G) := q_tc (fX11_range g x1 (0 : Int32) (3 : Int32)) fun v1 g2 => q_tc (fX11_range g2 x2 (0 : Int32) (9 : Int32)) fun v3 g4 => q_tc (fX11_range g4 x3 (if ¬ x2 = (9 : Int32) then (-4096 : Int32) else (0 : Int32)) (if ¬ x2 = (9 : Int32) then (4096 : Int32) else (2 : Int32))) fun v11 g12 => Option.bind (q_fR 11 10 g12 x0) fun v13 => Option.bind (v13) fun a14 => Option.bind (q_fR 3 0 g12 a14) fun v15 => Option.bind (v15) fun a16 => Option.bind (q_wI g12 a16 ((x1 * (10 : Int32)) + x2) x3) fun g17 => some (.inr (), g17)
theorem rX11_profile {d : Nat} {Q : ps_Rs → ps_G → Prop} {g : ps_G} {x0 : Nat} {x1 : Int32} {x2 : Int32} {x3 : Int32} {r : (String ⊕ Unit) × ps_G} (h : fX11_profile g x0 x1 x2 x3 = some r) (hk : Q (q_rV r.1) r.2) : ps_Ok mX11_profile (d + 7) [.ref x0, .int x1, .int x2, .int x3] g Q := by
  unfold fX11_profile at h
  refine sX11_profile_0 ?_
  replace h := q_tc_e h
  rcases h with ⟨E, g2, hv, rfl⟩ | ⟨v1, g2, hv, h⟩
  · exact rX11_range hv ⟨rfl, hk⟩
  refine rX11_range hv ?_
  replace h := q_tc_e h
  rcases h with ⟨E, g4, hv, rfl⟩ | ⟨v3, g4, hv, h⟩
  · exact rX11_range hv ⟨rfl, hk⟩
  refine rX11_range hv ?_
  have kJ7 : ∀ w6 : Int32, w6 = (if ¬ x2 = (9 : Int32) then (-4096 : Int32) else (0 : Int32)) → ps_At mX11_profile (d + 7) 27 [(0, .ref x0), (1, .int x1), (2, .int x2), (3, .int x3)] [.int w6, .int x3] g4 Q := by
    rintro _ rfl
    refine sX11_profile_27 ?_
    have kJ10 : ∀ w9 : Int32, w9 = (if ¬ x2 = (9 : Int32) then (4096 : Int32) else (2 : Int32)) → ps_At mX11_profile (d + 7) 40 [(0, .ref x0), (1, .int x1), (2, .int x2), (3, .int x3)] [.int w9, .int (if ¬ x2 = (9 : Int32) then (-4096 : Int32) else (0 : Int32)), .int x3] g4 Q := by
      rintro _ rfl
      refine sX11_profile_40 ?_
      replace h := q_tc_e h
      rcases h with ⟨E, g12, hv, rfl⟩ | ⟨v11, g12, hv, h⟩
      · exact rX11_range hv ⟨rfl, hk⟩
      refine rX11_range hv ?_
      replace h := q_be h
      obtain ⟨v13, hv, h⟩ := h
      replace hv := q_fR_e hv
      obtain ⟨_, cv13, dv13⟩ := hv
      replace h := q_be h
      obtain ⟨a14, ea14, h⟩ := h
      subst ea14
      replace h := q_be h
      obtain ⟨v15, hv, h⟩ := h
      replace hv := q_fR_e hv
      obtain ⟨_, cv15, dv15⟩ := hv
      replace h := q_be h
      obtain ⟨a16, ea16, h⟩ := h
      subst ea16
      replace h := q_be h
      obtain ⟨g17, hv, h⟩ := h
      replace hv := q_wI_e hv
      obtain ⟨_, _, cg17, pg17, ig17, yg17⟩ := hv
      cases h
      exact ⟨⟨some _, rfl⟩, _, _, cv13, dv13, _, _, cv15, dv15, _, _, cg17, pg17, ig17, _, yg17, rfl, rfl, hk⟩
    refine And.intro (fun hc8 => ?_) (fun hc8 => ?_)
    · refine sX11_profile_37 ?_
      exact ps_weak (kJ10 _ (if_pos (hc8)).symm) ⟨rfl, rfl, rfl, rfl, trivial⟩
    · exact ps_weak (kJ10 _ (if_neg (hc8)).symm) ⟨rfl, rfl, rfl, rfl, trivial⟩
  refine And.intro (fun hc5 => ?_) (fun hc5 => ?_)
  · refine sX11_profile_24 ?_
    exact ps_weak (kJ7 _ (if_pos (hc5)).symm) ⟨rfl, rfl, rfl, rfl, trivial⟩
  · exact ps_weak (kJ7 _ (if_neg (hc5)).symm) ⟨rfl, rfl, rfl, rfl, trivial⟩
noncomputable def fX11_develop (g : ps_G) (x0 : Nat) (x1 : Int32) (x2 : Int32) : Option ((String ⊕ Unit) × ps_G) := q_tc (fX11_range g x1 (0 : Int32) (3 : Int32)) fun v1 g2 => q_tc (fX11_range g2 x2 (0 : Int32) (if ¬ x1 = 0 then (1024 : Int32) else (4095 : Int32))) fun v6 g7 => Option.bind (q_fR 11 10 g7 x0) fun v8 => Option.bind (v8) fun a9 => Option.bind (q_fR 3 1 g7 a9) fun v10 => Option.bind (v10) fun a11 => Option.bind (q_wI g7 a11 x1 x2) fun g12 => some (.inr (), g12)
theorem rX11_develop {d : Nat} {Q : ps_Rs → ps_G → Prop} {g : ps_G} {x0 : Nat} {x1 : Int32} {x2 : Int32} {r : (String ⊕ Unit) × ps_G} (h : fX11_develop g x0 x1 x2 = some r) (hk : Q (q_rV r.1) r.2) : ps_Ok mX11_develop (d + 7) [.ref x0, .int x1, .int x2] g Q := by
  unfold fX11_develop at h
  refine sX11_develop_0 ?_
  replace h := q_tc_e h
  rcases h with ⟨E, g2, hv, rfl⟩ | ⟨v1, g2, hv, h⟩
  · exact rX11_range hv ⟨rfl, hk⟩
  refine rX11_range hv ?_
  have kJ5 : ∀ w4 : Int32, w4 = (if ¬ x1 = 0 then (1024 : Int32) else (4095 : Int32)) → ps_At mX11_develop (d + 7) 21 [(0, .ref x0), (1, .int x1), (2, .int x2)] [.int w4, .int (0 : Int32), .int x2] g2 Q := by
    rintro _ rfl
    refine sX11_develop_21 ?_
    replace h := q_tc_e h
    rcases h with ⟨E, g7, hv, rfl⟩ | ⟨v6, g7, hv, h⟩
    · exact rX11_range hv ⟨rfl, hk⟩
    refine rX11_range hv ?_
    replace h := q_be h
    obtain ⟨v8, hv, h⟩ := h
    replace hv := q_fR_e hv
    obtain ⟨_, cv8, dv8⟩ := hv
    replace h := q_be h
    obtain ⟨a9, ea9, h⟩ := h
    subst ea9
    replace h := q_be h
    obtain ⟨v10, hv, h⟩ := h
    replace hv := q_fR_e hv
    obtain ⟨_, cv10, dv10⟩ := hv
    replace h := q_be h
    obtain ⟨a11, ea11, h⟩ := h
    subst ea11
    replace h := q_be h
    obtain ⟨g12, hv, h⟩ := h
    replace hv := q_wI_e hv
    obtain ⟨_, _, cg12, pg12, ig12, yg12⟩ := hv
    cases h
    exact ⟨⟨some _, rfl⟩, _, _, cv8, dv8, _, _, cv10, dv10, _, _, cg12, pg12, ig12, _, yg12, rfl, rfl, hk⟩
  refine And.intro (fun hc3 => ?_) (fun hc3 => ?_)
  · refine sX11_develop_18 ?_
    exact ps_weak (kJ5 _ (if_pos (hc3)).symm) ⟨rfl, rfl, rfl, trivial⟩
  · exact ps_weak (kJ5 _ (if_neg (hc3)).symm) ⟨rfl, rfl, rfl, trivial⟩
noncomputable def jX6_allows_39 (g : ps_G) (x2 : Int32) (x3 : Int32) (k0 : Int32) : Option (Int32) := if ¬ x2 = (2 : Int32) then (some (if ¬ (¬ x2 = 0) ∧ (¬ k0 = 0) then (0 : Int32) else (1 : Int32))) else (some (if (x3 ≤ 0) ∨ ((¬ k0 = 0) ∨ (x3 = (39 : Int32))) then (0 : Int32) else (1 : Int32)))
theorem pjX6_allows_39 {d : Nat} {Q : ps_Rs → ps_G → Prop} {g : ps_G} {x2 : Int32} {x3 : Int32} {k0 : Int32} {r : Int32} (h : jX6_allows_39 g x2 x3 k0 = some r) (hk : Q (.inl (some (.int r))) g) : ps_At mX6_allows d 39 [(2, .int x2), (3, .int x3)] [.int k0] g Q := by
  unfold jX6_allows_39 at h
  refine sX6_allows_39 ?_
  refine ⟨by decide, ?_⟩
  refine And.intro (fun hc6 => ?_) (fun hc6 => ?_)
  · replace h := q_ifp (hc6) h
    refine sX6_allows_67 ?_
    have kJ10 : ∀ w9 : Int32, w9 = (if ¬ (¬ x2 = 0) ∧ (¬ k0 = 0) then (0 : Int32) else (1 : Int32)) → ps_At mX6_allows d 81 [] [.int w9] g Q := by
      rintro _ rfl
      refine sX6_allows_81 ?_
      cases h
      exact ⟨rfl, q_ib (Or.inl rfl) (Or.inr rfl), hk⟩
    refine And.intro (fun hc7 => ?_) (fun hc7 => ?_)
    · refine sX6_allows_76 ?_
      exact ps_weak (kJ10 _ (if_neg (fun z => z.1 hc7)).symm) trivial
    · refine And.intro (fun hc8 => ?_) (fun hc8 => ?_)
      · refine sX6_allows_80 ?_
        exact ps_weak (kJ10 _ (if_pos (⟨hc7, hc8⟩)).symm) trivial
      · refine sX6_allows_76 ?_
        exact ps_weak (kJ10 _ (if_neg (fun z => hc8 z.2)).symm) trivial
  · replace h := q_ifn (hc6) h
    have kJ15 : ∀ w14 : Int32, w14 = (if (x3 ≤ 0) ∨ ((¬ k0 = 0) ∨ (x3 = (39 : Int32))) then (0 : Int32) else (1 : Int32)) → ps_At mX6_allows d 66 [] [.int w14] g Q := by
      rintro _ rfl
      refine sX6_allows_66 ?_
      cases h
      exact ⟨rfl, q_ib (Or.inl rfl) (Or.inr rfl), hk⟩
    refine And.intro (fun hc11 => ?_) (fun hc11 => ?_)
    · refine sX6_allows_65 ?_
      exact ps_weak (kJ15 _ (if_pos (Or.inl hc11)).symm) trivial
    · refine And.intro (fun hc12 => ?_) (fun hc12 => ?_)
      · refine sX6_allows_65 ?_
        exact ps_weak (kJ15 _ (if_pos (Or.inr (Or.inl hc12))).symm) trivial
      · refine And.intro (fun hc13 => ?_) (fun hc13 => ?_)
        · refine sX6_allows_65 ?_
          exact ps_weak (kJ15 _ (if_pos (Or.inr (Or.inr (hc13)))).symm) trivial
        · exact ps_weak (kJ15 _ (if_neg (not_or.mpr ⟨hc11, not_or.mpr ⟨hc12, hc13⟩⟩)).symm) trivial
noncomputable def jX6_allows_38 (g : ps_G) (x2 : Int32) (x3 : Int32) : Option (Int32) := jX6_allows_39 g x2 x3 (0 : Int32)
theorem pjX6_allows_38 {d : Nat} {Q : ps_Rs → ps_G → Prop} {g : ps_G} {x2 : Int32} {x3 : Int32} {r : Int32} (h : jX6_allows_38 g x2 x3 = some r) (hk : Q (.inl (some (.int r))) g) : ps_At mX6_allows d 38 [(2, .int x2), (3, .int x3)] [] g Q := by
  unfold jX6_allows_38 at h
  refine sX6_allows_38 ?_
  exact ps_weak (pjX6_allows_39 h hk) ⟨rfl, rfl, trivial⟩
noncomputable def fX6_allows (g : ps_G) (x0 : Nat) (x1 : Int32) (x2 : Int32) : Option (Int32) := Option.bind (q_fR 6 0 g x0) fun v1 => Option.bind (v1) fun a2 => Option.bind (q_aI g a2 x1) fun v3 => if (v3 ≤ 0) ∨ ((40 : Int32) < v3) then (jX6_allows_38 g x2 v3) else (Option.bind (q_fR 6 1 g x0) fun v18 => Option.bind (v18) fun a19 => Option.bind (q_aI g a19 (((x1 * (40 : Int32)) + v3) - (1 : Int32))) fun v20 => if ¬ v20 = (2 : Int32) then (jX6_allows_38 g x2 v3) else (jX6_allows_39 g x2 v3 (1 : Int32)))
theorem rX6_allows {d : Nat} {Q : ps_Rs → ps_G → Prop} {g : ps_G} {x0 : Nat} {x1 : Int32} {x2 : Int32} {r : Int32} (h : fX6_allows g x0 x1 x2 = some r) (hk : Q (.inl (some (.int r))) g) : ps_Ok mX6_allows d [.ref x0, .int x1, .int x2] g Q := by
  unfold fX6_allows at h
  refine sX6_allows_0 ?_
  replace h := q_be h
  obtain ⟨v1, hv, h⟩ := h
  replace hv := q_fR_e hv
  obtain ⟨_, cv1, dv1⟩ := hv
  replace h := q_be h
  obtain ⟨a2, ea2, h⟩ := h
  subst ea2
  replace h := q_be h
  obtain ⟨v3, hv, h⟩ := h
  replace hv := q_aI_e hv
  obtain ⟨_, _, cv3, iv3, yv3⟩ := hv
  have kT24 : (jX6_allows_38 g x2 v3) = some r → ps_At mX6_allows d 38 [(2, .int x2), (3, .int v3)] [] g Q := fun h => by
    exact ps_weak (pjX6_allows_38 h hk) ⟨rfl, rfl, trivial⟩
  refine ⟨⟨some _, rfl⟩, _, _, cv1, dv1, _, _, cv3, iv3, _, yv3, by decide, ?_⟩
  refine And.intro (fun hc4 => ?_) (fun hc4 => ?_)
  · exact ps_weak (kT24 (q_ifp (Or.inl hc4) h)) ⟨rfl, rfl, trivial⟩
  · refine And.intro (fun hc5 => ?_) (fun hc5 => ?_)
    · exact ps_weak (kT24 (q_ifp (Or.inr (hc5)) h)) ⟨rfl, rfl, trivial⟩
    · replace h := q_ifn (not_or.mpr ⟨hc4, hc5⟩) h
      replace h := q_be h
      obtain ⟨v18, hv, h⟩ := h
      replace hv := q_fR_e hv
      obtain ⟨_, cv18, dv18⟩ := hv
      replace h := q_be h
      obtain ⟨a19, ea19, h⟩ := h
      subst ea19
      replace h := q_be h
      obtain ⟨v20, hv, h⟩ := h
      replace hv := q_aI_e hv
      obtain ⟨_, _, cv20, iv20, yv20⟩ := hv
      refine ⟨⟨some _, rfl⟩, _, _, cv18, dv18, _, _, cv20, iv20, _, yv20, ?_⟩
      refine And.intro (fun hc21 => ?_) (fun hc21 => ?_)
      · replace h := q_ifp (hc21) h
        exact ps_weak (pjX6_allows_38 h hk) ⟨rfl, rfl, trivial⟩
      · replace h := q_ifn (hc21) h
        exact ps_weak (pjX6_allows_39 h hk) ⟨rfl, rfl, trivial⟩
noncomputable def jX6_addStep_69 (g : ps_G) : Option (ps_G) := some g
theorem pjX6_addStep_69 {d : Nat} {Q : ps_Rs → ps_G → Prop} {g : ps_G}  {r : ps_G} (h : jX6_addStep_69 g = some r) (hk : Q (.inl none) r) : ps_At mX6_addStep d 69 [] [] g Q := by
  unfold jX6_addStep_69 at h
  refine sX6_addStep_69 ?_
  cases h
  exact ⟨rfl, rfl, hk⟩
noncomputable def fX6_addStep (g : ps_G) (x0 : Nat) (x1 : Int32) (x2 : Int32) (x3 : Int32) (x4 : Int32) : Option (ps_G) := Option.bind (q_fR 6 0 g x0) fun v1 => Option.bind (v1) fun a2 => Option.bind (q_aI g a2 x1) fun v3 => Option.bind (q_fR 6 0 g x0) fun v4 => Option.bind (v4) fun a5 => Option.bind (q_aI g a5 x1) fun v6 => if (40 : Int32) ≤ v6 then (jX6_addStep_69 g) else (Option.bind (q_fR 6 1 g x0) fun v9 => Option.bind (v9) fun a10 => Option.bind (q_len g a10) fun v11 => if v11 ≤ ((x1 * (40 : Int32)) + v3) then (jX6_addStep_69 g) else (Option.bind (q_fR 6 1 g x0) fun v14 => Option.bind (v14) fun a15 => Option.bind (q_wI g a15 ((x1 * (40 : Int32)) + v3) x2) fun g16 => Option.bind (q_fR 6 2 g16 x0) fun v17 => Option.bind (v17) fun a18 => Option.bind (q_wI g16 a18 ((x1 * (40 : Int32)) + v3) x3) fun g19 => Option.bind (q_fR 6 3 g19 x0) fun v20 => Option.bind (v20) fun a21 => Option.bind (q_wI g19 a21 ((x1 * (40 : Int32)) + v3) x4) fun g22 => Option.bind (q_fR 6 0 g22 x0) fun v23 => Option.bind (v23) fun a24 => Option.bind (q_aI g22 a24 x1) fun v25 => Option.bind (q_wI g22 a24 x1 (v25 + (1 : Int32))) fun g26 => jX6_addStep_69 g26))
theorem rX6_addStep {d : Nat} {Q : ps_Rs → ps_G → Prop} {g : ps_G} {x0 : Nat} {x1 : Int32} {x2 : Int32} {x3 : Int32} {x4 : Int32} {r : ps_G} (h : fX6_addStep g x0 x1 x2 x3 x4 = some r) (hk : Q (.inl none) r) : ps_Ok mX6_addStep d [.ref x0, .int x1, .int x2, .int x3, .int x4] g Q := by
  unfold fX6_addStep at h
  refine sX6_addStep_0 ?_
  replace h := q_be h
  obtain ⟨v1, hv, h⟩ := h
  replace hv := q_fR_e hv
  obtain ⟨_, cv1, dv1⟩ := hv
  replace h := q_be h
  obtain ⟨a2, ea2, h⟩ := h
  subst ea2
  replace h := q_be h
  obtain ⟨v3, hv, h⟩ := h
  replace hv := q_aI_e hv
  obtain ⟨_, _, cv3, iv3, yv3⟩ := hv
  replace h := q_be h
  obtain ⟨v4, hv, h⟩ := h
  replace hv := q_fR_e hv
  obtain ⟨_, cv4, dv4⟩ := hv
  replace h := q_be h
  obtain ⟨a5, ea5, h⟩ := h
  subst ea5
  replace h := q_be h
  obtain ⟨v6, hv, h⟩ := h
  replace hv := q_aI_e hv
  obtain ⟨_, _, cv6, iv6, yv6⟩ := hv
  refine ⟨⟨some _, rfl⟩, _, _, cv1, dv1, _, _, cv3, iv3, _, yv3, by decide, ⟨some _, rfl⟩, _, _, cv4, dv4, _, _, cv6, iv6, _, yv6, ?_⟩
  refine And.intro (fun hc7 => ?_) (fun hc7 => ?_)
  · replace h := q_ifp (hc7) h
    exact ps_weak (pjX6_addStep_69 h hk) trivial
  · replace h := q_ifn (hc7) h
    replace h := q_be h
    obtain ⟨v9, hv, h⟩ := h
    replace hv := q_fR_e hv
    obtain ⟨_, cv9, dv9⟩ := hv
    replace h := q_be h
    obtain ⟨a10, ea10, h⟩ := h
    subst ea10
    replace h := q_be h
    obtain ⟨v11, hv, h⟩ := h
    replace hv := q_len_e hv
    obtain ⟨_, _, cv11, qv11, yv11⟩ := hv
    refine ⟨⟨some _, rfl⟩, _, _, cv9, dv9, _, _, cv11, qv11, _, yv11, ?_⟩
    refine And.intro (fun hc12 => ?_) (fun hc12 => ?_)
    · replace h := q_ifp (hc12) h
      exact ps_weak (pjX6_addStep_69 h hk) trivial
    · replace h := q_ifn (hc12) h
      replace h := q_be h
      obtain ⟨v14, hv, h⟩ := h
      replace hv := q_fR_e hv
      obtain ⟨_, cv14, dv14⟩ := hv
      replace h := q_be h
      obtain ⟨a15, ea15, h⟩ := h
      subst ea15
      replace h := q_be h
      obtain ⟨g16, hv, h⟩ := h
      replace hv := q_wI_e hv
      obtain ⟨_, _, cg16, pg16, ig16, yg16⟩ := hv
      replace h := q_be h
      obtain ⟨v17, hv, h⟩ := h
      replace hv := q_fR_e hv
      obtain ⟨_, cv17, dv17⟩ := hv
      replace h := q_be h
      obtain ⟨a18, ea18, h⟩ := h
      subst ea18
      replace h := q_be h
      obtain ⟨g19, hv, h⟩ := h
      replace hv := q_wI_e hv
      obtain ⟨_, _, cg19, pg19, ig19, yg19⟩ := hv
      replace h := q_be h
      obtain ⟨v20, hv, h⟩ := h
      replace hv := q_fR_e hv
      obtain ⟨_, cv20, dv20⟩ := hv
      replace h := q_be h
      obtain ⟨a21, ea21, h⟩ := h
      subst ea21
      replace h := q_be h
      obtain ⟨g22, hv, h⟩ := h
      replace hv := q_wI_e hv
      obtain ⟨_, _, cg22, pg22, ig22, yg22⟩ := hv
      replace h := q_be h
      obtain ⟨v23, hv, h⟩ := h
      replace hv := q_fR_e hv
      obtain ⟨_, cv23, dv23⟩ := hv
      replace h := q_be h
      obtain ⟨a24, ea24, h⟩ := h
      subst ea24
      refine ⟨⟨some _, rfl⟩, _, _, cv14, dv14, _, _, cg16, pg16, ig16, _, yg16, ⟨some _, rfl⟩, _, _, cv17, dv17, _, _, cg19, pg19, ig19, _, yg19, ⟨some _, rfl⟩, _, _, cv20, dv20, _, _, cg22, pg22, ig22, _, yg22, ⟨some _, rfl⟩, _, _, cv23, dv23, ?_⟩
      replace h := q_be h
      obtain ⟨v25, hv, h⟩ := h
      replace hv := q_aI_e hv
      obtain ⟨_, _, cv25, iv25, yv25⟩ := hv
      replace h := q_be h
      obtain ⟨g26, hv, h⟩ := h
      replace hv := q_wI_e hv
      obtain ⟨_, _, cg26, pg26, ig26, yg26⟩ := hv
      refine ⟨rfl, rfl, _, _, cv25, iv25, _, yv25, _, _, cg26, pg26, ig26, _, yg26, ?_⟩
      exact ps_weak (pjX6_addStep_69 h hk) trivial
noncomputable def fX11_step (g : ps_G) (x0 : Nat) (x1 : Int32) (x2 : Int32) (x3 : Int32) (x4 : Int32) : Option ((String ⊕ Int32) × ps_G) := q_tc (fX11_range g x1 (0 : Int32) (7 : Int32)) fun v1 g2 => q_tc (fX11_range g2 x2 (0 : Int32) (3 : Int32)) fun v3 g4 => if ¬ x2 = (3 : Int32) then (q_tc (fX11_range g4 x3 (-2000 : Int32) (2000 : Int32)) fun v6 g7 => q_tc (fX11_range g7 x4 (-2000 : Int32) (2000 : Int32)) fun v8 g9 => Option.bind (q_fR 11 9 g9 x0) fun v10 => Option.bind (v10) fun a11 => Option.bind (q_ob 6 g9 a11) fun u12 => Option.bind (fX6_allows g9 a11 x1 x2) fun v13 => q_tc (fX11_refuse g9 (if ¬ v13 = 0 then (0 : Int32) else (1 : Int32))) fun v17 g18 => Option.bind (q_fR 11 9 g18 x0) fun v19 => Option.bind (v19) fun a20 => Option.bind (q_fR 6 0 g18 a20) fun v21 => Option.bind (v21) fun a22 => Option.bind (q_aI g18 a22 x1) fun v23 => if v23 < (40 : Int32) then (Option.bind (q_fR 11 9 g18 x0) fun v25 => Option.bind (v25) fun a26 => Option.bind (q_ob 6 g18 a26) fun u27 => Option.bind (fX6_addStep g18 a26 x1 x2 x3 x4) fun v28 => Option.bind (q_fR 11 9 v28 x0) fun v29 => Option.bind (v29) fun a30 => Option.bind (q_fR 6 0 v28 a30) fun v31 => Option.bind (v31) fun a32 => Option.bind (q_aI v28 a32 x1) fun v33 => some (.inr v33, v28)) else (some (.inl "java/lang/IndexOutOfBoundsException", ps_nw g18 6 ps_e0))) else (Option.bind (q_fR 11 9 g4 x0) fun v36 => Option.bind (v36) fun a37 => Option.bind (q_fR 6 0 g4 a37) fun v38 => Option.bind (v38) fun a39 => Option.bind (q_wI g4 a39 x1 (0 : Int32)) fun g40 => some (.inr (0 : Int32), g40))
theorem rX11_step {d : Nat} {Q : ps_Rs → ps_G → Prop} {g : ps_G} {x0 : Nat} {x1 : Int32} {x2 : Int32} {x3 : Int32} {x4 : Int32} {r : (String ⊕ Int32) × ps_G} (h : fX11_step g x0 x1 x2 x3 x4 = some r) (hk : Q (q_rI r.1) r.2) : ps_Ok mX11_step (d + 7) [.ref x0, .int x1, .int x2, .int x3, .int x4] g Q := by
  unfold fX11_step at h
  refine sX11_step_0 ?_
  replace h := q_tc_e h
  rcases h with ⟨E, g2, hv, rfl⟩ | ⟨v1, g2, hv, h⟩
  · exact rX11_range hv ⟨rfl, hk⟩
  refine rX11_range hv ?_
  replace h := q_tc_e h
  rcases h with ⟨E, g4, hv, rfl⟩ | ⟨v3, g4, hv, h⟩
  · exact rX11_range hv ⟨rfl, hk⟩
  refine rX11_range hv ?_
  refine And.intro (fun hc5 => ?_) (fun hc5 => ?_)
  · replace h := q_ifp (hc5) h
    refine sX11_step_30 ?_
    replace h := q_tc_e h
    rcases h with ⟨E, g7, hv, rfl⟩ | ⟨v6, g7, hv, h⟩
    · exact rX11_range hv ⟨rfl, hk⟩
    refine rX11_range hv ?_
    replace h := q_tc_e h
    rcases h with ⟨E, g9, hv, rfl⟩ | ⟨v8, g9, hv, h⟩
    · exact rX11_range hv ⟨rfl, hk⟩
    refine rX11_range hv ?_
    replace h := q_be h
    obtain ⟨v10, hv, h⟩ := h
    replace hv := q_fR_e hv
    obtain ⟨_, cv10, dv10⟩ := hv
    replace h := q_be h
    obtain ⟨a11, ea11, h⟩ := h
    subst ea11
    replace h := q_be h
    obtain ⟨u12, hv, h⟩ := h
    replace hv := q_ob_e hv
    obtain ⟨_, cu12⟩ := hv
    replace h := q_be h
    obtain ⟨v13, hv, h⟩ := h
    refine ⟨⟨some _, rfl⟩, _, _, cv10, dv10, ⟨_, cu12⟩, ?_⟩
    refine rX6_allows hv ?_
    have kJ16 : ∀ w15 : Int32, w15 = (if ¬ v13 = 0 then (0 : Int32) else (1 : Int32)) → ps_At mX11_step (d + 7) 68 [(0, .ref x0), (1, .int x1), (2, .int x2), (3, .int x3), (4, .int x4)] [.int w15] g9 Q := by
      rintro _ rfl
      refine sX11_step_68 ?_
      replace h := q_tc_e h
      rcases h with ⟨E, g18, hv, rfl⟩ | ⟨v17, g18, hv, h⟩
      · exact rX11_refuse hv ⟨rfl, hk⟩
      refine rX11_refuse hv ?_
      replace h := q_be h
      obtain ⟨v19, hv, h⟩ := h
      replace hv := q_fR_e hv
      obtain ⟨_, cv19, dv19⟩ := hv
      replace h := q_be h
      obtain ⟨a20, ea20, h⟩ := h
      subst ea20
      replace h := q_be h
      obtain ⟨v21, hv, h⟩ := h
      replace hv := q_fR_e hv
      obtain ⟨_, cv21, dv21⟩ := hv
      replace h := q_be h
      obtain ⟨a22, ea22, h⟩ := h
      subst ea22
      replace h := q_be h
      obtain ⟨v23, hv, h⟩ := h
      replace hv := q_aI_e hv
      obtain ⟨_, _, cv23, iv23, yv23⟩ := hv
      refine ⟨⟨some _, rfl⟩, _, _, cv19, dv19, _, _, cv21, dv21, _, _, cv23, iv23, _, yv23, ?_⟩
      refine And.intro (fun hc24 => ?_) (fun hc24 => ?_)
      · replace h := q_ifp (hc24) h
        refine sX11_step_96 ?_
        replace h := q_be h
        obtain ⟨v25, hv, h⟩ := h
        replace hv := q_fR_e hv
        obtain ⟨_, cv25, dv25⟩ := hv
        replace h := q_be h
        obtain ⟨a26, ea26, h⟩ := h
        subst ea26
        replace h := q_be h
        obtain ⟨u27, hv, h⟩ := h
        replace hv := q_ob_e hv
        obtain ⟨_, cu27⟩ := hv
        replace h := q_be h
        obtain ⟨v28, hv, h⟩ := h
        refine ⟨⟨some _, rfl⟩, _, _, cv25, dv25, ⟨_, cu27⟩, ?_⟩
        refine rX6_addStep hv ?_
        replace h := q_be h
        obtain ⟨v29, hv, h⟩ := h
        replace hv := q_fR_e hv
        obtain ⟨_, cv29, dv29⟩ := hv
        replace h := q_be h
        obtain ⟨a30, ea30, h⟩ := h
        subst ea30
        replace h := q_be h
        obtain ⟨v31, hv, h⟩ := h
        replace hv := q_fR_e hv
        obtain ⟨_, cv31, dv31⟩ := hv
        replace h := q_be h
        obtain ⟨a32, ea32, h⟩ := h
        subst ea32
        replace h := q_be h
        obtain ⟨v33, hv, h⟩ := h
        replace hv := q_aI_e hv
        obtain ⟨_, _, cv33, iv33, yv33⟩ := hv
        cases h
        exact ⟨⟨some _, rfl⟩, _, _, cv29, dv29, _, _, cv31, dv31, _, _, cv33, iv33, _, yv33, rfl, hk⟩
      · replace h := q_ifn (hc24) h
        cases h
        exact sX11_step_85 (by decide) hk
    refine And.intro (fun hc14 => ?_) (fun hc14 => ?_)
    · refine sX11_step_67 ?_
      exact ps_weak (kJ16 _ (if_pos (hc14)).symm) ⟨rfl, rfl, rfl, rfl, rfl, trivial⟩
    · exact ps_weak (kJ16 _ (if_neg (hc14)).symm) ⟨rfl, rfl, rfl, rfl, rfl, trivial⟩
  · replace h := q_ifn (hc5) h
    replace h := q_be h
    obtain ⟨v36, hv, h⟩ := h
    replace hv := q_fR_e hv
    obtain ⟨_, cv36, dv36⟩ := hv
    replace h := q_be h
    obtain ⟨a37, ea37, h⟩ := h
    subst ea37
    replace h := q_be h
    obtain ⟨v38, hv, h⟩ := h
    replace hv := q_fR_e hv
    obtain ⟨_, cv38, dv38⟩ := hv
    replace h := q_be h
    obtain ⟨a39, ea39, h⟩ := h
    subst ea39
    replace h := q_be h
    obtain ⟨g40, hv, h⟩ := h
    replace hv := q_wI_e hv
    obtain ⟨_, _, cg40, pg40, ig40, yg40⟩ := hv
    cases h
    exact ⟨⟨some _, rfl⟩, _, _, cv36, dv36, _, _, cv38, dv38, _, _, cg40, pg40, ig40, _, yg40, rfl, hk⟩
noncomputable def fX11_glyph (g : ps_G) (x0 : Nat) (x1 : Int32) (x2 : Int32) (x3 : Int32) : Option ((String ⊕ Unit) × ps_G) := q_tc (fX11_range g x1 (0 : Int32) (255 : Int32)) fun v1 g2 => q_tc (fX11_range g2 x2 (-1 : Int32) (7 : Int32)) fun v3 g4 => q_tc (fX11_range g4 x3 (0 : Int32) (800 : Int32)) fun v5 g6 => Option.bind (q_fR 11 9 g6 x0) fun v7 => Option.bind (v7) fun a8 => Option.bind (q_fR 6 4 g6 a8) fun v9 => Option.bind (v9) fun a10 => Option.bind (q_wI g6 a10 x1 x2) fun g11 => Option.bind (q_fR 11 9 g11 x0) fun v12 => Option.bind (v12) fun a13 => Option.bind (q_fR 6 5 g11 a13) fun v14 => Option.bind (v14) fun a15 => Option.bind (q_wI g11 a15 x1 x3) fun g16 => some (.inr (), g16)
theorem rX11_glyph {d : Nat} {Q : ps_Rs → ps_G → Prop} {g : ps_G} {x0 : Nat} {x1 : Int32} {x2 : Int32} {x3 : Int32} {r : (String ⊕ Unit) × ps_G} (h : fX11_glyph g x0 x1 x2 x3 = some r) (hk : Q (q_rV r.1) r.2) : ps_Ok mX11_glyph (d + 7) [.ref x0, .int x1, .int x2, .int x3] g Q := by
  unfold fX11_glyph at h
  refine sX11_glyph_0 ?_
  replace h := q_tc_e h
  rcases h with ⟨E, g2, hv, rfl⟩ | ⟨v1, g2, hv, h⟩
  · exact rX11_range hv ⟨rfl, hk⟩
  refine rX11_range hv ?_
  replace h := q_tc_e h
  rcases h with ⟨E, g4, hv, rfl⟩ | ⟨v3, g4, hv, h⟩
  · exact rX11_range hv ⟨rfl, hk⟩
  refine rX11_range hv ?_
  replace h := q_tc_e h
  rcases h with ⟨E, g6, hv, rfl⟩ | ⟨v5, g6, hv, h⟩
  · exact rX11_range hv ⟨rfl, hk⟩
  refine rX11_range hv ?_
  replace h := q_be h
  obtain ⟨v7, hv, h⟩ := h
  replace hv := q_fR_e hv
  obtain ⟨_, cv7, dv7⟩ := hv
  replace h := q_be h
  obtain ⟨a8, ea8, h⟩ := h
  subst ea8
  replace h := q_be h
  obtain ⟨v9, hv, h⟩ := h
  replace hv := q_fR_e hv
  obtain ⟨_, cv9, dv9⟩ := hv
  replace h := q_be h
  obtain ⟨a10, ea10, h⟩ := h
  subst ea10
  replace h := q_be h
  obtain ⟨g11, hv, h⟩ := h
  replace hv := q_wI_e hv
  obtain ⟨_, _, cg11, pg11, ig11, yg11⟩ := hv
  replace h := q_be h
  obtain ⟨v12, hv, h⟩ := h
  replace hv := q_fR_e hv
  obtain ⟨_, cv12, dv12⟩ := hv
  replace h := q_be h
  obtain ⟨a13, ea13, h⟩ := h
  subst ea13
  replace h := q_be h
  obtain ⟨v14, hv, h⟩ := h
  replace hv := q_fR_e hv
  obtain ⟨_, cv14, dv14⟩ := hv
  replace h := q_be h
  obtain ⟨a15, ea15, h⟩ := h
  subst ea15
  replace h := q_be h
  obtain ⟨g16, hv, h⟩ := h
  replace hv := q_wI_e hv
  obtain ⟨_, _, cg16, pg16, ig16, yg16⟩ := hv
  cases h
  exact ⟨⟨some _, rfl⟩, _, _, cv7, dv7, _, _, cv9, dv9, _, _, cg11, pg11, ig11, _, yg11, ⟨some _, rfl⟩, _, _, cv12, dv12, _, _, cv14, dv14, _, _, cg16, pg16, ig16, _, yg16, rfl, rfl, hk⟩
def fX10_tileOf (x0 : Int32) (x1 : Int32) : Int32 := ((fX11_within (x1 / (8 : Int32)) (0 : Int32) (2 : Int32)) * (3 : Int32)) + (fX11_within (x0 / (8 : Int32)) (0 : Int32) (2 : Int32))
theorem rX10_tileOf {d : Nat} {Q : ps_Rs → ps_G → Prop} {g : ps_G} {x0 : Int32} {x1 : Int32} {r : Int32} (h : fX10_tileOf x0 x1 = r) (hk : Q (.inl (some (.int r))) g) : ps_Ok mX10_tileOf (d + 1) [.int x0, .int x1] g Q := by
  unfold fX10_tileOf at h
  refine sX10_tileOf_0 ?_
  refine ⟨by decide, _, rfl, ?_⟩
  refine rX11_within rfl ?_
  refine ⟨by decide, _, rfl, ?_⟩
  refine rX11_within rfl ?_
  subst h
  exact ⟨rfl, hk⟩
noncomputable def fX10_keeps (g : ps_G) (x0 : Nat) (x1 : Int32) (x2 : Int32) : Option (Int32) := Option.bind (q_fR 10 7 g x0) fun v1 => Option.bind (v1) fun a2 => Option.bind (q_aB g a2 (fX10_tileOf x1 x2)) fun v3 => Option.bind (q_bl v3) fun v4 => some v4
theorem rX10_keeps {d : Nat} {Q : ps_Rs → ps_G → Prop} {g : ps_G} {x0 : Nat} {x1 : Int32} {x2 : Int32} {r : Int32} (h : fX10_keeps g x0 x1 x2 = some r) (hk : Q (.inl (some (.int r))) g) : ps_Ok mX10_keeps (d + 2) [.ref x0, .int x1, .int x2] g Q := by
  unfold fX10_keeps at h
  refine sX10_keeps_0 ?_
  replace h := q_be h
  obtain ⟨v1, hv, h⟩ := h
  replace hv := q_fR_e hv
  obtain ⟨_, cv1, dv1⟩ := hv
  replace h := q_be h
  obtain ⟨a2, ea2, h⟩ := h
  subst ea2
  refine ⟨⟨some _, rfl⟩, _, _, cv1, dv1, ?_⟩
  refine rX10_tileOf rfl ?_
  replace h := q_be h
  obtain ⟨v3, hv, h⟩ := h
  replace hv := q_aB_e hv
  obtain ⟨_, _, cv3, iv3, yv3⟩ := hv
  replace h := q_be h
  obtain ⟨v4, hv, h⟩ := h
  replace hv := q_bl_e hv
  obtain ⟨zv4, rfl⟩ := hv
  cases h
  exact ⟨_, _, cv3, iv3, _, yv3, rfl, zv4, hk⟩
noncomputable def jX10_keep_104_51 (g : ps_G) (x0 : Nat) (x1 : Int32) (x2 : Int32) (x3 : Int32) (x4 : Int32) (x5 : Nat) (x6 : Int32) (x7 : Int32) (x8 : Int32) (x9 : Int32) : Option ((Int32 × ps_G) ⊕ (ps_G)) := some (.inl (x9 + (1 : Int32), g))
theorem pjX10_keep_104_51 {d : Nat} {Q : ps_Rs → ps_G → Prop} {g : ps_G} {x0 : Nat} {x1 : Int32} {x2 : Int32} {x3 : Int32} {x4 : Int32} {x5 : Nat} {x6 : Int32} {x7 : Int32} {x8 : Int32} {x9 : Int32} {x : (Int32 × ps_G) ⊕ (ps_G)} (h : jX10_keep_104_51 g x0 x1 x2 x3 x4 x5 x6 x7 x8 x9 = some x) (hh : ∀ s' : Int32 × ps_G, x = .inl s' → ps_At mX10_keep (d + 2) 51 [(0, .ref x0), (1, .int x1), (2, .int x2), (3, .int x3), (4, .int x4), (5, .ref x5), (6, .int x6), (7, .int x7), (8, .int x8), (9, .int s'.1)] [] s'.2 Q) (he : ∀ r' : ps_G, x = .inr r' → ps_At mX10_keep (d + 2) 110 [(0, .ref x0), (1, .int x1), (2, .int x2), (3, .int x3), (4, .int x4), (5, .ref x5), (6, .int x6), (7, .int x7), (8, .int x8)] [] r' Q) : ps_At mX10_keep (d + 2) 104 [(0, .ref x0), (1, .int x1), (2, .int x2), (3, .int x3), (4, .int x4), (5, .ref x5), (6, .int x6), (7, .int x7), (8, .int x8), (9, .int x9)] [] g Q := by
  unfold jX10_keep_104_51 at h
  refine sX10_keep_104 ?_
  refine ⟨by decide, ?_⟩
  exact ps_weak (hh (x9 + (1 : Int32), g) (Option.some.inj h).symm) ⟨rfl, rfl, rfl, rfl, rfl, rfl, rfl, rfl, rfl, rfl, trivial⟩
noncomputable def bX10_keep_51 (x0 : Nat) (x1 : Int32) (x2 : Int32) (x3 : Int32) (x4 : Int32) (x5 : Nat) (x6 : Int32) (x7 : Int32) (x8 : Int32) (x9 : Int32) (g : ps_G) : Option ((Int32 × ps_G) ⊕ (ps_G)) := if ((x6 + (8 : Int32)) ≤ x9) ∨ (x3 ≤ x9) then (some (.inr g)) else (if (576 : Int32) ≤ ((x8 * x3) + x9) then (jX10_keep_104_51 g x0 x1 x2 x3 x4 x5 x6 x7 x8 x9) else (Option.bind (q_len g x5) fun v9 => if v9 ≤ ((x8 * x3) + x9) then (jX10_keep_104_51 g x0 x1 x2 x3 x4 x5 x6 x7 x8 x9) else (Option.bind (q_fR 10 6 g x0) fun v12 => Option.bind (v12) fun a13 => Option.bind (q_aI g x5 ((x8 * x3) + x9)) fun v14 => Option.bind (q_wI g a13 ((x8 * x3) + x9) v14) fun g15 => jX10_keep_104_51 g15 x0 x1 x2 x3 x4 x5 x6 x7 x8 x9)))
theorem pbX10_keep_51 {d : Nat} {Q : ps_Rs → ps_G → Prop}  {x0 : Nat} {x1 : Int32} {x2 : Int32} {x3 : Int32} {x4 : Int32} {x5 : Nat} {x6 : Int32} {x7 : Int32} {x8 : Int32} {x9 : Int32} {g : ps_G} {x : (Int32 × ps_G) ⊕ (ps_G)} (h : bX10_keep_51 x0 x1 x2 x3 x4 x5 x6 x7 x8 x9 g = some x) (hh : ∀ s' : Int32 × ps_G, x = .inl s' → ps_At mX10_keep (d + 2) 51 [(0, .ref x0), (1, .int x1), (2, .int x2), (3, .int x3), (4, .int x4), (5, .ref x5), (6, .int x6), (7, .int x7), (8, .int x8), (9, .int s'.1)] [] s'.2 Q) (he : ∀ r' : ps_G, x = .inr r' → ps_At mX10_keep (d + 2) 110 [(0, .ref x0), (1, .int x1), (2, .int x2), (3, .int x3), (4, .int x4), (5, .ref x5), (6, .int x6), (7, .int x7), (8, .int x8)] [] r' Q) : ps_At mX10_keep (d + 2) 51 [(0, .ref x0), (1, .int x1), (2, .int x2), (3, .int x3), (4, .int x4), (5, .ref x5), (6, .int x6), (7, .int x7), (8, .int x8), (9, .int x9)] [] g Q := by
  unfold bX10_keep_51 at h
  refine sX10_keep_51 ?_
  have kT20 : (some (.inr g)) = some x → ps_At mX10_keep (d + 2) 110 [(0, .ref x0), (1, .int x1), (2, .int x2), (3, .int x3), (4, .int x4), (5, .ref x5), (6, .int x6), (7, .int x7), (8, .int x8)] [] g Q := fun h => by
    exact ps_weak (he g (Option.some.inj h).symm) ⟨rfl, rfl, rfl, rfl, rfl, rfl, rfl, rfl, rfl, trivial⟩
  refine And.intro (fun hc3 => ?_) (fun hc3 => ?_)
  · exact ps_weak (kT20 (q_ifp (Or.inl hc3) h)) ⟨rfl, rfl, rfl, rfl, rfl, rfl, rfl, rfl, rfl, trivial⟩
  · refine And.intro (fun hc4 => ?_) (fun hc4 => ?_)
    · exact ps_weak (kT20 (q_ifp (Or.inr (hc4)) h)) ⟨rfl, rfl, rfl, rfl, rfl, rfl, rfl, rfl, rfl, trivial⟩
    · replace h := q_ifn (not_or.mpr ⟨hc3, hc4⟩) h
      refine ⟨by decide, ?_⟩
      refine And.intro (fun hc7 => ?_) (fun hc7 => ?_)
      · replace h := q_ifp (hc7) h
        exact ps_weak (pjX10_keep_104_51 h hh he) ⟨rfl, rfl, rfl, rfl, rfl, rfl, rfl, rfl, rfl, rfl, trivial⟩
      · replace h := q_ifn (hc7) h
        replace h := q_be h
        obtain ⟨v9, hv, h⟩ := h
        replace hv := q_len_e hv
        obtain ⟨_, _, cv9, qv9, yv9⟩ := hv
        refine ⟨⟨some _, rfl⟩, _, _, cv9, qv9, _, yv9, ?_⟩
        refine And.intro (fun hc10 => ?_) (fun hc10 => ?_)
        · replace h := q_ifp (hc10) h
          exact ps_weak (pjX10_keep_104_51 h hh he) ⟨rfl, rfl, rfl, rfl, rfl, rfl, rfl, rfl, rfl, rfl, trivial⟩
        · replace h := q_ifn (hc10) h
          replace h := q_be h
          obtain ⟨v12, hv, h⟩ := h
          replace hv := q_fR_e hv
          obtain ⟨_, cv12, dv12⟩ := hv
          replace h := q_be h
          obtain ⟨a13, ea13, h⟩ := h
          subst ea13
          replace h := q_be h
          obtain ⟨v14, hv, h⟩ := h
          replace hv := q_aI_e hv
          obtain ⟨_, _, cv14, iv14, yv14⟩ := hv
          replace h := q_be h
          obtain ⟨g15, hv, h⟩ := h
          replace hv := q_wI_e hv
          obtain ⟨_, _, cg15, pg15, ig15, yg15⟩ := hv
          refine ⟨⟨some _, rfl⟩, _, _, cv12, dv12, ⟨some _, rfl⟩, _, _, cv14, iv14, _, yv14, _, _, cg15, pg15, ig15, _, yg15, ?_⟩
          exact ps_weak (pjX10_keep_104_51 h hh he) ⟨rfl, rfl, rfl, rfl, rfl, rfl, rfl, rfl, rfl, rfl, trivial⟩
noncomputable def jX10_keep_110_26 (g : ps_G) (x0 : Nat) (x1 : Int32) (x2 : Int32) (x3 : Int32) (x4 : Int32) (x5 : Nat) (x6 : Int32) (x7 : Int32) (x8 : Int32) : Option ((Int32 × ps_G) ⊕ (ps_G)) := some (.inl (x8 + (1 : Int32), g))
theorem pjX10_keep_110_26 {d : Nat} {Q : ps_Rs → ps_G → Prop} {g : ps_G} {x0 : Nat} {x1 : Int32} {x2 : Int32} {x3 : Int32} {x4 : Int32} {x5 : Nat} {x6 : Int32} {x7 : Int32} {x8 : Int32} {x : (Int32 × ps_G) ⊕ (ps_G)} (h : jX10_keep_110_26 g x0 x1 x2 x3 x4 x5 x6 x7 x8 = some x) (hh : ∀ s' : Int32 × ps_G, x = .inl s' → ps_At mX10_keep (d + 2) 26 [(0, .ref x0), (1, .int x1), (2, .int x2), (3, .int x3), (4, .int x4), (5, .ref x5), (6, .int x6), (7, .int x7), (8, .int s'.1)] [] s'.2 Q) (he : ∀ r' : ps_G, x = .inr r' → ps_At mX10_keep (d + 2) 116 [(0, .ref x0), (1, .int x1), (2, .int x2)] [] r' Q) : ps_At mX10_keep (d + 2) 110 [(0, .ref x0), (1, .int x1), (2, .int x2), (3, .int x3), (4, .int x4), (5, .ref x5), (6, .int x6), (7, .int x7), (8, .int x8)] [] g Q := by
  unfold jX10_keep_110_26 at h
  refine sX10_keep_110 ?_
  refine ⟨by decide, ?_⟩
  exact ps_weak (hh (x8 + (1 : Int32), g) (Option.some.inj h).symm) ⟨rfl, rfl, rfl, rfl, rfl, rfl, rfl, rfl, rfl, trivial⟩
noncomputable def bX10_keep_26 (x0 : Nat) (x1 : Int32) (x2 : Int32) (x3 : Int32) (x4 : Int32) (x5 : Nat) (x6 : Int32) (x7 : Int32) (x8 : Int32) (g : ps_G) : Option ((Int32 × ps_G) ⊕ (ps_G)) := if ((x7 + (8 : Int32)) ≤ x8) ∨ (x4 ≤ x8) then (some (.inr g)) else (Option.bind (q_lp (fun s => bX10_keep_51 x0 x1 x2 x3 x4 x5 x6 x7 x8 s.1 s.2) (fJ9_max_7cf53 x6 (0 : Int32), g)) fun s22 => jX10_keep_110_26 s22 x0 x1 x2 x3 x4 x5 x6 x7 x8)
theorem pbX10_keep_26 {d : Nat} {Q : ps_Rs → ps_G → Prop}  {x0 : Nat} {x1 : Int32} {x2 : Int32} {x3 : Int32} {x4 : Int32} {x5 : Nat} {x6 : Int32} {x7 : Int32} {x8 : Int32} {g : ps_G} {x : (Int32 × ps_G) ⊕ (ps_G)} (h : bX10_keep_26 x0 x1 x2 x3 x4 x5 x6 x7 x8 g = some x) (hh : ∀ s' : Int32 × ps_G, x = .inl s' → ps_At mX10_keep (d + 2) 26 [(0, .ref x0), (1, .int x1), (2, .int x2), (3, .int x3), (4, .int x4), (5, .ref x5), (6, .int x6), (7, .int x7), (8, .int s'.1)] [] s'.2 Q) (he : ∀ r' : ps_G, x = .inr r' → ps_At mX10_keep (d + 2) 116 [(0, .ref x0), (1, .int x1), (2, .int x2)] [] r' Q) : ps_At mX10_keep (d + 2) 26 [(0, .ref x0), (1, .int x1), (2, .int x2), (3, .int x3), (4, .int x4), (5, .ref x5), (6, .int x6), (7, .int x7), (8, .int x8)] [] g Q := by
  unfold bX10_keep_26 at h
  refine sX10_keep_26 ?_
  have kT23 : (some (.inr g)) = some x → ps_At mX10_keep (d + 2) 116 [(0, .ref x0), (1, .int x1), (2, .int x2)] [] g Q := fun h => by
    exact ps_weak (he g (Option.some.inj h).symm) ⟨rfl, rfl, rfl, trivial⟩
  refine And.intro (fun hc1 => ?_) (fun hc1 => ?_)
  · exact ps_weak (kT23 (q_ifp (Or.inl hc1) h)) ⟨rfl, rfl, rfl, trivial⟩
  · refine And.intro (fun hc2 => ?_) (fun hc2 => ?_)
    · exact ps_weak (kT23 (q_ifp (Or.inr (hc2)) h)) ⟨rfl, rfl, rfl, trivial⟩
    · replace h := q_ifn (not_or.mpr ⟨hc1, hc2⟩) h
      refine rJ9_max_7cf53 rfl ?_
      refine ⟨by decide, ?_⟩
      replace h := q_be h
      obtain ⟨s22, hl, h⟩ := h
      refine ps_weak (q_lp_ok hl (fun s => ps_At mX10_keep (d + 2) 51 [(0, .ref x0), (1, .int x1), (2, .int x2), (3, .int x3), (4, .int x4), (5, .ref x5), (6, .int x6), (7, .int x7), (8, .int x8), (9, .int s.1)] [] s.2 Q) (fun r => ps_At mX10_keep (d + 2) 110 [(0, .ref x0), (1, .int x1), (2, .int x2), (3, .int x3), (4, .int x4), (5, .ref x5), (6, .int x6), (7, .int x7), (8, .int x8)] [] r Q) (fun s x hb hh he => pbX10_keep_51 hb hh he) ?_) ⟨rfl, rfl, rfl, rfl, rfl, rfl, rfl, rfl, rfl, rfl, trivial⟩
      refine (?_ : ps_At mX10_keep (d + 2) 110 [(0, .ref x0), (1, .int x1), (2, .int x2), (3, .int x3), (4, .int x4), (5, .ref x5), (6, .int x6), (7, .int x7), (8, .int x8)] [] s22 Q)
      exact ps_weak (pjX10_keep_110_26 h hh he) ⟨rfl, rfl, rfl, rfl, rfl, rfl, rfl, rfl, rfl, trivial⟩
noncomputable def jX10_keep_116 (g : ps_G) (x0 : Nat) (x1 : Int32) (x2 : Int32) : Option (ps_G) := Option.bind (q_fR 10 7 g x0) fun v26 => Option.bind (v26) fun a27 => Option.bind (q_wB g a27 (fX10_tileOf x1 x2) (1 : Int32)) fun g28 => Option.bind (q_fI 10 8 g28 x0) fun v29 => Option.bind (q_sI 10 8 g28 x0 (v29 + (1 : Int32))) fun g30 => some g30
theorem pjX10_keep_116 {d : Nat} {Q : ps_Rs → ps_G → Prop} {g : ps_G} {x0 : Nat} {x1 : Int32} {x2 : Int32} {r : ps_G} (h : jX10_keep_116 g x0 x1 x2 = some r) (hk : Q (.inl none) r) : ps_At mX10_keep (d + 2) 116 [(0, .ref x0), (1, .int x1), (2, .int x2)] [] g Q := by
  unfold jX10_keep_116 at h
  refine sX10_keep_116 ?_
  replace h := q_be h
  obtain ⟨v26, hv, h⟩ := h
  replace hv := q_fR_e hv
  obtain ⟨_, cv26, dv26⟩ := hv
  replace h := q_be h
  obtain ⟨a27, ea27, h⟩ := h
  subst ea27
  refine ⟨⟨some _, rfl⟩, _, _, cv26, dv26, ?_⟩
  refine rX10_tileOf rfl ?_
  replace h := q_be h
  obtain ⟨g28, hv, h⟩ := h
  replace hv := q_wB_e hv
  obtain ⟨_, _, cg28, ig28, yg28⟩ := hv
  replace h := q_be h
  obtain ⟨v29, hv, h⟩ := h
  replace hv := q_fI_e hv
  obtain ⟨_, cv29, dv29⟩ := hv
  replace h := q_be h
  obtain ⟨g30, hv, h⟩ := h
  replace hv := q_sI_e hv
  obtain ⟨_, cg30, dg30, yg30⟩ := hv
  cases h
  exact ⟨_, _, cg28, ig28, _, yg28, ⟨some _, rfl⟩, rfl, _, _, cv29, dv29, _, cg30, dg30, rfl, rfl, _, yg30, rfl, rfl, hk⟩
noncomputable def fX10_keep (g : ps_G) (x0 : Nat) (x1 : Int32) (x2 : Int32) (x3 : Int32) (x4 : Int32) (x5 : Nat) : Option (ps_G) := Option.bind (q_lp (fun s => bX10_keep_26 x0 x1 x2 x3 x4 x5 ((x1 / (8 : Int32)) * (8 : Int32)) ((x2 / (8 : Int32)) * (8 : Int32)) s.1 s.2) (fJ9_max_7cf53 ((x2 / (8 : Int32)) * (8 : Int32)) (0 : Int32), g)) fun s25 => jX10_keep_116 s25 x0 x1 x2
theorem rX10_keep {d : Nat} {Q : ps_Rs → ps_G → Prop} {g : ps_G} {x0 : Nat} {x1 : Int32} {x2 : Int32} {x3 : Int32} {x4 : Int32} {x5 : Nat} {r : ps_G} (h : fX10_keep g x0 x1 x2 x3 x4 x5 = some r) (hk : Q (.inl none) r) : ps_Ok mX10_keep (d + 2) [.ref x0, .int x1, .int x2, .int x3, .int x4, .ref x5] g Q := by
  unfold fX10_keep at h
  refine sX10_keep_0 ?_
  refine ⟨by decide, _, rfl, by decide, by decide, _, rfl, by decide, ?_⟩
  refine rJ9_max_7cf53 rfl ?_
  refine ⟨by decide, ?_⟩
  replace h := q_be h
  obtain ⟨s25, hl, h⟩ := h
  refine ps_weak (q_lp_ok hl (fun s => ps_At mX10_keep (d + 2) 26 [(0, .ref x0), (1, .int x1), (2, .int x2), (3, .int x3), (4, .int x4), (5, .ref x5), (6, .int ((x1 / (8 : Int32)) * (8 : Int32))), (7, .int ((x2 / (8 : Int32)) * (8 : Int32))), (8, .int s.1)] [] s.2 Q) (fun r => ps_At mX10_keep (d + 2) 116 [(0, .ref x0), (1, .int x1), (2, .int x2)] [] r Q) (fun s x hb hh he => pbX10_keep_26 hb hh he) ?_) ⟨rfl, rfl, rfl, rfl, rfl, rfl, rfl, rfl, rfl, trivial⟩
  refine (?_ : ps_At mX10_keep (d + 2) 116 [(0, .ref x0), (1, .int x1), (2, .int x2)] [] s25 Q)
  exact ps_weak (pjX10_keep_116 h hk) ⟨rfl, rfl, rfl, trivial⟩
noncomputable def fX10_keptAt (g : ps_G) (x0 : Nat) (x1 : Int32) (x2 : Int32) (x3 : Int32) : Option (Int32) := Option.bind (q_fR 10 6 g x0) fun v1 => Option.bind (v1) fun a2 => Option.bind (q_aI g a2 (fX11_within ((x2 * x3) + x1) (0 : Int32) (575 : Int32))) fun v3 => some v3
theorem rX10_keptAt {d : Nat} {Q : ps_Rs → ps_G → Prop} {g : ps_G} {x0 : Nat} {x1 : Int32} {x2 : Int32} {x3 : Int32} {r : Int32} (h : fX10_keptAt g x0 x1 x2 x3 = some r) (hk : Q (.inl (some (.int r))) g) : ps_Ok mX10_keptAt (d + 1) [.ref x0, .int x1, .int x2, .int x3] g Q := by
  unfold fX10_keptAt at h
  refine sX10_keptAt_0 ?_
  replace h := q_be h
  obtain ⟨v1, hv, h⟩ := h
  replace hv := q_fR_e hv
  obtain ⟨_, cv1, dv1⟩ := hv
  replace h := q_be h
  obtain ⟨a2, ea2, h⟩ := h
  subst ea2
  refine ⟨⟨some _, rfl⟩, _, _, cv1, dv1, ?_⟩
  refine rX11_within rfl ?_
  replace h := q_be h
  obtain ⟨v3, hv, h⟩ := h
  replace hv := q_aI_e hv
  obtain ⟨_, _, cv3, iv3, yv3⟩ := hv
  cases h
  exact ⟨_, _, cv3, iv3, _, yv3, rfl, hk⟩
noncomputable def jX11_see_52 (g : ps_G) (x0 : Nat) (x1 : Int32) (x2 : Int32) : Option ((String ⊕ Int32) × ps_G) := Option.bind (q_fR 11 6 g x0) fun v10 => Option.bind (v10) fun a11 => Option.bind (q_fR 11 0 g x0) fun v12 => Option.bind (v12) fun a13 => Option.bind (q_fI 9 0 g a13) fun v14 => Option.bind (q_ob 10 g a11) fun u15 => Option.bind (fX10_keptAt g a11 x1 x2 v14) fun v16 => some (.inr v16, g)
theorem pjX11_see_52 {d : Nat} {Q : ps_Rs → ps_G → Prop} {g : ps_G} {x0 : Nat} {x1 : Int32} {x2 : Int32} {r : (String ⊕ Int32) × ps_G} (h : jX11_see_52 g x0 x1 x2 = some r) (hk : Q (q_rI r.1) r.2) : ps_At mX11_see (d + 100) 52 [(0, .ref x0), (1, .int x1), (2, .int x2)] [] g Q := by
  unfold jX11_see_52 at h
  refine sX11_see_52 ?_
  replace h := q_be h
  obtain ⟨v10, hv, h⟩ := h
  replace hv := q_fR_e hv
  obtain ⟨_, cv10, dv10⟩ := hv
  replace h := q_be h
  obtain ⟨a11, ea11, h⟩ := h
  subst ea11
  replace h := q_be h
  obtain ⟨v12, hv, h⟩ := h
  replace hv := q_fR_e hv
  obtain ⟨_, cv12, dv12⟩ := hv
  replace h := q_be h
  obtain ⟨a13, ea13, h⟩ := h
  subst ea13
  replace h := q_be h
  obtain ⟨v14, hv, h⟩ := h
  replace hv := q_fI_e hv
  obtain ⟨_, cv14, dv14⟩ := hv
  replace h := q_be h
  obtain ⟨u15, hv, h⟩ := h
  replace hv := q_ob_e hv
  obtain ⟨_, cu15⟩ := hv
  replace h := q_be h
  obtain ⟨v16, hv, h⟩ := h
  refine ⟨⟨some _, rfl⟩, _, _, cv10, dv10, ⟨some _, rfl⟩, _, _, cv12, dv12, _, _, cv14, dv14, ⟨_, cu15⟩, ?_⟩
  refine rX10_keptAt hv ?_
  cases h
  exact ⟨rfl, hk⟩
noncomputable def fX11_see (g : ps_G) (x0 : Nat) (x1 : Int32) (x2 : Int32) : Option ((String ⊕ Int32) × ps_G) := Option.bind (q_ob 11 g x0) fun u1 => q_tc (fX11_needPlace g x0 x1 x2) fun v2 g3 => Option.bind (q_fR 11 6 g3 x0) fun v4 => Option.bind (v4) fun a5 => Option.bind (q_ob 10 g3 a5) fun u6 => Option.bind (fX10_keeps g3 a5 x1 x2) fun v7 => if ¬ v7 = 0 then (jX11_see_52 g3 x0 x1 x2) else (Option.bind (q_fR 11 6 g3 x0) fun v17 => Option.bind (v17) fun a18 => Option.bind (q_fR 11 0 g3 x0) fun v19 => Option.bind (v19) fun a20 => Option.bind (q_fI 9 0 g3 a20) fun v21 => Option.bind (q_fR 11 0 g3 x0) fun v22 => Option.bind (v22) fun a23 => Option.bind (q_fI 9 1 g3 a23) fun v24 => Option.bind (q_fR 11 6 g3 x0) fun v25 => Option.bind (v25) fun a26 => Option.bind (q_fR 11 0 g3 x0) fun v27 => Option.bind (v27) fun a28 => Option.bind (q_ob 10 g3 a26) fun u29 => q_b2 (fX10_seen g3 a26 a28) fun v30 g31 => Option.bind (v30) fun a32 => Option.bind (q_ob 10 g31 a18) fun u33 => Option.bind (fX10_keep g31 a18 x1 x2 v21 v24 a32) fun v34 => jX11_see_52 v34 x0 x1 x2)
theorem rX11_see {d : Nat} {Q : ps_Rs → ps_G → Prop} {g : ps_G} {x0 : Nat} {x1 : Int32} {x2 : Int32} {r : (String ⊕ Int32) × ps_G} (h : fX11_see g x0 x1 x2 = some r) (hk : Q (q_rI r.1) r.2) : ps_Ok mX11_see (d + 100) [.ref x0, .int x1, .int x2] g Q := by
  unfold fX11_see at h
  refine sX11_see_0 ?_
  replace h := q_be h
  obtain ⟨u1, hv, h⟩ := h
  replace hv := q_ob_e hv
  obtain ⟨_, cu1⟩ := hv
  refine ⟨⟨some _, rfl⟩, ⟨_, cu1⟩, ?_⟩
  replace h := q_tc_e h
  rcases h with ⟨E, g3, hv, rfl⟩ | ⟨v2, g3, hv, h⟩
  · exact rX11_needPlace hv hk
  refine rX11_needPlace hv ?_
  replace h := q_be h
  obtain ⟨v4, hv, h⟩ := h
  replace hv := q_fR_e hv
  obtain ⟨_, cv4, dv4⟩ := hv
  replace h := q_be h
  obtain ⟨a5, ea5, h⟩ := h
  subst ea5
  replace h := q_be h
  obtain ⟨u6, hv, h⟩ := h
  replace hv := q_ob_e hv
  obtain ⟨_, cu6⟩ := hv
  replace h := q_be h
  obtain ⟨v7, hv, h⟩ := h
  refine ⟨⟨some _, rfl⟩, _, _, cv4, dv4, ⟨_, cu6⟩, ?_⟩
  refine rX10_keeps hv ?_
  refine And.intro (fun hc8 => ?_) (fun hc8 => ?_)
  · replace h := q_ifp (hc8) h
    exact ps_weak (pjX11_see_52 h hk) ⟨rfl, rfl, rfl, trivial⟩
  · replace h := q_ifn (hc8) h
    replace h := q_be h
    obtain ⟨v17, hv, h⟩ := h
    replace hv := q_fR_e hv
    obtain ⟨_, cv17, dv17⟩ := hv
    replace h := q_be h
    obtain ⟨a18, ea18, h⟩ := h
    subst ea18
    replace h := q_be h
    obtain ⟨v19, hv, h⟩ := h
    replace hv := q_fR_e hv
    obtain ⟨_, cv19, dv19⟩ := hv
    replace h := q_be h
    obtain ⟨a20, ea20, h⟩ := h
    subst ea20
    replace h := q_be h
    obtain ⟨v21, hv, h⟩ := h
    replace hv := q_fI_e hv
    obtain ⟨_, cv21, dv21⟩ := hv
    replace h := q_be h
    obtain ⟨v22, hv, h⟩ := h
    replace hv := q_fR_e hv
    obtain ⟨_, cv22, dv22⟩ := hv
    replace h := q_be h
    obtain ⟨a23, ea23, h⟩ := h
    subst ea23
    replace h := q_be h
    obtain ⟨v24, hv, h⟩ := h
    replace hv := q_fI_e hv
    obtain ⟨_, cv24, dv24⟩ := hv
    replace h := q_be h
    obtain ⟨v25, hv, h⟩ := h
    replace hv := q_fR_e hv
    obtain ⟨_, cv25, dv25⟩ := hv
    replace h := q_be h
    obtain ⟨a26, ea26, h⟩ := h
    subst ea26
    replace h := q_be h
    obtain ⟨v27, hv, h⟩ := h
    replace hv := q_fR_e hv
    obtain ⟨_, cv27, dv27⟩ := hv
    replace h := q_be h
    obtain ⟨a28, ea28, h⟩ := h
    subst ea28
    replace h := q_be h
    obtain ⟨u29, hv, h⟩ := h
    replace hv := q_ob_e hv
    obtain ⟨_, cu29⟩ := hv
    replace h := q_b2_e h
    obtain ⟨v30, g31, hv, h⟩ := h
    refine ⟨⟨some _, rfl⟩, _, _, cv17, dv17, ⟨some _, rfl⟩, _, _, cv19, dv19, _, _, cv21, dv21, ⟨some _, rfl⟩, _, _, cv22, dv22, _, _, cv24, dv24, ⟨some _, rfl⟩, _, _, cv25, dv25, ⟨some _, rfl⟩, _, _, cv27, dv27, ⟨_, cu29⟩, ?_⟩
    refine rX10_seen hv ?_
    replace h := q_be h
    obtain ⟨a32, ea32, h⟩ := h
    subst ea32
    replace h := q_be h
    obtain ⟨u33, hv, h⟩ := h
    replace hv := q_ob_e hv
    obtain ⟨_, cu33⟩ := hv
    replace h := q_be h
    obtain ⟨v34, hv, h⟩ := h
    refine ⟨⟨_, cu33⟩, ?_⟩
    refine rX10_keep hv ?_
    exact ps_weak (pjX11_see_52 h hk) ⟨rfl, rfl, rfl, trivial⟩
noncomputable def bX10_zoomedOf_44 (g : ps_G) (x1 : Nat) (x2 : Int32) (x3 : Int32) (x4 : Int32) (x5 : Int32) (x6 : Int32) (x12 : Int32) (x7 : Int32) (x8 : Int32) (x9 : Int32) (x10 : Int32) (x11 : Int32) (x13 : Int32) : Option ((Int32 × Int32 × Int32 × Int32 × Int32 × Int32) ⊕ (Int32 × Int32 × Int32 × Int32 × Int32)) := if ((q_shl (x3 + (1 : Int32)) x2) ≤ x13) ∨ (x5 ≤ x13) then (some (.inr (x7, x8, x9, x10, x11))) else (Option.bind (q_aI g x1 (fX11_within ((x12 * x5) + x13) (0 : Int32) (575 : Int32))) fun v6 => some (.inl (x7 + (1 : Int32), x8 + (q_ush v6 (24 : Int32)), x9 + ((q_ush v6 (24 : Int32)) * (fX11_red v6)), x10 + ((q_ush v6 (24 : Int32)) * (fX11_green v6)), x11 + ((q_ush v6 (24 : Int32)) * (fX11_blue v6)), x13 + (1 : Int32))))
theorem pbX10_zoomedOf_44 {d : Nat} {Q : ps_Rs → ps_G → Prop} {g : ps_G} {x1 : Nat} {x2 : Int32} {x3 : Int32} {x4 : Int32} {x5 : Int32} {x6 : Int32} {x12 : Int32} {x7 : Int32} {x8 : Int32} {x9 : Int32} {x10 : Int32} {x11 : Int32} {x13 : Int32} {x : (Int32 × Int32 × Int32 × Int32 × Int32 × Int32) ⊕ (Int32 × Int32 × Int32 × Int32 × Int32)} (h : bX10_zoomedOf_44 g x1 x2 x3 x4 x5 x6 x12 x7 x8 x9 x10 x11 x13 = some x) (hh : ∀ s' : Int32 × Int32 × Int32 × Int32 × Int32 × Int32, x = .inl s' → ps_At mX10_zoomedOf (d + 1) 44 [(1, .ref x1), (2, .int x2), (3, .int x3), (4, .int x4), (5, .int x5), (6, .int x6), (7, .int s'.1), (8, .int s'.2.1), (9, .int s'.2.2.1), (10, .int s'.2.2.2.1), (11, .int s'.2.2.2.2.1), (12, .int x12), (13, .int s'.2.2.2.2.2)] [] g Q) (he : ∀ r' : Int32 × Int32 × Int32 × Int32 × Int32, x = .inr r' → ps_At mX10_zoomedOf (d + 1) 147 [(1, .ref x1), (2, .int x2), (3, .int x3), (4, .int x4), (5, .int x5), (6, .int x6), (7, .int r'.1), (8, .int r'.2.1), (9, .int r'.2.2.1), (10, .int r'.2.2.2.1), (11, .int r'.2.2.2.2), (12, .int x12)] [] g Q) : ps_At mX10_zoomedOf (d + 1) 44 [(1, .ref x1), (2, .int x2), (3, .int x3), (4, .int x4), (5, .int x5), (6, .int x6), (7, .int x7), (8, .int x8), (9, .int x9), (10, .int x10), (11, .int x11), (12, .int x12), (13, .int x13)] [] g Q := by
  unfold bX10_zoomedOf_44 at h
  refine sX10_zoomedOf_44 ?_
  have kT7 : (some (.inr (x7, x8, x9, x10, x11))) = some x → ps_At mX10_zoomedOf (d + 1) 147 [(1, .ref x1), (2, .int x2), (3, .int x3), (4, .int x4), (5, .int x5), (6, .int x6), (7, .int x7), (8, .int x8), (9, .int x9), (10, .int x10), (11, .int x11), (12, .int x12)] [] g Q := fun h => by
    exact ps_weak (he (x7, x8, x9, x10, x11) (Option.some.inj h).symm) ⟨rfl, rfl, rfl, rfl, rfl, rfl, rfl, rfl, rfl, rfl, rfl, rfl, trivial⟩
  refine And.intro (fun hc3 => ?_) (fun hc3 => ?_)
  · exact ps_weak (kT7 (q_ifp (Or.inl hc3) h)) ⟨rfl, rfl, rfl, rfl, rfl, rfl, rfl, rfl, rfl, rfl, rfl, rfl, trivial⟩
  · refine And.intro (fun hc4 => ?_) (fun hc4 => ?_)
    · exact ps_weak (kT7 (q_ifp (Or.inr (hc4)) h)) ⟨rfl, rfl, rfl, rfl, rfl, rfl, rfl, rfl, rfl, rfl, rfl, rfl, trivial⟩
    · replace h := q_ifn (not_or.mpr ⟨hc3, hc4⟩) h
      refine ⟨⟨some _, rfl⟩, ?_⟩
      refine rX11_within rfl ?_
      replace h := q_be h
      obtain ⟨v6, hv, h⟩ := h
      replace hv := q_aI_e hv
      obtain ⟨_, _, cv6, iv6, yv6⟩ := hv
      refine ⟨_, _, cv6, iv6, _, yv6, by decide, by decide, by decide, ?_⟩
      refine rX11_red rfl ?_
      refine ⟨by decide, ?_⟩
      refine rX11_green rfl ?_
      refine ⟨by decide, ?_⟩
      refine rX11_blue rfl ?_
      refine sX10_zoomedOf_137 ?_
      refine ⟨by decide, by decide, ?_⟩
      exact ps_weak (hh (x7 + (1 : Int32), x8 + (q_ush v6 (24 : Int32)), x9 + ((q_ush v6 (24 : Int32)) * (fX11_red v6)), x10 + ((q_ush v6 (24 : Int32)) * (fX11_green v6)), x11 + ((q_ush v6 (24 : Int32)) * (fX11_blue v6)), x13 + (1 : Int32)) (Option.some.inj h).symm) ⟨rfl, rfl, rfl, rfl, rfl, rfl, rfl, rfl, rfl, rfl, rfl, rfl, rfl, trivial⟩
noncomputable def jX10_zoomedOf_147_21 (g : ps_G) (x1 : Nat) (x2 : Int32) (x3 : Int32) (x4 : Int32) (x5 : Int32) (x6 : Int32) (x7 : Int32) (x8 : Int32) (x9 : Int32) (x10 : Int32) (x11 : Int32) (x12 : Int32) : Option ((Int32 × Int32 × Int32 × Int32 × Int32 × Int32) ⊕ (Int32 × Int32 × Int32 × Int32 × Int32)) := some (.inl (x7, x8, x9, x10, x11, x12 + (1 : Int32)))
theorem pjX10_zoomedOf_147_21 {d : Nat} {Q : ps_Rs → ps_G → Prop} {g : ps_G} {x1 : Nat} {x2 : Int32} {x3 : Int32} {x4 : Int32} {x5 : Int32} {x6 : Int32} {x7 : Int32} {x8 : Int32} {x9 : Int32} {x10 : Int32} {x11 : Int32} {x12 : Int32} {x : (Int32 × Int32 × Int32 × Int32 × Int32 × Int32) ⊕ (Int32 × Int32 × Int32 × Int32 × Int32)} (h : jX10_zoomedOf_147_21 g x1 x2 x3 x4 x5 x6 x7 x8 x9 x10 x11 x12 = some x) (hh : ∀ s' : Int32 × Int32 × Int32 × Int32 × Int32 × Int32, x = .inl s' → ps_At mX10_zoomedOf (d + 1) 21 [(1, .ref x1), (2, .int x2), (3, .int x3), (4, .int x4), (5, .int x5), (6, .int x6), (7, .int s'.1), (8, .int s'.2.1), (9, .int s'.2.2.1), (10, .int s'.2.2.2.1), (11, .int s'.2.2.2.2.1), (12, .int s'.2.2.2.2.2)] [] g Q) (he : ∀ r' : Int32 × Int32 × Int32 × Int32 × Int32, x = .inr r' → ps_At mX10_zoomedOf (d + 1) 153 [(7, .int r'.1), (8, .int r'.2.1), (9, .int r'.2.2.1), (10, .int r'.2.2.2.1), (11, .int r'.2.2.2.2)] [] g Q) : ps_At mX10_zoomedOf (d + 1) 147 [(1, .ref x1), (2, .int x2), (3, .int x3), (4, .int x4), (5, .int x5), (6, .int x6), (7, .int x7), (8, .int x8), (9, .int x9), (10, .int x10), (11, .int x11), (12, .int x12)] [] g Q := by
  unfold jX10_zoomedOf_147_21 at h
  refine sX10_zoomedOf_147 ?_
  refine ⟨by decide, ?_⟩
  exact ps_weak (hh (x7, x8, x9, x10, x11, x12 + (1 : Int32)) (Option.some.inj h).symm) ⟨rfl, rfl, rfl, rfl, rfl, rfl, rfl, rfl, rfl, rfl, rfl, rfl, trivial⟩
noncomputable def bX10_zoomedOf_21 (g : ps_G) (x1 : Nat) (x2 : Int32) (x3 : Int32) (x4 : Int32) (x5 : Int32) (x6 : Int32) (x7 : Int32) (x8 : Int32) (x9 : Int32) (x10 : Int32) (x11 : Int32) (x12 : Int32) : Option ((Int32 × Int32 × Int32 × Int32 × Int32 × Int32) ⊕ (Int32 × Int32 × Int32 × Int32 × Int32)) := if ((q_shl (x4 + (1 : Int32)) x2) ≤ x12) ∨ (x6 ≤ x12) then (some (.inr (x7, x8, x9, x10, x11))) else (Option.bind (q_lp (fun s => bX10_zoomedOf_44 g x1 x2 x3 x4 x5 x6 x12 s.1 s.2.1 s.2.2.1 s.2.2.2.1 s.2.2.2.2.1 s.2.2.2.2.2) (x7, x8, x9, x10, x11, q_shl x3 x2)) fun s9 => jX10_zoomedOf_147_21 g x1 x2 x3 x4 x5 x6 s9.1 s9.2.1 s9.2.2.1 s9.2.2.2.1 s9.2.2.2.2 x12)
theorem pbX10_zoomedOf_21 {d : Nat} {Q : ps_Rs → ps_G → Prop} {g : ps_G} {x1 : Nat} {x2 : Int32} {x3 : Int32} {x4 : Int32} {x5 : Int32} {x6 : Int32} {x7 : Int32} {x8 : Int32} {x9 : Int32} {x10 : Int32} {x11 : Int32} {x12 : Int32} {x : (Int32 × Int32 × Int32 × Int32 × Int32 × Int32) ⊕ (Int32 × Int32 × Int32 × Int32 × Int32)} (h : bX10_zoomedOf_21 g x1 x2 x3 x4 x5 x6 x7 x8 x9 x10 x11 x12 = some x) (hh : ∀ s' : Int32 × Int32 × Int32 × Int32 × Int32 × Int32, x = .inl s' → ps_At mX10_zoomedOf (d + 1) 21 [(1, .ref x1), (2, .int x2), (3, .int x3), (4, .int x4), (5, .int x5), (6, .int x6), (7, .int s'.1), (8, .int s'.2.1), (9, .int s'.2.2.1), (10, .int s'.2.2.2.1), (11, .int s'.2.2.2.2.1), (12, .int s'.2.2.2.2.2)] [] g Q) (he : ∀ r' : Int32 × Int32 × Int32 × Int32 × Int32, x = .inr r' → ps_At mX10_zoomedOf (d + 1) 153 [(7, .int r'.1), (8, .int r'.2.1), (9, .int r'.2.2.1), (10, .int r'.2.2.2.1), (11, .int r'.2.2.2.2)] [] g Q) : ps_At mX10_zoomedOf (d + 1) 21 [(1, .ref x1), (2, .int x2), (3, .int x3), (4, .int x4), (5, .int x5), (6, .int x6), (7, .int x7), (8, .int x8), (9, .int x9), (10, .int x10), (11, .int x11), (12, .int x12)] [] g Q := by
  unfold bX10_zoomedOf_21 at h
  refine sX10_zoomedOf_21 ?_
  have kT10 : (some (.inr (x7, x8, x9, x10, x11))) = some x → ps_At mX10_zoomedOf (d + 1) 153 [(7, .int x7), (8, .int x8), (9, .int x9), (10, .int x10), (11, .int x11)] [] g Q := fun h => by
    exact ps_weak (he (x7, x8, x9, x10, x11) (Option.some.inj h).symm) ⟨rfl, rfl, rfl, rfl, rfl, trivial⟩
  refine And.intro (fun hc1 => ?_) (fun hc1 => ?_)
  · exact ps_weak (kT10 (q_ifp (Or.inl hc1) h)) ⟨rfl, rfl, rfl, rfl, rfl, trivial⟩
  · refine And.intro (fun hc2 => ?_) (fun hc2 => ?_)
    · exact ps_weak (kT10 (q_ifp (Or.inr (hc2)) h)) ⟨rfl, rfl, rfl, rfl, rfl, trivial⟩
    · replace h := q_ifn (not_or.mpr ⟨hc1, hc2⟩) h
      refine ⟨by decide, ?_⟩
      replace h := q_be h
      obtain ⟨s9, hl, h⟩ := h
      refine ps_weak (q_lp_ok hl (fun s => ps_At mX10_zoomedOf (d + 1) 44 [(1, .ref x1), (2, .int x2), (3, .int x3), (4, .int x4), (5, .int x5), (6, .int x6), (7, .int s.1), (8, .int s.2.1), (9, .int s.2.2.1), (10, .int s.2.2.2.1), (11, .int s.2.2.2.2.1), (12, .int x12), (13, .int s.2.2.2.2.2)] [] g Q) (fun r => ps_At mX10_zoomedOf (d + 1) 147 [(1, .ref x1), (2, .int x2), (3, .int x3), (4, .int x4), (5, .int x5), (6, .int x6), (7, .int r.1), (8, .int r.2.1), (9, .int r.2.2.1), (10, .int r.2.2.2.1), (11, .int r.2.2.2.2), (12, .int x12)] [] g Q) (fun s x hb hh he => pbX10_zoomedOf_44 hb hh he) ?_) ⟨rfl, rfl, rfl, rfl, rfl, rfl, rfl, rfl, rfl, rfl, rfl, rfl, rfl, trivial⟩
      refine (?_ : ps_At mX10_zoomedOf (d + 1) 147 [(1, .ref x1), (2, .int x2), (3, .int x3), (4, .int x4), (5, .int x5), (6, .int x6), (7, .int s9.1), (8, .int s9.2.1), (9, .int s9.2.2.1), (10, .int s9.2.2.2.1), (11, .int s9.2.2.2.2), (12, .int x12)] [] g Q)
      exact ps_weak (pjX10_zoomedOf_147_21 h hh he) ⟨rfl, rfl, rfl, rfl, rfl, rfl, rfl, rfl, rfl, rfl, rfl, rfl, trivial⟩
noncomputable def jX10_zoomedOf_153 (g : ps_G) (x7 : Int32) (x8 : Int32) (x9 : Int32) (x10 : Int32) (x11 : Int32) : Option (Int32) := Option.bind (fX11_mean g x7 x8 x9 x10 x11) fun v13 => some v13
theorem pjX10_zoomedOf_153 {d : Nat} {Q : ps_Rs → ps_G → Prop} {g : ps_G} {x7 : Int32} {x8 : Int32} {x9 : Int32} {x10 : Int32} {x11 : Int32} {r : Int32} (h : jX10_zoomedOf_153 g x7 x8 x9 x10 x11 = some r) (hk : Q (.inl (some (.int r))) g) : ps_At mX10_zoomedOf (d + 1) 153 [(7, .int x7), (8, .int x8), (9, .int x9), (10, .int x10), (11, .int x11)] [] g Q := by
  unfold jX10_zoomedOf_153 at h
  refine sX10_zoomedOf_153 ?_
  replace h := q_be h
  obtain ⟨v13, hv, h⟩ := h
  refine rX11_mean hv ?_
  cases h
  exact ⟨rfl, hk⟩
noncomputable def fX10_zoomedOf (g : ps_G) (x0 : Nat) (x1 : Nat) (x2 : Int32) (x3 : Int32) (x4 : Int32) (x5 : Int32) (x6 : Int32) : Option (Int32) := Option.bind (q_lp (fun s => bX10_zoomedOf_21 g x1 x2 x3 x4 x5 x6 s.1 s.2.1 s.2.2.1 s.2.2.2.1 s.2.2.2.2.1 s.2.2.2.2.2) ((0 : Int32), (0 : Int32), (0 : Int32), (0 : Int32), (0 : Int32), q_shl x4 x2)) fun s12 => jX10_zoomedOf_153 g s12.1 s12.2.1 s12.2.2.1 s12.2.2.2.1 s12.2.2.2.2
theorem rX10_zoomedOf {d : Nat} {Q : ps_Rs → ps_G → Prop} {g : ps_G} {x0 : Nat} {x1 : Nat} {x2 : Int32} {x3 : Int32} {x4 : Int32} {x5 : Int32} {x6 : Int32} {r : Int32} (h : fX10_zoomedOf g x0 x1 x2 x3 x4 x5 x6 = some r) (hk : Q (.inl (some (.int r))) g) : ps_Ok mX10_zoomedOf (d + 1) [.ref x0, .ref x1, .int x2, .int x3, .int x4, .int x5, .int x6] g Q := by
  unfold fX10_zoomedOf at h
  refine sX10_zoomedOf_0 ?_
  refine ⟨by decide, by decide, by decide, by decide, by decide, by decide, ?_⟩
  replace h := q_be h
  obtain ⟨s12, hl, h⟩ := h
  refine ps_weak (q_lp_ok hl (fun s => ps_At mX10_zoomedOf (d + 1) 21 [(1, .ref x1), (2, .int x2), (3, .int x3), (4, .int x4), (5, .int x5), (6, .int x6), (7, .int s.1), (8, .int s.2.1), (9, .int s.2.2.1), (10, .int s.2.2.2.1), (11, .int s.2.2.2.2.1), (12, .int s.2.2.2.2.2)] [] g Q) (fun r => ps_At mX10_zoomedOf (d + 1) 153 [(7, .int r.1), (8, .int r.2.1), (9, .int r.2.2.1), (10, .int r.2.2.2.1), (11, .int r.2.2.2.2)] [] g Q) (fun s x hb hh he => pbX10_zoomedOf_21 hb hh he) ?_) ⟨rfl, rfl, rfl, rfl, rfl, rfl, rfl, rfl, rfl, rfl, rfl, rfl, trivial⟩
  refine (?_ : ps_At mX10_zoomedOf (d + 1) 153 [(7, .int s12.1), (8, .int s12.2.1), (9, .int s12.2.2.1), (10, .int s12.2.2.2.1), (11, .int s12.2.2.2.2)] [] g Q)
  exact ps_weak (pjX10_zoomedOf_153 h hk) ⟨rfl, rfl, rfl, rfl, rfl, trivial⟩
noncomputable def fX11_zoomed (g : ps_G) (x0 : Nat) (x1 : Int32) (x2 : Int32) (x3 : Int32) : Option ((String ⊕ Int32) × ps_G) := q_tc (fX11_range g x1 (1 : Int32) (3 : Int32)) fun v1 g2 => if (x2 < 0) ∨ (x3 < 0) then (some (.inl "java/util/NoSuchElementException", ps_nw g2 6 ps_e0)) else (Option.bind (q_fR 11 0 g2 x0) fun v5 => Option.bind (v5) fun a6 => Option.bind (q_fI 9 0 g2 a6) fun v7 => if (q_shr (v7 - (1 : Int32)) x1) < x2 then (some (.inl "java/util/NoSuchElementException", ps_nw g2 6 ps_e0)) else (Option.bind (q_fR 11 0 g2 x0) fun v9 => Option.bind (v9) fun a10 => Option.bind (q_fI 9 1 g2 a10) fun v11 => if x3 ≤ (q_shr (v11 - (1 : Int32)) x1) then (Option.bind (q_fR 11 6 g2 x0) fun v13 => Option.bind (v13) fun a14 => Option.bind (q_fR 11 6 g2 x0) fun v15 => Option.bind (v15) fun a16 => Option.bind (q_fR 11 0 g2 x0) fun v17 => Option.bind (v17) fun a18 => Option.bind (q_ob 10 g2 a16) fun u19 => q_b2 (fX10_seen g2 a16 a18) fun v20 g21 => Option.bind (v20) fun a22 => Option.bind (q_fR 11 0 g21 x0) fun v23 => Option.bind (v23) fun a24 => Option.bind (q_fI 9 0 g21 a24) fun v25 => Option.bind (q_fR 11 0 g21 x0) fun v26 => Option.bind (v26) fun a27 => Option.bind (q_fI 9 1 g21 a27) fun v28 => Option.bind (q_ob 10 g21 a14) fun u29 => Option.bind (fX10_zoomedOf g21 a14 a22 x1 x2 x3 v25 v28) fun v30 => some (.inr v30, g21)) else (some (.inl "java/util/NoSuchElementException", ps_nw g2 6 ps_e0))))
theorem rX11_zoomed {d : Nat} {Q : ps_Rs → ps_G → Prop} {g : ps_G} {x0 : Nat} {x1 : Int32} {x2 : Int32} {x3 : Int32} {r : (String ⊕ Int32) × ps_G} (h : fX11_zoomed g x0 x1 x2 x3 = some r) (hk : Q (q_rI r.1) r.2) : ps_Ok mX11_zoomed (d + 100) [.ref x0, .int x1, .int x2, .int x3] g Q := by
  unfold fX11_zoomed at h
  refine sX11_zoomed_0 ?_
  replace h := q_tc_e h
  rcases h with ⟨E, g2, hv, rfl⟩ | ⟨v1, g2, hv, h⟩
  · exact rX11_range hv ⟨rfl, hk⟩
  refine rX11_range hv ?_
  have kT35 : (some (.inl "java/util/NoSuchElementException", ps_nw g2 6 ps_e0)) = some r → ps_At mX11_zoomed (d + 100) 44 [] [] g2 Q := fun h => by
    cases h
    exact sX11_zoomed_44 (by decide) hk
  refine And.intro (fun hc3 => ?_) (fun hc3 => ?_)
  · exact ps_weak (kT35 (q_ifp (Or.inl hc3) h)) trivial
  · refine And.intro (fun hc4 => ?_) (fun hc4 => ?_)
    · exact ps_weak (kT35 (q_ifp (Or.inr (hc4)) h)) trivial
    · replace h := q_ifn (not_or.mpr ⟨hc3, hc4⟩) h
      replace h := q_be h
      obtain ⟨v5, hv, h⟩ := h
      replace hv := q_fR_e hv
      obtain ⟨_, cv5, dv5⟩ := hv
      replace h := q_be h
      obtain ⟨a6, ea6, h⟩ := h
      subst ea6
      replace h := q_be h
      obtain ⟨v7, hv, h⟩ := h
      replace hv := q_fI_e hv
      obtain ⟨_, cv7, dv7⟩ := hv
      refine ⟨⟨some _, rfl⟩, _, _, cv5, dv5, _, _, cv7, dv7, ?_⟩
      refine And.intro (fun hc8 => ?_) (fun hc8 => ?_)
      · replace h := q_ifp (hc8) h
        cases h
        exact sX11_zoomed_44 (by decide) hk
      · replace h := q_ifn (hc8) h
        replace h := q_be h
        obtain ⟨v9, hv, h⟩ := h
        replace hv := q_fR_e hv
        obtain ⟨_, cv9, dv9⟩ := hv
        replace h := q_be h
        obtain ⟨a10, ea10, h⟩ := h
        subst ea10
        replace h := q_be h
        obtain ⟨v11, hv, h⟩ := h
        replace hv := q_fI_e hv
        obtain ⟨_, cv11, dv11⟩ := hv
        refine ⟨⟨some _, rfl⟩, _, _, cv9, dv9, _, _, cv11, dv11, ?_⟩
        refine And.intro (fun hc12 => ?_) (fun hc12 => ?_)
        · replace h := q_ifp (hc12) h
          refine sX11_zoomed_55 ?_
          replace h := q_be h
          obtain ⟨v13, hv, h⟩ := h
          replace hv := q_fR_e hv
          obtain ⟨_, cv13, dv13⟩ := hv
          replace h := q_be h
          obtain ⟨a14, ea14, h⟩ := h
          subst ea14
          replace h := q_be h
          obtain ⟨v15, hv, h⟩ := h
          replace hv := q_fR_e hv
          obtain ⟨_, cv15, dv15⟩ := hv
          replace h := q_be h
          obtain ⟨a16, ea16, h⟩ := h
          subst ea16
          replace h := q_be h
          obtain ⟨v17, hv, h⟩ := h
          replace hv := q_fR_e hv
          obtain ⟨_, cv17, dv17⟩ := hv
          replace h := q_be h
          obtain ⟨a18, ea18, h⟩ := h
          subst ea18
          replace h := q_be h
          obtain ⟨u19, hv, h⟩ := h
          replace hv := q_ob_e hv
          obtain ⟨_, cu19⟩ := hv
          replace h := q_b2_e h
          obtain ⟨v20, g21, hv, h⟩ := h
          refine ⟨⟨some _, rfl⟩, _, _, cv13, dv13, ⟨some _, rfl⟩, _, _, cv15, dv15, ⟨some _, rfl⟩, _, _, cv17, dv17, ⟨_, cu19⟩, ?_⟩
          refine rX10_seen hv ?_
          replace h := q_be h
          obtain ⟨a22, ea22, h⟩ := h
          subst ea22
          replace h := q_be h
          obtain ⟨v23, hv, h⟩ := h
          replace hv := q_fR_e hv
          obtain ⟨_, cv23, dv23⟩ := hv
          replace h := q_be h
          obtain ⟨a24, ea24, h⟩ := h
          subst ea24
          replace h := q_be h
          obtain ⟨v25, hv, h⟩ := h
          replace hv := q_fI_e hv
          obtain ⟨_, cv25, dv25⟩ := hv
          replace h := q_be h
          obtain ⟨v26, hv, h⟩ := h
          replace hv := q_fR_e hv
          obtain ⟨_, cv26, dv26⟩ := hv
          replace h := q_be h
          obtain ⟨a27, ea27, h⟩ := h
          subst ea27
          replace h := q_be h
          obtain ⟨v28, hv, h⟩ := h
          replace hv := q_fI_e hv
          obtain ⟨_, cv28, dv28⟩ := hv
          replace h := q_be h
          obtain ⟨u29, hv, h⟩ := h
          replace hv := q_ob_e hv
          obtain ⟨_, cu29⟩ := hv
          replace h := q_be h
          obtain ⟨v30, hv, h⟩ := h
          refine ⟨⟨some _, rfl⟩, _, _, cv23, dv23, _, _, cv25, dv25, ⟨some _, rfl⟩, _, _, cv26, dv26, _, _, cv28, dv28, ⟨_, cu29⟩, ?_⟩
          refine rX10_zoomedOf hv ?_
          cases h
          exact ⟨rfl, hk⟩
        · replace h := q_ifn (hc12) h
          cases h
          exact sX11_zoomed_44 (by decide) hk
noncomputable def fX11_pixel (g : ps_G) (x0 : Nat) (x1 : Int32) (x2 : Int32) (x3 : Int32) : Option ((String ⊕ Int32) × ps_G) := Option.bind (q_ob 11 g x0) fun u1 => q_tc (fX11_selectable g x0 x1) fun v2 g3 => Option.bind (q_ob 11 g3 x0) fun u4 => q_tc (fX11_needPlace g3 x0 x2 x3) fun v5 g6 => Option.bind (v2) fun a7 => Option.bind (q_fR 11 0 g6 x0) fun v8 => Option.bind (v8) fun a9 => Option.bind (q_fI 9 0 g6 a9) fun v10 => Option.bind (q_fR 11 0 g6 x0) fun v11 => Option.bind (v11) fun a12 => Option.bind (q_fI 9 1 g6 a12) fun v13 => Option.bind (q_ob 4 g6 a7) fun u14 => Option.bind (fX4_own g6 a7 x2 x3 v10 v13) fun v15 => some (.inr v15, g6)
theorem rX11_pixel {d : Nat} {Q : ps_Rs → ps_G → Prop} {g : ps_G} {x0 : Nat} {x1 : Int32} {x2 : Int32} {x3 : Int32} {r : (String ⊕ Int32) × ps_G} (h : fX11_pixel g x0 x1 x2 x3 = some r) (hk : Q (q_rI r.1) r.2) : ps_Ok mX11_pixel (d + 8) [.ref x0, .int x1, .int x2, .int x3] g Q := by
  unfold fX11_pixel at h
  refine sX11_pixel_0 ?_
  replace h := q_be h
  obtain ⟨u1, hv, h⟩ := h
  replace hv := q_ob_e hv
  obtain ⟨_, cu1⟩ := hv
  refine ⟨⟨some _, rfl⟩, ⟨_, cu1⟩, ?_⟩
  replace h := q_tc_e h
  rcases h with ⟨E, g3, hv, rfl⟩ | ⟨v2, g3, hv, h⟩
  · exact rX11_selectable hv hk
  refine rX11_selectable hv ?_
  replace h := q_be h
  obtain ⟨u4, hv, h⟩ := h
  replace hv := q_ob_e hv
  obtain ⟨_, cu4⟩ := hv
  refine ⟨_, _, rfl, by decide, ⟨some _, rfl⟩, ⟨_, cu4⟩, ?_⟩
  replace h := q_tc_e h
  rcases h with ⟨E, g6, hv, rfl⟩ | ⟨v5, g6, hv, h⟩
  · exact rX11_needPlace hv hk
  refine rX11_needPlace hv ?_
  replace h := q_be h
  obtain ⟨a7, ea7, h⟩ := h
  subst ea7
  replace h := q_be h
  obtain ⟨v8, hv, h⟩ := h
  replace hv := q_fR_e hv
  obtain ⟨_, cv8, dv8⟩ := hv
  replace h := q_be h
  obtain ⟨a9, ea9, h⟩ := h
  subst ea9
  replace h := q_be h
  obtain ⟨v10, hv, h⟩ := h
  replace hv := q_fI_e hv
  obtain ⟨_, cv10, dv10⟩ := hv
  replace h := q_be h
  obtain ⟨v11, hv, h⟩ := h
  replace hv := q_fR_e hv
  obtain ⟨_, cv11, dv11⟩ := hv
  replace h := q_be h
  obtain ⟨a12, ea12, h⟩ := h
  subst ea12
  replace h := q_be h
  obtain ⟨v13, hv, h⟩ := h
  replace hv := q_fI_e hv
  obtain ⟨_, cv13, dv13⟩ := hv
  replace h := q_be h
  obtain ⟨u14, hv, h⟩ := h
  replace hv := q_ob_e hv
  obtain ⟨_, cu14⟩ := hv
  replace h := q_be h
  obtain ⟨v15, hv, h⟩ := h
  refine ⟨⟨some _, rfl⟩, ⟨some _, rfl⟩, _, _, cv8, dv8, _, _, cv10, dv10, ⟨some _, rfl⟩, _, _, cv11, dv11, _, _, cv13, dv13, ⟨_, cu14⟩, ?_⟩
  refine rX4_own hv ?_
  cases h
  exact ⟨rfl, hk⟩
noncomputable def jX11_masked_46 (g : ps_G) (k0 : Int32) : Option ((String ⊕ Int32) × ps_G) := some (.inr k0, g)
theorem pjX11_masked_46 {d : Nat} {Q : ps_Rs → ps_G → Prop} {g : ps_G} {k0 : Int32} {r : (String ⊕ Int32) × ps_G} (h : jX11_masked_46 g k0 = some r) (hk : Q (q_rI r.1) r.2) : ps_At mX11_masked (d + 7) 46 [] [.int k0] g Q := by
  unfold jX11_masked_46 at h
  refine sX11_masked_46 ?_
  cases h
  exact ⟨rfl, hk⟩
noncomputable def fX11_masked (g : ps_G) (x0 : Nat) (x1 : Int32) (x2 : Int32) (x3 : Int32) : Option ((String ⊕ Int32) × ps_G) := Option.bind (q_ob 11 g x0) fun u1 => q_tc (fX11_known g x0 x1) fun v2 g3 => Option.bind (q_ob 11 g3 x0) fun u4 => q_tc (fX11_needPlace g3 x0 x2 x3) fun v5 g6 => Option.bind (v2) fun a7 => Option.bind (q_fR 4 16 g6 a7) fun v8 => Option.bind (v8) fun a9 => Option.bind (q_len g6 a9) fun v10 => if ¬ v10 = (576 : Int32) then (jX11_masked_46 g6 (-1 : Int32)) else (Option.bind (q_fR 4 16 g6 a7) fun v13 => Option.bind (v13) fun a14 => Option.bind (q_fR 11 0 g6 x0) fun v15 => Option.bind (v15) fun a16 => Option.bind (q_fI 9 0 g6 a16) fun v17 => Option.bind (q_aI g6 a14 ((x3 * v17) + x2)) fun v18 => jX11_masked_46 g6 v18)
theorem rX11_masked {d : Nat} {Q : ps_Rs → ps_G → Prop} {g : ps_G} {x0 : Nat} {x1 : Int32} {x2 : Int32} {x3 : Int32} {r : (String ⊕ Int32) × ps_G} (h : fX11_masked g x0 x1 x2 x3 = some r) (hk : Q (q_rI r.1) r.2) : ps_Ok mX11_masked (d + 7) [.ref x0, .int x1, .int x2, .int x3] g Q := by
  unfold fX11_masked at h
  refine sX11_masked_0 ?_
  replace h := q_be h
  obtain ⟨u1, hv, h⟩ := h
  replace hv := q_ob_e hv
  obtain ⟨_, cu1⟩ := hv
  refine ⟨⟨some _, rfl⟩, ⟨_, cu1⟩, ?_⟩
  replace h := q_tc_e h
  rcases h with ⟨E, g3, hv, rfl⟩ | ⟨v2, g3, hv, h⟩
  · exact rX11_known hv hk
  refine rX11_known hv ?_
  replace h := q_be h
  obtain ⟨u4, hv, h⟩ := h
  replace hv := q_ob_e hv
  obtain ⟨_, cu4⟩ := hv
  refine ⟨_, _, rfl, by decide, ⟨some _, rfl⟩, ⟨_, cu4⟩, ?_⟩
  replace h := q_tc_e h
  rcases h with ⟨E, g6, hv, rfl⟩ | ⟨v5, g6, hv, h⟩
  · exact rX11_needPlace hv hk
  refine rX11_needPlace hv ?_
  replace h := q_be h
  obtain ⟨a7, ea7, h⟩ := h
  subst ea7
  replace h := q_be h
  obtain ⟨v8, hv, h⟩ := h
  replace hv := q_fR_e hv
  obtain ⟨_, cv8, dv8⟩ := hv
  replace h := q_be h
  obtain ⟨a9, ea9, h⟩ := h
  subst ea9
  replace h := q_be h
  obtain ⟨v10, hv, h⟩ := h
  replace hv := q_len_e hv
  obtain ⟨_, _, cv10, qv10, yv10⟩ := hv
  refine ⟨⟨some _, rfl⟩, _, _, cv8, dv8, _, _, cv10, qv10, _, yv10, ?_⟩
  refine And.intro (fun hc11 => ?_) (fun hc11 => ?_)
  · replace h := q_ifp (hc11) h
    refine sX11_masked_45 ?_
    exact ps_weak (pjX11_masked_46 h hk) trivial
  · replace h := q_ifn (hc11) h
    replace h := q_be h
    obtain ⟨v13, hv, h⟩ := h
    replace hv := q_fR_e hv
    obtain ⟨_, cv13, dv13⟩ := hv
    replace h := q_be h
    obtain ⟨a14, ea14, h⟩ := h
    subst ea14
    replace h := q_be h
    obtain ⟨v15, hv, h⟩ := h
    replace hv := q_fR_e hv
    obtain ⟨_, cv15, dv15⟩ := hv
    replace h := q_be h
    obtain ⟨a16, ea16, h⟩ := h
    subst ea16
    replace h := q_be h
    obtain ⟨v17, hv, h⟩ := h
    replace hv := q_fI_e hv
    obtain ⟨_, cv17, dv17⟩ := hv
    replace h := q_be h
    obtain ⟨v18, hv, h⟩ := h
    replace hv := q_aI_e hv
    obtain ⟨_, _, cv18, iv18, yv18⟩ := hv
    refine ⟨⟨some _, rfl⟩, _, _, cv13, dv13, ⟨some _, rfl⟩, _, _, cv15, dv15, _, _, cv17, dv17, _, _, cv18, iv18, _, yv18, ?_⟩
    exact ps_weak (pjX11_masked_46 h hk) trivial
noncomputable def jX4_setting_22 (g : ps_G) : Option (Int32) := some (0 : Int32)
theorem pjX4_setting_22 {d : Nat} {Q : ps_Rs → ps_G → Prop} {g : ps_G}  {r : Int32} (h : jX4_setting_22 g = some r) (hk : Q (.inl (some (.int r))) g) : ps_At mX4_setting d 22 [] [] g Q := by
  unfold jX4_setting_22 at h
  refine sX4_setting_22 ?_
  cases h
  exact ⟨rfl, hk⟩
noncomputable def jX4_setting_24 (g : ps_G) (x0 : Nat) (x1 : Int32) : Option (Int32) := if x1 = 10 then (Option.bind (q_fI 4 9 g x0) fun v5 => some v5) else (if x1 = 11 then (Option.bind (q_fI 4 10 g x0) fun v7 => some v7) else (if x1 = 12 then (Option.bind (q_fI 4 11 g x0) fun v9 => some v9) else (if x1 = 13 then (Option.bind (q_fI 4 12 g x0) fun v11 => some v11) else (if x1 = 14 then (Option.bind (q_fI 4 13 g x0) fun v13 => some v13) else (Option.bind (q_fI 4 14 g x0) fun v14 => some v14)))))
theorem pjX4_setting_24 {d : Nat} {Q : ps_Rs → ps_G → Prop} {g : ps_G} {x0 : Nat} {x1 : Int32} {r : Int32} (h : jX4_setting_24 g x0 x1 = some r) (hk : Q (.inl (some (.int r))) g) : ps_At mX4_setting d 24 [(0, .ref x0), (1, .int x1)] [] g Q := by
  unfold jX4_setting_24 at h
  refine sX4_setting_24 ?_
  refine sX4_setting_25 ?_
  by_cases hc4 : x1 = 10
  · replace h := q_ifp hc4 h
    have eT : ps_tsel 25 60 10 14 #[35, 40, 45, 50, 55] x1 = 60 := by
      rw [hc4]; decide +kernel
    refine ps_at_eq eT ?_
    refine sX4_setting_60 ?_
    replace h := q_be h
    obtain ⟨v5, hv, h⟩ := h
    replace hv := q_fI_e hv
    obtain ⟨_, cv5, dv5⟩ := hv
    cases h
    exact ⟨⟨some _, rfl⟩, _, _, cv5, dv5, rfl, hk⟩
  replace h := q_ifn hc4 h
  by_cases hc6 : x1 = 11
  · replace h := q_ifp hc6 h
    have eT : ps_tsel 25 60 10 14 #[35, 40, 45, 50, 55] x1 = 65 := by
      rw [hc6]; decide +kernel
    refine ps_at_eq eT ?_
    refine sX4_setting_65 ?_
    replace h := q_be h
    obtain ⟨v7, hv, h⟩ := h
    replace hv := q_fI_e hv
    obtain ⟨_, cv7, dv7⟩ := hv
    cases h
    exact ⟨⟨some _, rfl⟩, _, _, cv7, dv7, rfl, hk⟩
  replace h := q_ifn hc6 h
  by_cases hc8 : x1 = 12
  · replace h := q_ifp hc8 h
    have eT : ps_tsel 25 60 10 14 #[35, 40, 45, 50, 55] x1 = 70 := by
      rw [hc8]; decide +kernel
    refine ps_at_eq eT ?_
    refine sX4_setting_70 ?_
    replace h := q_be h
    obtain ⟨v9, hv, h⟩ := h
    replace hv := q_fI_e hv
    obtain ⟨_, cv9, dv9⟩ := hv
    cases h
    exact ⟨⟨some _, rfl⟩, _, _, cv9, dv9, rfl, hk⟩
  replace h := q_ifn hc8 h
  by_cases hc10 : x1 = 13
  · replace h := q_ifp hc10 h
    have eT : ps_tsel 25 60 10 14 #[35, 40, 45, 50, 55] x1 = 75 := by
      rw [hc10]; decide +kernel
    refine ps_at_eq eT ?_
    refine sX4_setting_75 ?_
    replace h := q_be h
    obtain ⟨v11, hv, h⟩ := h
    replace hv := q_fI_e hv
    obtain ⟨_, cv11, dv11⟩ := hv
    cases h
    exact ⟨⟨some _, rfl⟩, _, _, cv11, dv11, rfl, hk⟩
  replace h := q_ifn hc10 h
  by_cases hc12 : x1 = 14
  · replace h := q_ifp hc12 h
    have eT : ps_tsel 25 60 10 14 #[35, 40, 45, 50, 55] x1 = 80 := by
      rw [hc12]; decide +kernel
    refine ps_at_eq eT ?_
    refine sX4_setting_80 ?_
    replace h := q_be h
    obtain ⟨v13, hv, h⟩ := h
    replace hv := q_fI_e hv
    obtain ⟨_, cv13, dv13⟩ := hv
    cases h
    exact ⟨⟨some _, rfl⟩, _, _, cv13, dv13, rfl, hk⟩
  replace h := q_ifn hc12 h
  have eD : ps_tsel 25 60 10 14 #[35, 40, 45, 50, 55] x1 = 85 := by
    refine q_tsd (by decide +kernel) (fun z h1 h2 => ?_)
    have hz : z = 10 ∨ z = 11 ∨ z = 12 ∨ z = 13 ∨ z = 14 := by omega
    rcases hz with rfl | rfl | rfl | rfl | rfl
    · exact Or.inl (q_tsx (v := 10) (fun z => hc4 z))
    · exact Or.inl (q_tsx (v := 11) (fun z => hc6 z))
    · exact Or.inl (q_tsx (v := 12) (fun z => hc8 z))
    · exact Or.inl (q_tsx (v := 13) (fun z => hc10 z))
    · exact Or.inl (q_tsx (v := 14) (fun z => hc12 z))
  refine ps_at_eq eD ?_
  refine sX4_setting_85 ?_
  replace h := q_be h
  obtain ⟨v14, hv, h⟩ := h
  replace hv := q_fI_e hv
  obtain ⟨_, cv14, dv14⟩ := hv
  cases h
  exact ⟨⟨some _, rfl⟩, _, _, cv14, dv14, rfl, hk⟩
noncomputable def fX4_setting (g : ps_G) (x0 : Nat) (x1 : Int32) : Option (Int32) := Option.bind (q_fI 4 1 g x0) fun v1 => if v1 < (2 : Int32) then (jX4_setting_22 g) else (if x1 < (12 : Int32) then (jX4_setting_24 g x0 x1) else (Option.bind (q_fI 4 1 g x0) fun v15 => if v15 = (3 : Int32) then (jX4_setting_24 g x0 x1) else (jX4_setting_22 g)))
theorem rX4_setting {d : Nat} {Q : ps_Rs → ps_G → Prop} {g : ps_G} {x0 : Nat} {x1 : Int32} {r : Int32} (h : fX4_setting g x0 x1 = some r) (hk : Q (.inl (some (.int r))) g) : ps_Ok mX4_setting d [.ref x0, .int x1] g Q := by
  unfold fX4_setting at h
  refine sX4_setting_0 ?_
  replace h := q_be h
  obtain ⟨v1, hv, h⟩ := h
  replace hv := q_fI_e hv
  obtain ⟨_, cv1, dv1⟩ := hv
  refine ⟨⟨some _, rfl⟩, _, _, cv1, dv1, ?_⟩
  refine And.intro (fun hc2 => ?_) (fun hc2 => ?_)
  · replace h := q_ifp (hc2) h
    exact ps_weak (pjX4_setting_22 h hk) trivial
  · replace h := q_ifn (hc2) h
    refine And.intro (fun hc3 => ?_) (fun hc3 => ?_)
    · replace h := q_ifp (hc3) h
      exact ps_weak (pjX4_setting_24 h hk) ⟨rfl, rfl, trivial⟩
    · replace h := q_ifn (hc3) h
      replace h := q_be h
      obtain ⟨v15, hv, h⟩ := h
      replace hv := q_fI_e hv
      obtain ⟨_, cv15, dv15⟩ := hv
      refine ⟨⟨some _, rfl⟩, _, _, cv15, dv15, ?_⟩
      refine And.intro (fun hc16 => ?_) (fun hc16 => ?_)
      · replace h := q_ifp (hc16) h
        exact ps_weak (pjX4_setting_24 h hk) ⟨rfl, rfl, trivial⟩
      · replace h := q_ifn (hc16) h
        exact ps_weak (pjX4_setting_22 h hk) trivial
noncomputable def bX9_placeOf_4 (g : ps_G) (x0 : Nat) (x1 : Nat) (x2 : Int32) (x3 : Int32) : Option ((Int32 × Int32) ⊕ (Int32)) := Option.bind (q_fI 9 4 g x0) fun v1 => if v1 ≤ x3 then (some (.inr x2)) else (Option.bind (q_fI 4 2 g x1) fun v4 => Option.bind (q_ob 9 g x0) fun u5 => Option.bind (fX9_child g x0 x3 v4) fun v6 => Option.bind (q_g8 v6) fun u7 => Option.bind (q_g8 (some x1)) fun u8 => if ¬ v6 = (some x1) then (some (.inl ((if v6 = none then x2 else x2 + (1 : Int32)), x3 + (1 : Int32)))) else (some (.inr x2)))
theorem pbX9_placeOf_4 {d : Nat} {Q : ps_Rs → ps_G → Prop} {g : ps_G} {x0 : Nat} {x1 : Nat} {x2 : Int32} {x3 : Int32} {x : (Int32 × Int32) ⊕ (Int32)} (h : bX9_placeOf_4 g x0 x1 x2 x3 = some x) (hh : ∀ s' : Int32 × Int32, x = .inl s' → ps_At mX9_placeOf (d + 2) 4 [(0, .ref x0), (1, .ref x1), (2, .int s'.1), (3, .int s'.2)] [] g Q) (he : ∀ r' : Int32, x = .inr r' → ps_At mX9_placeOf (d + 2) 46 [(2, .int r')] [] g Q) : ps_At mX9_placeOf (d + 2) 4 [(0, .ref x0), (1, .ref x1), (2, .int x2), (3, .int x3)] [] g Q := by
  unfold bX9_placeOf_4 at h
  refine sX9_placeOf_4 ?_
  replace h := q_be h
  obtain ⟨v1, hv, h⟩ := h
  replace hv := q_fI_e hv
  obtain ⟨_, cv1, dv1⟩ := hv
  refine ⟨⟨some _, rfl⟩, _, _, cv1, dv1, ?_⟩
  refine And.intro (fun hc2 => ?_) (fun hc2 => ?_)
  · replace h := q_ifp (hc2) h
    exact ps_weak (he x2 (Option.some.inj h).symm) ⟨rfl, trivial⟩
  · replace h := q_ifn (hc2) h
    replace h := q_be h
    obtain ⟨v4, hv, h⟩ := h
    replace hv := q_fI_e hv
    obtain ⟨_, cv4, dv4⟩ := hv
    replace h := q_be h
    obtain ⟨u5, hv, h⟩ := h
    replace hv := q_ob_e hv
    obtain ⟨_, cu5⟩ := hv
    replace h := q_be h
    obtain ⟨v6, hv, h⟩ := h
    refine ⟨⟨some _, rfl⟩, ⟨some _, rfl⟩, _, _, cv4, dv4, ⟨_, cu5⟩, ?_⟩
    refine rX9_child hv ?_
    replace h := q_be h
    obtain ⟨u7, hv, h⟩ := h
    replace hv := q_g8_e hv
    replace h := q_be h
    obtain ⟨u8, hv2, h⟩ := h
    replace hv2 := q_g8_e hv2
    refine ⟨_, _, rfl, by decide, ⟨_, rfl⟩, ⟨some _, rfl⟩, _, some _, _, rfl, rfl, hv, hv2, ?_⟩
    refine And.intro (fun hc9 => ?_) (fun hc9 => ?_)
    · replace h := q_ifp (hc9) h
      refine sX9_placeOf_32 ?_
      have kJ12 : ∀ w11 : Int32, w11 = (if v6 = none then x2 else x2 + (1 : Int32)) → ps_At mX9_placeOf (d + 2) 40 [(0, .ref x0), (1, .ref x1), (2, .int w11), (3, .int x3)] [] g Q := by
        rintro _ rfl
        refine sX9_placeOf_40 ?_
        refine ⟨by decide, ?_⟩
        exact ps_weak (hh ((if v6 = none then x2 else x2 + (1 : Int32)), x3 + (1 : Int32)) (Option.some.inj h).symm) ⟨rfl, rfl, rfl, rfl, trivial⟩
      refine ⟨⟨_, rfl⟩, _, _, rfl, ?_⟩
      refine And.intro (fun hc10 => ?_) (fun hc10 => ?_)
      · exact ps_weak (kJ12 _ (if_pos (hc10)).symm) ⟨(by first | rfl | (cases v6 <;> rfl)), (by first | rfl | (cases v6 <;> rfl)), (by first | rfl | (cases v6 <;> rfl)), (by first | rfl | (cases v6 <;> rfl)), trivial⟩
      · refine ⟨by decide, ?_⟩
        exact ps_weak (kJ12 _ (if_neg (hc10)).symm) ⟨(by first | rfl | (cases v6 <;> rfl)), (by first | rfl | (cases v6 <;> rfl)), (by first | rfl | (cases v6 <;> rfl)), (by first | rfl | (cases v6 <;> rfl)), trivial⟩
    · replace hc9 := not_not_intro hc9
      replace h := q_ifn (hc9) h
      exact ps_weak (he x2 (Option.some.inj h).symm) ⟨(by first | rfl | (cases v6 <;> rfl)), trivial⟩
noncomputable def jX9_placeOf_46 (g : ps_G) (x2 : Int32) : Option (Int32) := some x2
theorem pjX9_placeOf_46 {d : Nat} {Q : ps_Rs → ps_G → Prop} {g : ps_G} {x2 : Int32} {r : Int32} (h : jX9_placeOf_46 g x2 = some r) (hk : Q (.inl (some (.int r))) g) : ps_At mX9_placeOf (d + 2) 46 [(2, .int x2)] [] g Q := by
  unfold jX9_placeOf_46 at h
  refine sX9_placeOf_46 ?_
  cases h
  exact ⟨rfl, hk⟩
noncomputable def fX9_placeOf (g : ps_G) (x0 : Nat) (x1 : Nat) : Option (Int32) := Option.bind (q_lp (fun s => bX9_placeOf_4 g x0 x1 s.1 s.2) ((0 : Int32), (0 : Int32))) fun s17 => jX9_placeOf_46 g s17
theorem rX9_placeOf {d : Nat} {Q : ps_Rs → ps_G → Prop} {g : ps_G} {x0 : Nat} {x1 : Nat} {r : Int32} (h : fX9_placeOf g x0 x1 = some r) (hk : Q (.inl (some (.int r))) g) : ps_Ok mX9_placeOf (d + 2) [.ref x0, .ref x1] g Q := by
  unfold fX9_placeOf at h
  refine sX9_placeOf_0 ?_
  refine ⟨by decide, by decide, ?_⟩
  replace h := q_be h
  obtain ⟨s17, hl, h⟩ := h
  refine ps_weak (q_lp_ok hl (fun s => ps_At mX9_placeOf (d + 2) 4 [(0, .ref x0), (1, .ref x1), (2, .int s.1), (3, .int s.2)] [] g Q) (fun r => ps_At mX9_placeOf (d + 2) 46 [(2, .int r)] [] g Q) (fun s x hb hh he => pbX9_placeOf_4 hb hh he) ?_) ⟨rfl, rfl, rfl, rfl, trivial⟩
  refine (?_ : ps_At mX9_placeOf (d + 2) 46 [(2, .int s17)] [] g Q)
  exact ps_weak (pjX9_placeOf_46 h hk) ⟨rfl, trivial⟩
noncomputable def fX11_about (g : ps_G) (x0 : Nat) (x1 : Int32) (x2 : Int32) : Option ((String ⊕ Int32) × ps_G) := q_tc (fX11_range g x2 (0 : Int32) (15 : Int32)) fun v1 g2 => Option.bind (q_ob 11 g2 x0) fun u3 => q_tc (fX11_known g2 x0 x1) fun v4 g5 => if x2 < (10 : Int32) then (if x2 = 0 then (Option.bind (v4) fun a8 => Option.bind (q_fI 4 1 g5 a8) fun v9 => some (.inr v9, g5)) else (if x2 = 1 then (Option.bind (v4) fun a11 => Option.bind (q_fI 4 2 g5 a11) fun v12 => some (.inr v12, g5)) else (if x2 = 2 then (Option.bind (q_fR 11 0 g5 x0) fun v14 => Option.bind (v14) fun a15 => Option.bind (v4) fun a16 => Option.bind (q_ob 9 g5 a15) fun u17 => Option.bind (fX9_placeOf g5 a15 a16) fun v18 => some (.inr v18, g5)) else (if x2 = 3 then (Option.bind (v4) fun a20 => Option.bind (q_fI 4 3 g5 a20) fun v21 => some (.inr v21, g5)) else (if x2 = 4 then (Option.bind (v4) fun a23 => Option.bind (q_fI 4 4 g5 a23) fun v24 => some (.inr v24, g5)) else (if x2 = 5 then (Option.bind (v4) fun a26 => Option.bind (q_fI 4 5 g5 a26) fun v27 => some (.inr (if v27 = 0 then (0 : Int32) else (1 : Int32)), g5)) else (if x2 = 6 then (Option.bind (v4) fun a32 => Option.bind (q_fI 4 6 g5 a32) fun v33 => some (.inr (if v33 = 0 then (0 : Int32) else (1 : Int32)), g5)) else (if x2 = 7 then (Option.bind (v4) fun a38 => Option.bind (q_fI 4 7 g5 a38) fun v39 => some (.inr v39, g5)) else (if x2 = 8 then (Option.bind (v4) fun a41 => Option.bind (q_fI 4 8 g5 a41) fun v42 => some (.inr v42, g5)) else (Option.bind (q_fR 11 0 g5 x0) fun v43 => Option.bind (v43) fun a44 => Option.bind (q_ob 9 g5 a44) fun u45 => Option.bind (fX9_among g5 a44 x1) fun v46 => some (.inr v46, g5))))))))))) else (Option.bind (v4) fun a47 => Option.bind (q_ob 4 g5 a47) fun u48 => Option.bind (fX4_setting g5 a47 x2) fun v49 => some (.inr v49, g5))
theorem rX11_about {d : Nat} {Q : ps_Rs → ps_G → Prop} {g : ps_G} {x0 : Nat} {x1 : Int32} {x2 : Int32} {r : (String ⊕ Int32) × ps_G} (h : fX11_about g x0 x1 x2 = some r) (hk : Q (q_rI r.1) r.2) : ps_Ok mX11_about (d + 7) [.ref x0, .int x1, .int x2] g Q := by
  unfold fX11_about at h
  refine sX11_about_0 ?_
  replace h := q_tc_e h
  rcases h with ⟨E, g2, hv, rfl⟩ | ⟨v1, g2, hv, h⟩
  · exact rX11_range hv ⟨rfl, hk⟩
  refine rX11_range hv ?_
  replace h := q_be h
  obtain ⟨u3, hv, h⟩ := h
  replace hv := q_ob_e hv
  obtain ⟨_, cu3⟩ := hv
  refine ⟨⟨some _, rfl⟩, ⟨_, cu3⟩, ?_⟩
  replace h := q_tc_e h
  rcases h with ⟨E, g5, hv, rfl⟩ | ⟨v4, g5, hv, h⟩
  · exact rX11_known hv hk
  refine rX11_known hv ?_
  refine ⟨_, _, rfl, by decide, ?_⟩
  refine And.intro (fun hc6 => ?_) (fun hc6 => ?_)
  · replace h := q_ifp (hc6) h
    refine sX11_about_25 ?_
    refine sX11_about_26 ?_
    by_cases hc7 : x2 = 0
    · replace h := q_ifp hc7 h
      have eT : ps_tsel 26 115 0 8 #[50, 55, 60, 69, 74, 79, 92, 105, 110] x2 = 76 := by
        rw [hc7]; decide +kernel
      refine ps_at_eq eT ?_
      refine sX11_about_76 ?_
      replace h := q_be h
      obtain ⟨a8, ea8, h⟩ := h
      subst ea8
      replace h := q_be h
      obtain ⟨v9, hv, h⟩ := h
      replace hv := q_fI_e hv
      obtain ⟨_, cv9, dv9⟩ := hv
      cases h
      exact ⟨⟨some _, rfl⟩, _, _, cv9, dv9, rfl, hk⟩
    replace h := q_ifn hc7 h
    by_cases hc10 : x2 = 1
    · replace h := q_ifp hc10 h
      have eT : ps_tsel 26 115 0 8 #[50, 55, 60, 69, 74, 79, 92, 105, 110] x2 = 81 := by
        rw [hc10]; decide +kernel
      refine ps_at_eq eT ?_
      refine sX11_about_81 ?_
      replace h := q_be h
      obtain ⟨a11, ea11, h⟩ := h
      subst ea11
      replace h := q_be h
      obtain ⟨v12, hv, h⟩ := h
      replace hv := q_fI_e hv
      obtain ⟨_, cv12, dv12⟩ := hv
      cases h
      exact ⟨⟨some _, rfl⟩, _, _, cv12, dv12, rfl, hk⟩
    replace h := q_ifn hc10 h
    by_cases hc13 : x2 = 2
    · replace h := q_ifp hc13 h
      have eT : ps_tsel 26 115 0 8 #[50, 55, 60, 69, 74, 79, 92, 105, 110] x2 = 86 := by
        rw [hc13]; decide +kernel
      refine ps_at_eq eT ?_
      refine sX11_about_86 ?_
      replace h := q_be h
      obtain ⟨v14, hv, h⟩ := h
      replace hv := q_fR_e hv
      obtain ⟨_, cv14, dv14⟩ := hv
      replace h := q_be h
      obtain ⟨a15, ea15, h⟩ := h
      subst ea15
      replace h := q_be h
      obtain ⟨a16, ea16, h⟩ := h
      subst ea16
      replace h := q_be h
      obtain ⟨u17, hv, h⟩ := h
      replace hv := q_ob_e hv
      obtain ⟨_, cu17⟩ := hv
      replace h := q_be h
      obtain ⟨v18, hv, h⟩ := h
      refine ⟨⟨some _, rfl⟩, _, _, cv14, dv14, ⟨some _, rfl⟩, ⟨_, cu17⟩, ?_⟩
      refine rX9_placeOf hv ?_
      cases h
      exact ⟨rfl, hk⟩
    replace h := q_ifn hc13 h
    by_cases hc19 : x2 = 3
    · replace h := q_ifp hc19 h
      have eT : ps_tsel 26 115 0 8 #[50, 55, 60, 69, 74, 79, 92, 105, 110] x2 = 95 := by
        rw [hc19]; decide +kernel
      refine ps_at_eq eT ?_
      refine sX11_about_95 ?_
      replace h := q_be h
      obtain ⟨a20, ea20, h⟩ := h
      subst ea20
      replace h := q_be h
      obtain ⟨v21, hv, h⟩ := h
      replace hv := q_fI_e hv
      obtain ⟨_, cv21, dv21⟩ := hv
      cases h
      exact ⟨⟨some _, rfl⟩, _, _, cv21, dv21, rfl, hk⟩
    replace h := q_ifn hc19 h
    by_cases hc22 : x2 = 4
    · replace h := q_ifp hc22 h
      have eT : ps_tsel 26 115 0 8 #[50, 55, 60, 69, 74, 79, 92, 105, 110] x2 = 100 := by
        rw [hc22]; decide +kernel
      refine ps_at_eq eT ?_
      refine sX11_about_100 ?_
      replace h := q_be h
      obtain ⟨a23, ea23, h⟩ := h
      subst ea23
      replace h := q_be h
      obtain ⟨v24, hv, h⟩ := h
      replace hv := q_fI_e hv
      obtain ⟨_, cv24, dv24⟩ := hv
      cases h
      exact ⟨⟨some _, rfl⟩, _, _, cv24, dv24, rfl, hk⟩
    replace h := q_ifn hc22 h
    by_cases hc25 : x2 = 5
    · replace h := q_ifp hc25 h
      have eT : ps_tsel 26 115 0 8 #[50, 55, 60, 69, 74, 79, 92, 105, 110] x2 = 105 := by
        rw [hc25]; decide +kernel
      refine ps_at_eq eT ?_
      refine sX11_about_105 ?_
      replace h := q_be h
      obtain ⟨a26, ea26, h⟩ := h
      subst ea26
      replace h := q_be h
      obtain ⟨v27, hv, h⟩ := h
      replace hv := q_fI_e hv
      obtain ⟨_, cv27, dv27⟩ := hv
      have kJ30 : ∀ w29 : Int32, w29 = (if v27 = 0 then (0 : Int32) else (1 : Int32)) → ps_At mX11_about (d + 7) 117 [] [.int w29] g5 Q := by
        rintro _ rfl
        refine sX11_about_117 ?_
        cases h
        exact ⟨rfl, hk⟩
      refine ⟨⟨some _, rfl⟩, _, _, cv27, dv27, ?_⟩
      refine And.intro (fun hc28 => ?_) (fun hc28 => ?_)
      · refine sX11_about_116 ?_
        exact ps_weak (kJ30 _ (if_pos (hc28)).symm) trivial
      · exact ps_weak (kJ30 _ (if_neg (hc28)).symm) trivial
    replace h := q_ifn hc25 h
    by_cases hc31 : x2 = 6
    · replace h := q_ifp hc31 h
      have eT : ps_tsel 26 115 0 8 #[50, 55, 60, 69, 74, 79, 92, 105, 110] x2 = 118 := by
        rw [hc31]; decide +kernel
      refine ps_at_eq eT ?_
      refine sX11_about_118 ?_
      replace h := q_be h
      obtain ⟨a32, ea32, h⟩ := h
      subst ea32
      replace h := q_be h
      obtain ⟨v33, hv, h⟩ := h
      replace hv := q_fI_e hv
      obtain ⟨_, cv33, dv33⟩ := hv
      have kJ36 : ∀ w35 : Int32, w35 = (if v33 = 0 then (0 : Int32) else (1 : Int32)) → ps_At mX11_about (d + 7) 130 [] [.int w35] g5 Q := by
        rintro _ rfl
        refine sX11_about_130 ?_
        cases h
        exact ⟨rfl, hk⟩
      refine ⟨⟨some _, rfl⟩, _, _, cv33, dv33, ?_⟩
      refine And.intro (fun hc34 => ?_) (fun hc34 => ?_)
      · refine sX11_about_129 ?_
        exact ps_weak (kJ36 _ (if_pos (hc34)).symm) trivial
      · exact ps_weak (kJ36 _ (if_neg (hc34)).symm) trivial
    replace h := q_ifn hc31 h
    by_cases hc37 : x2 = 7
    · replace h := q_ifp hc37 h
      have eT : ps_tsel 26 115 0 8 #[50, 55, 60, 69, 74, 79, 92, 105, 110] x2 = 131 := by
        rw [hc37]; decide +kernel
      refine ps_at_eq eT ?_
      refine sX11_about_131 ?_
      replace h := q_be h
      obtain ⟨a38, ea38, h⟩ := h
      subst ea38
      replace h := q_be h
      obtain ⟨v39, hv, h⟩ := h
      replace hv := q_fI_e hv
      obtain ⟨_, cv39, dv39⟩ := hv
      cases h
      exact ⟨⟨some _, rfl⟩, _, _, cv39, dv39, rfl, hk⟩
    replace h := q_ifn hc37 h
    by_cases hc40 : x2 = 8
    · replace h := q_ifp hc40 h
      have eT : ps_tsel 26 115 0 8 #[50, 55, 60, 69, 74, 79, 92, 105, 110] x2 = 136 := by
        rw [hc40]; decide +kernel
      refine ps_at_eq eT ?_
      refine sX11_about_136 ?_
      replace h := q_be h
      obtain ⟨a41, ea41, h⟩ := h
      subst ea41
      replace h := q_be h
      obtain ⟨v42, hv, h⟩ := h
      replace hv := q_fI_e hv
      obtain ⟨_, cv42, dv42⟩ := hv
      cases h
      exact ⟨⟨some _, rfl⟩, _, _, cv42, dv42, rfl, hk⟩
    replace h := q_ifn hc40 h
    have eD : ps_tsel 26 115 0 8 #[50, 55, 60, 69, 74, 79, 92, 105, 110] x2 = 141 := by
      refine q_tsd (by decide +kernel) (fun z h1 h2 => ?_)
      have hz : z = 0 ∨ z = 1 ∨ z = 2 ∨ z = 3 ∨ z = 4 ∨ z = 5 ∨ z = 6 ∨ z = 7 ∨ z = 8 := by omega
      rcases hz with rfl | rfl | rfl | rfl | rfl | rfl | rfl | rfl | rfl
      · exact Or.inl (q_tsx (v := 0) (fun z => hc7 z))
      · exact Or.inl (q_tsx (v := 1) (fun z => hc10 z))
      · exact Or.inl (q_tsx (v := 2) (fun z => hc13 z))
      · exact Or.inl (q_tsx (v := 3) (fun z => hc19 z))
      · exact Or.inl (q_tsx (v := 4) (fun z => hc22 z))
      · exact Or.inl (q_tsx (v := 5) (fun z => hc25 z))
      · exact Or.inl (q_tsx (v := 6) (fun z => hc31 z))
      · exact Or.inl (q_tsx (v := 7) (fun z => hc37 z))
      · exact Or.inl (q_tsx (v := 8) (fun z => hc40 z))
    refine ps_at_eq eD ?_
    refine sX11_about_141 ?_
    replace h := q_be h
    obtain ⟨v43, hv, h⟩ := h
    replace hv := q_fR_e hv
    obtain ⟨_, cv43, dv43⟩ := hv
    replace h := q_be h
    obtain ⟨a44, ea44, h⟩ := h
    subst ea44
    replace h := q_be h
    obtain ⟨u45, hv, h⟩ := h
    replace hv := q_ob_e hv
    obtain ⟨_, cu45⟩ := hv
    replace h := q_be h
    obtain ⟨v46, hv, h⟩ := h
    refine ⟨⟨some _, rfl⟩, _, _, cv43, dv43, ⟨_, cu45⟩, ?_⟩
    refine rX9_among hv ?_
    cases h
    exact ⟨rfl, hk⟩
  · replace h := q_ifn (hc6) h
    replace h := q_be h
    obtain ⟨a47, ea47, h⟩ := h
    subst ea47
    replace h := q_be h
    obtain ⟨u48, hv, h⟩ := h
    replace hv := q_ob_e hv
    obtain ⟨_, cu48⟩ := hv
    replace h := q_be h
    obtain ⟨v49, hv, h⟩ := h
    refine ⟨⟨some _, rfl⟩, ⟨_, cu48⟩, ?_⟩
    refine rX4_setting hv ?_
    cases h
    exact ⟨rfl, hk⟩
noncomputable def jX7_octet_34 (g : ps_G) : Option (ps_G) := some g
theorem pjX7_octet_34 {d : Nat} {Q : ps_Rs → ps_G → Prop} {g : ps_G}  {r : ps_G} (h : jX7_octet_34 g = some r) (hk : Q (.inl none) r) : ps_At mX7_octet d 34 [] [] g Q := by
  unfold jX7_octet_34 at h
  refine sX7_octet_34 ?_
  cases h
  exact ⟨rfl, rfl, hk⟩
noncomputable def fX7_octet (g : ps_G) (x0 : Nat) (x1 : Int32) : Option (ps_G) := Option.bind (q_fI 7 1 g x0) fun v1 => if (3000 : Int32) ≤ v1 then (jX7_octet_34 g) else (Option.bind (q_fR 7 0 g x0) fun v4 => Option.bind (v4) fun a5 => Option.bind (q_fI 7 1 g x0) fun v6 => Option.bind (q_wI g a5 v6 (x1 &&& (255 : Int32))) fun g7 => Option.bind (q_fI 7 1 g7 x0) fun v8 => Option.bind (q_sI 7 1 g7 x0 (v8 + (1 : Int32))) fun g9 => jX7_octet_34 g9)
theorem rX7_octet {d : Nat} {Q : ps_Rs → ps_G → Prop} {g : ps_G} {x0 : Nat} {x1 : Int32} {r : ps_G} (h : fX7_octet g x0 x1 = some r) (hk : Q (.inl none) r) : ps_Ok mX7_octet d [.ref x0, .int x1] g Q := by
  unfold fX7_octet at h
  refine sX7_octet_0 ?_
  replace h := q_be h
  obtain ⟨v1, hv, h⟩ := h
  replace hv := q_fI_e hv
  obtain ⟨_, cv1, dv1⟩ := hv
  refine ⟨⟨some _, rfl⟩, _, _, cv1, dv1, ?_⟩
  refine And.intro (fun hc2 => ?_) (fun hc2 => ?_)
  · replace h := q_ifp (hc2) h
    exact ps_weak (pjX7_octet_34 h hk) trivial
  · replace h := q_ifn (hc2) h
    replace h := q_be h
    obtain ⟨v4, hv, h⟩ := h
    replace hv := q_fR_e hv
    obtain ⟨_, cv4, dv4⟩ := hv
    replace h := q_be h
    obtain ⟨a5, ea5, h⟩ := h
    subst ea5
    replace h := q_be h
    obtain ⟨v6, hv, h⟩ := h
    replace hv := q_fI_e hv
    obtain ⟨_, cv6, dv6⟩ := hv
    replace h := q_be h
    obtain ⟨g7, hv, h⟩ := h
    replace hv := q_wI_e hv
    obtain ⟨_, _, cg7, pg7, ig7, yg7⟩ := hv
    replace h := q_be h
    obtain ⟨v8, hv, h⟩ := h
    replace hv := q_fI_e hv
    obtain ⟨_, cv8, dv8⟩ := hv
    replace h := q_be h
    obtain ⟨g9, hv, h⟩ := h
    replace hv := q_sI_e hv
    obtain ⟨_, cg9, dg9, yg9⟩ := hv
    refine ⟨⟨some _, rfl⟩, _, _, cv4, dv4, ⟨some _, rfl⟩, _, _, cv6, dv6, _, _, cg7, pg7, ig7, _, yg7, ⟨some _, rfl⟩, rfl, _, _, cv8, dv8, _, cg9, dg9, rfl, rfl, _, yg9, ?_⟩
    exact ps_weak (pjX7_octet_34 h hk) trivial
noncomputable def fX7_four (g : ps_G) (x0 : Nat) (x1 : Int32) : Option (ps_G) := Option.bind (q_ob 7 g x0) fun u1 => Option.bind (fX7_octet g x0 (q_ush x1 (24 : Int32))) fun v2 => Option.bind (q_ob 7 v2 x0) fun u3 => Option.bind (fX7_octet v2 x0 (q_ush x1 (16 : Int32))) fun v4 => Option.bind (q_ob 7 v4 x0) fun u5 => Option.bind (fX7_octet v4 x0 (q_ush x1 (8 : Int32))) fun v6 => Option.bind (q_ob 7 v6 x0) fun u7 => Option.bind (fX7_octet v6 x0 x1) fun v8 => some v8
theorem rX7_four {d : Nat} {Q : ps_Rs → ps_G → Prop} {g : ps_G} {x0 : Nat} {x1 : Int32} {r : ps_G} (h : fX7_four g x0 x1 = some r) (hk : Q (.inl none) r) : ps_Ok mX7_four (d + 1) [.ref x0, .int x1] g Q := by
  unfold fX7_four at h
  refine sX7_four_0 ?_
  replace h := q_be h
  obtain ⟨u1, hv, h⟩ := h
  replace hv := q_ob_e hv
  obtain ⟨_, cu1⟩ := hv
  replace h := q_be h
  obtain ⟨v2, hv, h⟩ := h
  refine ⟨⟨some _, rfl⟩, ⟨_, cu1⟩, ?_⟩
  refine rX7_octet hv ?_
  replace h := q_be h
  obtain ⟨u3, hv, h⟩ := h
  replace hv := q_ob_e hv
  obtain ⟨_, cu3⟩ := hv
  replace h := q_be h
  obtain ⟨v4, hv, h⟩ := h
  refine ⟨⟨some _, rfl⟩, ⟨_, cu3⟩, ?_⟩
  refine rX7_octet hv ?_
  replace h := q_be h
  obtain ⟨u5, hv, h⟩ := h
  replace hv := q_ob_e hv
  obtain ⟨_, cu5⟩ := hv
  replace h := q_be h
  obtain ⟨v6, hv, h⟩ := h
  refine ⟨⟨some _, rfl⟩, ⟨_, cu5⟩, ?_⟩
  refine rX7_octet hv ?_
  replace h := q_be h
  obtain ⟨u7, hv, h⟩ := h
  replace hv := q_ob_e hv
  obtain ⟨_, cu7⟩ := hv
  replace h := q_be h
  obtain ⟨v8, hv, h⟩ := h
  refine ⟨⟨some _, rfl⟩, ⟨_, cu7⟩, ?_⟩
  refine rX7_octet hv ?_
  cases h
  exact ⟨rfl, rfl, hk⟩
noncomputable def fX7_beginChunk (g : ps_G) (x0 : Nat) (x1 : Int32) : Option (Int32 × ps_G) := Option.bind (q_fI 7 1 g x0) fun v1 => Option.bind (q_ob 7 g x0) fun u2 => Option.bind (fX7_four g x0 (0 : Int32)) fun v3 => Option.bind (q_ob 7 v3 x0) fun u4 => Option.bind (fX7_four v3 x0 x1) fun v5 => some (v1, v5)
theorem rX7_beginChunk {d : Nat} {Q : ps_Rs → ps_G → Prop} {g : ps_G} {x0 : Nat} {x1 : Int32} {r : Int32 × ps_G} (h : fX7_beginChunk g x0 x1 = some r) (hk : Q (.inl (some (.int r.1))) r.2) : ps_Ok mX7_beginChunk (d + 2) [.ref x0, .int x1] g Q := by
  unfold fX7_beginChunk at h
  refine sX7_beginChunk_0 ?_
  replace h := q_be h
  obtain ⟨v1, hv, h⟩ := h
  replace hv := q_fI_e hv
  obtain ⟨_, cv1, dv1⟩ := hv
  replace h := q_be h
  obtain ⟨u2, hv, h⟩ := h
  replace hv := q_ob_e hv
  obtain ⟨_, cu2⟩ := hv
  replace h := q_be h
  obtain ⟨v3, hv, h⟩ := h
  refine ⟨⟨some _, rfl⟩, _, _, cv1, dv1, by decide, ⟨some _, rfl⟩, ⟨_, cu2⟩, ?_⟩
  refine rX7_four hv ?_
  replace h := q_be h
  obtain ⟨u4, hv, h⟩ := h
  replace hv := q_ob_e hv
  obtain ⟨_, cu4⟩ := hv
  replace h := q_be h
  obtain ⟨v5, hv, h⟩ := h
  refine ⟨⟨some _, rfl⟩, ⟨_, cu4⟩, ?_⟩
  refine rX7_four hv ?_
  cases h
  exact ⟨rfl, hk⟩
noncomputable def fX7_endChunk (g : ps_G) (x0 : Nat) (x1 : Int32) : Option (ps_G) := Option.bind (q_fI 7 1 g x0) fun v1 => Option.bind (q_sI 7 1 g x0 x1) fun g2 => Option.bind (q_ob 7 g2 x0) fun u3 => Option.bind (fX7_four g2 x0 ((v1 - x1) - (8 : Int32))) fun v4 => Option.bind (q_sI 7 1 v4 x0 v1) fun g5 => Option.bind (q_fR 7 0 g5 x0) fun v6 => Option.bind (v6) fun a7 => Option.bind (fX11_crc g5 a7 (x1 + (4 : Int32)) v1) fun v8 => Option.bind (q_ob 7 g5 x0) fun u9 => Option.bind (fX7_four g5 x0 v8) fun v10 => some v10
theorem rX7_endChunk {d : Nat} {Q : ps_Rs → ps_G → Prop} {g : ps_G} {x0 : Nat} {x1 : Int32} {r : ps_G} (h : fX7_endChunk g x0 x1 = some r) (hk : Q (.inl none) r) : ps_Ok mX7_endChunk (d + 2) [.ref x0, .int x1] g Q := by
  unfold fX7_endChunk at h
  refine sX7_endChunk_0 ?_
  replace h := q_be h
  obtain ⟨v1, hv, h⟩ := h
  replace hv := q_fI_e hv
  obtain ⟨_, cv1, dv1⟩ := hv
  replace h := q_be h
  obtain ⟨g2, hv, h⟩ := h
  replace hv := q_sI_e hv
  obtain ⟨_, cg2, dg2, yg2⟩ := hv
  replace h := q_be h
  obtain ⟨u3, hv, h⟩ := h
  replace hv := q_ob_e hv
  obtain ⟨_, cu3⟩ := hv
  replace h := q_be h
  obtain ⟨v4, hv, h⟩ := h
  refine ⟨⟨some _, rfl⟩, _, _, cv1, dv1, by decide, by decide, ⟨some _, rfl⟩, _, cg2, dg2, rfl, rfl, _, yg2, ⟨some _, rfl⟩, ⟨_, cu3⟩, ?_⟩
  refine rX7_four hv ?_
  replace h := q_be h
  obtain ⟨g5, hv, h⟩ := h
  replace hv := q_sI_e hv
  obtain ⟨_, cg5, dg5, yg5⟩ := hv
  replace h := q_be h
  obtain ⟨v6, hv, h⟩ := h
  replace hv := q_fR_e hv
  obtain ⟨_, cv6, dv6⟩ := hv
  replace h := q_be h
  obtain ⟨a7, ea7, h⟩ := h
  subst ea7
  replace h := q_be h
  obtain ⟨v8, hv, h⟩ := h
  refine ⟨⟨some _, rfl⟩, _, cg5, dg5, rfl, rfl, _, yg5, ⟨some _, rfl⟩, ⟨some _, rfl⟩, _, _, cv6, dv6, ?_⟩
  refine rX11_crc hv ?_
  replace h := q_be h
  obtain ⟨u9, hv, h⟩ := h
  replace hv := q_ob_e hv
  obtain ⟨_, cu9⟩ := hv
  replace h := q_be h
  obtain ⟨v10, hv, h⟩ := h
  refine ⟨⟨_, cu9⟩, ?_⟩
  refine rX7_four hv ?_
  cases h
  exact ⟨rfl, rfl, hk⟩
noncomputable def jX7_byteAt_24 (g : ps_G) : Option (Int32) := some (0 : Int32)
theorem pjX7_byteAt_24 {d : Nat} {Q : ps_Rs → ps_G → Prop} {g : ps_G}  {r : Int32} (h : jX7_byteAt_24 g = some r) (hk : Q (.inl (some (.int r))) g) : ps_At mX7_byteAt d 24 [] [] g Q := by
  unfold jX7_byteAt_24 at h
  refine sX7_byteAt_24 ?_
  cases h
  exact ⟨rfl, hk⟩
noncomputable def fX7_byteAt (g : ps_G) (x0 : Nat) (x1 : Int32) (x2 : Int32) (x3 : Int32) : Option (Int32) := if (x2 < 0) ∨ (x3 < 0) then (jX7_byteAt_24 g) else (Option.bind (q_len g x0) fun v3 => if ((x2 * x1) + (q_shr x3 (2 : Int32))) < v3 then (Option.bind (q_aI g x0 ((x2 * x1) + (q_shr x3 (2 : Int32)))) fun v5 => some (if ¬ (x3 &&& (3 : Int32)) = (3 : Int32) then (q_shr v5 ((16 : Int32) - ((8 : Int32) * (x3 &&& (3 : Int32))))) &&& (255 : Int32) else q_ush v5 (24 : Int32))) else (jX7_byteAt_24 g))
theorem rX7_byteAt {d : Nat} {Q : ps_Rs → ps_G → Prop} {g : ps_G} {x0 : Nat} {x1 : Int32} {x2 : Int32} {x3 : Int32} {r : Int32} (h : fX7_byteAt g x0 x1 x2 x3 = some r) (hk : Q (.inl (some (.int r))) g) : ps_Ok mX7_byteAt d [.ref x0, .int x1, .int x2, .int x3] g Q := by
  unfold fX7_byteAt at h
  refine sX7_byteAt_0 ?_
  have kT11 : (jX7_byteAt_24 g) = some r → ps_At mX7_byteAt d 24 [] [] g Q := fun h => by
    exact ps_weak (pjX7_byteAt_24 h hk) trivial
  refine ⟨by decide, ?_⟩
  refine And.intro (fun hc1 => ?_) (fun hc1 => ?_)
  · exact ps_weak (kT11 (q_ifp (Or.inl hc1) h)) trivial
  · refine And.intro (fun hc2 => ?_) (fun hc2 => ?_)
    · exact ps_weak (kT11 (q_ifp (Or.inr (hc2)) h)) trivial
    · replace h := q_ifn (not_or.mpr ⟨hc1, hc2⟩) h
      replace h := q_be h
      obtain ⟨v3, hv, h⟩ := h
      replace hv := q_len_e hv
      obtain ⟨_, _, cv3, qv3, yv3⟩ := hv
      refine ⟨⟨some _, rfl⟩, _, _, cv3, qv3, _, yv3, ?_⟩
      refine And.intro (fun hc4 => ?_) (fun hc4 => ?_)
      · replace h := q_ifp (hc4) h
        refine sX7_byteAt_26 ?_
        replace h := q_be h
        obtain ⟨v5, hv, h⟩ := h
        replace hv := q_aI_e hv
        obtain ⟨_, _, cv5, iv5, yv5⟩ := hv
        have kJ8 : ∀ w7 : Int32, w7 = (if ¬ (x3 &&& (3 : Int32)) = (3 : Int32) then (q_shr v5 ((16 : Int32) - ((8 : Int32) * (x3 &&& (3 : Int32))))) &&& (255 : Int32) else q_ush v5 (24 : Int32)) → ps_At mX7_byteAt d 63 [] [.int w7] g Q := by
          rintro _ rfl
          refine sX7_byteAt_63 ?_
          cases h
          exact ⟨rfl, hk⟩
        refine ⟨⟨some _, rfl⟩, _, _, cv5, iv5, _, yv5, by decide, ?_⟩
        refine And.intro (fun hc6 => ?_) (fun hc6 => ?_)
        · refine sX7_byteAt_47 ?_
          exact ps_weak (kJ8 _ (if_pos (hc6)).symm) trivial
        · exact ps_weak (kJ8 _ (if_neg (hc6)).symm) trivial
      · replace h := q_ifn (hc4) h
        exact ps_weak (pjX7_byteAt_24 h hk) trivial
noncomputable def jX7_lessForetold_49 (g : ps_G) (k0 : Int32) (k1 : Int32) (k2 : Int32) (k3 : Int32) (k4 : Int32) : Option (Int32) := some ((k0 - (fX11_foretold k1 k2 k3 k4)) &&& (255 : Int32))
theorem pjX7_lessForetold_49 {d : Nat} {Q : ps_Rs → ps_G → Prop} {g : ps_G} {k0 : Int32} {k1 : Int32} {k2 : Int32} {k3 : Int32} {k4 : Int32} {r : Int32} (h : jX7_lessForetold_49 g k0 k1 k2 k3 k4 = some r) (hk : Q (.inl (some (.int r))) g) : ps_At mX7_lessForetold (d + 2) 49 [] [.int k4, .int k3, .int k2, .int k1, .int k0] g Q := by
  unfold jX7_lessForetold_49 at h
  refine sX7_lessForetold_49 ?_
  refine rX11_foretold rfl ?_
  cases h
  exact ⟨rfl, hk⟩
noncomputable def fX7_lessForetold (g : ps_G) (x0 : Int32) (x1 : Nat) (x2 : Int32) (x3 : Int32) (x4 : Int32) : Option (Int32) := Option.bind (fX7_byteAt g x1 x2 x3 x4) fun v1 => Option.bind (fX7_byteAt g x1 x2 x3 (x4 - (4 : Int32))) fun v2 => Option.bind (fX7_byteAt g x1 x2 (x3 - (1 : Int32)) x4) fun v3 => if x3 ≤ 0 then (jX7_lessForetold_49 g v1 x0 v2 v3 (0 : Int32)) else (Option.bind (fX7_byteAt g x1 x2 (x3 - (1 : Int32)) (x4 - (4 : Int32))) fun v6 => jX7_lessForetold_49 g v1 x0 v2 v3 v6)
theorem rX7_lessForetold {d : Nat} {Q : ps_Rs → ps_G → Prop} {g : ps_G} {x0 : Int32} {x1 : Nat} {x2 : Int32} {x3 : Int32} {x4 : Int32} {r : Int32} (h : fX7_lessForetold g x0 x1 x2 x3 x4 = some r) (hk : Q (.inl (some (.int r))) g) : ps_Ok mX7_lessForetold (d + 2) [.int x0, .ref x1, .int x2, .int x3, .int x4] g Q := by
  unfold fX7_lessForetold at h
  refine sX7_lessForetold_0 ?_
  replace h := q_be h
  obtain ⟨v1, hv, h⟩ := h
  refine ⟨⟨some _, rfl⟩, ?_⟩
  refine rX7_byteAt hv ?_
  replace h := q_be h
  obtain ⟨v2, hv, h⟩ := h
  refine ⟨⟨some _, rfl⟩, ?_⟩
  refine rX7_byteAt hv ?_
  replace h := q_be h
  obtain ⟨v3, hv, h⟩ := h
  refine ⟨⟨some _, rfl⟩, ?_⟩
  refine rX7_byteAt hv ?_
  refine And.intro (fun hc4 => ?_) (fun hc4 => ?_)
  · replace h := q_ifp (hc4) h
    refine sX7_lessForetold_48 ?_
    exact ps_weak (pjX7_lessForetold_49 h hk) trivial
  · replace h := q_ifn (hc4) h
    replace h := q_be h
    obtain ⟨v6, hv, h⟩ := h
    refine ⟨⟨some _, rfl⟩, ?_⟩
    refine rX7_byteAt hv ?_
    refine sX7_lessForetold_45 ?_
    exact ps_weak (pjX7_lessForetold_49 h hk) trivial
noncomputable def jX7_rowByte_30 (g : ps_G) : Option (ps_G) := some g
theorem pjX7_rowByte_30 {d : Nat} {Q : ps_Rs → ps_G → Prop} {g : ps_G}  {r : ps_G} (h : jX7_rowByte_30 g = some r) (hk : Q (.inl none) r) : ps_At mX7_rowByte d 30 [] [] g Q := by
  unfold jX7_rowByte_30 at h
  refine sX7_rowByte_30 ?_
  cases h
  exact ⟨rfl, rfl, hk⟩
noncomputable def fX7_rowByte (g : ps_G) (x0 : Nat) (x1 : Int32) : Option (ps_G) := Option.bind (q_fI 7 3 g x0) fun v1 => if (2328 : Int32) ≤ v1 then (jX7_rowByte_30 g) else (Option.bind (q_fR 7 2 g x0) fun v4 => Option.bind (v4) fun a5 => Option.bind (q_fI 7 3 g x0) fun v6 => Option.bind (q_wI g a5 v6 x1) fun g7 => Option.bind (q_fI 7 3 g7 x0) fun v8 => Option.bind (q_sI 7 3 g7 x0 (v8 + (1 : Int32))) fun g9 => jX7_rowByte_30 g9)
theorem rX7_rowByte {d : Nat} {Q : ps_Rs → ps_G → Prop} {g : ps_G} {x0 : Nat} {x1 : Int32} {r : ps_G} (h : fX7_rowByte g x0 x1 = some r) (hk : Q (.inl none) r) : ps_Ok mX7_rowByte d [.ref x0, .int x1] g Q := by
  unfold fX7_rowByte at h
  refine sX7_rowByte_0 ?_
  replace h := q_be h
  obtain ⟨v1, hv, h⟩ := h
  replace hv := q_fI_e hv
  obtain ⟨_, cv1, dv1⟩ := hv
  refine ⟨⟨some _, rfl⟩, _, _, cv1, dv1, ?_⟩
  refine And.intro (fun hc2 => ?_) (fun hc2 => ?_)
  · replace h := q_ifp (hc2) h
    exact ps_weak (pjX7_rowByte_30 h hk) trivial
  · replace h := q_ifn (hc2) h
    replace h := q_be h
    obtain ⟨v4, hv, h⟩ := h
    replace hv := q_fR_e hv
    obtain ⟨_, cv4, dv4⟩ := hv
    replace h := q_be h
    obtain ⟨a5, ea5, h⟩ := h
    subst ea5
    replace h := q_be h
    obtain ⟨v6, hv, h⟩ := h
    replace hv := q_fI_e hv
    obtain ⟨_, cv6, dv6⟩ := hv
    replace h := q_be h
    obtain ⟨g7, hv, h⟩ := h
    replace hv := q_wI_e hv
    obtain ⟨_, _, cg7, pg7, ig7, yg7⟩ := hv
    replace h := q_be h
    obtain ⟨v8, hv, h⟩ := h
    replace hv := q_fI_e hv
    obtain ⟨_, cv8, dv8⟩ := hv
    replace h := q_be h
    obtain ⟨g9, hv, h⟩ := h
    replace hv := q_sI_e hv
    obtain ⟨_, cg9, dg9, yg9⟩ := hv
    refine ⟨⟨some _, rfl⟩, _, _, cv4, dv4, ⟨some _, rfl⟩, _, _, cv6, dv6, _, _, cg7, pg7, ig7, _, yg7, ⟨some _, rfl⟩, rfl, _, _, cv8, dv8, _, cg9, dg9, rfl, rfl, _, yg9, ?_⟩
    exact ps_weak (pjX7_rowByte_30 h hk) trivial
noncomputable def bX7_filterRows_36 (g : ps_G) (x0 : Nat) (x1 : Nat) (x2 : Int32) (x3 : Int32) (x4 : Int32) (x5 : Int32) (x6 : Int32) (x7 : Int32) (x8 : Int32) (x9 : Int32) : Option ((Int32 × Int32) ⊕ (Int32)) := if ((4 : Int32) * x2) ≤ x9 then (some (.inr x8)) else (Option.bind (fX7_lessForetold g x7 x1 x2 x4 x9) fun v6 => some (.inl (x8 + (if (128 : Int32) ≤ v6 then (256 : Int32) - v6 else v6), x9 + (1 : Int32))))
theorem pbX7_filterRows_36 {d : Nat} {Q : ps_Rs → ps_G → Prop} {g : ps_G} {x0 : Nat} {x1 : Nat} {x2 : Int32} {x3 : Int32} {x4 : Int32} {x5 : Int32} {x6 : Int32} {x7 : Int32} {x8 : Int32} {x9 : Int32} {x : (Int32 × Int32) ⊕ (Int32)} (h : bX7_filterRows_36 g x0 x1 x2 x3 x4 x5 x6 x7 x8 x9 = some x) (hh : ∀ s' : Int32 × Int32, x = .inl s' → ps_At mX7_filterRows (d + 3) 36 [(0, .ref x0), (1, .ref x1), (2, .int x2), (3, .int x3), (4, .int x4), (5, .int x5), (6, .int x6), (7, .int x7), (8, .int s'.1), (9, .int s'.2)] [] g Q) (he : ∀ r' : Int32, x = .inr r' → ps_At mX7_filterRows (d + 3) 87 [(0, .ref x0), (1, .ref x1), (2, .int x2), (3, .int x3), (4, .int x4), (5, .int x5), (6, .int x6), (7, .int x7), (8, .int r')] [] g Q) : ps_At mX7_filterRows (d + 3) 36 [(0, .ref x0), (1, .ref x1), (2, .int x2), (3, .int x3), (4, .int x4), (5, .int x5), (6, .int x6), (7, .int x7), (8, .int x8), (9, .int x9)] [] g Q := by
  unfold bX7_filterRows_36 at h
  refine sX7_filterRows_36 ?_
  refine And.intro (fun hc4 => ?_) (fun hc4 => ?_)
  · replace h := q_ifp (hc4) h
    exact ps_weak (he x8 (Option.some.inj h).symm) ⟨rfl, rfl, rfl, rfl, rfl, rfl, rfl, rfl, rfl, trivial⟩
  · replace h := q_ifn (hc4) h
    replace h := q_be h
    obtain ⟨v6, hv, h⟩ := h
    refine ⟨⟨some _, rfl⟩, ?_⟩
    refine rX7_lessForetold hv ?_
    have kJ9 : ∀ w8 : Int32, w8 = (if (128 : Int32) ≤ v6 then (256 : Int32) - v6 else v6) → ps_At mX7_filterRows (d + 3) 78 [(0, .ref x0), (1, .ref x1), (2, .int x2), (3, .int x3), (4, .int x4), (5, .int x5), (6, .int x6), (7, .int x7), (9, .int x9)] [.int w8, .int x8] g Q := by
      rintro _ rfl
      refine sX7_filterRows_78 ?_
      refine ⟨by decide, by decide, ?_⟩
      exact ps_weak (hh (x8 + (if (128 : Int32) ≤ v6 then (256 : Int32) - v6 else v6), x9 + (1 : Int32)) (Option.some.inj h).symm) ⟨rfl, rfl, rfl, rfl, rfl, rfl, rfl, rfl, rfl, rfl, trivial⟩
    refine ⟨by decide, ?_⟩
    refine And.intro (fun hc7 => ?_) (fun hc7 => ?_)
    · refine sX7_filterRows_72 ?_
      exact ps_weak (kJ9 _ (if_pos (hc7)).symm) ⟨rfl, rfl, rfl, rfl, rfl, rfl, rfl, rfl, rfl, trivial⟩
    · exact ps_weak (kJ9 _ (if_neg (hc7)).symm) ⟨rfl, rfl, rfl, rfl, rfl, rfl, rfl, rfl, rfl, trivial⟩
noncomputable def bX7_filterRows_24 (g : ps_G) (x0 : Nat) (x1 : Nat) (x2 : Int32) (x3 : Int32) (x4 : Int32) (x5 : Int32) (x6 : Int32) (x7 : Int32) : Option ((Int32 × Int32 × Int32) ⊕ (Int32)) := if (5 : Int32) ≤ x7 then (some (.inr x5)) else (Option.bind (q_lp (fun s => bX7_filterRows_36 g x0 x1 x2 x3 x4 x5 x6 x7 s.1 s.2) ((0 : Int32), (0 : Int32))) fun s12 => some (.inl ((if x6 ≤ s12 then x5 else x7), (if x6 ≤ s12 then x6 else s12), x7 + (1 : Int32))))
theorem pbX7_filterRows_24 {d : Nat} {Q : ps_Rs → ps_G → Prop} {g : ps_G} {x0 : Nat} {x1 : Nat} {x2 : Int32} {x3 : Int32} {x4 : Int32} {x5 : Int32} {x6 : Int32} {x7 : Int32} {x : (Int32 × Int32 × Int32) ⊕ (Int32)} (h : bX7_filterRows_24 g x0 x1 x2 x3 x4 x5 x6 x7 = some x) (hh : ∀ s' : Int32 × Int32 × Int32, x = .inl s' → ps_At mX7_filterRows (d + 3) 24 [(0, .ref x0), (1, .ref x1), (2, .int x2), (3, .int x3), (4, .int x4), (5, .int s'.1), (6, .int s'.2.1), (7, .int s'.2.2)] [] g Q) (he : ∀ r' : Int32, x = .inr r' → ps_At mX7_filterRows (d + 3) 108 [(0, .ref x0), (1, .ref x1), (2, .int x2), (3, .int x3), (4, .int x4), (5, .int r')] [] g Q) : ps_At mX7_filterRows (d + 3) 24 [(0, .ref x0), (1, .ref x1), (2, .int x2), (3, .int x3), (4, .int x4), (5, .int x5), (6, .int x6), (7, .int x7)] [] g Q := by
  unfold bX7_filterRows_24 at h
  refine sX7_filterRows_24 ?_
  refine And.intro (fun hc3 => ?_) (fun hc3 => ?_)
  · replace h := q_ifp (hc3) h
    exact ps_weak (he x5 (Option.some.inj h).symm) ⟨rfl, rfl, rfl, rfl, rfl, rfl, trivial⟩
  · replace h := q_ifn (hc3) h
    refine ⟨by decide, by decide, ?_⟩
    replace h := q_be h
    obtain ⟨s12, hl, h⟩ := h
    refine ps_weak (q_lp_ok hl (fun s => ps_At mX7_filterRows (d + 3) 36 [(0, .ref x0), (1, .ref x1), (2, .int x2), (3, .int x3), (4, .int x4), (5, .int x5), (6, .int x6), (7, .int x7), (8, .int s.1), (9, .int s.2)] [] g Q) (fun r => ps_At mX7_filterRows (d + 3) 87 [(0, .ref x0), (1, .ref x1), (2, .int x2), (3, .int x3), (4, .int x4), (5, .int x5), (6, .int x6), (7, .int x7), (8, .int r)] [] g Q) (fun s x hb hh he => pbX7_filterRows_36 hb hh he) ?_) ⟨rfl, rfl, rfl, rfl, rfl, rfl, rfl, rfl, rfl, rfl, trivial⟩
    refine (?_ : ps_At mX7_filterRows (d + 3) 87 [(0, .ref x0), (1, .ref x1), (2, .int x2), (3, .int x3), (4, .int x4), (5, .int x5), (6, .int x6), (7, .int x7), (8, .int s12)] [] g Q)
    refine sX7_filterRows_87 ?_
    have kJ16 : ∀ w14 : Int32, w14 = (if x6 ≤ s12 then x5 else x7) → ∀ w15 : Int32, w15 = (if x6 ≤ s12 then x6 else s12) → ps_At mX7_filterRows (d + 3) 102 [(0, .ref x0), (1, .ref x1), (2, .int x2), (3, .int x3), (4, .int x4), (5, .int w14), (6, .int w15), (7, .int x7)] [] g Q := by
      rintro _ rfl _ rfl
      refine sX7_filterRows_102 ?_
      refine ⟨by decide, ?_⟩
      exact ps_weak (hh ((if x6 ≤ s12 then x5 else x7), (if x6 ≤ s12 then x6 else s12), x7 + (1 : Int32)) (Option.some.inj h).symm) ⟨rfl, rfl, rfl, rfl, rfl, rfl, rfl, rfl, trivial⟩
    refine And.intro (fun hc13 => ?_) (fun hc13 => ?_)
    · exact ps_weak (kJ16 _ (if_pos (hc13)).symm _ (if_pos (hc13)).symm) ⟨rfl, rfl, rfl, rfl, rfl, rfl, rfl, rfl, trivial⟩
    · refine ⟨by decide, by decide, ?_⟩
      exact ps_weak (kJ16 _ (if_neg (hc13)).symm _ (if_neg (hc13)).symm) ⟨rfl, rfl, rfl, rfl, rfl, rfl, rfl, rfl, trivial⟩
noncomputable def bX7_filterRows_117 (x0 : Nat) (x1 : Nat) (x2 : Int32) (x3 : Int32) (x4 : Int32) (x5 : Int32) (x7 : Int32) (g : ps_G) : Option ((Int32 × ps_G) ⊕ (ps_G)) := if ((4 : Int32) * x2) ≤ x7 then (some (.inr g)) else (Option.bind (fX7_lessForetold g x5 x1 x2 x4 x7) fun v24 => Option.bind (q_ob 7 g x0) fun u25 => Option.bind (fX7_rowByte g x0 v24) fun v26 => some (.inl (x7 + (1 : Int32), v26)))
theorem pbX7_filterRows_117 {d : Nat} {Q : ps_Rs → ps_G → Prop}  {x0 : Nat} {x1 : Nat} {x2 : Int32} {x3 : Int32} {x4 : Int32} {x5 : Int32} {x7 : Int32} {g : ps_G} {x : (Int32 × ps_G) ⊕ (ps_G)} (h : bX7_filterRows_117 x0 x1 x2 x3 x4 x5 x7 g = some x) (hh : ∀ s' : Int32 × ps_G, x = .inl s' → ps_At mX7_filterRows (d + 3) 117 [(0, .ref x0), (1, .ref x1), (2, .int x2), (3, .int x3), (4, .int x4), (5, .int x5), (7, .int s'.1)] [] s'.2 Q) (he : ∀ r' : ps_G, x = .inr r' → ps_At mX7_filterRows (d + 3) 146 [(0, .ref x0), (1, .ref x1), (2, .int x2), (3, .int x3), (4, .int x4)] [] r' Q) : ps_At mX7_filterRows (d + 3) 117 [(0, .ref x0), (1, .ref x1), (2, .int x2), (3, .int x3), (4, .int x4), (5, .int x5), (7, .int x7)] [] g Q := by
  unfold bX7_filterRows_117 at h
  refine sX7_filterRows_117 ?_
  refine And.intro (fun hc22 => ?_) (fun hc22 => ?_)
  · replace h := q_ifp (hc22) h
    exact ps_weak (he g (Option.some.inj h).symm) ⟨rfl, rfl, rfl, rfl, rfl, trivial⟩
  · replace h := q_ifn (hc22) h
    replace h := q_be h
    obtain ⟨v24, hv, h⟩ := h
    refine ⟨⟨some _, rfl⟩, ⟨some _, rfl⟩, ?_⟩
    refine rX7_lessForetold hv ?_
    replace h := q_be h
    obtain ⟨u25, hv, h⟩ := h
    replace hv := q_ob_e hv
    obtain ⟨_, cu25⟩ := hv
    replace h := q_be h
    obtain ⟨v26, hv, h⟩ := h
    refine ⟨⟨_, cu25⟩, ?_⟩
    refine rX7_rowByte hv ?_
    refine ⟨by decide, ?_⟩
    exact ps_weak (hh (x7 + (1 : Int32), v26) (Option.some.inj h).symm) ⟨rfl, rfl, rfl, rfl, rfl, rfl, rfl, trivial⟩
noncomputable def bX7_filterRows_8 (x0 : Nat) (x1 : Nat) (x2 : Int32) (x3 : Int32) (x4 : Int32) (g : ps_G) : Option ((Int32 × ps_G) ⊕ (ps_G)) := if x3 ≤ x4 then (some (.inr g)) else (Option.bind (q_lp (fun s => bX7_filterRows_24 g x0 x1 x2 x3 x4 s.1 s.2.1 s.2.2) ((0 : Int32), (1073741824 : Int32), (0 : Int32))) fun s19 => Option.bind (q_ob 7 g x0) fun u20 => Option.bind (fX7_rowByte g x0 s19) fun v21 => Option.bind (q_lp (fun s => bX7_filterRows_117 x0 x1 x2 x3 x4 s19 s.1 s.2) ((0 : Int32), v21)) fun s29 => some (.inl (x4 + (1 : Int32), s29)))
theorem pbX7_filterRows_8 {d : Nat} {Q : ps_Rs → ps_G → Prop}  {x0 : Nat} {x1 : Nat} {x2 : Int32} {x3 : Int32} {x4 : Int32} {g : ps_G} {x : (Int32 × ps_G) ⊕ (ps_G)} (h : bX7_filterRows_8 x0 x1 x2 x3 x4 g = some x) (hh : ∀ s' : Int32 × ps_G, x = .inl s' → ps_At mX7_filterRows (d + 3) 8 [(0, .ref x0), (1, .ref x1), (2, .int x2), (3, .int x3), (4, .int s'.1)] [] s'.2 Q) (he : ∀ r' : ps_G, x = .inr r' → ps_At mX7_filterRows (d + 3) 152 [] [] r' Q) : ps_At mX7_filterRows (d + 3) 8 [(0, .ref x0), (1, .ref x1), (2, .int x2), (3, .int x3), (4, .int x4)] [] g Q := by
  unfold bX7_filterRows_8 at h
  refine sX7_filterRows_8 ?_
  refine And.intro (fun hc2 => ?_) (fun hc2 => ?_)
  · replace h := q_ifp (hc2) h
    exact ps_weak (he g (Option.some.inj h).symm) trivial
  · replace h := q_ifn (hc2) h
    refine ⟨by decide, by decide, by decide, ?_⟩
    replace h := q_be h
    obtain ⟨s19, hl, h⟩ := h
    refine ps_weak (q_lp_ok hl (fun s => ps_At mX7_filterRows (d + 3) 24 [(0, .ref x0), (1, .ref x1), (2, .int x2), (3, .int x3), (4, .int x4), (5, .int s.1), (6, .int s.2.1), (7, .int s.2.2)] [] g Q) (fun r => ps_At mX7_filterRows (d + 3) 108 [(0, .ref x0), (1, .ref x1), (2, .int x2), (3, .int x3), (4, .int x4), (5, .int r)] [] g Q) (fun s x hb hh he => pbX7_filterRows_24 hb hh he) ?_) ⟨rfl, rfl, rfl, rfl, rfl, rfl, rfl, rfl, trivial⟩
    refine (?_ : ps_At mX7_filterRows (d + 3) 108 [(0, .ref x0), (1, .ref x1), (2, .int x2), (3, .int x3), (4, .int x4), (5, .int s19)] [] g Q)
    refine sX7_filterRows_108 ?_
    replace h := q_be h
    obtain ⟨u20, hv, h⟩ := h
    replace hv := q_ob_e hv
    obtain ⟨_, cu20⟩ := hv
    replace h := q_be h
    obtain ⟨v21, hv, h⟩ := h
    refine ⟨⟨some _, rfl⟩, ⟨_, cu20⟩, ?_⟩
    refine rX7_rowByte hv ?_
    refine ⟨by decide, ?_⟩
    replace h := q_be h
    obtain ⟨s29, hl, h⟩ := h
    refine ps_weak (q_lp_ok hl (fun s => ps_At mX7_filterRows (d + 3) 117 [(0, .ref x0), (1, .ref x1), (2, .int x2), (3, .int x3), (4, .int x4), (5, .int s19), (7, .int s.1)] [] s.2 Q) (fun r => ps_At mX7_filterRows (d + 3) 146 [(0, .ref x0), (1, .ref x1), (2, .int x2), (3, .int x3), (4, .int x4)] [] r Q) (fun s x hb hh he => pbX7_filterRows_117 hb hh he) ?_) ⟨rfl, rfl, rfl, rfl, rfl, rfl, rfl, trivial⟩
    refine (?_ : ps_At mX7_filterRows (d + 3) 146 [(0, .ref x0), (1, .ref x1), (2, .int x2), (3, .int x3), (4, .int x4)] [] s29 Q)
    refine sX7_filterRows_146 ?_
    refine ⟨by decide, ?_⟩
    exact ps_weak (hh (x4 + (1 : Int32), s29) (Option.some.inj h).symm) ⟨rfl, rfl, rfl, rfl, rfl, trivial⟩
noncomputable def fX7_filterRows (g : ps_G) (x0 : Nat) (x1 : Nat) (x2 : Int32) (x3 : Int32) : Option (ps_G) := Option.bind (q_sI 7 3 g x0 (0 : Int32)) fun g1 => Option.bind (q_lp (fun s => bX7_filterRows_8 x0 x1 x2 x3 s.1 s.2) ((0 : Int32), g1)) fun s32 => some s32
theorem rX7_filterRows {d : Nat} {Q : ps_Rs → ps_G → Prop} {g : ps_G} {x0 : Nat} {x1 : Nat} {x2 : Int32} {x3 : Int32} {r : ps_G} (h : fX7_filterRows g x0 x1 x2 x3 = some r) (hk : Q (.inl none) r) : ps_Ok mX7_filterRows (d + 3) [.ref x0, .ref x1, .int x2, .int x3] g Q := by
  unfold fX7_filterRows at h
  refine sX7_filterRows_0 ?_
  replace h := q_be h
  obtain ⟨g1, hv, h⟩ := h
  replace hv := q_sI_e hv
  obtain ⟨_, cg1, dg1, yg1⟩ := hv
  refine ⟨⟨some _, rfl⟩, _, cg1, dg1, rfl, rfl, _, yg1, by decide, ?_⟩
  replace h := q_be h
  obtain ⟨s32, hl, h⟩ := h
  refine ps_weak (q_lp_ok hl (fun s => ps_At mX7_filterRows (d + 3) 8 [(0, .ref x0), (1, .ref x1), (2, .int x2), (3, .int x3), (4, .int s.1)] [] s.2 Q) (fun r => ps_At mX7_filterRows (d + 3) 152 [] [] r Q) (fun s x hb hh he => pbX7_filterRows_8 hb hh he) ?_) ⟨rfl, rfl, rfl, rfl, rfl, trivial⟩
  refine (?_ : ps_At mX7_filterRows (d + 3) 152 [] [] s32 Q)
  refine sX7_filterRows_152 ?_
  cases h
  exact ⟨rfl, rfl, hk⟩
noncomputable def jX7_addBits_63_2 (g : ps_G) (x0 : Nat) (x1 : Int32) (x2 : Int32) (x3 : Int32) : Option ((Int32 × ps_G) ⊕ (ps_G)) := some (.inl (x3 + (1 : Int32), g))
theorem pjX7_addBits_63_2 {d : Nat} {Q : ps_Rs → ps_G → Prop} {g : ps_G} {x0 : Nat} {x1 : Int32} {x2 : Int32} {x3 : Int32} {x : (Int32 × ps_G) ⊕ (ps_G)} (h : jX7_addBits_63_2 g x0 x1 x2 x3 = some x) (hh : ∀ s' : Int32 × ps_G, x = .inl s' → ps_At mX7_addBits (d + 1) 2 [(0, .ref x0), (1, .int x1), (2, .int x2), (3, .int s'.1)] [] s'.2 Q) (he : ∀ r' : ps_G, x = .inr r' → ps_At mX7_addBits (d + 1) 69 [] [] r' Q) : ps_At mX7_addBits (d + 1) 63 [(0, .ref x0), (1, .int x1), (2, .int x2), (3, .int x3)] [] g Q := by
  unfold jX7_addBits_63_2 at h
  refine sX7_addBits_63 ?_
  refine ⟨by decide, ?_⟩
  exact ps_weak (hh (x3 + (1 : Int32), g) (Option.some.inj h).symm) ⟨rfl, rfl, rfl, rfl, trivial⟩
noncomputable def bX7_addBits_2 (x0 : Nat) (x1 : Int32) (x2 : Int32) (x3 : Int32) (g : ps_G) : Option ((Int32 × ps_G) ⊕ (ps_G)) := if x2 ≤ x3 then (some (.inr g)) else (Option.bind (q_fI 7 4 g x0) fun v3 => Option.bind (q_fI 7 5 g x0) fun v4 => Option.bind (q_sI 7 4 g x0 (v3 ||| (q_shl ((q_shr x1 x3) &&& (1 : Int32)) v4))) fun g5 => Option.bind (q_fI 7 5 g5 x0) fun v6 => Option.bind (q_sI 7 5 g5 x0 (v6 + (1 : Int32))) fun g7 => Option.bind (q_fI 7 5 g7 x0) fun v8 => if ¬ v8 = (8 : Int32) then (jX7_addBits_63_2 g7 x0 x1 x2 x3) else (Option.bind (q_fI 7 4 g7 x0) fun v11 => Option.bind (q_ob 7 g7 x0) fun u12 => Option.bind (fX7_octet g7 x0 v11) fun v13 => Option.bind (q_sI 7 4 v13 x0 (0 : Int32)) fun g14 => Option.bind (q_sI 7 5 g14 x0 (0 : Int32)) fun g15 => jX7_addBits_63_2 g15 x0 x1 x2 x3))
theorem pbX7_addBits_2 {d : Nat} {Q : ps_Rs → ps_G → Prop}  {x0 : Nat} {x1 : Int32} {x2 : Int32} {x3 : Int32} {g : ps_G} {x : (Int32 × ps_G) ⊕ (ps_G)} (h : bX7_addBits_2 x0 x1 x2 x3 g = some x) (hh : ∀ s' : Int32 × ps_G, x = .inl s' → ps_At mX7_addBits (d + 1) 2 [(0, .ref x0), (1, .int x1), (2, .int x2), (3, .int s'.1)] [] s'.2 Q) (he : ∀ r' : ps_G, x = .inr r' → ps_At mX7_addBits (d + 1) 69 [] [] r' Q) : ps_At mX7_addBits (d + 1) 2 [(0, .ref x0), (1, .int x1), (2, .int x2), (3, .int x3)] [] g Q := by
  unfold bX7_addBits_2 at h
  refine sX7_addBits_2 ?_
  refine And.intro (fun hc1 => ?_) (fun hc1 => ?_)
  · replace h := q_ifp (hc1) h
    exact ps_weak (he g (Option.some.inj h).symm) trivial
  · replace h := q_ifn (hc1) h
    replace h := q_be h
    obtain ⟨v3, hv, h⟩ := h
    replace hv := q_fI_e hv
    obtain ⟨_, cv3, dv3⟩ := hv
    replace h := q_be h
    obtain ⟨v4, hv, h⟩ := h
    replace hv := q_fI_e hv
    obtain ⟨_, cv4, dv4⟩ := hv
    replace h := q_be h
    obtain ⟨g5, hv, h⟩ := h
    replace hv := q_sI_e hv
    obtain ⟨_, cg5, dg5, yg5⟩ := hv
    replace h := q_be h
    obtain ⟨v6, hv, h⟩ := h
    replace hv := q_fI_e hv
    obtain ⟨_, cv6, dv6⟩ := hv
    replace h := q_be h
    obtain ⟨g7, hv, h⟩ := h
    replace hv := q_sI_e hv
    obtain ⟨_, cg7, dg7, yg7⟩ := hv
    replace h := q_be h
    obtain ⟨v8, hv, h⟩ := h
    replace hv := q_fI_e hv
    obtain ⟨_, cv8, dv8⟩ := hv
    refine ⟨⟨some _, rfl⟩, rfl, _, _, cv3, dv3, ⟨some _, rfl⟩, _, _, cv4, dv4, _, cg5, dg5, rfl, rfl, _, yg5, ⟨some _, rfl⟩, rfl, _, _, cv6, dv6, _, cg7, dg7, rfl, rfl, _, yg7, ⟨some _, rfl⟩, _, _, cv8, dv8, ?_⟩
    refine And.intro (fun hc9 => ?_) (fun hc9 => ?_)
    · replace h := q_ifp (hc9) h
      exact ps_weak (pjX7_addBits_63_2 h hh he) ⟨rfl, rfl, rfl, rfl, trivial⟩
    · replace h := q_ifn (hc9) h
      replace h := q_be h
      obtain ⟨v11, hv, h⟩ := h
      replace hv := q_fI_e hv
      obtain ⟨_, cv11, dv11⟩ := hv
      replace h := q_be h
      obtain ⟨u12, hv, h⟩ := h
      replace hv := q_ob_e hv
      obtain ⟨_, cu12⟩ := hv
      replace h := q_be h
      obtain ⟨v13, hv, h⟩ := h
      refine ⟨⟨some _, rfl⟩, ⟨some _, rfl⟩, _, _, cv11, dv11, ⟨_, cu12⟩, ?_⟩
      refine rX7_octet hv ?_
      replace h := q_be h
      obtain ⟨g14, hv, h⟩ := h
      replace hv := q_sI_e hv
      obtain ⟨_, cg14, dg14, yg14⟩ := hv
      replace h := q_be h
      obtain ⟨g15, hv, h⟩ := h
      replace hv := q_sI_e hv
      obtain ⟨_, cg15, dg15, yg15⟩ := hv
      refine ⟨⟨some _, rfl⟩, _, cg14, dg14, rfl, rfl, _, yg14, ⟨some _, rfl⟩, _, cg15, dg15, rfl, rfl, _, yg15, ?_⟩
      exact ps_weak (pjX7_addBits_63_2 h hh he) ⟨rfl, rfl, rfl, rfl, trivial⟩
noncomputable def fX7_addBits (g : ps_G) (x0 : Nat) (x1 : Int32) (x2 : Int32) : Option (ps_G) := Option.bind (q_lp (fun s => bX7_addBits_2 x0 x1 x2 s.1 s.2) ((0 : Int32), g)) fun s20 => some s20
theorem rX7_addBits {d : Nat} {Q : ps_Rs → ps_G → Prop} {g : ps_G} {x0 : Nat} {x1 : Int32} {x2 : Int32} {r : ps_G} (h : fX7_addBits g x0 x1 x2 = some r) (hk : Q (.inl none) r) : ps_Ok mX7_addBits (d + 1) [.ref x0, .int x1, .int x2] g Q := by
  unfold fX7_addBits at h
  refine sX7_addBits_0 ?_
  refine ⟨by decide, ?_⟩
  replace h := q_be h
  obtain ⟨s20, hl, h⟩ := h
  refine ps_weak (q_lp_ok hl (fun s => ps_At mX7_addBits (d + 1) 2 [(0, .ref x0), (1, .int x1), (2, .int x2), (3, .int s.1)] [] s.2 Q) (fun r => ps_At mX7_addBits (d + 1) 69 [] [] r Q) (fun s x hb hh he => pbX7_addBits_2 hb hh he) ?_) ⟨rfl, rfl, rfl, rfl, trivial⟩
  refine (?_ : ps_At mX7_addBits (d + 1) 69 [] [] s20 Q)
  refine sX7_addBits_69 ?_
  cases h
  exact ⟨rfl, rfl, hk⟩
noncomputable def bX7_matchAt_2 (g : ps_G) (x0 : Nat) (x1 : Int32) (x2 : Int32) (x3 : Int32) : Option ((Int32) ⊕ (Int32)) := if (258 : Int32) ≤ x3 then (some (.inr x3)) else (Option.bind (q_fI 7 3 g x0) fun v3 => if (v3 ≤ (x1 + x3)) ∨ (((2328 : Int32) ≤ (x1 + x3)) ∨ (x1 < x2)) then (some (.inr x3)) else (Option.bind (q_fR 7 2 g x0) fun v8 => Option.bind (v8) fun a9 => Option.bind (q_aI g a9 (x1 + x3)) fun v10 => Option.bind (q_fR 7 2 g x0) fun v11 => Option.bind (v11) fun a12 => Option.bind (q_aI g a12 ((x1 + x3) - x2)) fun v13 => if ¬ v10 = v13 then (some (.inr x3)) else (some (.inl (x3 + (1 : Int32))))))
theorem pbX7_matchAt_2 {d : Nat} {Q : ps_Rs → ps_G → Prop} {g : ps_G} {x0 : Nat} {x1 : Int32} {x2 : Int32} {x3 : Int32} {x : (Int32) ⊕ (Int32)} (h : bX7_matchAt_2 g x0 x1 x2 x3 = some x) (hh : ∀ s' : Int32, x = .inl s' → ps_At mX7_matchAt d 2 [(0, .ref x0), (1, .int x1), (2, .int x2), (3, .int s')] [] g Q) (he : ∀ r' : Int32, x = .inr r' → ps_At mX7_matchAt d 60 [(3, .int r')] [] g Q) : ps_At mX7_matchAt d 2 [(0, .ref x0), (1, .int x1), (2, .int x2), (3, .int x3)] [] g Q := by
  unfold bX7_matchAt_2 at h
  refine sX7_matchAt_2 ?_
  refine And.intro (fun hc1 => ?_) (fun hc1 => ?_)
  · replace h := q_ifp (hc1) h
    exact ps_weak (he x3 (Option.some.inj h).symm) ⟨rfl, trivial⟩
  · replace h := q_ifn (hc1) h
    replace h := q_be h
    obtain ⟨v3, hv, h⟩ := h
    replace hv := q_fI_e hv
    obtain ⟨_, cv3, dv3⟩ := hv
    have kT17 : (some (.inr x3)) = some x → ps_At mX7_matchAt d 60 [(3, .int x3)] [] g Q := fun h => by
      exact ps_weak (he x3 (Option.some.inj h).symm) ⟨rfl, trivial⟩
    refine ⟨⟨some _, rfl⟩, _, _, cv3, dv3, ?_⟩
    refine And.intro (fun hc4 => ?_) (fun hc4 => ?_)
    · exact ps_weak (kT17 (q_ifp (Or.inl hc4) h)) ⟨rfl, trivial⟩
    · refine And.intro (fun hc5 => ?_) (fun hc5 => ?_)
      · exact ps_weak (kT17 (q_ifp (Or.inr (Or.inl hc5)) h)) ⟨rfl, trivial⟩
      · refine And.intro (fun hc6 => ?_) (fun hc6 => ?_)
        · exact ps_weak (kT17 (q_ifp (Or.inr (Or.inr (hc6))) h)) ⟨rfl, trivial⟩
        · replace h := q_ifn (not_or.mpr ⟨hc4, not_or.mpr ⟨hc5, hc6⟩⟩) h
          replace h := q_be h
          obtain ⟨v8, hv, h⟩ := h
          replace hv := q_fR_e hv
          obtain ⟨_, cv8, dv8⟩ := hv
          replace h := q_be h
          obtain ⟨a9, ea9, h⟩ := h
          subst ea9
          replace h := q_be h
          obtain ⟨v10, hv, h⟩ := h
          replace hv := q_aI_e hv
          obtain ⟨_, _, cv10, iv10, yv10⟩ := hv
          replace h := q_be h
          obtain ⟨v11, hv, h⟩ := h
          replace hv := q_fR_e hv
          obtain ⟨_, cv11, dv11⟩ := hv
          replace h := q_be h
          obtain ⟨a12, ea12, h⟩ := h
          subst ea12
          replace h := q_be h
          obtain ⟨v13, hv, h⟩ := h
          replace hv := q_aI_e hv
          obtain ⟨_, _, cv13, iv13, yv13⟩ := hv
          refine ⟨⟨some _, rfl⟩, _, _, cv8, dv8, _, _, cv10, iv10, _, yv10, ⟨some _, rfl⟩, _, _, cv11, dv11, _, _, cv13, iv13, _, yv13, ?_⟩
          refine And.intro (fun hc14 => ?_) (fun hc14 => ?_)
          · replace h := q_ifp (hc14) h
            exact ps_weak (he x3 (Option.some.inj h).symm) ⟨rfl, trivial⟩
          · replace h := q_ifn (hc14) h
            refine ⟨by decide, ?_⟩
            exact ps_weak (hh (x3 + (1 : Int32)) (Option.some.inj h).symm) ⟨rfl, rfl, rfl, rfl, trivial⟩
noncomputable def jX7_matchAt_60 (g : ps_G) (x3 : Int32) : Option (Int32) := some x3
theorem pjX7_matchAt_60 {d : Nat} {Q : ps_Rs → ps_G → Prop} {g : ps_G} {x3 : Int32} {r : Int32} (h : jX7_matchAt_60 g x3 = some r) (hk : Q (.inl (some (.int r))) g) : ps_At mX7_matchAt d 60 [(3, .int x3)] [] g Q := by
  unfold jX7_matchAt_60 at h
  refine sX7_matchAt_60 ?_
  cases h
  exact ⟨rfl, hk⟩
noncomputable def fX7_matchAt (g : ps_G) (x0 : Nat) (x1 : Int32) (x2 : Int32) : Option (Int32) := Option.bind (q_lp (fun s => bX7_matchAt_2 g x0 x1 x2 s) (0 : Int32)) fun s21 => jX7_matchAt_60 g s21
theorem rX7_matchAt {d : Nat} {Q : ps_Rs → ps_G → Prop} {g : ps_G} {x0 : Nat} {x1 : Int32} {x2 : Int32} {r : Int32} (h : fX7_matchAt g x0 x1 x2 = some r) (hk : Q (.inl (some (.int r))) g) : ps_Ok mX7_matchAt d [.ref x0, .int x1, .int x2] g Q := by
  unfold fX7_matchAt at h
  refine sX7_matchAt_0 ?_
  refine ⟨by decide, ?_⟩
  replace h := q_be h
  obtain ⟨s21, hl, h⟩ := h
  refine ps_weak (q_lp_ok hl (fun s => ps_At mX7_matchAt d 2 [(0, .ref x0), (1, .int x1), (2, .int x2), (3, .int s)] [] g Q) (fun r => ps_At mX7_matchAt d 60 [(3, .int r)] [] g Q) (fun s x hb hh he => pbX7_matchAt_2 hb hh he) ?_) ⟨rfl, rfl, rfl, rfl, trivial⟩
  refine (?_ : ps_At mX7_matchAt d 60 [(3, .int s21)] [] g Q)
  exact ps_weak (pjX7_matchAt_60 h hk) ⟨rfl, trivial⟩
noncomputable def bX7_nearestLongest_7 (g : ps_G) (x0 : Nat) (x1 : Int32) (x2 : Int32) (x3 : Int32) (x4 : Int32) : Option ((Int32 × Int32 × Int32) ⊕ (Int32)) := if (x1 < x4) ∨ ((258 : Int32) ≤ x3) then (some (.inr x2)) else (Option.bind (q_ob 7 g x0) fun u4 => Option.bind (fX7_matchAt g x0 x1 x4) fun v5 => some (.inl ((if v5 ≤ x3 then x2 else x4), (if v5 ≤ x3 then x3 else v5), x4 + (1 : Int32))))
theorem pbX7_nearestLongest_7 {d : Nat} {Q : ps_Rs → ps_G → Prop} {g : ps_G} {x0 : Nat} {x1 : Int32} {x2 : Int32} {x3 : Int32} {x4 : Int32} {x : (Int32 × Int32 × Int32) ⊕ (Int32)} (h : bX7_nearestLongest_7 g x0 x1 x2 x3 x4 = some x) (hh : ∀ s' : Int32 × Int32 × Int32, x = .inl s' → ps_At mX7_nearestLongest (d + 1) 7 [(0, .ref x0), (1, .int x1), (2, .int s'.1), (3, .int s'.2.1), (4, .int s'.2.2)] [] g Q) (he : ∀ r' : Int32, x = .inr r' → ps_At mX7_nearestLongest (d + 1) 47 [(2, .int r')] [] g Q) : ps_At mX7_nearestLongest (d + 1) 7 [(0, .ref x0), (1, .int x1), (2, .int x2), (3, .int x3), (4, .int x4)] [] g Q := by
  unfold bX7_nearestLongest_7 at h
  refine sX7_nearestLongest_7 ?_
  have kT10 : (some (.inr x2)) = some x → ps_At mX7_nearestLongest (d + 1) 47 [(2, .int x2)] [] g Q := fun h => by
    exact ps_weak (he x2 (Option.some.inj h).symm) ⟨rfl, trivial⟩
  refine And.intro (fun hc1 => ?_) (fun hc1 => ?_)
  · exact ps_weak (kT10 (q_ifp (Or.inl hc1) h)) ⟨rfl, trivial⟩
  · refine And.intro (fun hc2 => ?_) (fun hc2 => ?_)
    · exact ps_weak (kT10 (q_ifp (Or.inr (hc2)) h)) ⟨rfl, trivial⟩
    · replace h := q_ifn (not_or.mpr ⟨hc1, hc2⟩) h
      replace h := q_be h
      obtain ⟨u4, hv, h⟩ := h
      replace hv := q_ob_e hv
      obtain ⟨_, cu4⟩ := hv
      replace h := q_be h
      obtain ⟨v5, hv, h⟩ := h
      refine ⟨⟨some _, rfl⟩, ⟨_, cu4⟩, ?_⟩
      refine rX7_matchAt hv ?_
      have kJ9 : ∀ w7 : Int32, w7 = (if v5 ≤ x3 then x2 else x4) → ∀ w8 : Int32, w8 = (if v5 ≤ x3 then x3 else v5) → ps_At mX7_nearestLongest (d + 1) 41 [(0, .ref x0), (1, .int x1), (2, .int w7), (3, .int w8), (4, .int x4)] [] g Q := by
        rintro _ rfl _ rfl
        refine sX7_nearestLongest_41 ?_
        refine ⟨by decide, ?_⟩
        exact ps_weak (hh ((if v5 ≤ x3 then x2 else x4), (if v5 ≤ x3 then x3 else v5), x4 + (1 : Int32)) (Option.some.inj h).symm) ⟨rfl, rfl, rfl, rfl, rfl, trivial⟩
      refine ⟨by decide, ?_⟩
      refine And.intro (fun hc6 => ?_) (fun hc6 => ?_)
      · exact ps_weak (kJ9 _ (if_pos (hc6)).symm _ (if_pos (hc6)).symm) ⟨rfl, rfl, rfl, rfl, rfl, trivial⟩
      · refine ⟨by decide, by decide, ?_⟩
        exact ps_weak (kJ9 _ (if_neg (hc6)).symm _ (if_neg (hc6)).symm) ⟨rfl, rfl, rfl, rfl, rfl, trivial⟩
noncomputable def jX7_nearestLongest_47 (g : ps_G) (x2 : Int32) : Option (Int32) := some x2
theorem pjX7_nearestLongest_47 {d : Nat} {Q : ps_Rs → ps_G → Prop} {g : ps_G} {x2 : Int32} {r : Int32} (h : jX7_nearestLongest_47 g x2 = some r) (hk : Q (.inl (some (.int r))) g) : ps_At mX7_nearestLongest (d + 1) 47 [(2, .int x2)] [] g Q := by
  unfold jX7_nearestLongest_47 at h
  refine sX7_nearestLongest_47 ?_
  cases h
  exact ⟨rfl, hk⟩
noncomputable def fX7_nearestLongest (g : ps_G) (x0 : Nat) (x1 : Int32) : Option (Int32) := Option.bind (q_lp (fun s => bX7_nearestLongest_7 g x0 x1 s.1 s.2.1 s.2.2) ((0 : Int32), (0 : Int32), (1 : Int32))) fun s12 => jX7_nearestLongest_47 g s12
theorem rX7_nearestLongest {d : Nat} {Q : ps_Rs → ps_G → Prop} {g : ps_G} {x0 : Nat} {x1 : Int32} {r : Int32} (h : fX7_nearestLongest g x0 x1 = some r) (hk : Q (.inl (some (.int r))) g) : ps_Ok mX7_nearestLongest (d + 1) [.ref x0, .int x1] g Q := by
  unfold fX7_nearestLongest at h
  refine sX7_nearestLongest_0 ?_
  refine ⟨by decide, by decide, by decide, ?_⟩
  replace h := q_be h
  obtain ⟨s12, hl, h⟩ := h
  refine ps_weak (q_lp_ok hl (fun s => ps_At mX7_nearestLongest (d + 1) 7 [(0, .ref x0), (1, .int x1), (2, .int s.1), (3, .int s.2.1), (4, .int s.2.2)] [] g Q) (fun r => ps_At mX7_nearestLongest (d + 1) 47 [(2, .int r)] [] g Q) (fun s x hb hh he => pbX7_nearestLongest_7 hb hh he) ?_) ⟨rfl, rfl, rfl, rfl, rfl, trivial⟩
  refine (?_ : ps_At mX7_nearestLongest (d + 1) 47 [(2, .int s12)] [] g Q)
  exact ps_weak (pjX7_nearestLongest_47 h hk) ⟨rfl, trivial⟩
noncomputable def bX7_addCode_4 (x0 : Nat) (x1 : Int32) (x3 : Int32) (g : ps_G) : Option ((Int32 × ps_G) ⊕ (ps_G)) := if x3 < 0 then (some (.inr g)) else (Option.bind (q_ob 7 g x0) fun u3 => Option.bind (fX7_addBits g x0 ((q_shr x1 x3) &&& (1 : Int32)) (1 : Int32)) fun v4 => some (.inl (x3 + (-1 : Int32), v4)))
theorem pbX7_addCode_4 {d : Nat} {Q : ps_Rs → ps_G → Prop}  {x0 : Nat} {x1 : Int32} {x3 : Int32} {g : ps_G} {x : (Int32 × ps_G) ⊕ (ps_G)} (h : bX7_addCode_4 x0 x1 x3 g = some x) (hh : ∀ s' : Int32 × ps_G, x = .inl s' → ps_At mX7_addCode (d + 2) 4 [(0, .ref x0), (1, .int x1), (3, .int s'.1)] [] s'.2 Q) (he : ∀ r' : ps_G, x = .inr r' → ps_At mX7_addCode (d + 2) 24 [] [] r' Q) : ps_At mX7_addCode (d + 2) 4 [(0, .ref x0), (1, .int x1), (3, .int x3)] [] g Q := by
  unfold bX7_addCode_4 at h
  refine sX7_addCode_4 ?_
  refine And.intro (fun hc1 => ?_) (fun hc1 => ?_)
  · replace h := q_ifp (hc1) h
    exact ps_weak (he g (Option.some.inj h).symm) trivial
  · replace h := q_ifn (hc1) h
    replace h := q_be h
    obtain ⟨u3, hv, h⟩ := h
    replace hv := q_ob_e hv
    obtain ⟨_, cu3⟩ := hv
    replace h := q_be h
    obtain ⟨v4, hv, h⟩ := h
    refine ⟨⟨some _, rfl⟩, ⟨_, cu3⟩, ?_⟩
    refine rX7_addBits hv ?_
    refine ⟨by decide, ?_⟩
    exact ps_weak (hh (x3 + (-1 : Int32), v4) (Option.some.inj h).symm) ⟨rfl, rfl, rfl, trivial⟩
noncomputable def fX7_addCode (g : ps_G) (x0 : Nat) (x1 : Int32) (x2 : Int32) : Option (ps_G) := Option.bind (q_lp (fun s => bX7_addCode_4 x0 x1 s.1 s.2) (x2 - (1 : Int32), g)) fun s7 => some s7
theorem rX7_addCode {d : Nat} {Q : ps_Rs → ps_G → Prop} {g : ps_G} {x0 : Nat} {x1 : Int32} {x2 : Int32} {r : ps_G} (h : fX7_addCode g x0 x1 x2 = some r) (hk : Q (.inl none) r) : ps_Ok mX7_addCode (d + 2) [.ref x0, .int x1, .int x2] g Q := by
  unfold fX7_addCode at h
  refine sX7_addCode_0 ?_
  refine ⟨by decide, ?_⟩
  replace h := q_be h
  obtain ⟨s7, hl, h⟩ := h
  refine ps_weak (q_lp_ok hl (fun s => ps_At mX7_addCode (d + 2) 4 [(0, .ref x0), (1, .int x1), (3, .int s.1)] [] s.2 Q) (fun r => ps_At mX7_addCode (d + 2) 24 [] [] r Q) (fun s x hb hh he => pbX7_addCode_4 hb hh he) ?_) ⟨rfl, rfl, rfl, trivial⟩
  refine (?_ : ps_At mX7_addCode (d + 2) 24 [] [] s7 Q)
  refine sX7_addCode_24 ?_
  cases h
  exact ⟨rfl, rfl, hk⟩
noncomputable def jX7_addSymbol_81 (g : ps_G) : Option (ps_G) := some g
theorem pjX7_addSymbol_81 {d : Nat} {Q : ps_Rs → ps_G → Prop} {g : ps_G}  {r : ps_G} (h : jX7_addSymbol_81 g = some r) (hk : Q (.inl none) r) : ps_At mX7_addSymbol (d + 3) 81 [] [] g Q := by
  unfold jX7_addSymbol_81 at h
  refine sX7_addSymbol_81 ?_
  cases h
  exact ⟨rfl, rfl, hk⟩
noncomputable def fX7_addSymbol (g : ps_G) (x0 : Nat) (x1 : Int32) : Option (ps_G) := if (144 : Int32) ≤ x1 then (if (256 : Int32) ≤ x1 then (if (280 : Int32) ≤ x1 then (Option.bind (q_ob 7 g x0) fun u10 => Option.bind (fX7_addCode g x0 (((192 : Int32) + x1) - (280 : Int32)) (8 : Int32)) fun v11 => jX7_addSymbol_81 v11) else (Option.bind (q_ob 7 g x0) fun u12 => Option.bind (fX7_addCode g x0 (x1 - (256 : Int32)) (7 : Int32)) fun v13 => jX7_addSymbol_81 v13)) else (Option.bind (q_ob 7 g x0) fun u16 => Option.bind (fX7_addCode g x0 (((400 : Int32) + x1) - (144 : Int32)) (9 : Int32)) fun v17 => jX7_addSymbol_81 v17)) else (Option.bind (q_ob 7 g x0) fun u20 => Option.bind (fX7_addCode g x0 ((48 : Int32) + x1) (8 : Int32)) fun v21 => jX7_addSymbol_81 v21)
theorem rX7_addSymbol {d : Nat} {Q : ps_Rs → ps_G → Prop} {g : ps_G} {x0 : Nat} {x1 : Int32} {r : ps_G} (h : fX7_addSymbol g x0 x1 = some r) (hk : Q (.inl none) r) : ps_Ok mX7_addSymbol (d + 3) [.ref x0, .int x1] g Q := by
  unfold fX7_addSymbol at h
  refine sX7_addSymbol_0 ?_
  refine And.intro (fun hc1 => ?_) (fun hc1 => ?_)
  · replace h := q_ifp (hc1) h
    refine sX7_addSymbol_20 ?_
    refine And.intro (fun hc5 => ?_) (fun hc5 => ?_)
    · replace h := q_ifp (hc5) h
      refine sX7_addSymbol_45 ?_
      refine And.intro (fun hc8 => ?_) (fun hc8 => ?_)
      · replace h := q_ifp (hc8) h
        refine sX7_addSymbol_66 ?_
        replace h := q_be h
        obtain ⟨u10, hv, h⟩ := h
        replace hv := q_ob_e hv
        obtain ⟨_, cu10⟩ := hv
        replace h := q_be h
        obtain ⟨v11, hv, h⟩ := h
        refine ⟨⟨some _, rfl⟩, ⟨_, cu10⟩, ?_⟩
        refine rX7_addCode hv ?_
        exact ps_weak (pjX7_addSymbol_81 h hk) trivial
      · replace h := q_ifn (hc8) h
        replace h := q_be h
        obtain ⟨u12, hv, h⟩ := h
        replace hv := q_ob_e hv
        obtain ⟨_, cu12⟩ := hv
        replace h := q_be h
        obtain ⟨v13, hv, h⟩ := h
        refine ⟨⟨some _, rfl⟩, ⟨_, cu12⟩, ?_⟩
        refine rX7_addCode hv ?_
        exact ps_weak (pjX7_addSymbol_81 h hk) trivial
    · replace h := q_ifn (hc5) h
      replace h := q_be h
      obtain ⟨u16, hv, h⟩ := h
      replace hv := q_ob_e hv
      obtain ⟨_, cu16⟩ := hv
      replace h := q_be h
      obtain ⟨v17, hv, h⟩ := h
      refine ⟨⟨some _, rfl⟩, ⟨_, cu16⟩, ?_⟩
      refine rX7_addCode hv ?_
      exact ps_weak (pjX7_addSymbol_81 h hk) trivial
  · replace h := q_ifn (hc1) h
    replace h := q_be h
    obtain ⟨u20, hv, h⟩ := h
    replace hv := q_ob_e hv
    obtain ⟨_, cu20⟩ := hv
    replace h := q_be h
    obtain ⟨v21, hv, h⟩ := h
    refine ⟨⟨some _, rfl⟩, ⟨_, cu20⟩, ?_⟩
    refine rX7_addCode hv ?_
    exact ps_weak (pjX7_addSymbol_81 h hk) trivial
noncomputable def bX7_addMatch_7 (g : ps_G) (x0 : Nat) (x1 : Int32) (x2 : Int32) (x3 : Int32) : Option ((Int32) ⊕ (Int32)) := if x3 ≤ 0 then (some (.inr x3)) else (Option.bind (q_aI g 2 x3) fun v4 => if v4 ≤ x1 then (some (.inr x3)) else (some (.inl (x3 + (-1 : Int32)))))
theorem pbX7_addMatch_7 {d : Nat} {Q : ps_Rs → ps_G → Prop} {g : ps_G} {x0 : Nat} {x1 : Int32} {x2 : Int32} {x3 : Int32} {x : (Int32) ⊕ (Int32)} (h : bX7_addMatch_7 g x0 x1 x2 x3 = some x) (hh : ∀ s' : Int32, x = .inl s' → ps_At mX7_addMatch (d + 4) 7 [(0, .ref x0), (1, .int x1), (2, .int x2), (3, .int s')] [] g Q) (he : ∀ r' : Int32, x = .inr r' → ps_At mX7_addMatch (d + 4) 26 [(0, .ref x0), (1, .int x1), (2, .int x2), (3, .int r')] [] g Q) : ps_At mX7_addMatch (d + 4) 7 [(0, .ref x0), (1, .int x1), (2, .int x2), (3, .int x3)] [] g Q := by
  unfold bX7_addMatch_7 at h
  refine sX7_addMatch_7 ?_
  refine And.intro (fun hc2 => ?_) (fun hc2 => ?_)
  · replace h := q_ifp (hc2) h
    exact ps_weak (he x3 (Option.some.inj h).symm) ⟨rfl, rfl, rfl, rfl, trivial⟩
  · replace h := q_ifn (hc2) h
    replace h := q_be h
    obtain ⟨v4, hv, h⟩ := h
    replace hv := q_aI_e hv
    obtain ⟨_, _, cv4, iv4, yv4⟩ := hv
    refine ⟨_, _, cv4, iv4, _, yv4, ?_⟩
    refine And.intro (fun hc5 => ?_) (fun hc5 => ?_)
    · replace h := q_ifp (hc5) h
      exact ps_weak (he x3 (Option.some.inj h).symm) ⟨rfl, rfl, rfl, rfl, trivial⟩
    · replace h := q_ifn (hc5) h
      refine ⟨by decide, ?_⟩
      exact ps_weak (hh (x3 + (-1 : Int32)) (Option.some.inj h).symm) ⟨rfl, rfl, rfl, rfl, trivial⟩
noncomputable def bX7_addMatch_59 (g : ps_G) (x0 : Nat) (x2 : Int32) (x4 : Int32) : Option ((Int32) ⊕ (Int32)) := if x4 ≤ 0 then (some (.inr x4)) else (Option.bind (q_aI g 4 x4) fun v20 => if v20 ≤ x2 then (some (.inr x4)) else (some (.inl (x4 + (-1 : Int32)))))
theorem pbX7_addMatch_59 {d : Nat} {Q : ps_Rs → ps_G → Prop} {g : ps_G} {x0 : Nat} {x2 : Int32} {x4 : Int32} {x : (Int32) ⊕ (Int32)} (h : bX7_addMatch_59 g x0 x2 x4 = some x) (hh : ∀ s' : Int32, x = .inl s' → ps_At mX7_addMatch (d + 4) 59 [(0, .ref x0), (2, .int x2), (4, .int s')] [] g Q) (he : ∀ r' : Int32, x = .inr r' → ps_At mX7_addMatch (d + 4) 80 [(0, .ref x0), (2, .int x2), (4, .int r')] [] g Q) : ps_At mX7_addMatch (d + 4) 59 [(0, .ref x0), (2, .int x2), (4, .int x4)] [] g Q := by
  unfold bX7_addMatch_59 at h
  refine sX7_addMatch_59 ?_
  refine And.intro (fun hc18 => ?_) (fun hc18 => ?_)
  · replace h := q_ifp (hc18) h
    exact ps_weak (he x4 (Option.some.inj h).symm) ⟨rfl, rfl, rfl, trivial⟩
  · replace h := q_ifn (hc18) h
    replace h := q_be h
    obtain ⟨v20, hv, h⟩ := h
    replace hv := q_aI_e hv
    obtain ⟨_, _, cv20, iv20, yv20⟩ := hv
    refine ⟨_, _, cv20, iv20, _, yv20, ?_⟩
    refine And.intro (fun hc21 => ?_) (fun hc21 => ?_)
    · replace h := q_ifp (hc21) h
      exact ps_weak (he x4 (Option.some.inj h).symm) ⟨rfl, rfl, rfl, trivial⟩
    · replace h := q_ifn (hc21) h
      refine ⟨by decide, ?_⟩
      exact ps_weak (hh (x4 + (-1 : Int32)) (Option.some.inj h).symm) ⟨rfl, rfl, rfl, trivial⟩
noncomputable def jX7_addMatch_80 (g : ps_G) (x0 : Nat) (x2 : Int32) (x4 : Int32) : Option (ps_G) := Option.bind (q_ob 7 g x0) fun u27 => Option.bind (fX7_addCode g x0 x4 (5 : Int32)) fun v28 => Option.bind (q_aI v28 4 x4) fun v29 => Option.bind (q_aI v28 5 x4) fun v30 => Option.bind (q_ob 7 v28 x0) fun u31 => Option.bind (fX7_addBits v28 x0 (x2 - v29) v30) fun v32 => some v32
theorem pjX7_addMatch_80 {d : Nat} {Q : ps_Rs → ps_G → Prop} {g : ps_G} {x0 : Nat} {x2 : Int32} {x4 : Int32} {r : ps_G} (h : jX7_addMatch_80 g x0 x2 x4 = some r) (hk : Q (.inl none) r) : ps_At mX7_addMatch (d + 4) 80 [(0, .ref x0), (2, .int x2), (4, .int x4)] [] g Q := by
  unfold jX7_addMatch_80 at h
  refine sX7_addMatch_80 ?_
  replace h := q_be h
  obtain ⟨u27, hv, h⟩ := h
  replace hv := q_ob_e hv
  obtain ⟨_, cu27⟩ := hv
  replace h := q_be h
  obtain ⟨v28, hv, h⟩ := h
  refine ⟨⟨some _, rfl⟩, ⟨_, cu27⟩, ?_⟩
  refine rX7_addCode hv ?_
  replace h := q_be h
  obtain ⟨v29, hv, h⟩ := h
  replace hv := q_aI_e hv
  obtain ⟨_, _, cv29, iv29, yv29⟩ := hv
  replace h := q_be h
  obtain ⟨v30, hv, h⟩ := h
  replace hv := q_aI_e hv
  obtain ⟨_, _, cv30, iv30, yv30⟩ := hv
  replace h := q_be h
  obtain ⟨u31, hv, h⟩ := h
  replace hv := q_ob_e hv
  obtain ⟨_, cu31⟩ := hv
  replace h := q_be h
  obtain ⟨v32, hv, h⟩ := h
  refine ⟨⟨some _, rfl⟩, _, _, cv29, iv29, _, yv29, _, _, cv30, iv30, _, yv30, ⟨_, cu31⟩, ?_⟩
  refine rX7_addBits hv ?_
  cases h
  exact ⟨rfl, rfl, hk⟩
noncomputable def jX7_addMatch_26 (g : ps_G) (x0 : Nat) (x1 : Int32) (x2 : Int32) (x3 : Int32) : Option (ps_G) := Option.bind (q_ob 7 g x0) fun u11 => Option.bind (fX7_addSymbol g x0 ((257 : Int32) + x3)) fun v12 => Option.bind (q_aI v12 2 x3) fun v13 => Option.bind (q_aI v12 3 x3) fun v14 => Option.bind (q_ob 7 v12 x0) fun u15 => Option.bind (fX7_addBits v12 x0 (x1 - v13) v14) fun v16 => Option.bind (q_len v16 4) fun v17 => Option.bind (q_lp (fun s => bX7_addMatch_59 v16 x0 x2 s) (v17 - (1 : Int32))) fun s26 => jX7_addMatch_80 v16 x0 x2 s26
theorem pjX7_addMatch_26 {d : Nat} {Q : ps_Rs → ps_G → Prop} {g : ps_G} {x0 : Nat} {x1 : Int32} {x2 : Int32} {x3 : Int32} {r : ps_G} (h : jX7_addMatch_26 g x0 x1 x2 x3 = some r) (hk : Q (.inl none) r) : ps_At mX7_addMatch (d + 4) 26 [(0, .ref x0), (1, .int x1), (2, .int x2), (3, .int x3)] [] g Q := by
  unfold jX7_addMatch_26 at h
  refine sX7_addMatch_26 ?_
  replace h := q_be h
  obtain ⟨u11, hv, h⟩ := h
  replace hv := q_ob_e hv
  obtain ⟨_, cu11⟩ := hv
  replace h := q_be h
  obtain ⟨v12, hv, h⟩ := h
  refine ⟨⟨some _, rfl⟩, ⟨_, cu11⟩, ?_⟩
  refine rX7_addSymbol hv ?_
  replace h := q_be h
  obtain ⟨v13, hv, h⟩ := h
  replace hv := q_aI_e hv
  obtain ⟨_, _, cv13, iv13, yv13⟩ := hv
  replace h := q_be h
  obtain ⟨v14, hv, h⟩ := h
  replace hv := q_aI_e hv
  obtain ⟨_, _, cv14, iv14, yv14⟩ := hv
  replace h := q_be h
  obtain ⟨u15, hv, h⟩ := h
  replace hv := q_ob_e hv
  obtain ⟨_, cu15⟩ := hv
  replace h := q_be h
  obtain ⟨v16, hv, h⟩ := h
  refine ⟨⟨some _, rfl⟩, _, _, cv13, iv13, _, yv13, _, _, cv14, iv14, _, yv14, ⟨_, cu15⟩, ?_⟩
  refine rX7_addBits hv ?_
  replace h := q_be h
  obtain ⟨v17, hv, h⟩ := h
  replace hv := q_len_e hv
  obtain ⟨_, _, cv17, qv17, yv17⟩ := hv
  refine ⟨_, _, cv17, qv17, _, yv17, by decide, ?_⟩
  replace h := q_be h
  obtain ⟨s26, hl, h⟩ := h
  refine ps_weak (q_lp_ok hl (fun s => ps_At mX7_addMatch (d + 4) 59 [(0, .ref x0), (2, .int x2), (4, .int s)] [] v16 Q) (fun r => ps_At mX7_addMatch (d + 4) 80 [(0, .ref x0), (2, .int x2), (4, .int r)] [] v16 Q) (fun s x hb hh he => pbX7_addMatch_59 hb hh he) ?_) ⟨rfl, rfl, rfl, trivial⟩
  refine (?_ : ps_At mX7_addMatch (d + 4) 80 [(0, .ref x0), (2, .int x2), (4, .int s26)] [] v16 Q)
  exact ps_weak (pjX7_addMatch_80 h hk) ⟨rfl, rfl, rfl, trivial⟩
noncomputable def fX7_addMatch (g : ps_G) (x0 : Nat) (x1 : Int32) (x2 : Int32) : Option (ps_G) := Option.bind (q_len g 2) fun v1 => Option.bind (q_lp (fun s => bX7_addMatch_7 g x0 x1 x2 s) (v1 - (1 : Int32))) fun s10 => jX7_addMatch_26 g x0 x1 x2 s10
theorem rX7_addMatch {d : Nat} {Q : ps_Rs → ps_G → Prop} {g : ps_G} {x0 : Nat} {x1 : Int32} {x2 : Int32} {r : ps_G} (h : fX7_addMatch g x0 x1 x2 = some r) (hk : Q (.inl none) r) : ps_Ok mX7_addMatch (d + 4) [.ref x0, .int x1, .int x2] g Q := by
  unfold fX7_addMatch at h
  refine sX7_addMatch_0 ?_
  replace h := q_be h
  obtain ⟨v1, hv, h⟩ := h
  replace hv := q_len_e hv
  obtain ⟨_, _, cv1, qv1, yv1⟩ := hv
  refine ⟨_, _, cv1, qv1, _, yv1, by decide, ?_⟩
  replace h := q_be h
  obtain ⟨s10, hl, h⟩ := h
  refine ps_weak (q_lp_ok hl (fun s => ps_At mX7_addMatch (d + 4) 7 [(0, .ref x0), (1, .int x1), (2, .int x2), (3, .int s)] [] g Q) (fun r => ps_At mX7_addMatch (d + 4) 26 [(0, .ref x0), (1, .int x1), (2, .int x2), (3, .int r)] [] g Q) (fun s x hb hh he => pbX7_addMatch_7 hb hh he) ?_) ⟨rfl, rfl, rfl, rfl, trivial⟩
  refine (?_ : ps_At mX7_addMatch (d + 4) 26 [(0, .ref x0), (1, .int x1), (2, .int x2), (3, .int s10)] [] g Q)
  exact ps_weak (pjX7_addMatch_26 h hk) ⟨rfl, rfl, rfl, rfl, trivial⟩
noncomputable def jX7_deflate_97_26 (g : ps_G) (x0 : Nat) (x1 : Int32) (x2 : Int32) : Option ((Int32 × Int32 × ps_G) ⊕ (ps_G)) := some (.inl (x1, x2 + (1 : Int32), g))
theorem pjX7_deflate_97_26 {d : Nat} {Q : ps_Rs → ps_G → Prop} {g : ps_G} {x0 : Nat} {x1 : Int32} {x2 : Int32} {x : (Int32 × Int32 × ps_G) ⊕ (ps_G)} (h : jX7_deflate_97_26 g x0 x1 x2 = some x) (hh : ∀ s' : Int32 × Int32 × ps_G, x = .inl s' → ps_At mX7_deflate (d + 5) 26 [(0, .ref x0), (1, .int s'.1), (2, .int s'.2.1)] [] s'.2.2 Q) (he : ∀ r' : ps_G, x = .inr r' → ps_At mX7_deflate (d + 5) 103 [(0, .ref x0)] [] r' Q) : ps_At mX7_deflate (d + 5) 97 [(0, .ref x0), (1, .int x1), (2, .int x2)] [] g Q := by
  unfold jX7_deflate_97_26 at h
  refine sX7_deflate_97 ?_
  refine ⟨by decide, ?_⟩
  exact ps_weak (hh (x1, x2 + (1 : Int32), g) (Option.some.inj h).symm) ⟨rfl, rfl, rfl, trivial⟩
noncomputable def jX7_deflate_61_26 (g : ps_G) (x0 : Nat) (x1 : Int32) (x2 : Int32) (x3 : Int32) (k0 : Int32) : Option ((Int32 × Int32 × ps_G) ⊕ (ps_G)) := if k0 < (3 : Int32) then (Option.bind (q_fR 7 2 g x0) fun v18 => Option.bind (v18) fun a19 => Option.bind (q_aI g a19 x1) fun v20 => Option.bind (q_ob 7 g x0) fun u21 => Option.bind (fX7_addSymbol g x0 v20) fun v22 => jX7_deflate_97_26 v22 x0 (x1 + (1 : Int32)) x2) else (Option.bind (q_ob 7 g x0) fun u23 => Option.bind (fX7_addMatch g x0 k0 x3) fun v24 => jX7_deflate_97_26 v24 x0 (x1 + k0) x2)
theorem pjX7_deflate_61_26 {d : Nat} {Q : ps_Rs → ps_G → Prop} {g : ps_G} {x0 : Nat} {x1 : Int32} {x2 : Int32} {x3 : Int32} {k0 : Int32} {x : (Int32 × Int32 × ps_G) ⊕ (ps_G)} (h : jX7_deflate_61_26 g x0 x1 x2 x3 k0 = some x) (hh : ∀ s' : Int32 × Int32 × ps_G, x = .inl s' → ps_At mX7_deflate (d + 5) 26 [(0, .ref x0), (1, .int s'.1), (2, .int s'.2.1)] [] s'.2.2 Q) (he : ∀ r' : ps_G, x = .inr r' → ps_At mX7_deflate (d + 5) 103 [(0, .ref x0)] [] r' Q) : ps_At mX7_deflate (d + 5) 61 [(0, .ref x0), (1, .int x1), (2, .int x2), (3, .int x3)] [.int k0] g Q := by
  unfold jX7_deflate_61_26 at h
  refine sX7_deflate_61 ?_
  refine ⟨by decide, ?_⟩
  refine And.intro (fun hc16 => ?_) (fun hc16 => ?_)
  · replace h := q_ifp (hc16) h
    refine sX7_deflate_84 ?_
    replace h := q_be h
    obtain ⟨v18, hv, h⟩ := h
    replace hv := q_fR_e hv
    obtain ⟨_, cv18, dv18⟩ := hv
    replace h := q_be h
    obtain ⟨a19, ea19, h⟩ := h
    subst ea19
    replace h := q_be h
    obtain ⟨v20, hv, h⟩ := h
    replace hv := q_aI_e hv
    obtain ⟨_, _, cv20, iv20, yv20⟩ := hv
    replace h := q_be h
    obtain ⟨u21, hv, h⟩ := h
    replace hv := q_ob_e hv
    obtain ⟨_, cu21⟩ := hv
    replace h := q_be h
    obtain ⟨v22, hv, h⟩ := h
    refine ⟨⟨some _, rfl⟩, ⟨some _, rfl⟩, _, _, cv18, dv18, _, _, cv20, iv20, _, yv20, ⟨_, cu21⟩, ?_⟩
    refine rX7_addSymbol hv ?_
    refine ⟨by decide, ?_⟩
    exact ps_weak (pjX7_deflate_97_26 h hh he) ⟨rfl, rfl, rfl, trivial⟩
  · replace h := q_ifn (hc16) h
    replace h := q_be h
    obtain ⟨u23, hv, h⟩ := h
    replace hv := q_ob_e hv
    obtain ⟨_, cu23⟩ := hv
    replace h := q_be h
    obtain ⟨v24, hv, h⟩ := h
    refine ⟨⟨some _, rfl⟩, ⟨_, cu23⟩, ?_⟩
    refine rX7_addMatch hv ?_
    refine ⟨by decide, ?_⟩
    exact ps_weak (pjX7_deflate_97_26 h hh he) ⟨rfl, rfl, rfl, trivial⟩
noncomputable def bX7_deflate_26 (x0 : Nat) (x1 : Int32) (x2 : Int32) (g : ps_G) : Option ((Int32 × Int32 × ps_G) ⊕ (ps_G)) := if (2328 : Int32) ≤ x2 then (some (.inr g)) else (Option.bind (q_fI 7 3 g x0) fun v9 => if v9 ≤ x1 then (some (.inr g)) else (Option.bind (q_ob 7 g x0) fun u12 => Option.bind (fX7_nearestLongest g x0 x1) fun v13 => if v13 ≤ 0 then (jX7_deflate_61_26 g x0 x1 x2 v13 (0 : Int32)) else (Option.bind (q_ob 7 g x0) fun u27 => Option.bind (fX7_matchAt g x0 x1 v13) fun v28 => jX7_deflate_61_26 g x0 x1 x2 v13 v28)))
theorem pbX7_deflate_26 {d : Nat} {Q : ps_Rs → ps_G → Prop}  {x0 : Nat} {x1 : Int32} {x2 : Int32} {g : ps_G} {x : (Int32 × Int32 × ps_G) ⊕ (ps_G)} (h : bX7_deflate_26 x0 x1 x2 g = some x) (hh : ∀ s' : Int32 × Int32 × ps_G, x = .inl s' → ps_At mX7_deflate (d + 5) 26 [(0, .ref x0), (1, .int s'.1), (2, .int s'.2.1)] [] s'.2.2 Q) (he : ∀ r' : ps_G, x = .inr r' → ps_At mX7_deflate (d + 5) 103 [(0, .ref x0)] [] r' Q) : ps_At mX7_deflate (d + 5) 26 [(0, .ref x0), (1, .int x1), (2, .int x2)] [] g Q := by
  unfold bX7_deflate_26 at h
  refine sX7_deflate_26 ?_
  refine And.intro (fun hc7 => ?_) (fun hc7 => ?_)
  · replace h := q_ifp (hc7) h
    exact ps_weak (he g (Option.some.inj h).symm) ⟨rfl, trivial⟩
  · replace h := q_ifn (hc7) h
    replace h := q_be h
    obtain ⟨v9, hv, h⟩ := h
    replace hv := q_fI_e hv
    obtain ⟨_, cv9, dv9⟩ := hv
    refine ⟨⟨some _, rfl⟩, _, _, cv9, dv9, ?_⟩
    refine And.intro (fun hc10 => ?_) (fun hc10 => ?_)
    · replace h := q_ifp (hc10) h
      exact ps_weak (he g (Option.some.inj h).symm) ⟨rfl, trivial⟩
    · replace h := q_ifn (hc10) h
      replace h := q_be h
      obtain ⟨u12, hv, h⟩ := h
      replace hv := q_ob_e hv
      obtain ⟨_, cu12⟩ := hv
      replace h := q_be h
      obtain ⟨v13, hv, h⟩ := h
      refine ⟨⟨some _, rfl⟩, ⟨_, cu12⟩, ?_⟩
      refine rX7_nearestLongest hv ?_
      refine ⟨by decide, ?_⟩
      refine And.intro (fun hc14 => ?_) (fun hc14 => ?_)
      · replace h := q_ifp (hc14) h
        refine sX7_deflate_60 ?_
        exact ps_weak (pjX7_deflate_61_26 h hh he) ⟨rfl, rfl, rfl, rfl, trivial⟩
      · replace h := q_ifn (hc14) h
        replace h := q_be h
        obtain ⟨u27, hv, h⟩ := h
        replace hv := q_ob_e hv
        obtain ⟨_, cu27⟩ := hv
        replace h := q_be h
        obtain ⟨v28, hv, h⟩ := h
        refine ⟨⟨some _, rfl⟩, ⟨_, cu27⟩, ?_⟩
        refine rX7_matchAt hv ?_
        exact ps_weak (pjX7_deflate_61_26 h hh he) ⟨rfl, rfl, rfl, rfl, trivial⟩
noncomputable def jX7_deflate_129 (g : ps_G) : Option (ps_G) := some g
theorem pjX7_deflate_129 {d : Nat} {Q : ps_Rs → ps_G → Prop} {g : ps_G}  {r : ps_G} (h : jX7_deflate_129 g = some r) (hk : Q (.inl none) r) : ps_At mX7_deflate (d + 5) 129 [] [] g Q := by
  unfold jX7_deflate_129 at h
  refine sX7_deflate_129 ?_
  cases h
  exact ⟨rfl, rfl, hk⟩
noncomputable def jX7_deflate_103 (g : ps_G) (x0 : Nat) : Option (ps_G) := Option.bind (q_ob 7 g x0) fun u36 => Option.bind (fX7_addSymbol g x0 (256 : Int32)) fun v37 => Option.bind (q_fI 7 5 v37 x0) fun v38 => if v38 ≤ 0 then (jX7_deflate_129 v37) else (Option.bind (q_fI 7 5 v37 x0) fun v41 => Option.bind (q_ob 7 v37 x0) fun u42 => Option.bind (fX7_addBits v37 x0 (0 : Int32) ((8 : Int32) - v41)) fun v43 => jX7_deflate_129 v43)
theorem pjX7_deflate_103 {d : Nat} {Q : ps_Rs → ps_G → Prop} {g : ps_G} {x0 : Nat} {r : ps_G} (h : jX7_deflate_103 g x0 = some r) (hk : Q (.inl none) r) : ps_At mX7_deflate (d + 5) 103 [(0, .ref x0)] [] g Q := by
  unfold jX7_deflate_103 at h
  refine sX7_deflate_103 ?_
  replace h := q_be h
  obtain ⟨u36, hv, h⟩ := h
  replace hv := q_ob_e hv
  obtain ⟨_, cu36⟩ := hv
  replace h := q_be h
  obtain ⟨v37, hv, h⟩ := h
  refine ⟨⟨some _, rfl⟩, ⟨_, cu36⟩, ?_⟩
  refine rX7_addSymbol hv ?_
  replace h := q_be h
  obtain ⟨v38, hv, h⟩ := h
  replace hv := q_fI_e hv
  obtain ⟨_, cv38, dv38⟩ := hv
  refine ⟨⟨some _, rfl⟩, _, _, cv38, dv38, ?_⟩
  refine And.intro (fun hc39 => ?_) (fun hc39 => ?_)
  · replace h := q_ifp (hc39) h
    exact ps_weak (pjX7_deflate_129 h hk) trivial
  · replace h := q_ifn (hc39) h
    replace h := q_be h
    obtain ⟨v41, hv, h⟩ := h
    replace hv := q_fI_e hv
    obtain ⟨_, cv41, dv41⟩ := hv
    replace h := q_be h
    obtain ⟨u42, hv, h⟩ := h
    replace hv := q_ob_e hv
    obtain ⟨_, cu42⟩ := hv
    replace h := q_be h
    obtain ⟨v43, hv, h⟩ := h
    refine ⟨⟨some _, rfl⟩, ⟨some _, rfl⟩, _, _, cv41, dv41, ⟨_, cu42⟩, ?_⟩
    refine rX7_addBits hv ?_
    exact ps_weak (pjX7_deflate_129 h hk) trivial
noncomputable def fX7_deflate (g : ps_G) (x0 : Nat) : Option (ps_G) := Option.bind (q_sI 7 4 g x0 (0 : Int32)) fun g1 => Option.bind (q_sI 7 5 g1 x0 (0 : Int32)) fun g2 => Option.bind (q_ob 7 g2 x0) fun u3 => Option.bind (fX7_addBits g2 x0 (1 : Int32) (1 : Int32)) fun v4 => Option.bind (q_ob 7 v4 x0) fun u5 => Option.bind (fX7_addBits v4 x0 (1 : Int32) (2 : Int32)) fun v6 => Option.bind (q_lp (fun s => bX7_deflate_26 x0 s.1 s.2.1 s.2.2) ((0 : Int32), (0 : Int32), v6)) fun s35 => jX7_deflate_103 s35 x0
theorem rX7_deflate {d : Nat} {Q : ps_Rs → ps_G → Prop} {g : ps_G} {x0 : Nat} {r : ps_G} (h : fX7_deflate g x0 = some r) (hk : Q (.inl none) r) : ps_Ok mX7_deflate (d + 5) [.ref x0] g Q := by
  unfold fX7_deflate at h
  refine sX7_deflate_0 ?_
  replace h := q_be h
  obtain ⟨g1, hv, h⟩ := h
  replace hv := q_sI_e hv
  obtain ⟨_, cg1, dg1, yg1⟩ := hv
  replace h := q_be h
  obtain ⟨g2, hv, h⟩ := h
  replace hv := q_sI_e hv
  obtain ⟨_, cg2, dg2, yg2⟩ := hv
  replace h := q_be h
  obtain ⟨u3, hv, h⟩ := h
  replace hv := q_ob_e hv
  obtain ⟨_, cu3⟩ := hv
  replace h := q_be h
  obtain ⟨v4, hv, h⟩ := h
  refine ⟨⟨some _, rfl⟩, _, cg1, dg1, rfl, rfl, _, yg1, ⟨some _, rfl⟩, _, cg2, dg2, rfl, rfl, _, yg2, ⟨some _, rfl⟩, ⟨_, cu3⟩, ?_⟩
  refine rX7_addBits hv ?_
  replace h := q_be h
  obtain ⟨u5, hv, h⟩ := h
  replace hv := q_ob_e hv
  obtain ⟨_, cu5⟩ := hv
  replace h := q_be h
  obtain ⟨v6, hv, h⟩ := h
  refine ⟨⟨some _, rfl⟩, ⟨_, cu5⟩, ?_⟩
  refine rX7_addBits hv ?_
  refine ⟨by decide, by decide, ?_⟩
  replace h := q_be h
  obtain ⟨s35, hl, h⟩ := h
  refine ps_weak (q_lp_ok hl (fun s => ps_At mX7_deflate (d + 5) 26 [(0, .ref x0), (1, .int s.1), (2, .int s.2.1)] [] s.2.2 Q) (fun r => ps_At mX7_deflate (d + 5) 103 [(0, .ref x0)] [] r Q) (fun s x hb hh he => pbX7_deflate_26 hb hh he) ?_) ⟨rfl, rfl, rfl, trivial⟩
  refine (?_ : ps_At mX7_deflate (d + 5) 103 [(0, .ref x0)] [] s35 Q)
  exact ps_weak (pjX7_deflate_103 h hk) ⟨rfl, trivial⟩
