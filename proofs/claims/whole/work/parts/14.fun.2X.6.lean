noncomputable def bX7_write_8 (x0 : Nat) (x1 : Nat) (x2 : Int32) (x3 : Int32) (x4 : Int32) (g : ps_G) : Option ((Int32 × ps_G) ⊕ (ps_G)) := Option.bind (q_len g 1) fun v2 => if v2 ≤ x4 then (some (.inr g)) else (Option.bind (q_aI g 1 x4) fun v5 => Option.bind (q_ob 7 g x0) fun u6 => Option.bind (fX7_octet g x0 v5) fun v7 => some (.inl (x4 + (1 : Int32), v7)))
theorem pbX7_write_8 {d : Nat} {Q : ps_Rs → ps_G → Prop}  {x0 : Nat} {x1 : Nat} {x2 : Int32} {x3 : Int32} {x4 : Int32} {g : ps_G} {x : (Int32 × ps_G) ⊕ (ps_G)} (h : bX7_write_8 x0 x1 x2 x3 x4 g = some x) (hh : ∀ s' : Int32 × ps_G, x = .inl s' → ps_At mX7_write (d + 6) 8 [(0, .ref x0), (1, .ref x1), (2, .int x2), (3, .int x3), (4, .int s'.1)] [] s'.2 Q) (he : ∀ r' : ps_G, x = .inr r' → ps_At mX7_write (d + 6) 33 [(0, .ref x0), (1, .ref x1), (2, .int x2), (3, .int x3)] [] r' Q) : ps_At mX7_write (d + 6) 8 [(0, .ref x0), (1, .ref x1), (2, .int x2), (3, .int x3), (4, .int x4)] [] g Q := by
  unfold bX7_write_8 at h
  refine sX7_write_8 ?_
  replace h := q_be h
  obtain ⟨v2, hv, h⟩ := h
  replace hv := q_len_e hv
  obtain ⟨_, _, cv2, qv2, yv2⟩ := hv
  refine ⟨_, _, cv2, qv2, _, yv2, ?_⟩
  refine And.intro (fun hc3 => ?_) (fun hc3 => ?_)
  · replace h := q_ifp (hc3) h
    exact ps_weak (he g (Option.some.inj h).symm) ⟨rfl, rfl, rfl, rfl, trivial⟩
  · replace h := q_ifn (hc3) h
    replace h := q_be h
    obtain ⟨v5, hv, h⟩ := h
    replace hv := q_aI_e hv
    obtain ⟨_, _, cv5, iv5, yv5⟩ := hv
    replace h := q_be h
    obtain ⟨u6, hv, h⟩ := h
    replace hv := q_ob_e hv
    obtain ⟨_, cu6⟩ := hv
    replace h := q_be h
    obtain ⟨v7, hv, h⟩ := h
    refine ⟨⟨some _, rfl⟩, _, _, cv5, iv5, _, yv5, ⟨_, cu6⟩, ?_⟩
    refine rX7_octet hv ?_
    refine ⟨by decide, ?_⟩
    exact ps_weak (hh (x4 + (1 : Int32), v7) (Option.some.inj h).symm) ⟨rfl, rfl, rfl, rfl, rfl, trivial⟩
noncomputable def jX7_write_129 (g : ps_G) (x0 : Nat) (x4 : Int32) : Option (ps_G) := Option.bind (q_ob 7 g x0) fun u47 => Option.bind (fX7_endChunk g x0 x4) fun v48 => Option.bind (q_ob 7 v48 x0) fun u49 => q_b2 (fX7_beginChunk v48 x0 (1229278788 : Int32)) fun v50 g51 => Option.bind (q_ob 7 g51 x0) fun u52 => Option.bind (fX7_endChunk g51 x0 v50) fun v53 => some v53
theorem pjX7_write_129 {d : Nat} {Q : ps_Rs → ps_G → Prop} {g : ps_G} {x0 : Nat} {x4 : Int32} {r : ps_G} (h : jX7_write_129 g x0 x4 = some r) (hk : Q (.inl none) r) : ps_At mX7_write (d + 6) 129 [(0, .ref x0), (4, .int x4)] [] g Q := by
  unfold jX7_write_129 at h
  refine sX7_write_129 ?_
  replace h := q_be h
  obtain ⟨u47, hv, h⟩ := h
  replace hv := q_ob_e hv
  obtain ⟨_, cu47⟩ := hv
  replace h := q_be h
  obtain ⟨v48, hv, h⟩ := h
  refine ⟨⟨some _, rfl⟩, ⟨_, cu47⟩, ?_⟩
  refine rX7_endChunk hv ?_
  replace h := q_be h
  obtain ⟨u49, hv, h⟩ := h
  replace hv := q_ob_e hv
  obtain ⟨_, cu49⟩ := hv
  replace h := q_b2_e h
  obtain ⟨v50, g51, hv, h⟩ := h
  refine ⟨⟨some _, rfl⟩, ⟨some _, rfl⟩, ⟨_, cu49⟩, ?_⟩
  refine rX7_beginChunk hv ?_
  replace h := q_be h
  obtain ⟨u52, hv, h⟩ := h
  replace hv := q_ob_e hv
  obtain ⟨_, cu52⟩ := hv
  replace h := q_be h
  obtain ⟨v53, hv, h⟩ := h
  refine ⟨⟨_, cu52⟩, ?_⟩
  refine rX7_endChunk hv ?_
  cases h
  exact ⟨rfl, rfl, hk⟩
noncomputable def jX7_write_103 (g : ps_G) (x0 : Nat) (x1 : Nat) (x2 : Int32) (x3 : Int32) (x4 : Int32) : Option (ps_G) := Option.bind (q_ob 7 g x0) fun u37 => Option.bind (fX7_filterRows g x0 x1 x2 x3) fun v38 => Option.bind (q_ob 7 v38 x0) fun u39 => Option.bind (fX7_deflate v38 x0) fun v40 => Option.bind (q_fR 7 2 v40 x0) fun v41 => Option.bind (v41) fun a42 => Option.bind (q_fI 7 3 v40 x0) fun v43 => Option.bind (fX11_adler v40 a42 v43) fun v44 => Option.bind (q_ob 7 v40 x0) fun u45 => Option.bind (fX7_four v40 x0 v44) fun v46 => jX7_write_129 v46 x0 x4
theorem pjX7_write_103 {d : Nat} {Q : ps_Rs → ps_G → Prop} {g : ps_G} {x0 : Nat} {x1 : Nat} {x2 : Int32} {x3 : Int32} {x4 : Int32} {r : ps_G} (h : jX7_write_103 g x0 x1 x2 x3 x4 = some r) (hk : Q (.inl none) r) : ps_At mX7_write (d + 6) 103 [(0, .ref x0), (1, .ref x1), (2, .int x2), (3, .int x3), (4, .int x4)] [] g Q := by
  unfold jX7_write_103 at h
  refine sX7_write_103 ?_
  replace h := q_be h
  obtain ⟨u37, hv, h⟩ := h
  replace hv := q_ob_e hv
  obtain ⟨_, cu37⟩ := hv
  replace h := q_be h
  obtain ⟨v38, hv, h⟩ := h
  refine ⟨⟨some _, rfl⟩, ⟨some _, rfl⟩, ⟨_, cu37⟩, ?_⟩
  refine rX7_filterRows hv ?_
  replace h := q_be h
  obtain ⟨u39, hv, h⟩ := h
  replace hv := q_ob_e hv
  obtain ⟨_, cu39⟩ := hv
  replace h := q_be h
  obtain ⟨v40, hv, h⟩ := h
  refine ⟨⟨some _, rfl⟩, ⟨_, cu39⟩, ?_⟩
  refine rX7_deflate hv ?_
  replace h := q_be h
  obtain ⟨v41, hv, h⟩ := h
  replace hv := q_fR_e hv
  obtain ⟨_, cv41, dv41⟩ := hv
  replace h := q_be h
  obtain ⟨a42, ea42, h⟩ := h
  subst ea42
  replace h := q_be h
  obtain ⟨v43, hv, h⟩ := h
  replace hv := q_fI_e hv
  obtain ⟨_, cv43, dv43⟩ := hv
  replace h := q_be h
  obtain ⟨v44, hv, h⟩ := h
  refine ⟨⟨some _, rfl⟩, ⟨some _, rfl⟩, _, _, cv41, dv41, ⟨some _, rfl⟩, _, _, cv43, dv43, ?_⟩
  refine rX11_adler hv ?_
  replace h := q_be h
  obtain ⟨u45, hv, h⟩ := h
  replace hv := q_ob_e hv
  obtain ⟨_, cu45⟩ := hv
  replace h := q_be h
  obtain ⟨v46, hv, h⟩ := h
  refine ⟨⟨_, cu45⟩, ?_⟩
  refine rX7_four hv ?_
  exact ps_weak (pjX7_write_129 h hk) ⟨rfl, rfl, trivial⟩
noncomputable def jX7_write_78 (g : ps_G) (x0 : Nat) (x1 : Nat) (x2 : Int32) (x3 : Int32) (x4 : Int32) : Option (ps_G) := Option.bind (q_ob 7 g x0) fun u28 => Option.bind (fX7_endChunk g x0 x4) fun v29 => Option.bind (q_ob 7 v29 x0) fun u30 => q_b2 (fX7_beginChunk v29 x0 (1229209940 : Int32)) fun v31 g32 => Option.bind (q_ob 7 g32 x0) fun u33 => Option.bind (fX7_octet g32 x0 (120 : Int32)) fun v34 => Option.bind (q_ob 7 v34 x0) fun u35 => Option.bind (fX7_octet v34 x0 (1 : Int32)) fun v36 => jX7_write_103 v36 x0 x1 x2 x3 v31
theorem pjX7_write_78 {d : Nat} {Q : ps_Rs → ps_G → Prop} {g : ps_G} {x0 : Nat} {x1 : Nat} {x2 : Int32} {x3 : Int32} {x4 : Int32} {r : ps_G} (h : jX7_write_78 g x0 x1 x2 x3 x4 = some r) (hk : Q (.inl none) r) : ps_At mX7_write (d + 6) 78 [(0, .ref x0), (1, .ref x1), (2, .int x2), (3, .int x3), (4, .int x4)] [] g Q := by
  unfold jX7_write_78 at h
  refine sX7_write_78 ?_
  replace h := q_be h
  obtain ⟨u28, hv, h⟩ := h
  replace hv := q_ob_e hv
  obtain ⟨_, cu28⟩ := hv
  replace h := q_be h
  obtain ⟨v29, hv, h⟩ := h
  refine ⟨⟨some _, rfl⟩, ⟨_, cu28⟩, ?_⟩
  refine rX7_endChunk hv ?_
  replace h := q_be h
  obtain ⟨u30, hv, h⟩ := h
  replace hv := q_ob_e hv
  obtain ⟨_, cu30⟩ := hv
  replace h := q_b2_e h
  obtain ⟨v31, g32, hv, h⟩ := h
  refine ⟨⟨some _, rfl⟩, ⟨_, cu30⟩, ?_⟩
  refine rX7_beginChunk hv ?_
  replace h := q_be h
  obtain ⟨u33, hv, h⟩ := h
  replace hv := q_ob_e hv
  obtain ⟨_, cu33⟩ := hv
  replace h := q_be h
  obtain ⟨v34, hv, h⟩ := h
  refine ⟨by decide, ⟨some _, rfl⟩, ⟨_, cu33⟩, ?_⟩
  refine rX7_octet hv ?_
  replace h := q_be h
  obtain ⟨u35, hv, h⟩ := h
  replace hv := q_ob_e hv
  obtain ⟨_, cu35⟩ := hv
  replace h := q_be h
  obtain ⟨v36, hv, h⟩ := h
  refine ⟨⟨some _, rfl⟩, ⟨_, cu35⟩, ?_⟩
  refine rX7_octet hv ?_
  exact ps_weak (pjX7_write_103 h hk) ⟨rfl, rfl, rfl, rfl, rfl, trivial⟩
noncomputable def jX7_write_57 (g : ps_G) (x0 : Nat) (x1 : Nat) (x2 : Int32) (x3 : Int32) (x4 : Int32) : Option (ps_G) := Option.bind (q_ob 7 g x0) fun u20 => Option.bind (fX7_octet g x0 (6 : Int32)) fun v21 => Option.bind (q_ob 7 v21 x0) fun u22 => Option.bind (fX7_octet v21 x0 (0 : Int32)) fun v23 => Option.bind (q_ob 7 v23 x0) fun u24 => Option.bind (fX7_octet v23 x0 (0 : Int32)) fun v25 => Option.bind (q_ob 7 v25 x0) fun u26 => Option.bind (fX7_octet v25 x0 (0 : Int32)) fun v27 => jX7_write_78 v27 x0 x1 x2 x3 x4
theorem pjX7_write_57 {d : Nat} {Q : ps_Rs → ps_G → Prop} {g : ps_G} {x0 : Nat} {x1 : Nat} {x2 : Int32} {x3 : Int32} {x4 : Int32} {r : ps_G} (h : jX7_write_57 g x0 x1 x2 x3 x4 = some r) (hk : Q (.inl none) r) : ps_At mX7_write (d + 6) 57 [(0, .ref x0), (1, .ref x1), (2, .int x2), (3, .int x3), (4, .int x4)] [] g Q := by
  unfold jX7_write_57 at h
  refine sX7_write_57 ?_
  replace h := q_be h
  obtain ⟨u20, hv, h⟩ := h
  replace hv := q_ob_e hv
  obtain ⟨_, cu20⟩ := hv
  replace h := q_be h
  obtain ⟨v21, hv, h⟩ := h
  refine ⟨⟨some _, rfl⟩, ⟨_, cu20⟩, ?_⟩
  refine rX7_octet hv ?_
  replace h := q_be h
  obtain ⟨u22, hv, h⟩ := h
  replace hv := q_ob_e hv
  obtain ⟨_, cu22⟩ := hv
  replace h := q_be h
  obtain ⟨v23, hv, h⟩ := h
  refine ⟨⟨some _, rfl⟩, ⟨_, cu22⟩, ?_⟩
  refine rX7_octet hv ?_
  replace h := q_be h
  obtain ⟨u24, hv, h⟩ := h
  replace hv := q_ob_e hv
  obtain ⟨_, cu24⟩ := hv
  replace h := q_be h
  obtain ⟨v25, hv, h⟩ := h
  refine ⟨⟨some _, rfl⟩, ⟨_, cu24⟩, ?_⟩
  refine rX7_octet hv ?_
  replace h := q_be h
  obtain ⟨u26, hv, h⟩ := h
  replace hv := q_ob_e hv
  obtain ⟨_, cu26⟩ := hv
  replace h := q_be h
  obtain ⟨v27, hv, h⟩ := h
  refine ⟨⟨some _, rfl⟩, ⟨_, cu26⟩, ?_⟩
  refine rX7_octet hv ?_
  exact ps_weak (pjX7_write_78 h hk) ⟨rfl, rfl, rfl, rfl, rfl, trivial⟩
noncomputable def fX7_write (g : ps_G) (x0 : Nat) (x1 : Nat) (x2 : Int32) (x3 : Int32) : Option (ps_G) := Option.bind (q_sI 7 1 g x0 (0 : Int32)) fun g1 => Option.bind (q_lp (fun s => bX7_write_8 x0 x1 x2 x3 s.1 s.2) ((0 : Int32), g1)) fun s10 => Option.bind (q_ob 7 s10 x0) fun u11 => q_b2 (fX7_beginChunk s10 x0 (1229472850 : Int32)) fun v12 g13 => Option.bind (q_ob 7 g13 x0) fun u14 => Option.bind (fX7_four g13 x0 x2) fun v15 => Option.bind (q_ob 7 v15 x0) fun u16 => Option.bind (fX7_four v15 x0 x3) fun v17 => Option.bind (q_ob 7 v17 x0) fun u18 => Option.bind (fX7_octet v17 x0 (8 : Int32)) fun v19 => jX7_write_57 v19 x0 x1 x2 x3 v12
theorem rX7_write {d : Nat} {Q : ps_Rs → ps_G → Prop} {g : ps_G} {x0 : Nat} {x1 : Nat} {x2 : Int32} {x3 : Int32} {r : ps_G} (h : fX7_write g x0 x1 x2 x3 = some r) (hk : Q (.inl none) r) : ps_Ok mX7_write (d + 6) [.ref x0, .ref x1, .int x2, .int x3] g Q := by
  unfold fX7_write at h
  refine sX7_write_0 ?_
  replace h := q_be h
  obtain ⟨g1, hv, h⟩ := h
  replace hv := q_sI_e hv
  obtain ⟨_, cg1, dg1, yg1⟩ := hv
  refine ⟨⟨some _, rfl⟩, _, cg1, dg1, rfl, rfl, _, yg1, by decide, ?_⟩
  replace h := q_be h
  obtain ⟨s10, hl, h⟩ := h
  refine ps_weak (q_lp_ok hl (fun s => ps_At mX7_write (d + 6) 8 [(0, .ref x0), (1, .ref x1), (2, .int x2), (3, .int x3), (4, .int s.1)] [] s.2 Q) (fun r => ps_At mX7_write (d + 6) 33 [(0, .ref x0), (1, .ref x1), (2, .int x2), (3, .int x3)] [] r Q) (fun s x hb hh he => pbX7_write_8 hb hh he) ?_) ⟨rfl, rfl, rfl, rfl, rfl, trivial⟩
  refine (?_ : ps_At mX7_write (d + 6) 33 [(0, .ref x0), (1, .ref x1), (2, .int x2), (3, .int x3)] [] s10 Q)
  refine sX7_write_33 ?_
  replace h := q_be h
  obtain ⟨u11, hv, h⟩ := h
  replace hv := q_ob_e hv
  obtain ⟨_, cu11⟩ := hv
  replace h := q_b2_e h
  obtain ⟨v12, g13, hv, h⟩ := h
  refine ⟨⟨some _, rfl⟩, ⟨_, cu11⟩, ?_⟩
  refine rX7_beginChunk hv ?_
  replace h := q_be h
  obtain ⟨u14, hv, h⟩ := h
  replace hv := q_ob_e hv
  obtain ⟨_, cu14⟩ := hv
  replace h := q_be h
  obtain ⟨v15, hv, h⟩ := h
  refine ⟨by decide, ⟨some _, rfl⟩, ⟨_, cu14⟩, ?_⟩
  refine rX7_four hv ?_
  replace h := q_be h
  obtain ⟨u16, hv, h⟩ := h
  replace hv := q_ob_e hv
  obtain ⟨_, cu16⟩ := hv
  replace h := q_be h
  obtain ⟨v17, hv, h⟩ := h
  refine ⟨⟨some _, rfl⟩, ⟨_, cu16⟩, ?_⟩
  refine rX7_four hv ?_
  replace h := q_be h
  obtain ⟨u18, hv, h⟩ := h
  replace hv := q_ob_e hv
  obtain ⟨_, cu18⟩ := hv
  replace h := q_be h
  obtain ⟨v19, hv, h⟩ := h
  refine ⟨⟨some _, rfl⟩, ⟨_, cu18⟩, ?_⟩
  refine rX7_octet hv ?_
  exact ps_weak (pjX7_write_57 h hk) ⟨rfl, rfl, rfl, rfl, rfl, trivial⟩
noncomputable def jX11_made_27 (g : ps_G) (x0 : Nat) (k0 : Option Nat) : Option ((String ⊕ Int32) × ps_G) := Option.bind (q_fR 11 11 g x0) fun v8 => Option.bind (v8) fun a9 => Option.bind (k0) fun a10 => Option.bind (q_fR 11 0 g x0) fun v11 => Option.bind (v11) fun a12 => Option.bind (q_fI 9 0 g a12) fun v13 => Option.bind (q_fR 11 0 g x0) fun v14 => Option.bind (v14) fun a15 => Option.bind (q_fI 9 1 g a15) fun v16 => Option.bind (q_ob 7 g a9) fun u17 => Option.bind (fX7_write g a9 a10 v13 v16) fun v18 => Option.bind (q_fR 11 11 v18 x0) fun v19 => Option.bind (v19) fun a20 => Option.bind (q_fI 7 1 v18 a20) fun v21 => some (.inr v21, v18)
theorem pjX11_made_27 {d : Nat} {Q : ps_Rs → ps_G → Prop} {g : ps_G} {x0 : Nat} {k0 : Option Nat} {r : (String ⊕ Int32) × ps_G} (h : jX11_made_27 g x0 k0 = some r) (hk : Q (q_rI r.1) r.2) : ps_At mX11_made (d + 100) 27 [(0, .ref x0)] [va_rf k0] g Q := by
  unfold jX11_made_27 at h
  refine sX11_made_27 ?_
  replace h := q_be h
  obtain ⟨v8, hv, h⟩ := h
  replace hv := q_fR_e hv
  obtain ⟨_, cv8, dv8⟩ := hv
  replace h := q_be h
  obtain ⟨a9, ea9, h⟩ := h
  subst ea9
  replace h := q_be h
  obtain ⟨a10, ea10, h⟩ := h
  subst ea10
  replace h := q_be h
  obtain ⟨v11, hv, h⟩ := h
  replace hv := q_fR_e hv
  obtain ⟨_, cv11, dv11⟩ := hv
  replace h := q_be h
  obtain ⟨a12, ea12, h⟩ := h
  subst ea12
  replace h := q_be h
  obtain ⟨v13, hv, h⟩ := h
  replace hv := q_fI_e hv
  obtain ⟨_, cv13, dv13⟩ := hv
  replace h := q_be h
  obtain ⟨v14, hv, h⟩ := h
  replace hv := q_fR_e hv
  obtain ⟨_, cv14, dv14⟩ := hv
  replace h := q_be h
  obtain ⟨a15, ea15, h⟩ := h
  subst ea15
  replace h := q_be h
  obtain ⟨v16, hv, h⟩ := h
  replace hv := q_fI_e hv
  obtain ⟨_, cv16, dv16⟩ := hv
  replace h := q_be h
  obtain ⟨u17, hv, h⟩ := h
  replace hv := q_ob_e hv
  obtain ⟨_, cu17⟩ := hv
  replace h := q_be h
  obtain ⟨v18, hv, h⟩ := h
  refine ⟨_, _, rfl, by decide, ⟨some _, rfl⟩, _, _, cv8, dv8, ⟨some _, rfl⟩, ⟨some _, rfl⟩, _, _, cv11, dv11, _, _, cv13, dv13, ⟨some _, rfl⟩, _, _, cv14, dv14, _, _, cv16, dv16, ⟨_, cu17⟩, ?_⟩
  refine rX7_write hv ?_
  replace h := q_be h
  obtain ⟨v19, hv, h⟩ := h
  replace hv := q_fR_e hv
  obtain ⟨_, cv19, dv19⟩ := hv
  replace h := q_be h
  obtain ⟨a20, ea20, h⟩ := h
  subst ea20
  replace h := q_be h
  obtain ⟨v21, hv, h⟩ := h
  replace hv := q_fI_e hv
  obtain ⟨_, cv21, dv21⟩ := hv
  cases h
  exact ⟨⟨some _, rfl⟩, _, _, cv19, dv19, _, _, cv21, dv21, rfl, hk⟩
noncomputable def fX11_made (g : ps_G) (x0 : Nat) (x1 : Int32) : Option ((String ⊕ Int32) × ps_G) := if ¬ x1 = (-1 : Int32) then (Option.bind (q_ob 11 g x0) fun u3 => q_tc (fX11_selectable g x0 x1) fun v4 g5 => Option.bind (v4) fun a6 => Option.bind (q_fR 4 15 g5 a6) fun v7 => jX11_made_27 g5 x0 v7) else (Option.bind (q_fR 11 6 g x0) fun v22 => Option.bind (v22) fun a23 => Option.bind (q_fR 11 0 g x0) fun v24 => Option.bind (v24) fun a25 => Option.bind (q_ob 10 g a23) fun u26 => q_b2 (fX10_seen g a23 a25) fun v27 g28 => jX11_made_27 g28 x0 v27)
theorem rX11_made {d : Nat} {Q : ps_Rs → ps_G → Prop} {g : ps_G} {x0 : Nat} {x1 : Int32} {r : (String ⊕ Int32) × ps_G} (h : fX11_made g x0 x1 = some r) (hk : Q (q_rI r.1) r.2) : ps_Ok mX11_made (d + 100) [.ref x0, .int x1] g Q := by
  unfold fX11_made at h
  refine sX11_made_0 ?_
  refine And.intro (fun hc1 => ?_) (fun hc1 => ?_)
  · replace h := q_ifp (hc1) h
    refine sX11_made_19 ?_
    replace h := q_be h
    obtain ⟨u3, hv, h⟩ := h
    replace hv := q_ob_e hv
    obtain ⟨_, cu3⟩ := hv
    refine ⟨⟨some _, rfl⟩, ⟨_, cu3⟩, ?_⟩
    replace h := q_tc_e h
    rcases h with ⟨E, g5, hv, rfl⟩ | ⟨v4, g5, hv, h⟩
    · exact rX11_selectable hv hk
    refine rX11_selectable hv ?_
    replace h := q_be h
    obtain ⟨a6, ea6, h⟩ := h
    subst ea6
    replace h := q_be h
    obtain ⟨v7, hv, h⟩ := h
    replace hv := q_fR_e hv
    obtain ⟨_, cv7, dv7⟩ := hv
    refine ⟨_, _, cv7, dv7, ?_⟩
    exact ps_weak (pjX11_made_27 h hk) ⟨rfl, trivial⟩
  · replace h := q_ifn (hc1) h
    replace h := q_be h
    obtain ⟨v22, hv, h⟩ := h
    replace hv := q_fR_e hv
    obtain ⟨_, cv22, dv22⟩ := hv
    replace h := q_be h
    obtain ⟨a23, ea23, h⟩ := h
    subst ea23
    replace h := q_be h
    obtain ⟨v24, hv, h⟩ := h
    replace hv := q_fR_e hv
    obtain ⟨_, cv24, dv24⟩ := hv
    replace h := q_be h
    obtain ⟨a25, ea25, h⟩ := h
    subst ea25
    replace h := q_be h
    obtain ⟨u26, hv, h⟩ := h
    replace hv := q_ob_e hv
    obtain ⟨_, cu26⟩ := hv
    replace h := q_b2_e h
    obtain ⟨v27, g28, hv, h⟩ := h
    refine ⟨⟨some _, rfl⟩, _, _, cv22, dv22, ⟨some _, rfl⟩, _, _, cv24, dv24, ⟨_, cu26⟩, ?_⟩
    refine rX10_seen hv ?_
    exact ps_weak (pjX11_made_27 h hk) ⟨rfl, trivial⟩
noncomputable def jX7_eight_51_5 (g : ps_G) (x0 : Nat) (x1 : Int32) (x4 : Int32) (k0 : Int64) (k1 : Int32) : Option ((Int64 × Int32) ⊕ (Int64)) := some (.inl (k0 ||| (Int32.toInt64 k1), x4 + (1 : Int32)))
theorem pjX7_eight_51_5 {d : Nat} {Q : ps_Rs → ps_G → Prop} {g : ps_G} {x0 : Nat} {x1 : Int32} {x4 : Int32} {k0 : Int64} {k1 : Int32} {x : (Int64 × Int32) ⊕ (Int64)} (h : jX7_eight_51_5 g x0 x1 x4 k0 k1 = some x) (hh : ∀ s' : Int64 × Int32, x = .inl s' → ps_At mX7_eight d 5 [(0, .ref x0), (1, .int x1), (2, .long s'.1), (4, .int s'.2)] [] g Q) (he : ∀ r' : Int64, x = .inr r' → ps_At mX7_eight d 60 [(2, .long r')] [] g Q) : ps_At mX7_eight d 51 [(0, .ref x0), (1, .int x1), (4, .int x4)] [.int k1, .long k0] g Q := by
  unfold jX7_eight_51_5 at h
  refine sX7_eight_51 ?_
  refine ⟨by decide, by decide, ?_⟩
  exact ps_weak (hh (k0 ||| (Int32.toInt64 k1), x4 + (1 : Int32)) (Option.some.inj h).symm) ⟨rfl, rfl, rfl, rfl, trivial⟩
noncomputable def jX7_eight_50_5 (g : ps_G) (x0 : Nat) (x1 : Int32) (x4 : Int32) (k0 : Int64) : Option ((Int64 × Int32) ⊕ (Int64)) := jX7_eight_51_5 g x0 x1 x4 k0 (0 : Int32)
theorem pjX7_eight_50_5 {d : Nat} {Q : ps_Rs → ps_G → Prop} {g : ps_G} {x0 : Nat} {x1 : Int32} {x4 : Int32} {k0 : Int64} {x : (Int64 × Int32) ⊕ (Int64)} (h : jX7_eight_50_5 g x0 x1 x4 k0 = some x) (hh : ∀ s' : Int64 × Int32, x = .inl s' → ps_At mX7_eight d 5 [(0, .ref x0), (1, .int x1), (2, .long s'.1), (4, .int s'.2)] [] g Q) (he : ∀ r' : Int64, x = .inr r' → ps_At mX7_eight d 60 [(2, .long r')] [] g Q) : ps_At mX7_eight d 50 [(0, .ref x0), (1, .int x1), (4, .int x4)] [.long k0] g Q := by
  unfold jX7_eight_50_5 at h
  refine sX7_eight_50 ?_
  exact ps_weak (pjX7_eight_51_5 h hh he) ⟨rfl, rfl, rfl, trivial⟩
noncomputable def bX7_eight_5 (g : ps_G) (x0 : Nat) (x1 : Int32) (x2 : Int64) (x4 : Int32) : Option ((Int64 × Int32) ⊕ (Int64)) := if (x1 + (8 : Int32)) ≤ x4 then (some (.inr x2)) else (if x4 < 0 then (jX7_eight_50_5 g x0 x1 x4 (q_lshl x2 (8 : Int32))) else (Option.bind (q_fI 7 1 g x0) fun v4 => if (v4 ≤ x4) ∨ ((3000 : Int32) ≤ x4) then (jX7_eight_50_5 g x0 x1 x4 (q_lshl x2 (8 : Int32))) else (Option.bind (q_fR 7 0 g x0) fun v7 => Option.bind (v7) fun a8 => Option.bind (q_aI g a8 x4) fun v9 => jX7_eight_51_5 g x0 x1 x4 (q_lshl x2 (8 : Int32)) v9)))
theorem pbX7_eight_5 {d : Nat} {Q : ps_Rs → ps_G → Prop} {g : ps_G} {x0 : Nat} {x1 : Int32} {x2 : Int64} {x4 : Int32} {x : (Int64 × Int32) ⊕ (Int64)} (h : bX7_eight_5 g x0 x1 x2 x4 = some x) (hh : ∀ s' : Int64 × Int32, x = .inl s' → ps_At mX7_eight d 5 [(0, .ref x0), (1, .int x1), (2, .long s'.1), (4, .int s'.2)] [] g Q) (he : ∀ r' : Int64, x = .inr r' → ps_At mX7_eight d 60 [(2, .long r')] [] g Q) : ps_At mX7_eight d 5 [(0, .ref x0), (1, .int x1), (2, .long x2), (4, .int x4)] [] g Q := by
  unfold bX7_eight_5 at h
  refine sX7_eight_5 ?_
  refine And.intro (fun hc1 => ?_) (fun hc1 => ?_)
  · replace h := q_ifp (hc1) h
    exact ps_weak (he x2 (Option.some.inj h).symm) ⟨rfl, trivial⟩
  · replace h := q_ifn (hc1) h
    refine And.intro (fun hc3 => ?_) (fun hc3 => ?_)
    · replace h := q_ifp (hc3) h
      exact ps_weak (pjX7_eight_50_5 h hh he) ⟨rfl, rfl, rfl, trivial⟩
    · replace h := q_ifn (hc3) h
      replace h := q_be h
      obtain ⟨v4, hv, h⟩ := h
      replace hv := q_fI_e hv
      obtain ⟨_, cv4, dv4⟩ := hv
      have kT10 : (jX7_eight_50_5 g x0 x1 x4 (q_lshl x2 (8 : Int32))) = some x → ps_At mX7_eight d 50 [(0, .ref x0), (1, .int x1), (4, .int x4)] [.long (q_lshl x2 (8 : Int32))] g Q := fun h => by
        exact ps_weak (pjX7_eight_50_5 h hh he) ⟨rfl, rfl, rfl, trivial⟩
      refine ⟨⟨some _, rfl⟩, _, _, cv4, dv4, ?_⟩
      refine And.intro (fun hc5 => ?_) (fun hc5 => ?_)
      · exact ps_weak (kT10 (q_ifp (Or.inl hc5) h)) ⟨rfl, rfl, rfl, trivial⟩
      · refine And.intro (fun hc6 => ?_) (fun hc6 => ?_)
        · exact ps_weak (kT10 (q_ifp (Or.inr (hc6)) h)) ⟨rfl, rfl, rfl, trivial⟩
        · replace h := q_ifn (not_or.mpr ⟨hc5, hc6⟩) h
          replace h := q_be h
          obtain ⟨v7, hv, h⟩ := h
          replace hv := q_fR_e hv
          obtain ⟨_, cv7, dv7⟩ := hv
          replace h := q_be h
          obtain ⟨a8, ea8, h⟩ := h
          subst ea8
          replace h := q_be h
          obtain ⟨v9, hv, h⟩ := h
          replace hv := q_aI_e hv
          obtain ⟨_, _, cv9, iv9, yv9⟩ := hv
          refine ⟨⟨some _, rfl⟩, _, _, cv7, dv7, _, _, cv9, iv9, _, yv9, ?_⟩
          exact ps_weak (pjX7_eight_51_5 h hh he) ⟨rfl, rfl, rfl, trivial⟩
noncomputable def fX7_eight (g : ps_G) (x0 : Nat) (x1 : Int32) : Option (Int64) := Option.bind (q_lp (fun s => bX7_eight_5 g x0 x1 s.1 s.2) ((0 : Int64), x1)) fun s16 => some s16
theorem rX7_eight {d : Nat} {Q : ps_Rs → ps_G → Prop} {g : ps_G} {x0 : Nat} {x1 : Int32} {r : Int64} (h : fX7_eight g x0 x1 = some r) (hk : Q (.inl (some (.long r))) g) : ps_Ok mX7_eight d [.ref x0, .int x1] g Q := by
  unfold fX7_eight at h
  refine sX7_eight_0 ?_
  refine ⟨by decide, by decide, ?_⟩
  replace h := q_be h
  obtain ⟨s16, hl, h⟩ := h
  refine ps_weak (q_lp_ok hl (fun s => ps_At mX7_eight d 5 [(0, .ref x0), (1, .int x1), (2, .long s.1), (4, .int s.2)] [] g Q) (fun r => ps_At mX7_eight d 60 [(2, .long r)] [] g Q) (fun s x hb hh he => pbX7_eight_5 hb hh he) ?_) ⟨rfl, rfl, rfl, rfl, trivial⟩
  refine (?_ : ps_At mX7_eight d 60 [(2, .long s16)] [] g Q)
  refine sX7_eight_60 ?_
  cases h
  exact ⟨rfl, rfl, hk⟩
noncomputable def jX11_octets_31 (g : ps_G) (k0 : Int64) : Option ((String ⊕ Int64) × ps_G) := some (.inr k0, g)
theorem pjX11_octets_31 {d : Nat} {Q : ps_Rs → ps_G → Prop} {g : ps_G} {k0 : Int64} {r : (String ⊕ Int64) × ps_G} (h : jX11_octets_31 g k0 = some r) (hk : Q (q_rJ r.1) r.2) : ps_At mX11_octets (d + 7) 31 [] [.long k0] g Q := by
  unfold jX11_octets_31 at h
  refine sX11_octets_31 ?_
  cases h
  exact ⟨rfl, rfl, hk⟩
noncomputable def fX11_octets (g : ps_G) (x0 : Nat) (x1 : Int32) : Option ((String ⊕ Int64) × ps_G) := q_tc (fX11_range g x1 (-1 : Int32) (8000 : Int32)) fun v1 g2 => if 0 ≤ x1 then (Option.bind (q_fR 11 11 g2 x0) fun v5 => Option.bind (v5) fun a6 => Option.bind (q_ob 7 g2 a6) fun u7 => Option.bind (fX7_eight g2 a6 x1) fun v8 => jX11_octets_31 g2 v8) else (Option.bind (q_fR 11 11 g2 x0) fun v9 => Option.bind (v9) fun a10 => Option.bind (q_fI 7 1 g2 a10) fun v11 => jX11_octets_31 g2 (Int32.toInt64 v11))
theorem rX11_octets {d : Nat} {Q : ps_Rs → ps_G → Prop} {g : ps_G} {x0 : Nat} {x1 : Int32} {r : (String ⊕ Int64) × ps_G} (h : fX11_octets g x0 x1 = some r) (hk : Q (q_rJ r.1) r.2) : ps_Ok mX11_octets (d + 7) [.ref x0, .int x1] g Q := by
  unfold fX11_octets at h
  refine sX11_octets_0 ?_
  replace h := q_tc_e h
  rcases h with ⟨E, g2, hv, rfl⟩ | ⟨v1, g2, hv, h⟩
  · exact rX11_range hv ⟨rfl, hk⟩
  refine rX11_range hv ?_
  refine And.intro (fun hc3 => ?_) (fun hc3 => ?_)
  · replace h := q_ifp (hc3) h
    refine sX11_octets_23 ?_
    replace h := q_be h
    obtain ⟨v5, hv, h⟩ := h
    replace hv := q_fR_e hv
    obtain ⟨_, cv5, dv5⟩ := hv
    replace h := q_be h
    obtain ⟨a6, ea6, h⟩ := h
    subst ea6
    replace h := q_be h
    obtain ⟨u7, hv, h⟩ := h
    replace hv := q_ob_e hv
    obtain ⟨_, cu7⟩ := hv
    replace h := q_be h
    obtain ⟨v8, hv, h⟩ := h
    refine ⟨⟨some _, rfl⟩, _, _, cv5, dv5, ⟨_, cu7⟩, ?_⟩
    refine rX7_eight hv ?_
    exact ps_weak (pjX11_octets_31 h hk) trivial
  · replace h := q_ifn (hc3) h
    replace h := q_be h
    obtain ⟨v9, hv, h⟩ := h
    replace hv := q_fR_e hv
    obtain ⟨_, cv9, dv9⟩ := hv
    replace h := q_be h
    obtain ⟨a10, ea10, h⟩ := h
    subst ea10
    replace h := q_be h
    obtain ⟨v11, hv, h⟩ := h
    replace hv := q_fI_e hv
    obtain ⟨_, cv11, dv11⟩ := hv
    refine ⟨⟨some _, rfl⟩, _, _, cv9, dv9, _, _, cv11, dv11, ?_⟩
    exact ps_weak (pjX11_octets_31 h hk) trivial
noncomputable def jX11_undo_22 (g : ps_G) (x0 : Nat) (k0 : Option Nat) : Option ((String ⊕ Int32) × ps_G) := if k0 = none then (some (.inl "java/lang/IllegalStateException", ps_nw g 6 ps_e0)) else (Option.bind (q_fI 11 4 g x0) fun v5 => if v5 < (24 : Int32) then (Option.bind (q_fR 11 3 g x0) fun v7 => Option.bind (v7) fun a8 => Option.bind (q_fI 11 4 g x0) fun v9 => Option.bind (q_fR 11 0 g x0) fun v10 => Option.bind (q_wR g a8 v9 v10) fun g11 => Option.bind (q_fI 11 4 g11 x0) fun v12 => Option.bind (q_sI 11 4 g11 x0 (v12 + (1 : Int32))) fun g13 => Option.bind (q_fI 11 2 g13 x0) fun v14 => Option.bind (q_sI 11 2 g13 x0 (v14 - (1 : Int32))) fun g15 => Option.bind (q_sR 11 0 g15 x0 k0) fun g16 => Option.bind (q_fR 11 6 g16 x0) fun v17 => Option.bind (v17) fun a18 => Option.bind (q_ob 10 g16 a18) fun u19 => Option.bind (fX10_forgetAll g16 a18) fun v20 => Option.bind (q_fI 11 2 v20 x0) fun v21 => some (.inr v21, v20)) else (some (.inl "java/lang/IllegalStateException", ps_nw g 6 ps_e0)))
theorem pjX11_undo_22 {d : Nat} {Q : ps_Rs → ps_G → Prop} {g : ps_G} {x0 : Nat} {k0 : Option Nat} {r : (String ⊕ Int32) × ps_G} (h : jX11_undo_22 g x0 k0 = some r) (hk : Q (q_rI r.1) r.2) : ps_At mX11_undo (d + 6) 22 [(0, .ref x0)] [va_rf k0] g Q := by
  unfold jX11_undo_22 at h
  refine sX11_undo_22 ?_
  refine ⟨_, _, rfl, by decide, ⟨_, rfl⟩, _, _, rfl, ?_⟩
  refine And.intro (fun hc4 => ?_) (fun hc4 => ?_)
  · replace h := q_ifp (hc4) h
    cases h
    exact sX11_undo_36 (by decide) hk
  · replace h := q_ifn (hc4) h
    replace h := q_be h
    obtain ⟨v5, hv, h⟩ := h
    replace hv := q_fI_e hv
    obtain ⟨_, cv5, dv5⟩ := hv
    refine ⟨⟨some _, rfl⟩, _, _, cv5, dv5, ?_⟩
    refine And.intro (fun hc6 => ?_) (fun hc6 => ?_)
    · replace h := q_ifp (hc6) h
      refine sX11_undo_46 ?_
      replace h := q_be h
      obtain ⟨v7, hv, h⟩ := h
      replace hv := q_fR_e hv
      obtain ⟨_, cv7, dv7⟩ := hv
      replace h := q_be h
      obtain ⟨a8, ea8, h⟩ := h
      subst ea8
      replace h := q_be h
      obtain ⟨v9, hv, h⟩ := h
      replace hv := q_fI_e hv
      obtain ⟨_, cv9, dv9⟩ := hv
      replace h := q_be h
      obtain ⟨v10, hv, h⟩ := h
      replace hv := q_fR_e hv
      obtain ⟨_, cv10, dv10⟩ := hv
      replace h := q_be h
      obtain ⟨g11, hv, h⟩ := h
      replace hv := q_wR_e hv
      obtain ⟨_, _, _, cg11, ig11, pg11, qg11, yg11⟩ := hv
      replace h := q_be h
      obtain ⟨v12, hv, h⟩ := h
      replace hv := q_fI_e hv
      obtain ⟨_, cv12, dv12⟩ := hv
      replace h := q_be h
      obtain ⟨g13, hv, h⟩ := h
      replace hv := q_sI_e hv
      obtain ⟨_, cg13, dg13, yg13⟩ := hv
      refine ⟨⟨some _, rfl⟩, _, _, cv7, dv7, ⟨some _, rfl⟩, _, _, cv9, dv9, ⟨some _, rfl⟩, _, _, cv10, dv10, _, _, _, _, rfl, _, _, _, cg11, ig11, pg11, qg11, _, yg11, ⟨some _, rfl⟩, rfl, _, _, cv12, dv12, _, cg13, dg13, rfl, rfl, _, yg13, ?_⟩
      replace h := q_be h
      obtain ⟨v14, hv, h⟩ := h
      replace hv := q_fI_e hv
      obtain ⟨_, cv14, dv14⟩ := hv
      replace h := q_be h
      obtain ⟨g15, hv, h⟩ := h
      replace hv := q_sI_e hv
      obtain ⟨_, cg15, dg15, yg15⟩ := hv
      replace h := q_be h
      obtain ⟨g16, hv, h⟩ := h
      replace hv := q_sR_e hv
      obtain ⟨_, cg16, dg16, yg16⟩ := hv
      replace h := q_be h
      obtain ⟨v17, hv, h⟩ := h
      replace hv := q_fR_e hv
      obtain ⟨_, cv17, dv17⟩ := hv
      replace h := q_be h
      obtain ⟨a18, ea18, h⟩ := h
      subst ea18
      replace h := q_be h
      obtain ⟨u19, hv, h⟩ := h
      replace hv := q_ob_e hv
      obtain ⟨_, cu19⟩ := hv
      replace h := q_be h
      obtain ⟨v20, hv, h⟩ := h
      refine ⟨⟨some _, rfl⟩, rfl, _, _, cv14, dv14, _, cg15, dg15, rfl, rfl, _, yg15, ⟨some _, rfl⟩, ⟨_, rfl⟩, _, cg16, dg16, q_nro, q_fto, _, yg16, ⟨some _, rfl⟩, _, _, cv17, dv17, ⟨_, cu19⟩, ?_⟩
      refine rX10_forgetAll hv ?_
      replace h := q_be h
      obtain ⟨v21, hv, h⟩ := h
      replace hv := q_fI_e hv
      obtain ⟨_, cv21, dv21⟩ := hv
      cases h
      exact ⟨⟨some _, rfl⟩, _, _, cv21, dv21, rfl, hk⟩
    · replace h := q_ifn (hc6) h
      cases h
      exact sX11_undo_36 (by decide) hk
noncomputable def fX11_undo (g : ps_G) (x0 : Nat) : Option ((String ⊕ Int32) × ps_G) := Option.bind (q_fI 11 2 g x0) fun v1 => if v1 ≤ 0 then (jX11_undo_22 g x0 none) else (Option.bind (q_fR 11 1 g x0) fun v26 => Option.bind (v26) fun a27 => Option.bind (q_fI 11 2 g x0) fun v28 => Option.bind (q_aR g a27 (v28 - (1 : Int32))) fun v29 => jX11_undo_22 g x0 v29)
theorem rX11_undo {d : Nat} {Q : ps_Rs → ps_G → Prop} {g : ps_G} {x0 : Nat} {r : (String ⊕ Int32) × ps_G} (h : fX11_undo g x0 = some r) (hk : Q (q_rI r.1) r.2) : ps_Ok mX11_undo (d + 6) [.ref x0] g Q := by
  unfold fX11_undo at h
  refine sX11_undo_0 ?_
  replace h := q_be h
  obtain ⟨v1, hv, h⟩ := h
  replace hv := q_fI_e hv
  obtain ⟨_, cv1, dv1⟩ := hv
  refine ⟨⟨some _, rfl⟩, _, _, cv1, dv1, ?_⟩
  refine And.intro (fun hc2 => ?_) (fun hc2 => ?_)
  · replace h := q_ifp (hc2) h
    refine sX11_undo_21 ?_
    exact ps_weak (pjX11_undo_22 h hk) ⟨rfl, trivial⟩
  · replace h := q_ifn (hc2) h
    replace h := q_be h
    obtain ⟨v26, hv, h⟩ := h
    replace hv := q_fR_e hv
    obtain ⟨_, cv26, dv26⟩ := hv
    replace h := q_be h
    obtain ⟨a27, ea27, h⟩ := h
    subst ea27
    replace h := q_be h
    obtain ⟨v28, hv, h⟩ := h
    replace hv := q_fI_e hv
    obtain ⟨_, cv28, dv28⟩ := hv
    replace h := q_be h
    obtain ⟨v29, hv, h⟩ := h
    replace hv := q_aR_e hv
    obtain ⟨_, _, _, cv29, pv29, qv29, iv29, dv29⟩ := hv
    refine ⟨⟨some _, rfl⟩, _, _, cv26, dv26, ⟨some _, rfl⟩, _, _, cv28, dv28, _, _, _, _, cv29, pv29, qv29, iv29, dv29, ?_⟩
    exact ps_weak (pjX11_undo_22 h hk) ⟨rfl, trivial⟩
noncomputable def jX11_redo_22 (g : ps_G) (x0 : Nat) (k0 : Option Nat) : Option ((String ⊕ Int32) × ps_G) := if k0 = none then (some (.inl "java/lang/IllegalStateException", ps_nw g 6 ps_e0)) else (Option.bind (q_fI 11 2 g x0) fun v5 => if v5 < (24 : Int32) then (Option.bind (q_fR 11 1 g x0) fun v7 => Option.bind (v7) fun a8 => Option.bind (q_fI 11 2 g x0) fun v9 => Option.bind (q_fR 11 0 g x0) fun v10 => Option.bind (q_wR g a8 v9 v10) fun g11 => Option.bind (q_fI 11 2 g11 x0) fun v12 => Option.bind (q_sI 11 2 g11 x0 (v12 + (1 : Int32))) fun g13 => Option.bind (q_fI 11 4 g13 x0) fun v14 => Option.bind (q_sI 11 4 g13 x0 (v14 - (1 : Int32))) fun g15 => Option.bind (q_sR 11 0 g15 x0 k0) fun g16 => Option.bind (q_fR 11 6 g16 x0) fun v17 => Option.bind (v17) fun a18 => Option.bind (q_ob 10 g16 a18) fun u19 => Option.bind (fX10_forgetAll g16 a18) fun v20 => Option.bind (q_fI 11 2 v20 x0) fun v21 => some (.inr v21, v20)) else (some (.inl "java/lang/IllegalStateException", ps_nw g 6 ps_e0)))
theorem pjX11_redo_22 {d : Nat} {Q : ps_Rs → ps_G → Prop} {g : ps_G} {x0 : Nat} {k0 : Option Nat} {r : (String ⊕ Int32) × ps_G} (h : jX11_redo_22 g x0 k0 = some r) (hk : Q (q_rI r.1) r.2) : ps_At mX11_redo (d + 6) 22 [(0, .ref x0)] [va_rf k0] g Q := by
  unfold jX11_redo_22 at h
  refine sX11_redo_22 ?_
  refine ⟨_, _, rfl, by decide, ⟨_, rfl⟩, _, _, rfl, ?_⟩
  refine And.intro (fun hc4 => ?_) (fun hc4 => ?_)
  · replace h := q_ifp (hc4) h
    cases h
    exact sX11_redo_36 (by decide) hk
  · replace h := q_ifn (hc4) h
    replace h := q_be h
    obtain ⟨v5, hv, h⟩ := h
    replace hv := q_fI_e hv
    obtain ⟨_, cv5, dv5⟩ := hv
    refine ⟨⟨some _, rfl⟩, _, _, cv5, dv5, ?_⟩
    refine And.intro (fun hc6 => ?_) (fun hc6 => ?_)
    · replace h := q_ifp (hc6) h
      refine sX11_redo_46 ?_
      replace h := q_be h
      obtain ⟨v7, hv, h⟩ := h
      replace hv := q_fR_e hv
      obtain ⟨_, cv7, dv7⟩ := hv
      replace h := q_be h
      obtain ⟨a8, ea8, h⟩ := h
      subst ea8
      replace h := q_be h
      obtain ⟨v9, hv, h⟩ := h
      replace hv := q_fI_e hv
      obtain ⟨_, cv9, dv9⟩ := hv
      replace h := q_be h
      obtain ⟨v10, hv, h⟩ := h
      replace hv := q_fR_e hv
      obtain ⟨_, cv10, dv10⟩ := hv
      replace h := q_be h
      obtain ⟨g11, hv, h⟩ := h
      replace hv := q_wR_e hv
      obtain ⟨_, _, _, cg11, ig11, pg11, qg11, yg11⟩ := hv
      replace h := q_be h
      obtain ⟨v12, hv, h⟩ := h
      replace hv := q_fI_e hv
      obtain ⟨_, cv12, dv12⟩ := hv
      replace h := q_be h
      obtain ⟨g13, hv, h⟩ := h
      replace hv := q_sI_e hv
      obtain ⟨_, cg13, dg13, yg13⟩ := hv
      refine ⟨⟨some _, rfl⟩, _, _, cv7, dv7, ⟨some _, rfl⟩, _, _, cv9, dv9, ⟨some _, rfl⟩, _, _, cv10, dv10, _, _, _, _, rfl, _, _, _, cg11, ig11, pg11, qg11, _, yg11, ⟨some _, rfl⟩, rfl, _, _, cv12, dv12, _, cg13, dg13, rfl, rfl, _, yg13, ?_⟩
      replace h := q_be h
      obtain ⟨v14, hv, h⟩ := h
      replace hv := q_fI_e hv
      obtain ⟨_, cv14, dv14⟩ := hv
      replace h := q_be h
      obtain ⟨g15, hv, h⟩ := h
      replace hv := q_sI_e hv
      obtain ⟨_, cg15, dg15, yg15⟩ := hv
      replace h := q_be h
      obtain ⟨g16, hv, h⟩ := h
      replace hv := q_sR_e hv
      obtain ⟨_, cg16, dg16, yg16⟩ := hv
      replace h := q_be h
      obtain ⟨v17, hv, h⟩ := h
      replace hv := q_fR_e hv
      obtain ⟨_, cv17, dv17⟩ := hv
      replace h := q_be h
      obtain ⟨a18, ea18, h⟩ := h
      subst ea18
      replace h := q_be h
      obtain ⟨u19, hv, h⟩ := h
      replace hv := q_ob_e hv
      obtain ⟨_, cu19⟩ := hv
      replace h := q_be h
      obtain ⟨v20, hv, h⟩ := h
      refine ⟨⟨some _, rfl⟩, rfl, _, _, cv14, dv14, _, cg15, dg15, rfl, rfl, _, yg15, ⟨some _, rfl⟩, ⟨_, rfl⟩, _, cg16, dg16, q_nro, q_fto, _, yg16, ⟨some _, rfl⟩, _, _, cv17, dv17, ⟨_, cu19⟩, ?_⟩
      refine rX10_forgetAll hv ?_
      replace h := q_be h
      obtain ⟨v21, hv, h⟩ := h
      replace hv := q_fI_e hv
      obtain ⟨_, cv21, dv21⟩ := hv
      cases h
      exact ⟨⟨some _, rfl⟩, _, _, cv21, dv21, rfl, hk⟩
    · replace h := q_ifn (hc6) h
      cases h
      exact sX11_redo_36 (by decide) hk
noncomputable def fX11_redo (g : ps_G) (x0 : Nat) : Option ((String ⊕ Int32) × ps_G) := Option.bind (q_fI 11 4 g x0) fun v1 => if v1 ≤ 0 then (jX11_redo_22 g x0 none) else (Option.bind (q_fR 11 3 g x0) fun v26 => Option.bind (v26) fun a27 => Option.bind (q_fI 11 4 g x0) fun v28 => Option.bind (q_aR g a27 (v28 - (1 : Int32))) fun v29 => jX11_redo_22 g x0 v29)
theorem rX11_redo {d : Nat} {Q : ps_Rs → ps_G → Prop} {g : ps_G} {x0 : Nat} {r : (String ⊕ Int32) × ps_G} (h : fX11_redo g x0 = some r) (hk : Q (q_rI r.1) r.2) : ps_Ok mX11_redo (d + 6) [.ref x0] g Q := by
  unfold fX11_redo at h
  refine sX11_redo_0 ?_
  replace h := q_be h
  obtain ⟨v1, hv, h⟩ := h
  replace hv := q_fI_e hv
  obtain ⟨_, cv1, dv1⟩ := hv
  refine ⟨⟨some _, rfl⟩, _, _, cv1, dv1, ?_⟩
  refine And.intro (fun hc2 => ?_) (fun hc2 => ?_)
  · replace h := q_ifp (hc2) h
    refine sX11_redo_21 ?_
    exact ps_weak (pjX11_redo_22 h hk) ⟨rfl, trivial⟩
  · replace h := q_ifn (hc2) h
    replace h := q_be h
    obtain ⟨v26, hv, h⟩ := h
    replace hv := q_fR_e hv
    obtain ⟨_, cv26, dv26⟩ := hv
    replace h := q_be h
    obtain ⟨a27, ea27, h⟩ := h
    subst ea27
    replace h := q_be h
    obtain ⟨v28, hv, h⟩ := h
    replace hv := q_fI_e hv
    obtain ⟨_, cv28, dv28⟩ := hv
    replace h := q_be h
    obtain ⟨v29, hv, h⟩ := h
    replace hv := q_aR_e hv
    obtain ⟨_, _, _, cv29, pv29, qv29, iv29, dv29⟩ := hv
    refine ⟨⟨some _, rfl⟩, _, _, cv26, dv26, ⟨some _, rfl⟩, _, _, cv28, dv28, _, _, _, _, cv29, pv29, qv29, iv29, dv29, ?_⟩
    exact ps_weak (pjX11_redo_22 h hk) ⟨rfl, trivial⟩
