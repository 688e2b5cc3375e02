def fX11_mixColours (x0 : Int32) (x1 : Int32) (x2 : Int32) : Int32 := fX11_pack (fX11_mix (q_ush x0 (24 : Int32)) (q_ush x1 (24 : Int32)) x2) (fX11_mix (fX11_red x0) (fX11_red x1) x2) (fX11_mix (fX11_green x0) (fX11_green x1) x2) (fX11_mix (fX11_blue x0) (fX11_blue x1) x2)
theorem rX11_mixColours {d : Nat} {Q : ps_Rs → ps_G → Prop} {g : ps_G} {x0 : Int32} {x1 : Int32} {x2 : Int32} {r : Int32} (h : fX11_mixColours x0 x1 x2 = r) (hk : Q (.inl (some (.int r))) g) : ps_Ok mX11_mixColours (d + 1) [.int x0, .int x1, .int x2] g Q := by
  unfold fX11_mixColours at h
  refine sX11_mixColours_0 ?_
  refine rX11_mix rfl ?_
  refine rX11_red rfl ?_
  refine rX11_red rfl ?_
  refine rX11_mix rfl ?_
  refine sX11_mixColours_24 ?_
  refine rX11_green rfl ?_
  refine rX11_green rfl ?_
  refine rX11_mix rfl ?_
  refine rX11_blue rfl ?_
  refine sX11_mixColours_40 ?_
  refine rX11_blue rfl ?_
  refine rX11_mix rfl ?_
  refine rX11_pack rfl ?_
  subst h
  exact ⟨rfl, hk⟩
noncomputable def bX10_adjust_62 (x0 : Nat) (x2 : Nat) (x3 : Int32) (x4 : Option Nat) (x5 : Int32) (x6 : Int32) (g : ps_G) : Option ((Int32 × ps_G) ⊕ (ps_G)) := if x5 ≤ x6 then (some (.inr g)) else (Option.bind (q_fR 10 3 g x0) fun v10 => Option.bind (v10) fun a11 => Option.bind (q_fR 10 0 g x0) fun v12 => Option.bind (v12) fun a13 => Option.bind (q_fI 4 9 g x2) fun v14 => Option.bind (x4) fun a15 => Option.bind (q_aI g a15 x6) fun v16 => Option.bind (q_ob 5 g a13) fun u17 => Option.bind (fX5_byCurve g a13 v14 v16) fun v18 => Option.bind (q_wI g a11 x6 v18) fun g19 => some (.inl (x6 + (1 : Int32), g19)))
theorem pbX10_adjust_62 {d : Nat} {Q : ps_Rs → ps_G → Prop}  {x0 : Nat} {x2 : Nat} {x3 : Int32} {x4 : Option Nat} {x5 : Int32} {x6 : Int32} {g : ps_G} {x : (Int32 × ps_G) ⊕ (ps_G)} (h : bX10_adjust_62 x0 x2 x3 x4 x5 x6 g = some x) (hh : ∀ s' : Int32 × ps_G, x = .inl s' → ps_At mX10_adjust (d + 3) 62 [(0, .ref x0), (2, .ref x2), (3, .int x3), (4, va_rf x4), (5, .int x5), (6, .int s'.1)] [] s'.2 Q) (he : ∀ r' : ps_G, x = .inr r' → ps_At mX10_adjust (d + 3) 98 [(0, .ref x0), (2, .ref x2), (3, .int x3), (4, va_rf x4), (5, .int x5)] [] r' Q) : ps_At mX10_adjust (d + 3) 62 [(0, .ref x0), (2, .ref x2), (3, .int x3), (4, va_rf x4), (5, .int x5), (6, .int x6)] [] g Q := by
  unfold bX10_adjust_62 at h
  refine sX10_adjust_62 ?_
  refine And.intro (fun hc8 => ?_) (fun hc8 => ?_)
  · replace h := q_ifp (hc8) h
    exact ps_weak (he g (Option.some.inj h).symm) ⟨(by first | rfl | (cases x4 <;> rfl)), (by first | rfl | (cases x4 <;> rfl)), (by first | rfl | (cases x4 <;> rfl)), (by first | rfl | (cases x4 <;> rfl)), (by first | rfl | (cases x4 <;> rfl)), trivial⟩
  · replace h := q_ifn (hc8) h
    replace h := q_be h
    obtain ⟨v10, hv, h⟩ := h
    replace hv := q_fR_e hv
    obtain ⟨_, cv10, dv10⟩ := hv
    replace h := q_be h
    obtain ⟨a11, ea11, h⟩ := h
    subst ea11
    replace h := q_be h
    obtain ⟨v12, hv, h⟩ := h
    replace hv := q_fR_e hv
    obtain ⟨_, cv12, dv12⟩ := hv
    replace h := q_be h
    obtain ⟨a13, ea13, h⟩ := h
    subst ea13
    replace h := q_be h
    obtain ⟨v14, hv, h⟩ := h
    replace hv := q_fI_e hv
    obtain ⟨_, cv14, dv14⟩ := hv
    replace h := q_be h
    obtain ⟨a15, ea15, h⟩ := h
    subst ea15
    replace h := q_be h
    obtain ⟨v16, hv, h⟩ := h
    replace hv := q_aI_e hv
    obtain ⟨_, _, cv16, iv16, yv16⟩ := hv
    replace h := q_be h
    obtain ⟨u17, hv, h⟩ := h
    replace hv := q_ob_e hv
    obtain ⟨_, cu17⟩ := hv
    replace h := q_be h
    obtain ⟨v18, hv, h⟩ := h
    refine ⟨⟨some _, rfl⟩, _, _, cv10, dv10, ⟨some _, rfl⟩, _, _, cv12, dv12, ⟨some _, rfl⟩, _, _, cv14, dv14, ⟨some _, rfl⟩, _, _, cv16, iv16, _, yv16, ⟨_, cu17⟩, ?_⟩
    refine rX5_byCurve hv ?_
    replace h := q_be h
    obtain ⟨g19, hv, h⟩ := h
    replace hv := q_wI_e hv
    obtain ⟨_, _, cg19, pg19, ig19, yg19⟩ := hv
    refine ⟨_, _, cg19, pg19, ig19, _, yg19, by decide, ?_⟩
    exact ps_weak (hh (x6 + (1 : Int32), g19) (Option.some.inj h).symm) ⟨rfl, rfl, rfl, rfl, rfl, rfl, trivial⟩
noncomputable def jX10_adjust_143_101 (g : ps_G) (x0 : Nat) (x2 : Nat) (x3 : Int32) (x4 : Option Nat) (x5 : Int32) (x6 : Int32) (k0 : Int32) (k1 : Int32) : Option ((Int32 × ps_G) ⊕ (ps_G)) := Option.bind (x4) fun a31 => Option.bind (q_aI g a31 x6) fun v32 => Option.bind (q_fR 10 3 g x0) fun v33 => Option.bind (v33) fun a34 => Option.bind (q_aI g a34 x6) fun v35 => Option.bind (q_wI g a31 x6 (fX11_mixColours v32 v35 (fX11_mul k0 k1))) fun g36 => some (.inl (x6 + (1 : Int32), g36))
theorem pjX10_adjust_143_101 {d : Nat} {Q : ps_Rs → ps_G → Prop} {g : ps_G} {x0 : Nat} {x2 : Nat} {x3 : Int32} {x4 : Option Nat} {x5 : Int32} {x6 : Int32} {k0 : Int32} {k1 : Int32} {x : (Int32 × ps_G) ⊕ (ps_G)} (h : jX10_adjust_143_101 g x0 x2 x3 x4 x5 x6 k0 k1 = some x) (hh : ∀ s' : Int32 × ps_G, x = .inl s' → ps_At mX10_adjust (d + 3) 101 [(0, .ref x0), (2, .ref x2), (3, .int x3), (4, va_rf x4), (5, .int x5), (6, .int s'.1)] [] s'.2 Q) (he : ∀ r' : ps_G, x = .inr r' → ps_At mX10_adjust (d + 3) 176 [] [] r' Q) : ps_At mX10_adjust (d + 3) 143 [(0, .ref x0), (2, .ref x2), (3, .int x3), (4, va_rf x4), (5, .int x5), (6, .int x6)] [.int k1, .int k0] g Q := by
  unfold jX10_adjust_143_101 at h
  refine sX10_adjust_143 ?_
  refine rX11_mul rfl ?_
  replace h := q_be h
  obtain ⟨a31, ea31, h⟩ := h
  subst ea31
  replace h := q_be h
  obtain ⟨v32, hv, h⟩ := h
  replace hv := q_aI_e hv
  obtain ⟨_, _, cv32, iv32, yv32⟩ := hv
  replace h := q_be h
  obtain ⟨v33, hv, h⟩ := h
  replace hv := q_fR_e hv
  obtain ⟨_, cv33, dv33⟩ := hv
  replace h := q_be h
  obtain ⟨a34, ea34, h⟩ := h
  subst ea34
  replace h := q_be h
  obtain ⟨v35, hv, h⟩ := h
  replace hv := q_aI_e hv
  obtain ⟨_, _, cv35, iv35, yv35⟩ := hv
  refine ⟨by decide, ⟨some _, rfl⟩, ⟨some _, rfl⟩, _, _, cv32, iv32, _, yv32, ⟨some _, rfl⟩, _, _, cv33, dv33, _, _, cv35, iv35, _, yv35, ?_⟩
  refine rX11_mixColours rfl ?_
  replace h := q_be h
  obtain ⟨g36, hv, h⟩ := h
  replace hv := q_wI_e hv
  obtain ⟨_, _, cg36, pg36, ig36, yg36⟩ := hv
  refine ⟨_, _, cg36, pg36, ig36, _, yg36, by decide, ?_⟩
  exact ps_weak (hh (x6 + (1 : Int32), g36) (Option.some.inj h).symm) ⟨rfl, rfl, rfl, rfl, rfl, rfl, trivial⟩
noncomputable def bX10_adjust_101 (x0 : Nat) (x2 : Nat) (x3 : Int32) (x4 : Option Nat) (x5 : Int32) (x6 : Int32) (g : ps_G) : Option ((Int32 × ps_G) ⊕ (ps_G)) := if x5 ≤ x6 then (some (.inr g)) else (Option.bind (q_fI 4 3 g x2) fun v25 => Option.bind (q_ob 4 g x2) fun u26 => Option.bind (fX4_maskAt g x2 x6) fun v27 => Option.bind (q_fI 4 6 g x2) fun v28 => if v28 = 0 then (jX10_adjust_143_101 g x0 x2 x3 x4 x5 x6 (fX11_mul v25 v27) (255 : Int32)) else (Option.bind (q_fR 10 2 g x0) fun v37 => Option.bind (v37) fun a38 => Option.bind (q_aR g a38 x3) fun v39 => Option.bind (v39) fun a40 => Option.bind (q_aI g a40 x6) fun v41 => jX10_adjust_143_101 g x0 x2 x3 x4 x5 x6 (fX11_mul v25 v27) v41))
theorem pbX10_adjust_101 {d : Nat} {Q : ps_Rs → ps_G → Prop}  {x0 : Nat} {x2 : Nat} {x3 : Int32} {x4 : Option Nat} {x5 : Int32} {x6 : Int32} {g : ps_G} {x : (Int32 × ps_G) ⊕ (ps_G)} (h : bX10_adjust_101 x0 x2 x3 x4 x5 x6 g = some x) (hh : ∀ s' : Int32 × ps_G, x = .inl s' → ps_At mX10_adjust (d + 3) 101 [(0, .ref x0), (2, .ref x2), (3, .int x3), (4, va_rf x4), (5, .int x5), (6, .int s'.1)] [] s'.2 Q) (he : ∀ r' : ps_G, x = .inr r' → ps_At mX10_adjust (d + 3) 176 [] [] r' Q) : ps_At mX10_adjust (d + 3) 101 [(0, .ref x0), (2, .ref x2), (3, .int x3), (4, va_rf x4), (5, .int x5), (6, .int x6)] [] g Q := by
  unfold bX10_adjust_101 at h
  refine sX10_adjust_101 ?_
  refine And.intro (fun hc23 => ?_) (fun hc23 => ?_)
  · replace h := q_ifp (hc23) h
    exact ps_weak (he g (Option.some.inj h).symm) trivial
  · replace h := q_ifn (hc23) h
    replace h := q_be h
    obtain ⟨v25, hv, h⟩ := h
    replace hv := q_fI_e hv
    obtain ⟨_, cv25, dv25⟩ := hv
    replace h := q_be h
    obtain ⟨u26, hv, h⟩ := h
    replace hv := q_ob_e hv
    obtain ⟨_, cu26⟩ := hv
    replace h := q_be h
    obtain ⟨v27, hv, h⟩ := h
    refine ⟨⟨some _, rfl⟩, _, _, cv25, dv25, ⟨some _, rfl⟩, ⟨_, cu26⟩, ?_⟩
    refine rX4_maskAt hv ?_
    refine rX11_mul rfl ?_
    replace h := q_be h
    obtain ⟨v28, hv, h⟩ := h
    replace hv := q_fI_e hv
    obtain ⟨_, cv28, dv28⟩ := hv
    refine ⟨⟨some _, rfl⟩, _, _, cv28, dv28, ?_⟩
    refine And.intro (fun hc29 => ?_) (fun hc29 => ?_)
    · replace h := q_ifp (hc29) h
      refine sX10_adjust_140 ?_
      exact ps_weak (pjX10_adjust_143_101 h hh he) ⟨(by first | rfl | (cases x4 <;> rfl)), (by first | rfl | (cases x4 <;> rfl)), (by first | rfl | (cases x4 <;> rfl)), (by first | rfl | (cases x4 <;> rfl)), (by first | rfl | (cases x4 <;> rfl)), (by first | rfl | (cases x4 <;> rfl)), trivial⟩
    · replace h := q_ifn (hc29) h
      replace h := q_be h
      obtain ⟨v37, hv, h⟩ := h
      replace hv := q_fR_e hv
      obtain ⟨_, cv37, dv37⟩ := hv
      replace h := q_be h
      obtain ⟨a38, ea38, h⟩ := h
      subst ea38
      replace h := q_be h
      obtain ⟨v39, hv, h⟩ := h
      replace hv := q_aR_e hv
      obtain ⟨_, _, _, cv39, pv39, qv39, iv39, dv39⟩ := hv
      replace h := q_be h
      obtain ⟨a40, ea40, h⟩ := h
      subst ea40
      replace h := q_be h
      obtain ⟨v41, hv, h⟩ := h
      replace hv := q_aI_e hv
      obtain ⟨_, _, cv41, iv41, yv41⟩ := hv
      refine ⟨⟨some _, rfl⟩, _, _, cv37, dv37, _, _, _, _, cv39, pv39, qv39, iv39, dv39, _, _, cv41, iv41, _, yv41, ?_⟩
      exact ps_weak (pjX10_adjust_143_101 h hh he) ⟨(by first | rfl | (cases x4 <;> rfl)), (by first | rfl | (cases x4 <;> rfl)), (by first | rfl | (cases x4 <;> rfl)), (by first | rfl | (cases x4 <;> rfl)), (by first | rfl | (cases x4 <;> rfl)), (by first | rfl | (cases x4 <;> rfl)), trivial⟩
noncomputable def jX10_adjust_98 (g : ps_G) (x0 : Nat) (x2 : Nat) (x3 : Int32) (x4 : Option Nat) (x5 : Int32) : Option (ps_G) := Option.bind (q_lp (fun s => bX10_adjust_101 x0 x2 x3 x4 x5 s.1 s.2) ((0 : Int32), g)) fun s46 => some s46
theorem pjX10_adjust_98 {d : Nat} {Q : ps_Rs → ps_G → Prop} {g : ps_G} {x0 : Nat} {x2 : Nat} {x3 : Int32} {x4 : Option Nat} {x5 : Int32} {r : ps_G} (h : jX10_adjust_98 g x0 x2 x3 x4 x5 = some r) (hk : Q (.inl none) r) : ps_At mX10_adjust (d + 3) 98 [(0, .ref x0), (2, .ref x2), (3, .int x3), (4, va_rf x4), (5, .int x5)] [] g Q := by
  unfold jX10_adjust_98 at h
  refine sX10_adjust_98 ?_
  refine ⟨by decide, ?_⟩
  replace h := q_be h
  obtain ⟨s46, hl, h⟩ := h
  refine ps_weak (q_lp_ok hl (fun s => ps_At mX10_adjust (d + 3) 101 [(0, .ref x0), (2, .ref x2), (3, .int x3), (4, va_rf x4), (5, .int x5), (6, .int s.1)] [] s.2 Q) (fun r => ps_At mX10_adjust (d + 3) 176 [] [] r Q) (fun s x hb hh he => pbX10_adjust_101 hb hh he) ?_) ⟨(by first | rfl | (cases x4 <;> rfl)), (by first | rfl | (cases x4 <;> rfl)), (by first | rfl | (cases x4 <;> rfl)), (by first | rfl | (cases x4 <;> rfl)), (by first | rfl | (cases x4 <;> rfl)), (by first | rfl | (cases x4 <;> rfl)), trivial⟩
  refine (?_ : ps_At mX10_adjust (d + 3) 176 [] [] s46 Q)
  refine sX10_adjust_176 ?_
  cases h
  exact ⟨rfl, rfl, hk⟩
noncomputable def jX10_adjust_19 (g : ps_G) (x0 : Nat) (x1 : Nat) (x2 : Nat) (x3 : Int32) (x4 : Option Nat) (x5 : Int32) : Option (ps_G) := Option.bind (q_fI 4 1 g x2) fun v6 => if ¬ v6 = (5 : Int32) then (Option.bind (q_lp (fun s => bX10_adjust_62 x0 x2 x3 x4 x5 s.1 s.2) ((0 : Int32), g)) fun s22 => jX10_adjust_98 s22 x0 x2 x3 x4 x5) else (Option.bind (q_fR 10 0 g x0) fun v47 => Option.bind (v47) fun a48 => Option.bind (q_fI 4 9 g x2) fun v49 => Option.bind (q_fI 4 10 g x2) fun v50 => Option.bind (x4) fun a51 => Option.bind (q_fR 10 3 g x0) fun v52 => Option.bind (v52) fun a53 => Option.bind (q_fI 9 0 g x1) fun v54 => Option.bind (q_fI 9 1 g x1) fun v55 => Option.bind (q_ob 5 g a48) fun u56 => Option.bind (fX5_apply g a48 v49 v50 a51 a53 v54 v55) fun v57 => jX10_adjust_98 v57 x0 x2 x3 (some a51) x5)
theorem pjX10_adjust_19 {d : Nat} {Q : ps_Rs → ps_G → Prop} {g : ps_G} {x0 : Nat} {x1 : Nat} {x2 : Nat} {x3 : Int32} {x4 : Option Nat} {x5 : Int32} {r : ps_G} (h : jX10_adjust_19 g x0 x1 x2 x3 x4 x5 = some r) (hk : Q (.inl none) r) : ps_At mX10_adjust (d + 3) 19 [(0, .ref x0), (1, .ref x1), (2, .ref x2), (3, .int x3), (4, va_rf x4), (5, .int x5)] [] g Q := by
  unfold jX10_adjust_19 at h
  refine sX10_adjust_19 ?_
  replace h := q_be h
  obtain ⟨v6, hv, h⟩ := h
  replace hv := q_fI_e hv
  obtain ⟨_, cv6, dv6⟩ := hv
  refine ⟨⟨some _, rfl⟩, _, _, cv6, dv6, ?_⟩
  refine And.intro (fun hc7 => ?_) (fun hc7 => ?_)
  · replace h := q_ifp (hc7) h
    refine sX10_adjust_59 ?_
    refine ⟨by decide, ?_⟩
    replace h := q_be h
    obtain ⟨s22, hl, h⟩ := h
    refine ps_weak (q_lp_ok hl (fun s => ps_At mX10_adjust (d + 3) 62 [(0, .ref x0), (2, .ref x2), (3, .int x3), (4, va_rf x4), (5, .int x5), (6, .int s.1)] [] s.2 Q) (fun r => ps_At mX10_adjust (d + 3) 98 [(0, .ref x0), (2, .ref x2), (3, .int x3), (4, va_rf x4), (5, .int x5)] [] r Q) (fun s x hb hh he => pbX10_adjust_62 hb hh he) ?_) ⟨(by first | rfl | (cases x4 <;> rfl)), (by first | rfl | (cases x4 <;> rfl)), (by first | rfl | (cases x4 <;> rfl)), (by first | rfl | (cases x4 <;> rfl)), (by first | rfl | (cases x4 <;> rfl)), (by first | rfl | (cases x4 <;> rfl)), trivial⟩
    refine (?_ : ps_At mX10_adjust (d + 3) 98 [(0, .ref x0), (2, .ref x2), (3, .int x3), (4, va_rf x4), (5, .int x5)] [] s22 Q)
    exact ps_weak (pjX10_adjust_98 h hk) ⟨(by first | rfl | (cases x4 <;> rfl)), (by first | rfl | (cases x4 <;> rfl)), (by first | rfl | (cases x4 <;> rfl)), (by first | rfl | (cases x4 <;> rfl)), (by first | rfl | (cases x4 <;> rfl)), trivial⟩
  · replace h := q_ifn (hc7) h
    replace h := q_be h
    obtain ⟨v47, hv, h⟩ := h
    replace hv := q_fR_e hv
    obtain ⟨_, cv47, dv47⟩ := hv
    replace h := q_be h
    obtain ⟨a48, ea48, h⟩ := h
    subst ea48
    replace h := q_be h
    obtain ⟨v49, hv, h⟩ := h
    replace hv := q_fI_e hv
    obtain ⟨_, cv49, dv49⟩ := hv
    replace h := q_be h
    obtain ⟨v50, hv, h⟩ := h
    replace hv := q_fI_e hv
    obtain ⟨_, cv50, dv50⟩ := hv
    replace h := q_be h
    obtain ⟨a51, ea51, h⟩ := h
    subst ea51
    replace h := q_be h
    obtain ⟨v52, hv, h⟩ := h
    replace hv := q_fR_e hv
    obtain ⟨_, cv52, dv52⟩ := hv
    replace h := q_be h
    obtain ⟨a53, ea53, h⟩ := h
    subst ea53
    replace h := q_be h
    obtain ⟨v54, hv, h⟩ := h
    replace hv := q_fI_e hv
    obtain ⟨_, cv54, dv54⟩ := hv
    replace h := q_be h
    obtain ⟨v55, hv, h⟩ := h
    replace hv := q_fI_e hv
    obtain ⟨_, cv55, dv55⟩ := hv
    replace h := q_be h
    obtain ⟨u56, hv, h⟩ := h
    replace hv := q_ob_e hv
    obtain ⟨_, cu56⟩ := hv
    replace h := q_be h
    obtain ⟨v57, hv, h⟩ := h
    refine ⟨⟨some _, rfl⟩, _, _, cv47, dv47, ⟨some _, rfl⟩, _, _, cv49, dv49, ⟨some _, rfl⟩, _, _, cv50, dv50, ⟨some _, rfl⟩, ⟨some _, rfl⟩, _, _, cv52, dv52, ⟨some _, rfl⟩, _, _, cv54, dv54, ⟨some _, rfl⟩, _, _, cv55, dv55, ⟨_, cu56⟩, ?_⟩
    refine rX5_apply hv ?_
    exact ps_weak (pjX10_adjust_98 h hk) ⟨rfl, rfl, rfl, rfl, rfl, trivial⟩
noncomputable def fX10_adjust (g : ps_G) (x0 : Nat) (x1 : Nat) (x2 : Nat) (x3 : Int32) : Option (ps_G) := Option.bind (q_fR 10 1 g x0) fun v1 => Option.bind (v1) fun a2 => Option.bind (q_aR g a2 x3) fun v3 => Option.bind (q_fI 9 0 g x1) fun v4 => Option.bind (q_fI 9 1 g x1) fun v5 => jX10_adjust_19 g x0 x1 x2 x3 v3 (v4 * v5)
theorem rX10_adjust {d : Nat} {Q : ps_Rs → ps_G → Prop} {g : ps_G} {x0 : Nat} {x1 : Nat} {x2 : Nat} {x3 : Int32} {r : ps_G} (h : fX10_adjust g x0 x1 x2 x3 = some r) (hk : Q (.inl none) r) : ps_Ok mX10_adjust (d + 3) [.ref x0, .ref x1, .ref x2, .int x3] g Q := by
  unfold fX10_adjust at h
  refine sX10_adjust_0 ?_
  replace h := q_be h
  obtain ⟨v1, hv, h⟩ := h
  replace hv := q_fR_e hv
  obtain ⟨_, cv1, dv1⟩ := hv
  replace h := q_be h
  obtain ⟨a2, ea2, h⟩ := h
  subst ea2
  replace h := q_be h
  obtain ⟨v3, hv, h⟩ := h
  replace hv := q_aR_e hv
  obtain ⟨_, _, _, cv3, pv3, qv3, iv3, dv3⟩ := hv
  replace h := q_be h
  obtain ⟨v4, hv, h⟩ := h
  replace hv := q_fI_e hv
  obtain ⟨_, cv4, dv4⟩ := hv
  replace h := q_be h
  obtain ⟨v5, hv, h⟩ := h
  replace hv := q_fI_e hv
  obtain ⟨_, cv5, dv5⟩ := hv
  refine ⟨⟨some _, rfl⟩, _, _, cv1, dv1, _, _, _, _, cv3, pv3, qv3, iv3, dv3, _, _, rfl, by decide, ⟨some _, rfl⟩, _, _, cv4, dv4, ⟨some _, rfl⟩, _, _, cv5, dv5, by decide, ?_⟩
  refine ps_weak (lv' := [(0, .ref x0), (1, .ref x1), (2, .ref x2), (3, .int x3), (4, va_rf v3), (5, .int (v4 * v5))]) ?_ ⟨(by first | rfl | (cases v3 <;> rfl)), (by first | rfl | (cases v3 <;> rfl)), (by first | rfl | (cases v3 <;> rfl)), (by first | rfl | (cases v3 <;> rfl)), (by first | rfl | (cases v3 <;> rfl)), (by first | rfl | (cases v3 <;> rfl)), trivial⟩
  exact ps_weak (pjX10_adjust_19 h hk) ⟨(by first | rfl | (cases v3 <;> rfl)), (by first | rfl | (cases v3 <;> rfl)), (by first | rfl | (cases v3 <;> rfl)), (by first | rfl | (cases v3 <;> rfl)), (by first | rfl | (cases v3 <;> rfl)), (by first | rfl | (cases v3 <;> rfl)), trivial⟩
noncomputable def jX4_own_47 (g : ps_G) (k0 : Int32) : Option (Int32) := some k0
theorem pjX4_own_47 {d : Nat} {Q : ps_Rs → ps_G → Prop} {g : ps_G} {k0 : Int32} {r : Int32} (h : jX4_own_47 g k0 = some r) (hk : Q (.inl (some (.int r))) g) : ps_At mX4_own d 47 [] [.int k0] g Q := by
  unfold jX4_own_47 at h
  refine sX4_own_47 ?_
  cases h
  exact ⟨rfl, hk⟩
noncomputable def jX4_own_36 (g : ps_G) : Option (Int32) := jX4_own_47 g (0 : Int32)
theorem pjX4_own_36 {d : Nat} {Q : ps_Rs → ps_G → Prop} {g : ps_G}  {r : Int32} (h : jX4_own_36 g = some r) (hk : Q (.inl (some (.int r))) g) : ps_At mX4_own d 36 [] [] g Q := by
  unfold jX4_own_36 at h
  refine sX4_own_36 ?_
  exact ps_weak (pjX4_own_47 h hk) trivial
noncomputable def fX4_own (g : ps_G) (x0 : Nat) (x1 : Int32) (x2 : Int32) (x3 : Int32) (x4 : Int32) : Option (Int32) := if (x1 < 0) ∨ ((x2 < 0) ∨ ((x3 ≤ x1) ∨ (x4 ≤ x2))) then (jX4_own_36 g) else (Option.bind (q_fR 4 15 g x0) fun v5 => Option.bind (v5) fun a6 => Option.bind (q_len g a6) fun v7 => if ((x2 * x3) + x1) < v7 then (Option.bind (q_fR 4 15 g x0) fun v10 => Option.bind (v10) fun a11 => Option.bind (q_aI g a11 ((x2 * x3) + x1)) fun v12 => jX4_own_47 g v12) else (jX4_own_36 g))
theorem rX4_own {d : Nat} {Q : ps_Rs → ps_G → Prop} {g : ps_G} {x0 : Nat} {x1 : Int32} {x2 : Int32} {x3 : Int32} {x4 : Int32} {r : Int32} (h : fX4_own g x0 x1 x2 x3 x4 = some r) (hk : Q (.inl (some (.int r))) g) : ps_Ok mX4_own d [.ref x0, .int x1, .int x2, .int x3, .int x4] g Q := by
  unfold fX4_own at h
  refine sX4_own_0 ?_
  have kT15 : (jX4_own_36 g) = some r → ps_At mX4_own d 36 [] [] g Q := fun h => by
    exact ps_weak (pjX4_own_36 h hk) trivial
  refine ⟨by decide, ?_⟩
  refine And.intro (fun hc1 => ?_) (fun hc1 => ?_)
  · exact ps_weak (kT15 (q_ifp (Or.inl hc1) h)) trivial
  · refine And.intro (fun hc2 => ?_) (fun hc2 => ?_)
    · exact ps_weak (kT15 (q_ifp (Or.inr (Or.inl hc2)) h)) trivial
    · refine And.intro (fun hc3 => ?_) (fun hc3 => ?_)
      · exact ps_weak (kT15 (q_ifp (Or.inr (Or.inr (Or.inl hc3))) h)) trivial
      · refine And.intro (fun hc4 => ?_) (fun hc4 => ?_)
        · exact ps_weak (kT15 (q_ifp (Or.inr (Or.inr (Or.inr (hc4)))) h)) trivial
        · replace h := q_ifn (not_or.mpr ⟨hc1, not_or.mpr ⟨hc2, not_or.mpr ⟨hc3, hc4⟩⟩⟩) h
          replace h := q_be h
          obtain ⟨v5, hv, h⟩ := h
          replace hv := q_fR_e hv
          obtain ⟨_, cv5, dv5⟩ := hv
          replace h := q_be h
          obtain ⟨a6, ea6, h⟩ := h
          subst ea6
          replace h := q_be h
          obtain ⟨v7, hv, h⟩ := h
          replace hv := q_len_e hv
          obtain ⟨_, _, cv7, qv7, yv7⟩ := hv
          refine ⟨⟨some _, rfl⟩, _, _, cv5, dv5, _, _, cv7, qv7, _, yv7, ?_⟩
          refine And.intro (fun hc8 => ?_) (fun hc8 => ?_)
          · replace h := q_ifp (hc8) h
            refine sX4_own_40 ?_
            replace h := q_be h
            obtain ⟨v10, hv, h⟩ := h
            replace hv := q_fR_e hv
            obtain ⟨_, cv10, dv10⟩ := hv
            replace h := q_be h
            obtain ⟨a11, ea11, h⟩ := h
            subst ea11
            replace h := q_be h
            obtain ⟨v12, hv, h⟩ := h
            replace hv := q_aI_e hv
            obtain ⟨_, _, cv12, iv12, yv12⟩ := hv
            refine ⟨⟨some _, rfl⟩, _, _, cv10, dv10, _, _, cv12, iv12, _, yv12, ?_⟩
            exact ps_weak (pjX4_own_47 h hk) trivial
          · replace h := q_ifn (hc8) h
            exact ps_weak (pjX4_own_36 h hk) trivial
noncomputable def fX4_painted (g : ps_G) (x0 : Nat) (x1 : Int32) (x2 : Int32) : Option (Int32) := Option.bind (q_fI 4 13 g x0) fun v1 => Option.bind (q_fI 4 11 g x0) fun v2 => Option.bind (q_fI 4 13 g x0) fun v3 => Option.bind (q_fI 4 11 g x0) fun v4 => Option.bind (q_fI 4 14 g x0) fun v5 => Option.bind (q_fI 4 12 g x0) fun v6 => Option.bind (q_fI 4 14 g x0) fun v7 => Option.bind (q_fI 4 12 g x0) fun v8 => Option.bind (q_fI 4 1 g x0) fun v9 => if ¬ (¬ v9 = (3 : Int32)) ∧ (0 < (((v1 - v2) * (v3 - v4)) + ((v5 - v6) * (v7 - v8)))) then (Option.bind (q_fI 4 11 g x0) fun v12 => Option.bind (q_fI 4 13 g x0) fun v13 => Option.bind (q_fI 4 11 g x0) fun v14 => Option.bind (q_fI 4 12 g x0) fun v15 => Option.bind (q_fI 4 14 g x0) fun v16 => Option.bind (q_fI 4 12 g x0) fun v17 => Option.bind (q_fI 4 9 g x0) fun v18 => Option.bind (q_fI 4 10 g x0) fun v19 => Option.bind (q_div ((255 : Int32) * (((x1 - v12) * (v13 - v14)) + ((x2 - v15) * (v16 - v17)))) (((v1 - v2) * (v3 - v4)) + ((v5 - v6) * (v7 - v8)))) fun v20 => some (fX11_mixColours v18 v19 (fX11_clip v20))) else (Option.bind (q_fI 4 9 g x0) fun v21 => some v21)
theorem rX4_painted {d : Nat} {Q : ps_Rs → ps_G → Prop} {g : ps_G} {x0 : Nat} {x1 : Int32} {x2 : Int32} {r : Int32} (h : fX4_painted g x0 x1 x2 = some r) (hk : Q (.inl (some (.int r))) g) : ps_Ok mX4_painted (d + 2) [.ref x0, .int x1, .int x2] g Q := by
  unfold fX4_painted at h
  refine sX4_painted_0 ?_
  replace h := q_be h
  obtain ⟨v1, hv, h⟩ := h
  replace hv := q_fI_e hv
  obtain ⟨_, cv1, dv1⟩ := hv
  replace h := q_be h
  obtain ⟨v2, hv, h⟩ := h
  replace hv := q_fI_e hv
  obtain ⟨_, cv2, dv2⟩ := hv
  replace h := q_be h
  obtain ⟨v3, hv, h⟩ := h
  replace hv := q_fI_e hv
  obtain ⟨_, cv3, dv3⟩ := hv
  replace h := q_be h
  obtain ⟨v4, hv, h⟩ := h
  replace hv := q_fI_e hv
  obtain ⟨_, cv4, dv4⟩ := hv
  replace h := q_be h
  obtain ⟨v5, hv, h⟩ := h
  replace hv := q_fI_e hv
  obtain ⟨_, cv5, dv5⟩ := hv
  replace h := q_be h
  obtain ⟨v6, hv, h⟩ := h
  replace hv := q_fI_e hv
  obtain ⟨_, cv6, dv6⟩ := hv
  replace h := q_be h
  obtain ⟨v7, hv, h⟩ := h
  replace hv := q_fI_e hv
  obtain ⟨_, cv7, dv7⟩ := hv
  replace h := q_be h
  obtain ⟨v8, hv, h⟩ := h
  replace hv := q_fI_e hv
  obtain ⟨_, cv8, dv8⟩ := hv
  refine ⟨⟨some _, rfl⟩, _, _, cv1, dv1, ⟨some _, rfl⟩, _, _, cv2, dv2, ⟨some _, rfl⟩, _, _, cv3, dv3, ⟨some _, rfl⟩, _, _, cv4, dv4, ⟨some _, rfl⟩, _, _, cv5, dv5, ⟨some _, rfl⟩, _, _, cv6, dv6, ⟨some _, rfl⟩, _, _, cv7, dv7, ⟨some _, rfl⟩, _, _, cv8, dv8, by decide, ?_⟩
  replace h := q_be h
  obtain ⟨v9, hv, h⟩ := h
  replace hv := q_fI_e hv
  obtain ⟨_, cv9, dv9⟩ := hv
  have kF23 : (Option.bind (q_fI 4 9 g x0) fun v21 => some v21) = some r → ps_At mX4_painted (d + 2) 52 [(0, .ref x0)] [] g Q := fun h => by
    refine sX4_painted_52 ?_
    replace h := q_be h
    obtain ⟨v21, hv, h⟩ := h
    replace hv := q_fI_e hv
    obtain ⟨_, cv21, dv21⟩ := hv
    cases h
    exact ⟨⟨some _, rfl⟩, _, _, cv21, dv21, rfl, hk⟩
  refine ⟨⟨some _, rfl⟩, _, _, cv9, dv9, ?_⟩
  refine And.intro (fun hc10 => ?_) (fun hc10 => ?_)
  · exact ps_weak (kF23 (q_ifn (fun z => z.1 hc10) h)) ⟨rfl, trivial⟩
  · refine And.intro (fun hc11 => ?_) (fun hc11 => ?_)
    · replace h := q_ifp (⟨hc10, hc11⟩) h
      refine sX4_painted_57 ?_
      replace h := q_be h
      obtain ⟨v12, hv, h⟩ := h
      replace hv := q_fI_e hv
      obtain ⟨_, cv12, dv12⟩ := hv
      replace h := q_be h
      obtain ⟨v13, hv, h⟩ := h
      replace hv := q_fI_e hv
      obtain ⟨_, cv13, dv13⟩ := hv
      replace h := q_be h
      obtain ⟨v14, hv, h⟩ := h
      replace hv := q_fI_e hv
      obtain ⟨_, cv14, dv14⟩ := hv
      replace h := q_be h
      obtain ⟨v15, hv, h⟩ := h
      replace hv := q_fI_e hv
      obtain ⟨_, cv15, dv15⟩ := hv
      replace h := q_be h
      obtain ⟨v16, hv, h⟩ := h
      replace hv := q_fI_e hv
      obtain ⟨_, cv16, dv16⟩ := hv
      replace h := q_be h
      obtain ⟨v17, hv, h⟩ := h
      replace hv := q_fI_e hv
      obtain ⟨_, cv17, dv17⟩ := hv
      replace h := q_be h
      obtain ⟨v18, hv, h⟩ := h
      replace hv := q_fI_e hv
      obtain ⟨_, cv18, dv18⟩ := hv
      replace h := q_be h
      obtain ⟨v19, hv, h⟩ := h
      replace hv := q_fI_e hv
      obtain ⟨_, cv19, dv19⟩ := hv
      refine ⟨⟨some _, rfl⟩, _, _, cv12, dv12, ⟨some _, rfl⟩, _, _, cv13, dv13, ⟨some _, rfl⟩, _, _, cv14, dv14, ⟨some _, rfl⟩, _, _, cv15, dv15, ⟨some _, rfl⟩, _, _, cv16, dv16, ⟨some _, rfl⟩, _, _, cv17, dv17, by decide, ⟨some _, rfl⟩, _, _, cv18, dv18, ⟨some _, rfl⟩, _, _, cv19, dv19, ?_⟩
      replace h := q_be h
      obtain ⟨v20, hv, h⟩ := h
      replace hv := q_div_e hv
      obtain ⟨zv20, yv20⟩ := hv
      refine ⟨zv20, _, yv20, ?_⟩
      refine rX11_clip rfl ?_
      refine rX11_mixColours rfl ?_
      cases h
      exact ⟨rfl, hk⟩
    · exact ps_weak (kF23 (q_ifn (fun z => hc11 z.2) h)) ⟨rfl, trivial⟩
noncomputable def jX11_blended_181 (g : ps_G) (k0 : Int32) : Option (Int32) := some k0
theorem pjX11_blended_181 {d : Nat} {Q : ps_Rs → ps_G → Prop} {g : ps_G} {k0 : Int32} {r : Int32} (h : jX11_blended_181 g k0 = some r) (hk : Q (.inl (some (.int r))) g) : ps_At mX11_blended (d + 1) 181 [] [.int k0] g Q := by
  unfold jX11_blended_181 at h
  refine sX11_blended_181 ?_
  cases h
  exact ⟨rfl, hk⟩
noncomputable def jX11_blended_224 (g : ps_G) (k0 : Int32) : Option (Int32) := some k0
theorem pjX11_blended_224 {d : Nat} {Q : ps_Rs → ps_G → Prop} {g : ps_G} {k0 : Int32} {r : Int32} (h : jX11_blended_224 g k0 = some r) (hk : Q (.inl (some (.int r))) g) : ps_At mX11_blended (d + 1) 224 [] [.int k0] g Q := by
  unfold jX11_blended_224 at h
  refine sX11_blended_224 ?_
  cases h
  exact ⟨rfl, hk⟩
noncomputable def fX11_blended (g : ps_G) (x0 : Int32) (x1 : Int32) (x2 : Int32) (x3 : Int32) : Option (Int32) := if x3 = 1 then (some (fX11_mul x0 x1)) else (if x3 = 2 then (some ((x0 + x1) - (fX11_mul x0 x1))) else (if x3 = 3 then (some (if (128 : Int32) ≤ x0 then ((x1 + ((2 : Int32) * x0)) - (255 : Int32)) - (fX11_mul x1 (((2 : Int32) * x0) - (255 : Int32))) else fX11_mul ((2 : Int32) * x0) x1)) else (if x3 = 4 then (some (fJ9_min_7cf53 x0 x1)) else (if x3 = 5 then (some (fJ9_max_7cf53 x0 x1)) else (if x3 = 6 then (if ¬ x0 = 0 then (if x1 < (255 : Int32) then (Option.bind (q_div ((255 : Int32) * x0) ((255 : Int32) - x1)) fun v15 => jX11_blended_181 g (fJ9_min_7cf53 (255 : Int32) v15)) else (jX11_blended_181 g (255 : Int32))) else (jX11_blended_181 g (0 : Int32))) else (if x3 = 7 then (if ¬ x0 = (255 : Int32) then (if 0 < x1 then (Option.bind (q_div ((255 : Int32) * ((255 : Int32) - x0)) x1) fun v26 => jX11_blended_224 g ((255 : Int32) - (fJ9_min_7cf53 (255 : Int32) v26))) else (jX11_blended_224 g (0 : Int32))) else (jX11_blended_224 g (255 : Int32))) else (if x3 = 8 then (some (if (128 : Int32) ≤ x1 then ((x0 + ((2 : Int32) * x1)) - (255 : Int32)) - (fX11_mul x0 (((2 : Int32) * x1) - (255 : Int32))) else fX11_mul ((2 : Int32) * x1) x0)) else (if x3 = 9 then (some (fJ9_abs_0f7a4 (x0 - x1))) else (if x3 = 10 then (some ((x0 + x1) - ((2 : Int32) * (fX11_mul x0 x1)))) else (if x3 = 11 then (some (fJ9_min_7cf53 (255 : Int32) (x0 + x1))) else (if x3 = 12 then (some (fJ9_max_7cf53 (0 : Int32) (x0 - x1))) else (if x3 = 13 then (some (fX11_clip ((fX11_mul ((255 : Int32) - x0) (fX11_mul x0 x1)) + (fX11_mul x0 ((x0 + x1) - (fX11_mul x0 x1)))))) else (if x3 = 14 then (some (fX11_clip (x0 + x2))) else (if x3 = 15 then (some (fX11_clip (x1 - x2))) else (some x1)))))))))))))))
theorem rX11_blended {d : Nat} {Q : ps_Rs → ps_G → Prop} {g : ps_G} {x0 : Int32} {x1 : Int32} {x2 : Int32} {x3 : Int32} {r : Int32} (h : fX11_blended g x0 x1 x2 x3 = some r) (hk : Q (.inl (some (.int r))) g) : ps_Ok mX11_blended (d + 1) [.int x0, .int x1, .int x2, .int x3] g Q := by
  unfold fX11_blended at h
  refine sX11_blended_0 ?_
  refine sX11_blended_1 ?_
  by_cases hc1 : x3 = 1
  · replace h := q_ifp hc1 h
    have eT : ps_tsel 1 345 1 15 #[75, 81, 91, 130, 136, 142, 181, 224, 263, 270, 282, 292, 300, 331, 338] x3 = 76 := by
      rw [hc1]; decide +kernel
    refine ps_at_eq eT ?_
    refine sX11_blended_76 ?_
    refine rX11_mul rfl ?_
    cases h
    exact ⟨rfl, hk⟩
  replace h := q_ifn hc1 h
  by_cases hc2 : x3 = 2
  · replace h := q_ifp hc2 h
    have eT : ps_tsel 1 345 1 15 #[75, 81, 91, 130, 136, 142, 181, 224, 263, 270, 282, 292, 300, 331, 338] x3 = 82 := by
      rw [hc2]; decide +kernel
    refine ps_at_eq eT ?_
    refine sX11_blended_82 ?_
    refine rX11_mul rfl ?_
    cases h
    exact ⟨rfl, hk⟩
  replace h := q_ifn hc2 h
  by_cases hc3 : x3 = 3
  · replace h := q_ifp hc3 h
    have eT : ps_tsel 1 345 1 15 #[75, 81, 91, 130, 136, 142, 181, 224, 263, 270, 282, 292, 300, 331, 338] x3 = 92 := by
      rw [hc3]; decide +kernel
    refine ps_at_eq eT ?_
    refine sX11_blended_92 ?_
    have kJ6 : ∀ w5 : Int32, w5 = (if (128 : Int32) ≤ x0 then ((x1 + ((2 : Int32) * x0)) - (255 : Int32)) - (fX11_mul x1 (((2 : Int32) * x0) - (255 : Int32))) else fX11_mul ((2 : Int32) * x0) x1) → ps_At mX11_blended (d + 1) 130 [] [.int w5] g Q := by
      rintro _ rfl
      refine sX11_blended_130 ?_
      cases h
      exact ⟨rfl, hk⟩
    refine And.intro (fun hc4 => ?_) (fun hc4 => ?_)
    · refine sX11_blended_109 ?_
      refine rX11_mul rfl ?_
      exact ps_weak (kJ6 _ (if_pos (hc4)).symm) trivial
    · refine rX11_mul rfl ?_
      exact ps_weak (kJ6 _ (if_neg (hc4)).symm) trivial
  replace h := q_ifn hc3 h
  by_cases hc7 : x3 = 4
  · replace h := q_ifp hc7 h
    have eT : ps_tsel 1 345 1 15 #[75, 81, 91, 130, 136, 142, 181, 224, 263, 270, 282, 292, 300, 331, 338] x3 = 131 := by
      rw [hc7]; decide +kernel
    refine ps_at_eq eT ?_
    refine sX11_blended_131 ?_
    refine rJ9_min_7cf53 rfl ?_
    cases h
    exact ⟨rfl, hk⟩
  replace h := q_ifn hc7 h
  by_cases hc8 : x3 = 5
  · replace h := q_ifp hc8 h
    have eT : ps_tsel 1 345 1 15 #[75, 81, 91, 130, 136, 142, 181, 224, 263, 270, 282, 292, 300, 331, 338] x3 = 137 := by
      rw [hc8]; decide +kernel
    refine ps_at_eq eT ?_
    refine sX11_blended_137 ?_
    refine rJ9_max_7cf53 rfl ?_
    cases h
    exact ⟨rfl, hk⟩
  replace h := q_ifn hc8 h
  by_cases hc9 : x3 = 6
  · replace h := q_ifp hc9 h
    have eT : ps_tsel 1 345 1 15 #[75, 81, 91, 130, 136, 142, 181, 224, 263, 270, 282, 292, 300, 331, 338] x3 = 143 := by
      rw [hc9]; decide +kernel
    refine ps_at_eq eT ?_
    refine sX11_blended_143 ?_
    refine And.intro (fun hc10 => ?_) (fun hc10 => ?_)
    · replace h := q_ifp (hc10) h
      refine sX11_blended_151 ?_
      refine And.intro (fun hc13 => ?_) (fun hc13 => ?_)
      · replace h := q_ifp (hc13) h
        refine sX11_blended_164 ?_
        replace h := q_be h
        obtain ⟨v15, hv, h⟩ := h
        replace hv := q_div_e hv
        obtain ⟨zv15, yv15⟩ := hv
        refine ⟨zv15, _, yv15, ?_⟩
        refine rJ9_min_7cf53 rfl ?_
        exact ps_weak (pjX11_blended_181 h hk) trivial
      · replace h := q_ifn (hc13) h
        exact ps_weak (pjX11_blended_181 h hk) trivial
    · replace h := q_ifn (hc10) h
      exact ps_weak (pjX11_blended_181 h hk) trivial
  replace h := q_ifn hc9 h
  by_cases hc20 : x3 = 7
  · replace h := q_ifp hc20 h
    have eT : ps_tsel 1 345 1 15 #[75, 81, 91, 130, 136, 142, 181, 224, 263, 270, 282, 292, 300, 331, 338] x3 = 182 := by
      rw [hc20]; decide +kernel
    refine ps_at_eq eT ?_
    refine sX11_blended_182 ?_
    refine And.intro (fun hc21 => ?_) (fun hc21 => ?_)
    · replace h := q_ifp (hc21) h
      refine sX11_blended_195 ?_
      refine And.intro (fun hc24 => ?_) (fun hc24 => ?_)
      · replace h := q_ifp (hc24) h
        refine sX11_blended_203 ?_
        replace h := q_be h
        obtain ⟨v26, hv, h⟩ := h
        replace hv := q_div_e hv
        obtain ⟨zv26, yv26⟩ := hv
        refine ⟨zv26, _, yv26, ?_⟩
        refine rJ9_min_7cf53 rfl ?_
        exact ps_weak (pjX11_blended_224 h hk) trivial
      · replace h := q_ifn (hc24) h
        exact ps_weak (pjX11_blended_224 h hk) trivial
    · replace h := q_ifn (hc21) h
      exact ps_weak (pjX11_blended_224 h hk) trivial
  replace h := q_ifn hc20 h
  by_cases hc31 : x3 = 8
  · replace h := q_ifp hc31 h
    have eT : ps_tsel 1 345 1 15 #[75, 81, 91, 130, 136, 142, 181, 224, 263, 270, 282, 292, 300, 331, 338] x3 = 225 := by
      rw [hc31]; decide +kernel
    refine ps_at_eq eT ?_
    refine sX11_blended_225 ?_
    have kJ34 : ∀ w33 : Int32, w33 = (if (128 : Int32) ≤ x1 then ((x0 + ((2 : Int32) * x1)) - (255 : Int32)) - (fX11_mul x0 (((2 : Int32) * x1) - (255 : Int32))) else fX11_mul ((2 : Int32) * x1) x0) → ps_At mX11_blended (d + 1) 263 [] [.int w33] g Q := by
      rintro _ rfl
      refine sX11_blended_263 ?_
      cases h
      exact ⟨rfl, hk⟩
    refine And.intro (fun hc32 => ?_) (fun hc32 => ?_)
    · refine sX11_blended_242 ?_
      refine rX11_mul rfl ?_
      exact ps_weak (kJ34 _ (if_pos (hc32)).symm) trivial
    · refine rX11_mul rfl ?_
      exact ps_weak (kJ34 _ (if_neg (hc32)).symm) trivial
  replace h := q_ifn hc31 h
  by_cases hc35 : x3 = 9
  · replace h := q_ifp hc35 h
    have eT : ps_tsel 1 345 1 15 #[75, 81, 91, 130, 136, 142, 181, 224, 263, 270, 282, 292, 300, 331, 338] x3 = 264 := by
      rw [hc35]; decide +kernel
    refine ps_at_eq eT ?_
    refine sX11_blended_264 ?_
    refine rJ9_abs_0f7a4 rfl ?_
    cases h
    exact ⟨rfl, hk⟩
  replace h := q_ifn hc35 h
  by_cases hc36 : x3 = 10
  · replace h := q_ifp hc36 h
    have eT : ps_tsel 1 345 1 15 #[75, 81, 91, 130, 136, 142, 181, 224, 263, 270, 282, 292, 300, 331, 338] x3 = 271 := by
      rw [hc36]; decide +kernel
    refine ps_at_eq eT ?_
    refine sX11_blended_271 ?_
    refine rX11_mul rfl ?_
    cases h
    exact ⟨rfl, hk⟩
  replace h := q_ifn hc36 h
  by_cases hc37 : x3 = 11
  · replace h := q_ifp hc37 h
    have eT : ps_tsel 1 345 1 15 #[75, 81, 91, 130, 136, 142, 181, 224, 263, 270, 282, 292, 300, 331, 338] x3 = 283 := by
      rw [hc37]; decide +kernel
    refine ps_at_eq eT ?_
    refine sX11_blended_283 ?_
    refine rJ9_min_7cf53 rfl ?_
    cases h
    exact ⟨rfl, hk⟩
  replace h := q_ifn hc37 h
  by_cases hc38 : x3 = 12
  · replace h := q_ifp hc38 h
    have eT : ps_tsel 1 345 1 15 #[75, 81, 91, 130, 136, 142, 181, 224, 263, 270, 282, 292, 300, 331, 338] x3 = 293 := by
      rw [hc38]; decide +kernel
    refine ps_at_eq eT ?_
    refine sX11_blended_293 ?_
    refine rJ9_max_7cf53 rfl ?_
    cases h
    exact ⟨rfl, hk⟩
  replace h := q_ifn hc38 h
  by_cases hc39 : x3 = 13
  · replace h := q_ifp hc39 h
    have eT : ps_tsel 1 345 1 15 #[75, 81, 91, 130, 136, 142, 181, 224, 263, 270, 282, 292, 300, 331, 338] x3 = 301 := by
      rw [hc39]; decide +kernel
    refine ps_at_eq eT ?_
    refine sX11_blended_301 ?_
    refine rX11_mul rfl ?_
    refine rX11_mul rfl ?_
    refine rX11_mul rfl ?_
    refine rX11_mul rfl ?_
    refine sX11_blended_327 ?_
    refine rX11_clip rfl ?_
    cases h
    exact ⟨rfl, hk⟩
  replace h := q_ifn hc39 h
  by_cases hc40 : x3 = 14
  · replace h := q_ifp hc40 h
    have eT : ps_tsel 1 345 1 15 #[75, 81, 91, 130, 136, 142, 181, 224, 263, 270, 282, 292, 300, 331, 338] x3 = 332 := by
      rw [hc40]; decide +kernel
    refine ps_at_eq eT ?_
    refine sX11_blended_332 ?_
    refine rX11_clip rfl ?_
    cases h
    exact ⟨rfl, hk⟩
  replace h := q_ifn hc40 h
  by_cases hc41 : x3 = 15
  · replace h := q_ifp hc41 h
    have eT : ps_tsel 1 345 1 15 #[75, 81, 91, 130, 136, 142, 181, 224, 263, 270, 282, 292, 300, 331, 338] x3 = 339 := by
      rw [hc41]; decide +kernel
    refine ps_at_eq eT ?_
    refine sX11_blended_339 ?_
    refine rX11_clip rfl ?_
    cases h
    exact ⟨rfl, hk⟩
  replace h := q_ifn hc41 h
  have eD : ps_tsel 1 345 1 15 #[75, 81, 91, 130, 136, 142, 181, 224, 263, 270, 282, 292, 300, 331, 338] x3 = 346 := by
    refine q_tsd (by decide +kernel) (fun z h1 h2 => ?_)
    have hz : z = 1 ∨ z = 2 ∨ z = 3 ∨ z = 4 ∨ z = 5 ∨ z = 6 ∨ z = 7 ∨ z = 8 ∨ z = 9 ∨ z = 10 ∨ z = 11 ∨ z = 12 ∨ z = 13 ∨ z = 14 ∨ z = 15 := by omega
    rcases hz with rfl | rfl | rfl | rfl | rfl | rfl | rfl | rfl | rfl | rfl | rfl | rfl | rfl | rfl | rfl
    · exact Or.inl (q_tsx (v := 1) (fun z => hc1 z))
    · exact Or.inl (q_tsx (v := 2) (fun z => hc2 z))
    · exact Or.inl (q_tsx (v := 3) (fun z => hc3 z))
    · exact Or.inl (q_tsx (v := 4) (fun z => hc7 z))
    · exact Or.inl (q_tsx (v := 5) (fun z => hc8 z))
    · exact Or.inl (q_tsx (v := 6) (fun z => hc9 z))
    · exact Or.inl (q_tsx (v := 7) (fun z => hc20 z))
    · exact Or.inl (q_tsx (v := 8) (fun z => hc31 z))
    · exact Or.inl (q_tsx (v := 9) (fun z => hc35 z))
    · exact Or.inl (q_tsx (v := 10) (fun z => hc36 z))
    · exact Or.inl (q_tsx (v := 11) (fun z => hc37 z))
    · exact Or.inl (q_tsx (v := 12) (fun z => hc38 z))
    · exact Or.inl (q_tsx (v := 13) (fun z => hc39 z))
    · exact Or.inl (q_tsx (v := 14) (fun z => hc40 z))
    · exact Or.inl (q_tsx (v := 15) (fun z => hc41 z))
  refine ps_at_eq eD ?_
  refine sX11_blended_346 ?_
  cases h
  exact ⟨rfl, hk⟩
noncomputable def bX11_blend_58 (g : ps_G) (x0 : Int32) (x1 : Int32) (x2 : Int32) (x3 : Int32) (x4 : Int32) (x5 : Int32) (x6 : Int32) (x7 : Int32) (x8 : Int32) : Option ((Int32 × Int32) ⊕ (Int32)) := if x8 < 0 then (some (.inr x7)) else (Option.bind (fX11_blended g ((q_shr x0 x8) &&& (255 : Int32)) ((q_shr x1 x8) &&& (255 : Int32)) x6 x3) fun v4 => Option.bind (q_div (((((255 : Int32) * x2) * (fX11_mix ((q_shr x1 x8) &&& (255 : Int32)) v4 x4)) + ((((255 : Int32) - x2) * x4) * ((q_shr x0 x8) &&& (255 : Int32)))) + (x5 / (2 : Int32))) x5) fun v5 => some (.inl (x7 ||| (q_shl v5 x8), x8 + (-8 : Int32))))
theorem pbX11_blend_58 {d : Nat} {Q : ps_Rs → ps_G → Prop} {g : ps_G} {x0 : Int32} {x1 : Int32} {x2 : Int32} {x3 : Int32} {x4 : Int32} {x5 : Int32} {x6 : Int32} {x7 : Int32} {x8 : Int32} {x : (Int32 × Int32) ⊕ (Int32)} (h : bX11_blend_58 g x0 x1 x2 x3 x4 x5 x6 x7 x8 = some x) (hh : ∀ s' : Int32 × Int32, x = .inl s' → ps_At mX11_blend (d + 2) 58 [(0, .int x0), (1, .int x1), (2, .int x2), (3, .int x3), (4, .int x4), (5, .int x5), (6, .int x6), (7, .int s'.1), (8, .int s'.2)] [] g Q) (he : ∀ r' : Int32, x = .inr r' → ps_At mX11_blend (d + 2) 144 [(7, .int r')] [] g Q) : ps_At mX11_blend (d + 2) 58 [(0, .int x0), (1, .int x1), (2, .int x2), (3, .int x3), (4, .int x4), (5, .int x5), (6, .int x6), (7, .int x7), (8, .int x8)] [] g Q := by
  unfold bX11_blend_58 at h
  refine sX11_blend_58 ?_
  refine And.intro (fun hc2 => ?_) (fun hc2 => ?_)
  · replace h := q_ifp (hc2) h
    exact ps_weak (he x7 (Option.some.inj h).symm) ⟨rfl, trivial⟩
  · replace h := q_ifn (hc2) h
    replace h := q_be h
    obtain ⟨v4, hv, h⟩ := h
    refine ⟨by decide, by decide, ?_⟩
    refine rX11_blended hv ?_
    refine rX11_mix rfl ?_
    replace h := q_be h
    obtain ⟨v5, hv, h⟩ := h
    replace hv := q_div_e hv
    obtain ⟨zv5, yv5⟩ := hv
    refine ⟨by decide, by decide, _, rfl, zv5, _, yv5, by decide, by decide, ?_⟩
    exact ps_weak (hh (x7 ||| (q_shl v5 x8), x8 + (-8 : Int32)) (Option.some.inj h).symm) ⟨rfl, rfl, rfl, rfl, rfl, rfl, rfl, rfl, rfl, trivial⟩
noncomputable def fX11_blend (g : ps_G) (x0 : Int32) (x1 : Int32) (x2 : Int32) (x3 : Int32) : Option (Int32) := if 0 < (((255 : Int32) * x2) + (((255 : Int32) - x2) * (q_ush x0 (24 : Int32)))) then (Option.bind (q_lp (fun s => bX11_blend_58 g x0 x1 x2 x3 (q_ush x0 (24 : Int32)) (((255 : Int32) * x2) + (((255 : Int32) - x2) * (q_ush x0 (24 : Int32)))) ((fX11_luma x1) - (fX11_luma x0)) s.1 s.2) (q_shl (((((255 : Int32) * x2) + (((255 : Int32) - x2) * (q_ush x0 (24 : Int32)))) + (127 : Int32)) / (255 : Int32)) (24 : Int32), (16 : Int32))) fun s8 => some s8) else (some (0 : Int32))
theorem rX11_blend {d : Nat} {Q : ps_Rs → ps_G → Prop} {g : ps_G} {x0 : Int32} {x1 : Int32} {x2 : Int32} {x3 : Int32} {r : Int32} (h : fX11_blend g x0 x1 x2 x3 = some r) (hk : Q (.inl (some (.int r))) g) : ps_Ok mX11_blend (d + 2) [.int x0, .int x1, .int x2, .int x3] g Q := by
  unfold fX11_blend at h
  refine sX11_blend_0 ?_
  refine ⟨by decide, by decide, ?_⟩
  refine And.intro (fun hc1 => ?_) (fun hc1 => ?_)
  · replace h := q_ifp (hc1) h
    refine sX11_blend_29 ?_
    refine rX11_luma rfl ?_
    refine rX11_luma rfl ?_
    refine ⟨by decide, by decide, _, rfl, by decide, by decide, ?_⟩
    replace h := q_be h
    obtain ⟨s8, hl, h⟩ := h
    refine ps_weak (q_lp_ok hl (fun s => ps_At mX11_blend (d + 2) 58 [(0, .int x0), (1, .int x1), (2, .int x2), (3, .int x3), (4, .int (q_ush x0 (24 : Int32))), (5, .int (((255 : Int32) * x2) + (((255 : Int32) - x2) * (q_ush x0 (24 : Int32))))), (6, .int ((fX11_luma x1) - (fX11_luma x0))), (7, .int s.1), (8, .int s.2)] [] g Q) (fun r => ps_At mX11_blend (d + 2) 144 [(7, .int r)] [] g Q) (fun s x hb hh he => pbX11_blend_58 hb hh he) ?_) ⟨rfl, rfl, rfl, rfl, rfl, rfl, rfl, rfl, rfl, trivial⟩
    refine (?_ : ps_At mX11_blend (d + 2) 144 [(7, .int s8)] [] g Q)
    refine sX11_blend_144 ?_
    cases h
    exact ⟨rfl, hk⟩
  · replace h := q_ifn (hc1) h
    cases h
    exact ⟨rfl, hk⟩
noncomputable def jX10_cover_200_52 (VV : ps_G → Nat → Nat → Int32 → Int32 → Option ps_G) (g : ps_G) (x0 : Nat) (x1 : Nat) (x2 : Nat) (x3 : Int32) (x4 : Int32) (x5 : Int32) (x6 : Int32) (x7 : Int32) (x8 : Int32) (x9 : Int32) : Option ((Int32 × ps_G) ⊕ (ps_G)) := Option.bind (q_fR 10 1 g x0) fun v32 => Option.bind (v32) fun a33 => Option.bind (q_aR g a33 x3) fun v34 => Option.bind (v34) fun a35 => Option.bind (q_fR 10 1 g x0) fun v36 => Option.bind (v36) fun a37 => Option.bind (q_aR g a37 x3) fun v38 => Option.bind (v38) fun a39 => Option.bind (q_aI g a39 x7) fun v40 => Option.bind (q_fI 4 4 g x2) fun v41 => Option.bind (fX11_blend g v40 x8 x9 v41) fun v42 => Option.bind (q_wI g a35 x7 v42) fun g43 => some (.inl (x6 + (1 : Int32), g43))
theorem pjX10_cover_200_52 {VV : ps_G → Nat → Nat → Int32 → Int32 → Option ps_G} {d : Nat} {Q : ps_Rs → ps_G → Prop} {g : ps_G} {x0 : Nat} {x1 : Nat} {x2 : Nat} {x3 : Int32} {x4 : Int32} {x5 : Int32} {x6 : Int32} {x7 : Int32} {x8 : Int32} {x9 : Int32} {x : (Int32 × ps_G) ⊕ (ps_G)} (HV : ∀ {Q : ps_Rs → ps_G → Prop} {g : ps_G} {x0 x1 : Nat} {x2 x3 : Int32} {r : ps_G}, VV g x0 x1 x2 x3 = some r → Q (.inl none) r → ps_Ok mX10_viewOf (d + 5) [.ref x0, .ref x1, .int x2, .int x3] g Q) (h : jX10_cover_200_52 VV g x0 x1 x2 x3 x4 x5 x6 x7 x8 x9 = some x) (hh : ∀ s' : Int32 × ps_G, x = .inl s' → ps_At mX10_cover (d + 6) 52 [(0, .ref x0), (1, .ref x1), (2, .ref x2), (3, .int x3), (4, .int x4), (5, .int x5), (6, .int s'.1)] [] s'.2 Q) (he : ∀ r' : ps_G, x = .inr r' → ps_At mX10_cover (d + 6) 235 [(0, .ref x0), (1, .ref x1), (2, .ref x2), (3, .int x3), (4, .int x4), (5, .int x5)] [] r' Q) : ps_At mX10_cover (d + 6) 200 [(0, .ref x0), (1, .ref x1), (2, .ref x2), (3, .int x3), (4, .int x4), (5, .int x5), (6, .int x6), (7, .int x7), (8, .int x8), (9, .int x9)] [] g Q := by
  unfold jX10_cover_200_52 at h
  refine sX10_cover_200 ?_
  replace h := q_be h
  obtain ⟨v32, hv, h⟩ := h
  replace hv := q_fR_e hv
  obtain ⟨_, cv32, dv32⟩ := hv
  replace h := q_be h
  obtain ⟨a33, ea33, h⟩ := h
  subst ea33
  replace h := q_be h
  obtain ⟨v34, hv, h⟩ := h
  replace hv := q_aR_e hv
  obtain ⟨_, _, _, cv34, pv34, qv34, iv34, dv34⟩ := hv
  replace h := q_be h
  obtain ⟨a35, ea35, h⟩ := h
  subst ea35
  replace h := q_be h
  obtain ⟨v36, hv, h⟩ := h
  replace hv := q_fR_e hv
  obtain ⟨_, cv36, dv36⟩ := hv
  replace h := q_be h
  obtain ⟨a37, ea37, h⟩ := h
  subst ea37
  replace h := q_be h
  obtain ⟨v38, hv, h⟩ := h
  replace hv := q_aR_e hv
  obtain ⟨_, _, _, cv38, pv38, qv38, iv38, dv38⟩ := hv
  replace h := q_be h
  obtain ⟨a39, ea39, h⟩ := h
  subst ea39
  replace h := q_be h
  obtain ⟨v40, hv, h⟩ := h
  replace hv := q_aI_e hv
  obtain ⟨_, _, cv40, iv40, yv40⟩ := hv
  replace h := q_be h
  obtain ⟨v41, hv, h⟩ := h
  replace hv := q_fI_e hv
  obtain ⟨_, cv41, dv41⟩ := hv
  replace h := q_be h
  obtain ⟨v42, hv, h⟩ := h
  refine ⟨⟨some _, rfl⟩, _, _, cv32, dv32, _, _, _, _, cv34, pv34, qv34, iv34, dv34, ⟨some _, rfl⟩, _, _, cv36, dv36, _, _, _, _, cv38, pv38, qv38, iv38, dv38, _, _, cv40, iv40, _, yv40, ⟨some _, rfl⟩, _, _, cv41, dv41, ?_⟩
  refine rX11_blend hv ?_
  replace h := q_be h
  obtain ⟨g43, hv, h⟩ := h
  replace hv := q_wI_e hv
  obtain ⟨_, _, cg43, pg43, ig43, yg43⟩ := hv
  refine ⟨_, _, cg43, pg43, ig43, _, yg43, by decide, ?_⟩
  exact ps_weak (hh (x6 + (1 : Int32), g43) (Option.some.inj h).symm) ⟨rfl, rfl, rfl, rfl, rfl, rfl, rfl, trivial⟩
noncomputable def jX10_cover_138_52 (VV : ps_G → Nat → Nat → Int32 → Int32 → Option ps_G) (g : ps_G) (x0 : Nat) (x1 : Nat) (x2 : Nat) (x3 : Int32) (x4 : Int32) (x5 : Int32) (x6 : Int32) (x7 : Int32) (k0 : Int32) : Option ((Int32 × ps_G) ⊕ (ps_G)) := Option.bind (q_fI 4 3 g x2) fun v21 => Option.bind (q_ob 4 g x2) fun u22 => Option.bind (fX4_maskAt g x2 x7) fun v23 => Option.bind (q_fI 4 6 g x2) fun v24 => if v24 = 0 then (Option.bind (q_fR 10 2 g x0) fun v27 => Option.bind (v27) fun a28 => Option.bind (q_aR g a28 x3) fun v29 => Option.bind (v29) fun a30 => Option.bind (q_wI g a30 x7 (fX11_mul (fX11_mul (q_ush k0 (24 : Int32)) v21) v23)) fun g31 => jX10_cover_200_52 VV g31 x0 x1 x2 x3 x4 x5 x6 x7 k0 (fX11_mul (fX11_mul (q_ush k0 (24 : Int32)) v21) v23)) else (Option.bind (q_fR 10 2 g x0) fun v44 => Option.bind (v44) fun a45 => Option.bind (q_aR g a45 x3) fun v46 => Option.bind (v46) fun a47 => Option.bind (q_aI g a47 x7) fun v48 => jX10_cover_200_52 VV g x0 x1 x2 x3 x4 x5 x6 x7 k0 (fX11_mul (fX11_mul (fX11_mul (q_ush k0 (24 : Int32)) v21) v23) v48))
theorem pjX10_cover_138_52 {VV : ps_G → Nat → Nat → Int32 → Int32 → Option ps_G} {d : Nat} {Q : ps_Rs → ps_G → Prop} {g : ps_G} {x0 : Nat} {x1 : Nat} {x2 : Nat} {x3 : Int32} {x4 : Int32} {x5 : Int32} {x6 : Int32} {x7 : Int32} {k0 : Int32} {x : (Int32 × ps_G) ⊕ (ps_G)} (HV : ∀ {Q : ps_Rs → ps_G → Prop} {g : ps_G} {x0 x1 : Nat} {x2 x3 : Int32} {r : ps_G}, VV g x0 x1 x2 x3 = some r → Q (.inl none) r → ps_Ok mX10_viewOf (d + 5) [.ref x0, .ref x1, .int x2, .int x3] g Q) (h : jX10_cover_138_52 VV g x0 x1 x2 x3 x4 x5 x6 x7 k0 = some x) (hh : ∀ s' : Int32 × ps_G, x = .inl s' → ps_At mX10_cover (d + 6) 52 [(0, .ref x0), (1, .ref x1), (2, .ref x2), (3, .int x3), (4, .int x4), (5, .int x5), (6, .int s'.1)] [] s'.2 Q) (he : ∀ r' : ps_G, x = .inr r' → ps_At mX10_cover (d + 6) 235 [(0, .ref x0), (1, .ref x1), (2, .ref x2), (3, .int x3), (4, .int x4), (5, .int x5)] [] r' Q) : ps_At mX10_cover (d + 6) 138 [(0, .ref x0), (1, .ref x1), (2, .ref x2), (3, .int x3), (4, .int x4), (5, .int x5), (6, .int x6), (7, .int x7)] [.int k0] g Q := by
  unfold jX10_cover_138_52 at h
  refine sX10_cover_138 ?_
  replace h := q_be h
  obtain ⟨v21, hv, h⟩ := h
  replace hv := q_fI_e hv
  obtain ⟨_, cv21, dv21⟩ := hv
  refine ⟨by decide, ⟨some _, rfl⟩, _, _, cv21, dv21, ?_⟩
  refine rX11_mul rfl ?_
  replace h := q_be h
  obtain ⟨u22, hv, h⟩ := h
  replace hv := q_ob_e hv
  obtain ⟨_, cu22⟩ := hv
  replace h := q_be h
  obtain ⟨v23, hv, h⟩ := h
  refine ⟨⟨some _, rfl⟩, ⟨_, cu22⟩, ?_⟩
  refine rX4_maskAt hv ?_
  refine rX11_mul rfl ?_
  replace h := q_be h
  obtain ⟨v24, hv, h⟩ := h
  replace hv := q_fI_e hv
  obtain ⟨_, cv24, dv24⟩ := hv
  refine ⟨by decide, ⟨some _, rfl⟩, _, _, cv24, dv24, ?_⟩
  refine And.intro (fun hc25 => ?_) (fun hc25 => ?_)
  · replace h := q_ifp (hc25) h
    refine sX10_cover_189 ?_
    replace h := q_be h
    obtain ⟨v27, hv, h⟩ := h
    replace hv := q_fR_e hv
    obtain ⟨_, cv27, dv27⟩ := hv
    replace h := q_be h
    obtain ⟨a28, ea28, h⟩ := h
    subst ea28
    replace h := q_be h
    obtain ⟨v29, hv, h⟩ := h
    replace hv := q_aR_e hv
    obtain ⟨_, _, _, cv29, pv29, qv29, iv29, dv29⟩ := hv
    replace h := q_be h
    obtain ⟨a30, ea30, h⟩ := h
    subst ea30
    replace h := q_be h
    obtain ⟨g31, hv, h⟩ := h
    replace hv := q_wI_e hv
    obtain ⟨_, _, cg31, pg31, ig31, yg31⟩ := hv
    refine ⟨⟨some _, rfl⟩, _, _, cv27, dv27, _, _, _, _, cv29, pv29, qv29, iv29, dv29, _, _, cg31, pg31, ig31, _, yg31, ?_⟩
    exact ps_weak (pjX10_cover_200_52 HV h hh he) ⟨rfl, rfl, rfl, rfl, rfl, rfl, rfl, rfl, rfl, rfl, trivial⟩
  · replace h := q_ifn (hc25) h
    replace h := q_be h
    obtain ⟨v44, hv, h⟩ := h
    replace hv := q_fR_e hv
    obtain ⟨_, cv44, dv44⟩ := hv
    replace h := q_be h
    obtain ⟨a45, ea45, h⟩ := h
    subst ea45
    replace h := q_be h
    obtain ⟨v46, hv, h⟩ := h
    replace hv := q_aR_e hv
    obtain ⟨_, _, _, cv46, pv46, qv46, iv46, dv46⟩ := hv
    replace h := q_be h
    obtain ⟨a47, ea47, h⟩ := h
    subst ea47
    replace h := q_be h
    obtain ⟨v48, hv, h⟩ := h
    replace hv := q_aI_e hv
    obtain ⟨_, _, cv48, iv48, yv48⟩ := hv
    refine ⟨⟨some _, rfl⟩, _, _, cv44, dv44, _, _, _, _, cv46, pv46, qv46, iv46, dv46, _, _, cv48, iv48, _, yv48, ?_⟩
    refine rX11_mul rfl ?_
    refine sX10_cover_184 ?_
    refine ⟨by decide, ?_⟩
    exact ps_weak (pjX10_cover_200_52 HV h hh he) ⟨rfl, rfl, rfl, rfl, rfl, rfl, rfl, rfl, rfl, rfl, trivial⟩
noncomputable def bX10_cover_52 (VV : ps_G → Nat → Nat → Int32 → Int32 → Option ps_G) (x0 : Nat) (x1 : Nat) (x2 : Nat) (x3 : Int32) (x4 : Int32) (x5 : Int32) (x6 : Int32) (g : ps_G) : Option ((Int32 × ps_G) ⊕ (ps_G)) := Option.bind (q_fI 9 0 g x1) fun v9 => if v9 ≤ x6 then (some (.inr g)) else (Option.bind (q_fI 9 0 g x1) fun v12 => Option.bind (q_fI 4 1 g x2) fun v13 => if ¬ v13 = 0 then (Option.bind (q_fI 4 1 g x2) fun v16 => if ¬ v16 = (1 : Int32) then (Option.bind (q_ob 4 g x2) fun u19 => Option.bind (fX4_painted g x2 x6 x5) fun v20 => jX10_cover_138_52 VV g x0 x1 x2 x3 x4 x5 x6 ((x5 * v12) + x6) v20) else (Option.bind (q_fR 10 1 g x0) fun v51 => Option.bind (v51) fun a52 => Option.bind (q_aR g a52 x4) fun v53 => Option.bind (v53) fun a54 => Option.bind (q_aI g a54 ((x5 * v12) + x6)) fun v55 => jX10_cover_138_52 VV g x0 x1 x2 x3 x4 x5 x6 ((x5 * v12) + x6) v55)) else (Option.bind (q_fI 4 7 g x2) fun v58 => Option.bind (q_fI 4 8 g x2) fun v59 => Option.bind (q_fI 9 0 g x1) fun v60 => Option.bind (q_fI 9 1 g x1) fun v61 => Option.bind (q_ob 4 g x2) fun u62 => Option.bind (fX4_own g x2 (x6 - v58) (x5 - v59) v60 v61) fun v63 => jX10_cover_138_52 VV g x0 x1 x2 x3 x4 x5 x6 ((x5 * v12) + x6) v63))
theorem pbX10_cover_52 {VV : ps_G → Nat → Nat → Int32 → Int32 → Option ps_G} {d : Nat} {Q : ps_Rs → ps_G → Prop}  {x0 : Nat} {x1 : Nat} {x2 : Nat} {x3 : Int32} {x4 : Int32} {x5 : Int32} {x6 : Int32} {g : ps_G} {x : (Int32 × ps_G) ⊕ (ps_G)} (HV : ∀ {Q : ps_Rs → ps_G → Prop} {g : ps_G} {x0 x1 : Nat} {x2 x3 : Int32} {r : ps_G}, VV g x0 x1 x2 x3 = some r → Q (.inl none) r → ps_Ok mX10_viewOf (d + 5) [.ref x0, .ref x1, .int x2, .int x3] g Q) (h : bX10_cover_52 VV x0 x1 x2 x3 x4 x5 x6 g = some x) (hh : ∀ s' : Int32 × ps_G, x = .inl s' → ps_At mX10_cover (d + 6) 52 [(0, .ref x0), (1, .ref x1), (2, .ref x2), (3, .int x3), (4, .int x4), (5, .int x5), (6, .int s'.1)] [] s'.2 Q) (he : ∀ r' : ps_G, x = .inr r' → ps_At mX10_cover (d + 6) 235 [(0, .ref x0), (1, .ref x1), (2, .ref x2), (3, .int x3), (4, .int x4), (5, .int x5)] [] r' Q) : ps_At mX10_cover (d + 6) 52 [(0, .ref x0), (1, .ref x1), (2, .ref x2), (3, .int x3), (4, .int x4), (5, .int x5), (6, .int x6)] [] g Q := by
  unfold bX10_cover_52 at h
  refine sX10_cover_52 ?_
  replace h := q_be h
  obtain ⟨v9, hv, h⟩ := h
  replace hv := q_fI_e hv
  obtain ⟨_, cv9, dv9⟩ := hv
  refine ⟨⟨some _, rfl⟩, _, _, cv9, dv9, ?_⟩
  refine And.intro (fun hc10 => ?_) (fun hc10 => ?_)
  · replace h := q_ifp (hc10) h
    exact ps_weak (he g (Option.some.inj h).symm) ⟨rfl, rfl, rfl, rfl, rfl, rfl, trivial⟩
  · replace h := q_ifn (hc10) h
    replace h := q_be h
    obtain ⟨v12, hv, h⟩ := h
    replace hv := q_fI_e hv
    obtain ⟨_, cv12, dv12⟩ := hv
    replace h := q_be h
    obtain ⟨v13, hv, h⟩ := h
    replace hv := q_fI_e hv
    obtain ⟨_, cv13, dv13⟩ := hv
    refine ⟨⟨some _, rfl⟩, _, _, cv12, dv12, by decide, ⟨some _, rfl⟩, _, _, cv13, dv13, ?_⟩
    refine And.intro (fun hc14 => ?_) (fun hc14 => ?_)
    · replace h := q_ifp (hc14) h
      refine sX10_cover_109 ?_
      replace h := q_be h
      obtain ⟨v16, hv, h⟩ := h
      replace hv := q_fI_e hv
      obtain ⟨_, cv16, dv16⟩ := hv
      refine ⟨⟨some _, rfl⟩, _, _, cv16, dv16, ?_⟩
      refine And.intro (fun hc17 => ?_) (fun hc17 => ?_)
      · replace h := q_ifp (hc17) h
        refine sX10_cover_130 ?_
        replace h := q_be h
        obtain ⟨u19, hv, h⟩ := h
        replace hv := q_ob_e hv
        obtain ⟨_, cu19⟩ := hv
        replace h := q_be h
        obtain ⟨v20, hv, h⟩ := h
        refine ⟨⟨some _, rfl⟩, ⟨_, cu19⟩, ?_⟩
        refine rX4_painted hv ?_
        exact ps_weak (pjX10_cover_138_52 HV h hh he) ⟨rfl, rfl, rfl, rfl, rfl, rfl, rfl, rfl, trivial⟩
      · replace h := q_ifn (hc17) h
        replace h := q_be h
        obtain ⟨v51, hv, h⟩ := h
        replace hv := q_fR_e hv
        obtain ⟨_, cv51, dv51⟩ := hv
        replace h := q_be h
        obtain ⟨a52, ea52, h⟩ := h
        subst ea52
        replace h := q_be h
        obtain ⟨v53, hv, h⟩ := h
        replace hv := q_aR_e hv
        obtain ⟨_, _, _, cv53, pv53, qv53, iv53, dv53⟩ := hv
        replace h := q_be h
        obtain ⟨a54, ea54, h⟩ := h
        subst ea54
        replace h := q_be h
        obtain ⟨v55, hv, h⟩ := h
        replace hv := q_aI_e hv
        obtain ⟨_, _, cv55, iv55, yv55⟩ := hv
        refine ⟨⟨some _, rfl⟩, _, _, cv51, dv51, _, _, _, _, cv53, pv53, qv53, iv53, dv53, _, _, cv55, iv55, _, yv55, ?_⟩
        exact ps_weak (pjX10_cover_138_52 HV h hh he) ⟨rfl, rfl, rfl, rfl, rfl, rfl, rfl, rfl, trivial⟩
    · replace h := q_ifn (hc14) h
      replace h := q_be h
      obtain ⟨v58, hv, h⟩ := h
      replace hv := q_fI_e hv
      obtain ⟨_, cv58, dv58⟩ := hv
      replace h := q_be h
      obtain ⟨v59, hv, h⟩ := h
      replace hv := q_fI_e hv
      obtain ⟨_, cv59, dv59⟩ := hv
      replace h := q_be h
      obtain ⟨v60, hv, h⟩ := h
      replace hv := q_fI_e hv
      obtain ⟨_, cv60, dv60⟩ := hv
      replace h := q_be h
      obtain ⟨v61, hv, h⟩ := h
      replace hv := q_fI_e hv
      obtain ⟨_, cv61, dv61⟩ := hv
      replace h := q_be h
      obtain ⟨u62, hv, h⟩ := h
      replace hv := q_ob_e hv
      obtain ⟨_, cu62⟩ := hv
      replace h := q_be h
      obtain ⟨v63, hv, h⟩ := h
      refine ⟨⟨some _, rfl⟩, ⟨some _, rfl⟩, _, _, cv58, dv58, ⟨some _, rfl⟩, _, _, cv59, dv59, ⟨some _, rfl⟩, _, _, cv60, dv60, ⟨some _, rfl⟩, _, _, cv61, dv61, ⟨_, cu62⟩, ?_⟩
      refine rX4_own hv ?_
      exact ps_weak (pjX10_cover_138_52 HV h hh he) ⟨rfl, rfl, rfl, rfl, rfl, rfl, rfl, rfl, trivial⟩
noncomputable def bX10_cover_40 (VV : ps_G → Nat → Nat → Int32 → Int32 → Option ps_G) (x0 : Nat) (x1 : Nat) (x2 : Nat) (x3 : Int32) (x4 : Int32) (x5 : Int32) (g : ps_G) : Option ((Int32 × ps_G) ⊕ (ps_G)) := Option.bind (q_fI 9 1 g x1) fun v7 => if v7 ≤ x5 then (some (.inr g)) else (Option.bind (q_lp (fun s => bX10_cover_52 VV x0 x1 x2 x3 x4 x5 s.1 s.2) ((0 : Int32), g)) fun s68 => some (.inl (x5 + (1 : Int32), s68)))
theorem pbX10_cover_40 {VV : ps_G → Nat → Nat → Int32 → Int32 → Option ps_G} {d : Nat} {Q : ps_Rs → ps_G → Prop}  {x0 : Nat} {x1 : Nat} {x2 : Nat} {x3 : Int32} {x4 : Int32} {x5 : Int32} {g : ps_G} {x : (Int32 × ps_G) ⊕ (ps_G)} (HV : ∀ {Q : ps_Rs → ps_G → Prop} {g : ps_G} {x0 x1 : Nat} {x2 x3 : Int32} {r : ps_G}, VV g x0 x1 x2 x3 = some r → Q (.inl none) r → ps_Ok mX10_viewOf (d + 5) [.ref x0, .ref x1, .int x2, .int x3] g Q) (h : bX10_cover_40 VV x0 x1 x2 x3 x4 x5 g = some x) (hh : ∀ s' : Int32 × ps_G, x = .inl s' → ps_At mX10_cover (d + 6) 40 [(0, .ref x0), (1, .ref x1), (2, .ref x2), (3, .int x3), (4, .int x4), (5, .int s'.1)] [] s'.2 Q) (he : ∀ r' : ps_G, x = .inr r' → ps_At mX10_cover (d + 6) 241 [] [] r' Q) : ps_At mX10_cover (d + 6) 40 [(0, .ref x0), (1, .ref x1), (2, .ref x2), (3, .int x3), (4, .int x4), (5, .int x5)] [] g Q := by
  unfold bX10_cover_40 at h
  refine sX10_cover_40 ?_
  replace h := q_be h
  obtain ⟨v7, hv, h⟩ := h
  replace hv := q_fI_e hv
  obtain ⟨_, cv7, dv7⟩ := hv
  refine ⟨⟨some _, rfl⟩, _, _, cv7, dv7, ?_⟩
  refine And.intro (fun hc8 => ?_) (fun hc8 => ?_)
  · replace h := q_ifp (hc8) h
    exact ps_weak (he g (Option.some.inj h).symm) trivial
  · replace h := q_ifn (hc8) h
    refine ⟨by decide, ?_⟩
    replace h := q_be h
    obtain ⟨s68, hl, h⟩ := h
    refine ps_weak (q_lp_ok hl (fun s => ps_At mX10_cover (d + 6) 52 [(0, .ref x0), (1, .ref x1), (2, .ref x2), (3, .int x3), (4, .int x4), (5, .int x5), (6, .int s.1)] [] s.2 Q) (fun r => ps_At mX10_cover (d + 6) 235 [(0, .ref x0), (1, .ref x1), (2, .ref x2), (3, .int x3), (4, .int x4), (5, .int x5)] [] r Q) (fun s x hb hh he => pbX10_cover_52 HV hb hh he) ?_) ⟨rfl, rfl, rfl, rfl, rfl, rfl, rfl, trivial⟩
    refine (?_ : ps_At mX10_cover (d + 6) 235 [(0, .ref x0), (1, .ref x1), (2, .ref x2), (3, .int x3), (4, .int x4), (5, .int x5)] [] s68 Q)
    refine sX10_cover_235 ?_
    refine ⟨by decide, ?_⟩
    exact ps_weak (hh (x5 + (1 : Int32), s68) (Option.some.inj h).symm) ⟨rfl, rfl, rfl, rfl, rfl, rfl, trivial⟩
noncomputable def jX10_cover_37 (VV : ps_G → Nat → Nat → Int32 → Int32 → Option ps_G) (g : ps_G) (x0 : Nat) (x1 : Nat) (x2 : Nat) (x3 : Int32) (x4 : Int32) : Option (ps_G) := Option.bind (q_lp (fun s => bX10_cover_40 VV x0 x1 x2 x3 x4 s.1 s.2) ((0 : Int32), g)) fun s71 => some s71
theorem pjX10_cover_37 {VV : ps_G → Nat → Nat → Int32 → Int32 → Option ps_G} {d : Nat} {Q : ps_Rs → ps_G → Prop} {g : ps_G} {x0 : Nat} {x1 : Nat} {x2 : Nat} {x3 : Int32} {x4 : Int32} {r : ps_G} (HV : ∀ {Q : ps_Rs → ps_G → Prop} {g : ps_G} {x0 x1 : Nat} {x2 x3 : Int32} {r : ps_G}, VV g x0 x1 x2 x3 = some r → Q (.inl none) r → ps_Ok mX10_viewOf (d + 5) [.ref x0, .ref x1, .int x2, .int x3] g Q) (h : jX10_cover_37 VV g x0 x1 x2 x3 x4 = some r) (hk : Q (.inl none) r) : ps_At mX10_cover (d + 6) 37 [(0, .ref x0), (1, .ref x1), (2, .ref x2), (3, .int x3), (4, .int x4)] [] g Q := by
  unfold jX10_cover_37 at h
  refine sX10_cover_37 ?_
  refine ⟨by decide, ?_⟩
  replace h := q_be h
  obtain ⟨s71, hl, h⟩ := h
  refine ps_weak (q_lp_ok hl (fun s => ps_At mX10_cover (d + 6) 40 [(0, .ref x0), (1, .ref x1), (2, .ref x2), (3, .int x3), (4, .int x4), (5, .int s.1)] [] s.2 Q) (fun r => ps_At mX10_cover (d + 6) 241 [] [] r Q) (fun s x hb hh he => pbX10_cover_40 HV hb hh he) ?_) ⟨rfl, rfl, rfl, rfl, rfl, rfl, trivial⟩
  refine (?_ : ps_At mX10_cover (d + 6) 241 [] [] s71 Q)
  refine sX10_cover_241 ?_
  cases h
  exact ⟨rfl, rfl, hk⟩
noncomputable def fX10_cover (VV : ps_G → Nat → Nat → Int32 → Int32 → Option ps_G) (g : ps_G) (x0 : Nat) (x1 : Nat) (x2 : Nat) (x3 : Int32) : Option (ps_G) := Option.bind (q_fI 4 1 g x2) fun v4 => if ¬ v4 = (1 : Int32) then (jX10_cover_37 VV g x0 x1 x2 x3 (if (31 : Int32) ≤ (x3 + (1 : Int32)) then x3 else x3 + (1 : Int32))) else (Option.bind (q_fI 4 0 g x2) fun v72 => Option.bind (q_ob 10 g x0) fun u73 => Option.bind (VV g x0 x1 v72 (x3 + (1 : Int32))) fun v74 => jX10_cover_37 VV v74 x0 x1 x2 x3 (if (31 : Int32) ≤ (x3 + (1 : Int32)) then x3 else x3 + (1 : Int32)))
theorem rX10_cover {VV : ps_G → Nat → Nat → Int32 → Int32 → Option ps_G} {d : Nat} {Q : ps_Rs → ps_G → Prop} {g : ps_G} {x0 : Nat} {x1 : Nat} {x2 : Nat} {x3 : Int32} {r : ps_G} (HV : ∀ {Q : ps_Rs → ps_G → Prop} {g : ps_G} {x0 x1 : Nat} {x2 x3 : Int32} {r : ps_G}, VV g x0 x1 x2 x3 = some r → Q (.inl none) r → ps_Ok mX10_viewOf (d + 5) [.ref x0, .ref x1, .int x2, .int x3] g Q) (h : fX10_cover VV g x0 x1 x2 x3 = some r) (hk : Q (.inl none) r) : ps_Ok mX10_cover (d + 6) [.ref x0, .ref x1, .ref x2, .int x3] g Q := by
  unfold fX10_cover at h
  refine sX10_cover_0 ?_
  have kJ3 : ∀ w2 : Int32, w2 = (if (31 : Int32) ≤ (x3 + (1 : Int32)) then x3 else x3 + (1 : Int32)) → ps_At mX10_cover (d + 6) 15 [(0, .ref x0), (1, .ref x1), (2, .ref x2), (3, .int x3)] [.int w2] g Q := by
    rintro _ rfl
    refine sX10_cover_15 ?_
    replace h := q_be h
    obtain ⟨v4, hv, h⟩ := h
    replace hv := q_fI_e hv
    obtain ⟨_, cv4, dv4⟩ := hv
    refine ⟨by decide, ⟨some _, rfl⟩, _, _, cv4, dv4, ?_⟩
    refine And.intro (fun hc5 => ?_) (fun hc5 => ?_)
    · replace h := q_ifp (hc5) h
      exact ps_weak (pjX10_cover_37 HV h hk) ⟨rfl, rfl, rfl, rfl, rfl, trivial⟩
    · replace h := q_ifn (hc5) h
      replace h := q_be h
      obtain ⟨v72, hv, h⟩ := h
      replace hv := q_fI_e hv
      obtain ⟨_, cv72, dv72⟩ := hv
      replace h := q_be h
      obtain ⟨u73, hv, h⟩ := h
      replace hv := q_ob_e hv
      obtain ⟨_, cu73⟩ := hv
      replace h := q_be h
      obtain ⟨v74, hv, h⟩ := h
      refine ⟨⟨some _, rfl⟩, ⟨some _, rfl⟩, ⟨some _, rfl⟩, _, _, cv72, dv72, ⟨_, cu73⟩, ?_⟩
      refine HV hv ?_
      exact ps_weak (pjX10_cover_37 HV h hk) ⟨rfl, rfl, rfl, rfl, rfl, trivial⟩
  refine And.intro (fun hc1 => ?_) (fun hc1 => ?_)
  · refine sX10_cover_14 ?_
    exact ps_weak (kJ3 _ (if_pos (hc1)).symm) ⟨rfl, rfl, rfl, rfl, trivial⟩
  · exact ps_weak (kJ3 _ (if_neg (hc1)).symm) ⟨rfl, rfl, rfl, rfl, trivial⟩
noncomputable def jX10_lay_90 (VV : ps_G → Nat → Nat → Int32 → Int32 → Option ps_G) (g : ps_G) : Option (ps_G) := some g
theorem pjX10_lay_90 {VV : ps_G → Nat → Nat → Int32 → Int32 → Option ps_G} {d : Nat} {Q : ps_Rs → ps_G → Prop} {g : ps_G}  {r : ps_G} (HV : ∀ {Q : ps_Rs → ps_G → Prop} {g : ps_G} {x0 x1 : Nat} {x2 x3 : Int32} {r : ps_G}, VV g x0 x1 x2 x3 = some r → Q (.inl none) r → ps_Ok mX10_viewOf (d + 5) [.ref x0, .ref x1, .int x2, .int x3] g Q) (h : jX10_lay_90 VV g = some r) (hk : Q (.inl none) r) : ps_At mX10_lay (d + 7) 90 [] [] g Q := by
  unfold jX10_lay_90 at h
  refine sX10_lay_90 ?_
  cases h
  exact ⟨rfl, rfl, hk⟩
noncomputable def jX10_lay_71 (VV : ps_G → Nat → Nat → Int32 → Int32 → Option ps_G) (g : ps_G) (x0 : Nat) (x1 : Nat) (x2 : Nat) (x3 : Int32) (x4 : Int32) : Option (ps_G) := Option.bind (q_fI 4 5 g x2) fun v10 => if (v10 = 0) ∨ (¬ x4 = 0) then (jX10_lay_90 VV g) else (Option.bind (q_ob 10 g x0) fun u14 => Option.bind (fX10_cover VV g x0 x1 x2 x3) fun v15 => jX10_lay_90 VV v15)
theorem pjX10_lay_71 {VV : ps_G → Nat → Nat → Int32 → Int32 → Option ps_G} {d : Nat} {Q : ps_Rs → ps_G → Prop} {g : ps_G} {x0 : Nat} {x1 : Nat} {x2 : Nat} {x3 : Int32} {x4 : Int32} {r : ps_G} (HV : ∀ {Q : ps_Rs → ps_G → Prop} {g : ps_G} {x0 x1 : Nat} {x2 x3 : Int32} {r : ps_G}, VV g x0 x1 x2 x3 = some r → Q (.inl none) r → ps_Ok mX10_viewOf (d + 5) [.ref x0, .ref x1, .int x2, .int x3] g Q) (h : jX10_lay_71 VV g x0 x1 x2 x3 x4 = some r) (hk : Q (.inl none) r) : ps_At mX10_lay (d + 7) 71 [(0, .ref x0), (1, .ref x1), (2, .ref x2), (3, .int x3), (4, .int x4)] [] g Q := by
  unfold jX10_lay_71 at h
  refine sX10_lay_71 ?_
  replace h := q_be h
  obtain ⟨v10, hv, h⟩ := h
  replace hv := q_fI_e hv
  obtain ⟨_, cv10, dv10⟩ := hv
  have kT16 : (jX10_lay_90 VV g) = some r → ps_At mX10_lay (d + 7) 90 [] [] g Q := fun h => by
    exact ps_weak (pjX10_lay_90 HV h hk) trivial
  refine ⟨⟨some _, rfl⟩, _, _, cv10, dv10, ?_⟩
  refine And.intro (fun hc11 => ?_) (fun hc11 => ?_)
  · exact ps_weak (kT16 (q_ifp (Or.inl hc11) h)) trivial
  · refine And.intro (fun hc12 => ?_) (fun hc12 => ?_)
    · exact ps_weak (kT16 (q_ifp (Or.inr (hc12)) h)) trivial
    · replace h := q_ifn (not_or.mpr ⟨hc11, hc12⟩) h
      replace h := q_be h
      obtain ⟨u14, hv, h⟩ := h
      replace hv := q_ob_e hv
      obtain ⟨_, cu14⟩ := hv
      replace h := q_be h
      obtain ⟨v15, hv, h⟩ := h
      refine ⟨⟨some _, rfl⟩, ⟨some _, rfl⟩, ⟨some _, rfl⟩, ⟨_, cu14⟩, ?_⟩
      refine rX10_cover HV hv ?_
      exact ps_weak (pjX10_lay_90 HV h hk) trivial
noncomputable def jX10_lay_52 (VV : ps_G → Nat → Nat → Int32 → Int32 → Option ps_G) (g : ps_G) (x0 : Nat) (x1 : Nat) (x2 : Nat) (x3 : Int32) (x4 : Int32) : Option (ps_G) := Option.bind (q_fI 4 5 g x2) fun v6 => if (v6 = 0) ∨ (x4 = 0) then (jX10_lay_71 VV g x0 x1 x2 x3 x4) else (Option.bind (q_ob 10 g x0) fun u18 => Option.bind (fX10_adjust g x0 x1 x2 x3) fun v19 => jX10_lay_71 VV v19 x0 x1 x2 x3 x4)
theorem pjX10_lay_52 {VV : ps_G → Nat → Nat → Int32 → Int32 → Option ps_G} {d : Nat} {Q : ps_Rs → ps_G → Prop} {g : ps_G} {x0 : Nat} {x1 : Nat} {x2 : Nat} {x3 : Int32} {x4 : Int32} {r : ps_G} (HV : ∀ {Q : ps_Rs → ps_G → Prop} {g : ps_G} {x0 x1 : Nat} {x2 x3 : Int32} {r : ps_G}, VV g x0 x1 x2 x3 = some r → Q (.inl none) r → ps_Ok mX10_viewOf (d + 5) [.ref x0, .ref x1, .int x2, .int x3] g Q) (h : jX10_lay_52 VV g x0 x1 x2 x3 x4 = some r) (hk : Q (.inl none) r) : ps_At mX10_lay (d + 7) 52 [(0, .ref x0), (1, .ref x1), (2, .ref x2), (3, .int x3), (4, .int x4)] [] g Q := by
  unfold jX10_lay_52 at h
  refine sX10_lay_52 ?_
  replace h := q_be h
  obtain ⟨v6, hv, h⟩ := h
  replace hv := q_fI_e hv
  obtain ⟨_, cv6, dv6⟩ := hv
  have kT20 : (jX10_lay_71 VV g x0 x1 x2 x3 x4) = some r → ps_At mX10_lay (d + 7) 71 [(0, .ref x0), (1, .ref x1), (2, .ref x2), (3, .int x3), (4, .int x4)] [] g Q := fun h => by
    exact ps_weak (pjX10_lay_71 HV h hk) ⟨rfl, rfl, rfl, rfl, rfl, trivial⟩
  refine ⟨⟨some _, rfl⟩, _, _, cv6, dv6, ?_⟩
  refine And.intro (fun hc7 => ?_) (fun hc7 => ?_)
  · exact ps_weak (kT20 (q_ifp (Or.inl hc7) h)) ⟨rfl, rfl, rfl, rfl, rfl, trivial⟩
  · refine And.intro (fun hc8 => ?_) (fun hc8 => ?_)
    · exact ps_weak (kT20 (q_ifp (Or.inr (hc8)) h)) ⟨rfl, rfl, rfl, rfl, rfl, trivial⟩
    · replace h := q_ifn (not_or.mpr ⟨hc7, hc8⟩) h
      replace h := q_be h
      obtain ⟨u18, hv, h⟩ := h
      replace hv := q_ob_e hv
      obtain ⟨_, cu18⟩ := hv
      replace h := q_be h
      obtain ⟨v19, hv, h⟩ := h
      refine ⟨⟨some _, rfl⟩, ⟨some _, rfl⟩, ⟨some _, rfl⟩, ⟨_, cu18⟩, ?_⟩
      refine rX10_adjust hv ?_
      exact ps_weak (pjX10_lay_71 HV h hk) ⟨rfl, rfl, rfl, rfl, rfl, trivial⟩
noncomputable def jX10_lay_42 (VV : ps_G → Nat → Nat → Int32 → Int32 → Option ps_G) (g : ps_G) (x0 : Nat) (x1 : Nat) (x2 : Nat) (x3 : Int32) (x4 : Int32) : Option (ps_G) := Option.bind (q_fR 10 2 g x0) fun v23 => Option.bind (v23) fun a24 => Option.bind (q_aR g a24 x3) fun v25 => Option.bind (v25) fun a26 => Option.bind (fJ7_fill_53178 g a26 (0 : Int32)) fun v27 => jX10_lay_52 VV v27 x0 x1 x2 x3 x4
theorem pjX10_lay_42 {VV : ps_G → Nat → Nat → Int32 → Int32 → Option ps_G} {d : Nat} {Q : ps_Rs → ps_G → Prop} {g : ps_G} {x0 : Nat} {x1 : Nat} {x2 : Nat} {x3 : Int32} {x4 : Int32} {r : ps_G} (HV : ∀ {Q : ps_Rs → ps_G → Prop} {g : ps_G} {x0 x1 : Nat} {x2 x3 : Int32} {r : ps_G}, VV g x0 x1 x2 x3 = some r → Q (.inl none) r → ps_Ok mX10_viewOf (d + 5) [.ref x0, .ref x1, .int x2, .int x3] g Q) (h : jX10_lay_42 VV g x0 x1 x2 x3 x4 = some r) (hk : Q (.inl none) r) : ps_At mX10_lay (d + 7) 42 [(0, .ref x0), (1, .ref x1), (2, .ref x2), (3, .int x3), (4, .int x4)] [] g Q := by
  unfold jX10_lay_42 at h
  refine sX10_lay_42 ?_
  replace h := q_be h
  obtain ⟨v23, hv, h⟩ := h
  replace hv := q_fR_e hv
  obtain ⟨_, cv23, dv23⟩ := hv
  replace h := q_be h
  obtain ⟨a24, ea24, h⟩ := h
  subst ea24
  replace h := q_be h
  obtain ⟨v25, hv, h⟩ := h
  replace hv := q_aR_e hv
  obtain ⟨_, _, _, cv25, pv25, qv25, iv25, dv25⟩ := hv
  replace h := q_be h
  obtain ⟨a26, ea26, h⟩ := h
  subst ea26
  replace h := q_be h
  obtain ⟨v27, hv, h⟩ := h
  refine ⟨⟨some _, rfl⟩, _, _, cv23, dv23, _, _, _, _, cv25, pv25, qv25, iv25, dv25, ?_⟩
  refine rJ7_fill_53178 hv ?_
  exact ps_weak (pjX10_lay_52 HV h hk) ⟨rfl, rfl, rfl, rfl, rfl, trivial⟩
noncomputable def jX10_lay_21 (VV : ps_G → Nat → Nat → Int32 → Int32 → Option ps_G) (g : ps_G) (x0 : Nat) (x1 : Nat) (x2 : Nat) (x3 : Int32) (k0 : Int32) : Option (ps_G) := Option.bind (q_fI 4 6 g x2) fun v3 => if ¬ v3 = 0 then (jX10_lay_52 VV g x0 x1 x2 x3 k0) else (if ¬ k0 = 0 then (jX10_lay_42 VV g x0 x1 x2 x3 k0) else (Option.bind (q_fI 4 5 g x2) fun v28 => if ¬ v28 = 0 then (jX10_lay_52 VV g x0 x1 x2 x3 k0) else (jX10_lay_42 VV g x0 x1 x2 x3 k0)))
theorem pjX10_lay_21 {VV : ps_G → Nat → Nat → Int32 → Int32 → Option ps_G} {d : Nat} {Q : ps_Rs → ps_G → Prop} {g : ps_G} {x0 : Nat} {x1 : Nat} {x2 : Nat} {x3 : Int32} {k0 : Int32} {r : ps_G} (HV : ∀ {Q : ps_Rs → ps_G → Prop} {g : ps_G} {x0 x1 : Nat} {x2 x3 : Int32} {r : ps_G}, VV g x0 x1 x2 x3 = some r → Q (.inl none) r → ps_Ok mX10_viewOf (d + 5) [.ref x0, .ref x1, .int x2, .int x3] g Q) (h : jX10_lay_21 VV g x0 x1 x2 x3 k0 = some r) (hk : Q (.inl none) r) : ps_At mX10_lay (d + 7) 21 [(0, .ref x0), (1, .ref x1), (2, .ref x2), (3, .int x3)] [.int k0] g Q := by
  unfold jX10_lay_21 at h
  refine sX10_lay_21 ?_
  replace h := q_be h
  obtain ⟨v3, hv, h⟩ := h
  replace hv := q_fI_e hv
  obtain ⟨_, cv3, dv3⟩ := hv
  refine ⟨by decide, ⟨some _, rfl⟩, _, _, cv3, dv3, ?_⟩
  refine And.intro (fun hc4 => ?_) (fun hc4 => ?_)
  · replace h := q_ifp (hc4) h
    exact ps_weak (pjX10_lay_52 HV h hk) ⟨rfl, rfl, rfl, rfl, rfl, trivial⟩
  · replace h := q_ifn (hc4) h
    refine And.intro (fun hc22 => ?_) (fun hc22 => ?_)
    · replace h := q_ifp (hc22) h
      exact ps_weak (pjX10_lay_42 HV h hk) ⟨rfl, rfl, rfl, rfl, rfl, trivial⟩
    · replace h := q_ifn (hc22) h
      replace h := q_be h
      obtain ⟨v28, hv, h⟩ := h
      replace hv := q_fI_e hv
      obtain ⟨_, cv28, dv28⟩ := hv
      refine ⟨⟨some _, rfl⟩, _, _, cv28, dv28, ?_⟩
      refine And.intro (fun hc29 => ?_) (fun hc29 => ?_)
      · replace h := q_ifp (hc29) h
        exact ps_weak (pjX10_lay_52 HV h hk) ⟨rfl, rfl, rfl, rfl, rfl, trivial⟩
      · replace h := q_ifn (hc29) h
        exact ps_weak (pjX10_lay_42 HV h hk) ⟨rfl, rfl, rfl, rfl, rfl, trivial⟩
noncomputable def jX10_lay_16 (VV : ps_G → Nat → Nat → Int32 → Int32 → Option ps_G) (g : ps_G) (x0 : Nat) (x1 : Nat) (x2 : Nat) (x3 : Int32) : Option (ps_G) := jX10_lay_21 VV g x0 x1 x2 x3 (1 : Int32)
theorem pjX10_lay_16 {VV : ps_G → Nat → Nat → Int32 → Int32 → Option ps_G} {d : Nat} {Q : ps_Rs → ps_G → Prop} {g : ps_G} {x0 : Nat} {x1 : Nat} {x2 : Nat} {x3 : Int32} {r : ps_G} (HV : ∀ {Q : ps_Rs → ps_G → Prop} {g : ps_G} {x0 x1 : Nat} {x2 x3 : Int32} {r : ps_G}, VV g x0 x1 x2 x3 = some r → Q (.inl none) r → ps_Ok mX10_viewOf (d + 5) [.ref x0, .ref x1, .int x2, .int x3] g Q) (h : jX10_lay_16 VV g x0 x1 x2 x3 = some r) (hk : Q (.inl none) r) : ps_At mX10_lay (d + 7) 16 [(0, .ref x0), (1, .ref x1), (2, .ref x2), (3, .int x3)] [] g Q := by
  unfold jX10_lay_16 at h
  refine sX10_lay_16 ?_
  exact ps_weak (pjX10_lay_21 HV h hk) ⟨rfl, rfl, rfl, rfl, trivial⟩
noncomputable def fX10_lay (VV : ps_G → Nat → Nat → Int32 → Int32 → Option ps_G) (g : ps_G) (x0 : Nat) (x1 : Nat) (x2 : Nat) (x3 : Int32) : Option (ps_G) := Option.bind (q_fI 4 1 g x2) fun v1 => if v1 = (4 : Int32) then (jX10_lay_16 VV g x0 x1 x2 x3) else (Option.bind (q_fI 4 1 g x2) fun v36 => if ¬ v36 = (5 : Int32) then (jX10_lay_21 VV g x0 x1 x2 x3 (0 : Int32)) else (jX10_lay_16 VV g x0 x1 x2 x3))
theorem rX10_lay {VV : ps_G → Nat → Nat → Int32 → Int32 → Option ps_G} {d : Nat} {Q : ps_Rs → ps_G → Prop} {g : ps_G} {x0 : Nat} {x1 : Nat} {x2 : Nat} {x3 : Int32} {r : ps_G} (HV : ∀ {Q : ps_Rs → ps_G → Prop} {g : ps_G} {x0 x1 : Nat} {x2 x3 : Int32} {r : ps_G}, VV g x0 x1 x2 x3 = some r → Q (.inl none) r → ps_Ok mX10_viewOf (d + 5) [.ref x0, .ref x1, .int x2, .int x3] g Q) (h : fX10_lay VV g x0 x1 x2 x3 = some r) (hk : Q (.inl none) r) : ps_Ok mX10_lay (d + 7) [.ref x0, .ref x1, .ref x2, .int x3] g Q := by
  unfold fX10_lay at h
  refine sX10_lay_0 ?_
  replace h := q_be h
  obtain ⟨v1, hv, h⟩ := h
  replace hv := q_fI_e hv
  obtain ⟨_, cv1, dv1⟩ := hv
  refine ⟨⟨some _, rfl⟩, _, _, cv1, dv1, ?_⟩
  refine And.intro (fun hc2 => ?_) (fun hc2 => ?_)
  · replace h := q_ifp (hc2) h
    exact ps_weak (pjX10_lay_16 HV h hk) ⟨rfl, rfl, rfl, rfl, trivial⟩
  · replace h := q_ifn (hc2) h
    replace h := q_be h
    obtain ⟨v36, hv, h⟩ := h
    replace hv := q_fI_e hv
    obtain ⟨_, cv36, dv36⟩ := hv
    refine ⟨⟨some _, rfl⟩, _, _, cv36, dv36, ?_⟩
    refine And.intro (fun hc37 => ?_) (fun hc37 => ?_)
    · replace h := q_ifp (hc37) h
      refine sX10_lay_20 ?_
      exact ps_weak (pjX10_lay_21 HV h hk) ⟨rfl, rfl, rfl, rfl, trivial⟩
    · replace h := q_ifn (hc37) h
      exact ps_weak (pjX10_lay_16 HV h hk) ⟨rfl, rfl, rfl, rfl, trivial⟩
noncomputable def jX10_viewOf_65_34 (VV : ps_G → Nat → Nat → Int32 → Int32 → Option ps_G) (g : ps_G) (x0 : Nat) (x1 : Nat) (x2 : Int32) (x3 : Int32) (x4 : Int32) : Option ((Int32 × ps_G) ⊕ (ps_G)) := some (.inl (x4 + (1 : Int32), g))
theorem pjX10_viewOf_65_34 {VV : ps_G → Nat → Nat → Int32 → Int32 → Option ps_G} {d : Nat} {Q : ps_Rs → ps_G → Prop} {g : ps_G} {x0 : Nat} {x1 : Nat} {x2 : Int32} {x3 : Int32} {x4 : Int32} {x : (Int32 × ps_G) ⊕ (ps_G)} (HV : ∀ {Q : ps_Rs → ps_G → Prop} {g : ps_G} {x0 x1 : Nat} {x2 x3 : Int32} {r : ps_G}, VV g x0 x1 x2 x3 = some r → Q (.inl none) r → ps_Ok mX10_viewOf (d + 5) [.ref x0, .ref x1, .int x2, .int x3] g Q) (h : jX10_viewOf_65_34 VV g x0 x1 x2 x3 x4 = some x) (hh : ∀ s' : Int32 × ps_G, x = .inl s' → ps_At mX10_viewOf (d + 8) 34 [(0, .ref x0), (1, .ref x1), (2, .int x2), (3, .int x3), (4, .int s'.1)] [] s'.2 Q) (he : ∀ r' : ps_G, x = .inr r' → ps_At mX10_viewOf (d + 8) 71 [] [] r' Q) : ps_At mX10_viewOf (d + 8) 65 [(0, .ref x0), (1, .ref x1), (2, .int x2), (3, .int x3), (4, .int x4)] [] g Q := by
  unfold jX10_viewOf_65_34 at h
  refine sX10_viewOf_65 ?_
  refine ⟨by decide, ?_⟩
  exact ps_weak (hh (x4 + (1 : Int32), g) (Option.some.inj h).symm) ⟨rfl, rfl, rfl, rfl, rfl, trivial⟩
noncomputable def bX10_viewOf_34 (VV : ps_G → Nat → Nat → Int32 → Int32 → Option ps_G) (x0 : Nat) (x1 : Nat) (x2 : Int32) (x3 : Int32) (x4 : Int32) (g : ps_G) : Option ((Int32 × ps_G) ⊕ (ps_G)) := Option.bind (q_fI 9 4 g x1) fun v13 => if v13 ≤ x4 then (some (.inr g)) else (Option.bind (q_ob 9 g x1) fun u16 => Option.bind (fX9_child g x1 x4 x2) fun v17 => if v17 = none then (jX10_viewOf_65_34 VV g x0 x1 x2 x3 x4) else (Option.bind (v17) fun a20 => Option.bind (q_ob 10 g x0) fun u21 => Option.bind (fX10_lay VV g x0 x1 a20 x3) fun v22 => jX10_viewOf_65_34 VV v22 x0 x1 x2 x3 x4))
theorem pbX10_viewOf_34 {VV : ps_G → Nat → Nat → Int32 → Int32 → Option ps_G} {d : Nat} {Q : ps_Rs → ps_G → Prop}  {x0 : Nat} {x1 : Nat} {x2 : Int32} {x3 : Int32} {x4 : Int32} {g : ps_G} {x : (Int32 × ps_G) ⊕ (ps_G)} (HV : ∀ {Q : ps_Rs → ps_G → Prop} {g : ps_G} {x0 x1 : Nat} {x2 x3 : Int32} {r : ps_G}, VV g x0 x1 x2 x3 = some r → Q (.inl none) r → ps_Ok mX10_viewOf (d + 5) [.ref x0, .ref x1, .int x2, .int x3] g Q) (h : bX10_viewOf_34 VV x0 x1 x2 x3 x4 g = some x) (hh : ∀ s' : Int32 × ps_G, x = .inl s' → ps_At mX10_viewOf (d + 8) 34 [(0, .ref x0), (1, .ref x1), (2, .int x2), (3, .int x3), (4, .int s'.1)] [] s'.2 Q) (he : ∀ r' : ps_G, x = .inr r' → ps_At mX10_viewOf (d + 8) 71 [] [] r' Q) : ps_At mX10_viewOf (d + 8) 34 [(0, .ref x0), (1, .ref x1), (2, .int x2), (3, .int x3), (4, .int x4)] [] g Q := by
  unfold bX10_viewOf_34 at h
  refine sX10_viewOf_34 ?_
  replace h := q_be h
  obtain ⟨v13, hv, h⟩ := h
  replace hv := q_fI_e hv
  obtain ⟨_, cv13, dv13⟩ := hv
  refine ⟨⟨some _, rfl⟩, _, _, cv13, dv13, ?_⟩
  refine And.intro (fun hc14 => ?_) (fun hc14 => ?_)
  · replace h := q_ifp (hc14) h
    exact ps_weak (he g (Option.some.inj h).symm) trivial
  · replace h := q_ifn (hc14) h
    replace h := q_be h
    obtain ⟨u16, hv, h⟩ := h
    replace hv := q_ob_e hv
    obtain ⟨_, cu16⟩ := hv
    replace h := q_be h
    obtain ⟨v17, hv, h⟩ := h
    refine ⟨⟨some _, rfl⟩, ⟨_, cu16⟩, ?_⟩
    refine rX9_child hv ?_
    refine ⟨_, _, rfl, by decide, ⟨_, rfl⟩, _, _, rfl, ?_⟩
    refine And.intro (fun hc18 => ?_) (fun hc18 => ?_)
    · replace h := q_ifp (hc18) h
      exact ps_weak (pjX10_viewOf_65_34 HV h hh he) ⟨(by first | rfl | (cases v17 <;> rfl)), (by first | rfl | (cases v17 <;> rfl)), (by first | rfl | (cases v17 <;> rfl)), (by first | rfl | (cases v17 <;> rfl)), (by first | rfl | (cases v17 <;> rfl)), trivial⟩
    · replace h := q_ifn (hc18) h
      replace h := q_be h
      obtain ⟨a20, ea20, h⟩ := h
      subst ea20
      replace h := q_be h
      obtain ⟨u21, hv, h⟩ := h
      replace hv := q_ob_e hv
      obtain ⟨_, cu21⟩ := hv
      replace h := q_be h
      obtain ⟨v22, hv, h⟩ := h
      refine ⟨⟨some _, rfl⟩, ⟨some _, rfl⟩, ⟨some _, rfl⟩, ⟨_, cu21⟩, ?_⟩
      refine rX10_lay HV hv ?_
      exact ps_weak (pjX10_viewOf_65_34 HV h hh he) ⟨rfl, rfl, rfl, rfl, rfl, trivial⟩
noncomputable def fX10_viewOfB (VV : ps_G → Nat → Nat → Int32 → Int32 → Option ps_G) (g : ps_G) (x0 : Nat) (x1 : Nat) (x2 : Int32) (x3 : Int32) : Option (ps_G) := if ¬ (x3 < 0) ∧ (x3 < (31 : Int32)) then (Option.bind (q_fR 10 1 g x0) fun v3 => Option.bind (v3) fun a4 => Option.bind (q_aR g a4 x3) fun v5 => Option.bind (v5) fun a6 => Option.bind (fJ7_fill_53178 g a6 (0 : Int32)) fun v7 => Option.bind (q_fR 10 2 v7 x0) fun v8 => Option.bind (v8) fun a9 => Option.bind (q_aR v7 a9 x3) fun v10 => Option.bind (v10) fun a11 => Option.bind (fJ7_fill_53178 v7 a11 (0 : Int32)) fun v12 => Option.bind (q_lp (fun s => bX10_viewOf_34 VV x0 x1 x2 x3 s.1 s.2) ((0 : Int32), v12)) fun s27 => some s27) else (some g)
theorem rX10_viewOfB {VV : ps_G → Nat → Nat → Int32 → Int32 → Option ps_G} {d : Nat} {Q : ps_Rs → ps_G → Prop} {g : ps_G} {x0 : Nat} {x1 : Nat} {x2 : Int32} {x3 : Int32} {r : ps_G} (HV : ∀ {Q : ps_Rs → ps_G → Prop} {g : ps_G} {x0 x1 : Nat} {x2 x3 : Int32} {r : ps_G}, VV g x0 x1 x2 x3 = some r → Q (.inl none) r → ps_Ok mX10_viewOf (d + 5) [.ref x0, .ref x1, .int x2, .int x3] g Q) (h : fX10_viewOfB VV g x0 x1 x2 x3 = some r) (hk : Q (.inl none) r) : ps_Ok mX10_viewOf (d + 8) [.ref x0, .ref x1, .int x2, .int x3] g Q := by
  unfold fX10_viewOfB at h
  refine sX10_viewOf_0 ?_
  have kF29 : (some g) = some r → ps_At mX10_viewOf (d + 8) 10 [] [] g Q := fun h => by
    refine sX10_viewOf_10 ?_
    cases h
    exact ⟨rfl, rfl, hk⟩
  refine And.intro (fun hc1 => ?_) (fun hc1 => ?_)
  · exact ps_weak (kF29 (q_ifn (fun z => z.1 hc1) h)) trivial
  · refine And.intro (fun hc2 => ?_) (fun hc2 => ?_)
    · replace h := q_ifp (⟨hc1, hc2⟩) h
      refine sX10_viewOf_11 ?_
      replace h := q_be h
      obtain ⟨v3, hv, h⟩ := h
      replace hv := q_fR_e hv
      obtain ⟨_, cv3, dv3⟩ := hv
      replace h := q_be h
      obtain ⟨a4, ea4, h⟩ := h
      subst ea4
      replace h := q_be h
      obtain ⟨v5, hv, h⟩ := h
      replace hv := q_aR_e hv
      obtain ⟨_, _, _, cv5, pv5, qv5, iv5, dv5⟩ := hv
      replace h := q_be h
      obtain ⟨a6, ea6, h⟩ := h
      subst ea6
      replace h := q_be h
      obtain ⟨v7, hv, h⟩ := h
      refine ⟨⟨some _, rfl⟩, _, _, cv3, dv3, _, _, _, _, cv5, pv5, qv5, iv5, dv5, ?_⟩
      refine rJ7_fill_53178 hv ?_
      replace h := q_be h
      obtain ⟨v8, hv, h⟩ := h
      replace hv := q_fR_e hv
      obtain ⟨_, cv8, dv8⟩ := hv
      replace h := q_be h
      obtain ⟨a9, ea9, h⟩ := h
      subst ea9
      replace h := q_be h
      obtain ⟨v10, hv, h⟩ := h
      replace hv := q_aR_e hv
      obtain ⟨_, _, _, cv10, pv10, qv10, iv10, dv10⟩ := hv
      replace h := q_be h
      obtain ⟨a11, ea11, h⟩ := h
      subst ea11
      replace h := q_be h
      obtain ⟨v12, hv, h⟩ := h
      refine ⟨⟨some _, rfl⟩, _, _, cv8, dv8, _, _, _, _, cv10, pv10, qv10, iv10, dv10, ?_⟩
      refine rJ7_fill_53178 hv ?_
      refine ⟨by decide, ?_⟩
      replace h := q_be h
      obtain ⟨s27, hl, h⟩ := h
      refine ps_weak (q_lp_ok hl (fun s => ps_At mX10_viewOf (d + 8) 34 [(0, .ref x0), (1, .ref x1), (2, .int x2), (3, .int x3), (4, .int s.1)] [] s.2 Q) (fun r => ps_At mX10_viewOf (d + 8) 71 [] [] r Q) (fun s x hb hh he => pbX10_viewOf_34 HV hb hh he) ?_) ⟨rfl, rfl, rfl, rfl, rfl, trivial⟩
      refine (?_ : ps_At mX10_viewOf (d + 8) 71 [] [] s27 Q)
      refine sX10_viewOf_71 ?_
      cases h
      exact ⟨rfl, rfl, hk⟩
    · exact ps_weak (kF29 (q_ifn (fun z => hc2 z.2) h)) trivial
noncomputable def fX10_viewOf : Nat → ps_G → Nat → Nat → Int32 → Int32 → Option ps_G
  | 0, _, _, _, _, _ => none
  | n + 1, g, x0, x1, x2, x3 => fX10_viewOfB (fX10_viewOf n) g x0 x1 x2 x3
theorem rX10_viewOfN : ∀ (n : Nat) {d : Nat} {Q : ps_Rs → ps_G → Prop} {g : ps_G} {x0 x1 : Nat} {x2 x3 : Int32} {r : ps_G} (h : fX10_viewOf n g x0 x1 x2 x3 = some r) (hk : Q (.inl none) r), ps_Ok mX10_viewOf (d + 3 * n + 5) [.ref x0, .ref x1, .int x2, .int x3] g Q
  | 0, _, _, _, _, _, _, _, _, h, _ => by cases h
  | n + 1, d, Q, g, x0, x1, x2, x3, r, h, hk => by
    have e : d + 3 * (n + 1) + 5 = (d + 3 * n) + (5 + 3) := by omega
    rw [e]
    exact rX10_viewOfB (d := d + 3 * n) (fun h hk => rX10_viewOfN n h hk) h hk
theorem rX10_viewOf {d : Nat} {Q : ps_Rs → ps_G → Prop} {g : ps_G} {x0 x1 : Nat} {x2 x3 : Int32} {r : ps_G} (h : fX10_viewOf 31 g x0 x1 x2 x3 = some r) (hk : Q (.inl none) r) : ps_Ok mX10_viewOf (d + 98) [.ref x0, .ref x1, .int x2, .int x3] g Q := by
  have e : d + 98 = d + 3 * 31 + 5 := by omega
  rw [e]
  exact rX10_viewOfN 31 h hk
theorem rX10_viewOfL {d : Nat} {Q : ps_Rs → ps_G → Prop} {g : ps_G} {x0 x1 : Nat} {x2 x3 : Int32} {r : ps_G} (h : fX10_viewOf 31 g x0 x1 x2 x3 = some r) (hk : Q (.inl none) r) : ps_Ok mX10_viewOf (d + 93 + 5) [.ref x0, .ref x1, .int x2, .int x3] g Q := rX10_viewOfN 31 h hk
noncomputable def jX10_seen_37 (g : ps_G) (x0 : Nat) : Option (Option Nat × ps_G) := Option.bind (q_fR 10 4 g x0) fun v4 => some (v4, g)
theorem pjX10_seen_37 {d : Nat} {Q : ps_Rs → ps_G → Prop} {g : ps_G} {x0 : Nat} {r : Option Nat × ps_G} (h : jX10_seen_37 g x0 = some r) (hk : Q (.inl (some (va_rf r.1))) r.2) : ps_At mX10_seen (d + 99) 37 [(0, .ref x0)] [] g Q := by
  unfold jX10_seen_37 at h
  refine sX10_seen_37 ?_
  replace h := q_be h
  obtain ⟨v4, hv, h⟩ := h
  replace hv := q_fR_e hv
  obtain ⟨_, cv4, dv4⟩ := hv
  cases h
  exact ⟨⟨some _, rfl⟩, _, _, cv4, dv4, _, _, rfl, rfl, ⟨_, rfl, Or.inr ⟨_, rfl⟩⟩, hk⟩
noncomputable def fX10_seen (g : ps_G) (x0 : Nat) (x1 : Nat) : Option (Option Nat × ps_G) := Option.bind (q_fI 10 5 g x0) fun v1 => if ¬ v1 = 0 then (jX10_seen_37 g x0) else (Option.bind (q_ob 10 g x0) fun u5 => Option.bind (fX10_viewOf 31 g x0 x1 (-1 : Int32) (0 : Int32)) fun v6 => Option.bind (q_fR 10 1 v6 x0) fun v7 => Option.bind (v7) fun a8 => Option.bind (q_aR v6 a8 (0 : Int32)) fun v9 => Option.bind (v9) fun a10 => Option.bind (q_fR 10 4 v6 x0) fun v11 => Option.bind (v11) fun a12 => Option.bind (q_cp v6 a10 (0 : Int32) a12 (0 : Int32) (576 : Int32)) fun g13 => Option.bind (q_sB 10 5 g13 x0 (1 : Int32)) fun g14 => jX10_seen_37 g14 x0)
theorem rX10_seen {d : Nat} {Q : ps_Rs → ps_G → Prop} {g : ps_G} {x0 : Nat} {x1 : Nat} {r : Option Nat × ps_G} (h : fX10_seen g x0 x1 = some r) (hk : Q (.inl (some (va_rf r.1))) r.2) : ps_Ok mX10_seen (d + 99) [.ref x0, .ref x1] g Q := by
  unfold fX10_seen at h
  refine sX10_seen_0 ?_
  replace h := q_be h
  obtain ⟨v1, hv, h⟩ := h
  replace hv := q_fI_e hv
  obtain ⟨_, cv1, dv1⟩ := hv
  refine ⟨⟨some _, rfl⟩, _, _, cv1, dv1, ?_⟩
  refine And.intro (fun hc2 => ?_) (fun hc2 => ?_)
  · replace h := q_ifp (hc2) h
    exact ps_weak (pjX10_seen_37 h hk) ⟨rfl, trivial⟩
  · replace h := q_ifn (hc2) h
    replace h := q_be h
    obtain ⟨u5, hv, h⟩ := h
    replace hv := q_ob_e hv
    obtain ⟨_, cu5⟩ := hv
    replace h := q_be h
    obtain ⟨v6, hv, h⟩ := h
    refine ⟨⟨some _, rfl⟩, ⟨some _, rfl⟩, ⟨_, cu5⟩, ?_⟩
    refine rX10_viewOf hv ?_
    replace h := q_be h
    obtain ⟨v7, hv, h⟩ := h
    replace hv := q_fR_e hv
    obtain ⟨_, cv7, dv7⟩ := hv
    replace h := q_be h
    obtain ⟨a8, ea8, h⟩ := h
    subst ea8
    replace h := q_be h
    obtain ⟨v9, hv, h⟩ := h
    replace hv := q_aR_e hv
    obtain ⟨_, _, _, cv9, pv9, qv9, iv9, dv9⟩ := hv
    replace h := q_be h
    obtain ⟨a10, ea10, h⟩ := h
    subst ea10
    replace h := q_be h
    obtain ⟨v11, hv, h⟩ := h
    replace hv := q_fR_e hv
    obtain ⟨_, cv11, dv11⟩ := hv
    replace h := q_be h
    obtain ⟨a12, ea12, h⟩ := h
    subst ea12
    replace h := q_be h
    obtain ⟨g13, hv, h⟩ := h
    replace hv := q_cp_e hv
    obtain ⟨_, _, _, _, ag13, bg13, cg13, dg13, eg13, fg13, ig13, jg13, kg13, yg13⟩ := hv
    replace h := q_be h
    obtain ⟨g14, hv, h⟩ := h
    replace hv := q_sB_e hv
    obtain ⟨_, cg14, dg14, ng14, yg14⟩ := hv
    refine ⟨⟨some _, rfl⟩, _, _, cv7, dv7, _, _, _, _, cv9, pv9, qv9, iv9, dv9, ⟨some _, rfl⟩, _, _, cv11, dv11, _, _, _, _, ag13, bg13, cg13, dg13, eg13, fg13, ig13, jg13, kg13, by decide, _, yg13, ⟨some _, rfl⟩, _, cg14, dg14, ng14.1, ng14.2, _, yg14, ?_⟩
    exact ps_weak (pjX10_seen_37 h hk) ⟨rfl, trivial⟩
noncomputable def bX11_hash_16 (g : ps_G) (x0 : Nat) (x1 : Option Nat) (x2 : Int32) (x3 : Int32) : Option ((Int32 × Int32) ⊕ (Int32)) := Option.bind (q_fR 11 0 g x0) fun v8 => Option.bind (v8) fun a9 => Option.bind (q_fI 9 0 g a9) fun v10 => Option.bind (q_fR 11 0 g x0) fun v11 => Option.bind (v11) fun a12 => Option.bind (q_fI 9 1 g a12) fun v13 => if (v10 * v13) ≤ x3 then (some (.inr x2)) else (Option.bind (x1) fun a16 => Option.bind (q_aI g a16 x3) fun v17 => some (.inl (((31 : Int32) * x2) + v17, x3 + (1 : Int32))))
theorem pbX11_hash_16 {d : Nat} {Q : ps_Rs → ps_G → Prop} {g : ps_G} {x0 : Nat} {x1 : Option Nat} {x2 : Int32} {x3 : Int32} {x : (Int32 × Int32) ⊕ (Int32)} (h : bX11_hash_16 g x0 x1 x2 x3 = some x) (hh : ∀ s' : Int32 × Int32, x = .inl s' → ps_At mX11_hash (d + 100) 16 [(0, .ref x0), (1, va_rf x1), (2, .int s'.1), (3, .int s'.2)] [] g Q) (he : ∀ r' : Int32, x = .inr r' → ps_At mX11_hash (d + 100) 50 [(2, .int r')] [] g Q) : ps_At mX11_hash (d + 100) 16 [(0, .ref x0), (1, va_rf x1), (2, .int x2), (3, .int x3)] [] g Q := by
  unfold bX11_hash_16 at h
  refine sX11_hash_16 ?_
  replace h := q_be h
  obtain ⟨v8, hv, h⟩ := h
  replace hv := q_fR_e hv
  obtain ⟨_, cv8, dv8⟩ := hv
  replace h := q_be h
  obtain ⟨a9, ea9, h⟩ := h
  subst ea9
  replace h := q_be h
  obtain ⟨v10, hv, h⟩ := h
  replace hv := q_fI_e hv
  obtain ⟨_, cv10, dv10⟩ := hv
  replace h := q_be h
  obtain ⟨v11, hv, h⟩ := h
  replace hv := q_fR_e hv
  obtain ⟨_, cv11, dv11⟩ := hv
  replace h := q_be h
  obtain ⟨a12, ea12, h⟩ := h
  subst ea12
  replace h := q_be h
  obtain ⟨v13, hv, h⟩ := h
  replace hv := q_fI_e hv
  obtain ⟨_, cv13, dv13⟩ := hv
  refine ⟨⟨some _, rfl⟩, _, _, cv8, dv8, _, _, cv10, dv10, ⟨some _, rfl⟩, _, _, cv11, dv11, _, _, cv13, dv13, ?_⟩
  refine And.intro (fun hc14 => ?_) (fun hc14 => ?_)
  · replace h := q_ifp (hc14) h
    exact ps_weak (he x2 (Option.some.inj h).symm) ⟨(by first | rfl | (cases x1 <;> rfl)), trivial⟩
  · replace h := q_ifn (hc14) h
    replace h := q_be h
    obtain ⟨a16, ea16, h⟩ := h
    subst ea16
    replace h := q_be h
    obtain ⟨v17, hv, h⟩ := h
    replace hv := q_aI_e hv
    obtain ⟨_, _, cv17, iv17, yv17⟩ := hv
    refine ⟨⟨some _, rfl⟩, _, _, cv17, iv17, _, yv17, by decide, by decide, ?_⟩
    exact ps_weak (hh (((31 : Int32) * x2) + v17, x3 + (1 : Int32)) (Option.some.inj h).symm) ⟨rfl, rfl, rfl, rfl, trivial⟩
noncomputable def jX11_hash_14 (g : ps_G) (x0 : Nat) (x1 : Option Nat) (x2 : Int32) : Option (Int32 × ps_G) := Option.bind (q_lp (fun s => bX11_hash_16 g x0 x1 s.1 s.2) (x2, (0 : Int32))) fun s20 => some (s20, g)
theorem pjX11_hash_14 {d : Nat} {Q : ps_Rs → ps_G → Prop} {g : ps_G} {x0 : Nat} {x1 : Option Nat} {x2 : Int32} {r : Int32 × ps_G} (h : jX11_hash_14 g x0 x1 x2 = some r) (hk : Q (.inl (some (.int r.1))) r.2) : ps_At mX11_hash (d + 100) 14 [(0, .ref x0), (1, va_rf x1), (2, .int x2)] [] g Q := by
  unfold jX11_hash_14 at h
  refine sX11_hash_14 ?_
  refine ⟨by decide, ?_⟩
  replace h := q_be h
  obtain ⟨s20, hl, h⟩ := h
  refine ps_weak (q_lp_ok hl (fun s => ps_At mX11_hash (d + 100) 16 [(0, .ref x0), (1, va_rf x1), (2, .int s.1), (3, .int s.2)] [] g Q) (fun r => ps_At mX11_hash (d + 100) 50 [(2, .int r)] [] g Q) (fun s x hb hh he => pbX11_hash_16 hb hh he) ?_) ⟨(by first | rfl | (cases x1 <;> rfl)), (by first | rfl | (cases x1 <;> rfl)), (by first | rfl | (cases x1 <;> rfl)), (by first | rfl | (cases x1 <;> rfl)), trivial⟩
  refine (?_ : ps_At mX11_hash (d + 100) 50 [(2, .int s20)] [] g Q)
  refine sX11_hash_50 ?_
  cases h
  exact ⟨rfl, hk⟩
noncomputable def fX11_hash (g : ps_G) (x0 : Nat) : Option (Int32 × ps_G) := Option.bind (q_fR 11 6 g x0) fun v1 => Option.bind (v1) fun a2 => Option.bind (q_fR 11 0 g x0) fun v3 => Option.bind (v3) fun a4 => Option.bind (q_ob 10 g a2) fun u5 => q_b2 (fX10_seen g a2 a4) fun v6 g7 => jX11_hash_14 g7 x0 v6 (0 : Int32)
theorem rX11_hash {d : Nat} {Q : ps_Rs → ps_G → Prop} {g : ps_G} {x0 : Nat} {r : Int32 × ps_G} (h : fX11_hash g x0 = some r) (hk : Q (.inl (some (.int r.1))) r.2) : ps_Ok mX11_hash (d + 100) [.ref x0] g Q := by
  unfold fX11_hash at h
  refine sX11_hash_0 ?_
  replace h := q_be h
  obtain ⟨v1, hv, h⟩ := h
  replace hv := q_fR_e hv
  obtain ⟨_, cv1, dv1⟩ := hv
  replace h := q_be h
  obtain ⟨a2, ea2, h⟩ := h
  subst ea2
  replace h := q_be h
  obtain ⟨v3, hv, h⟩ := h
  replace hv := q_fR_e hv
  obtain ⟨_, cv3, dv3⟩ := hv
  replace h := q_be h
  obtain ⟨a4, ea4, h⟩ := h
  subst ea4
  replace h := q_be h
  obtain ⟨u5, hv, h⟩ := h
  replace hv := q_ob_e hv
  obtain ⟨_, cu5⟩ := hv
  replace h := q_b2_e h
  obtain ⟨v6, g7, hv, h⟩ := h
  refine ⟨⟨some _, rfl⟩, _, _, cv1, dv1, ⟨some _, rfl⟩, _, _, cv3, dv3, ⟨_, cu5⟩, ?_⟩
  refine rX10_seen hv ?_
  refine ⟨_, _, rfl, by decide, by decide, ?_⟩
  refine ps_weak (lv' := [(0, .ref x0), (1, va_rf v6), (2, .int (0 : Int32))]) ?_ ⟨(by first | rfl | (cases v6 <;> rfl)), (by first | rfl | (cases v6 <;> rfl)), (by first | rfl | (cases v6 <;> rfl)), trivial⟩
  exact ps_weak (pjX11_hash_14 h hk) ⟨(by first | rfl | (cases v6 <;> rfl)), (by first | rfl | (cases v6 <;> rfl)), (by first | rfl | (cases v6 <;> rfl)), trivial⟩
noncomputable def bX10_keptTiles_4 (g : ps_G) (x0 : Nat) (x1 : Int32) (x2 : Int32) : Option ((Int32 × Int32) ⊕ (Int32)) := Option.bind (q_fR 10 7 g x0) fun v1 => Option.bind (v1) fun a2 => Option.bind (q_len g a2) fun v3 => if v3 ≤ x2 then (some (.inr x1)) else (Option.bind (q_fR 10 7 g x0) fun v6 => Option.bind (v6) fun a7 => Option.bind (q_aB g a7 x2) fun v8 => some (.inl (x1 + (if v8 = 0 then (0 : Int32) else (1 : Int32)), x2 + (1 : Int32))))
theorem pbX10_keptTiles_4 {d : Nat} {Q : ps_Rs → ps_G → Prop} {g : ps_G} {x0 : Nat} {x1 : Int32} {x2 : Int32} {x : (Int32 × Int32) ⊕ (Int32)} (h : bX10_keptTiles_4 g x0 x1 x2 = some x) (hh : ∀ s' : Int32 × Int32, x = .inl s' → ps_At mX10_keptTiles d 4 [(0, .ref x0), (1, .int s'.1), (2, .int s'.2)] [] g Q) (he : ∀ r' : Int32, x = .inr r' → ps_At mX10_keptTiles d 36 [(1, .int r')] [] g Q) : ps_At mX10_keptTiles d 4 [(0, .ref x0), (1, .int x1), (2, .int x2)] [] g Q := by
  unfold bX10_keptTiles_4 at h
  refine sX10_keptTiles_4 ?_
  replace h := q_be h
  obtain ⟨v1, hv, h⟩ := h
  replace hv := q_fR_e hv
  obtain ⟨_, cv1, dv1⟩ := hv
  replace h := q_be h
  obtain ⟨a2, ea2, h⟩ := h
  subst ea2
  replace h := q_be h
  obtain ⟨v3, hv, h⟩ := h
  replace hv := q_len_e hv
  obtain ⟨_, _, cv3, qv3, yv3⟩ := hv
  refine ⟨⟨some _, rfl⟩, _, _, cv1, dv1, _, _, cv3, qv3, _, yv3, ?_⟩
  refine And.intro (fun hc4 => ?_) (fun hc4 => ?_)
  · replace h := q_ifp (hc4) h
    exact ps_weak (he x1 (Option.some.inj h).symm) ⟨rfl, trivial⟩
  · replace h := q_ifn (hc4) h
    replace h := q_be h
    obtain ⟨v6, hv, h⟩ := h
    replace hv := q_fR_e hv
    obtain ⟨_, cv6, dv6⟩ := hv
    replace h := q_be h
    obtain ⟨a7, ea7, h⟩ := h
    subst ea7
    replace h := q_be h
    obtain ⟨v8, hv, h⟩ := h
    replace hv := q_aB_e hv
    obtain ⟨_, _, cv8, iv8, yv8⟩ := hv
    have kJ11 : ∀ w10 : Int32, w10 = (if v8 = 0 then (0 : Int32) else (1 : Int32)) → ps_At mX10_keptTiles d 28 [(0, .ref x0), (2, .int x2)] [.int w10, .int x1] g Q := by
      rintro _ rfl
      refine sX10_keptTiles_28 ?_
      refine ⟨by decide, by decide, ?_⟩
      exact ps_weak (hh (x1 + (if v8 = 0 then (0 : Int32) else (1 : Int32)), x2 + (1 : Int32)) (Option.some.inj h).symm) ⟨rfl, rfl, rfl, trivial⟩
    refine ⟨⟨some _, rfl⟩, _, _, cv6, dv6, _, _, cv8, iv8, _, yv8, ?_⟩
    refine And.intro (fun hc9 => ?_) (fun hc9 => ?_)
    · refine sX10_keptTiles_27 ?_
      exact ps_weak (kJ11 _ (if_pos (hc9)).symm) ⟨rfl, rfl, trivial⟩
    · exact ps_weak (kJ11 _ (if_neg (hc9)).symm) ⟨rfl, rfl, trivial⟩
noncomputable def fX10_keptTiles (g : ps_G) (x0 : Nat) : Option (Int32) := Option.bind (q_lp (fun s => bX10_keptTiles_4 g x0 s.1 s.2) ((0 : Int32), (0 : Int32))) fun s14 => some s14
theorem rX10_keptTiles {d : Nat} {Q : ps_Rs → ps_G → Prop} {g : ps_G} {x0 : Nat} {r : Int32} (h : fX10_keptTiles g x0 = some r) (hk : Q (.inl (some (.int r))) g) : ps_Ok mX10_keptTiles d [.ref x0] g Q := by
  unfold fX10_keptTiles at h
  refine sX10_keptTiles_0 ?_
  refine ⟨by decide, by decide, ?_⟩
  replace h := q_be h
  obtain ⟨s14, hl, h⟩ := h
  refine ps_weak (q_lp_ok hl (fun s => ps_At mX10_keptTiles d 4 [(0, .ref x0), (1, .int s.1), (2, .int s.2)] [] g Q) (fun r => ps_At mX10_keptTiles d 36 [(1, .int r)] [] g Q) (fun s x hb hh he => pbX10_keptTiles_4 hb hh he) ?_) ⟨rfl, rfl, rfl, trivial⟩
  refine (?_ : ps_At mX10_keptTiles d 36 [(1, .int s14)] [] g Q)
  refine sX10_keptTiles_36 ?_
  cases h
  exact ⟨rfl, hk⟩
def fX5_reachOf (x0 : Int32) (x1 : Int32) : Int32 := if x0 = 0 then (x1) else (if x0 = 1 ∨ x0 = 2 ∨ x0 = 3 ∨ x0 = 4 ∨ x0 = 10 then ((1 : Int32)) else (if x0 = 5 then (x1 - (1 : Int32)) else ((0 : Int32))))
theorem rX5_reachOf {d : Nat} {Q : ps_Rs → ps_G → Prop} {g : ps_G} {x0 : Int32} {x1 : Int32} {r : Int32} (h : fX5_reachOf x0 x1 = r) (hk : Q (.inl (some (.int r))) g) : ps_Ok mX5_reachOf d [.int x0, .int x1] g Q := by
  unfold fX5_reachOf at h
  refine sX5_reachOf_0 ?_
  refine sX5_reachOf_1 ?_
  by_cases hc1 : x0 = 0
  · replace h := q_ifp hc1 h
    have eT : ps_tsel 1 67 0 10 #[59, 65, 65, 65, 65, 61, 67, 67, 67, 67, 65] x0 = 60 := by
      rw [hc1]; decide +kernel
    refine ps_at_eq eT ?_
    refine sX5_reachOf_60 ?_
    subst h
    exact ⟨rfl, hk⟩
  replace h := q_ifn hc1 h
  by_cases hc2 : x0 = 1 ∨ x0 = 2 ∨ x0 = 3 ∨ x0 = 4 ∨ x0 = 10
  · replace h := q_ifp hc2 h
    have eT : ps_tsel 1 67 0 10 #[59, 65, 65, 65, 65, 61, 67, 67, 67, 67, 65] x0 = 66 := by
      rcases hc2 with e9 | e9 | e9 | e9 | e9 <;> (rw [e9]; decide +kernel)
    refine ps_at_eq eT ?_
    refine sX5_reachOf_66 ?_
    subst h
    exact ⟨rfl, hk⟩
  replace h := q_ifn hc2 h
  by_cases hc3 : x0 = 5
  · replace h := q_ifp hc3 h
    have eT : ps_tsel 1 67 0 10 #[59, 65, 65, 65, 65, 61, 67, 67, 67, 67, 65] x0 = 62 := by
      rw [hc3]; decide +kernel
    refine ps_at_eq eT ?_
    refine sX5_reachOf_62 ?_
    subst h
    exact ⟨rfl, hk⟩
  replace h := q_ifn hc3 h
  have eD : ps_tsel 1 67 0 10 #[59, 65, 65, 65, 65, 61, 67, 67, 67, 67, 65] x0 = 68 := by
    refine q_tsd (by decide +kernel) (fun z h1 h2 => ?_)
    have hz : z = 0 ∨ z = 1 ∨ z = 2 ∨ z = 3 ∨ z = 4 ∨ z = 5 ∨ z = 6 ∨ z = 7 ∨ z = 8 ∨ z = 9 ∨ z = 10 := by omega
    rcases hz with rfl | rfl | rfl | rfl | rfl | rfl | rfl | rfl | rfl | rfl | rfl
    · exact Or.inl (q_tsx (v := 0) (fun z => hc1 z))
    · exact Or.inl (q_tsx (v := 1) (fun z => hc2 (Or.inl z)))
    · exact Or.inl (q_tsx (v := 2) (fun z => hc2 ((fun z => (Or.inr (Or.inl z))) z)))
    · exact Or.inl (q_tsx (v := 3) (fun z => hc2 ((fun z => (Or.inr (Or.inr (Or.inl z)))) z)))
    · exact Or.inl (q_tsx (v := 4) (fun z => hc2 ((fun z => (Or.inr (Or.inr (Or.inr (Or.inl z))))) z)))
    · exact Or.inl (q_tsx (v := 5) (fun z => hc3 z))
    · exact Or.inr (by decide +kernel)
    · exact Or.inr (by decide +kernel)
    · exact Or.inr (by decide +kernel)
    · exact Or.inr (by decide +kernel)
    · exact Or.inl (q_tsx (v := 10) (fun z => hc2 ((fun z => (Or.inr (Or.inr (Or.inr (Or.inr z))))) z)))
  refine ps_at_eq eD ?_
  refine sX5_reachOf_68 ?_
  subst h
  exact ⟨rfl, hk⟩
noncomputable def jX9_reach_56_4 (g : ps_G) (x0 : Nat) (x1 : Int32) (x2 : Int32) : Option ((Int32 × Int32) ⊕ (Int32)) := some (.inl (x1, x2 + (1 : Int32)))
theorem pjX9_reach_56_4 {d : Nat} {Q : ps_Rs → ps_G → Prop} {g : ps_G} {x0 : Nat} {x1 : Int32} {x2 : Int32} {x : (Int32 × Int32) ⊕ (Int32)} (h : jX9_reach_56_4 g x0 x1 x2 = some x) (hh : ∀ s' : Int32 × Int32, x = .inl s' → ps_At mX9_reach (d + 1) 4 [(0, .ref x0), (1, .int s'.1), (2, .int s'.2)] [] g Q) (he : ∀ r' : Int32, x = .inr r' → ps_At mX9_reach (d + 1) 62 [(1, .int r')] [] g Q) : ps_At mX9_reach (d + 1) 56 [(0, .ref x0), (1, .int x1), (2, .int x2)] [] g Q := by
  unfold jX9_reach_56_4 at h
  refine sX9_reach_56 ?_
  refine ⟨by decide, ?_⟩
  exact ps_weak (hh (x1, x2 + (1 : Int32)) (Option.some.inj h).symm) ⟨rfl, rfl, rfl, trivial⟩
noncomputable def bX9_reach_4 (g : ps_G) (x0 : Nat) (x1 : Int32) (x2 : Int32) : Option ((Int32 × Int32) ⊕ (Int32)) := if (30 : Int32) ≤ x2 then (some (.inr x1)) else (Option.bind (q_fR 9 2 g x0) fun v3 => Option.bind (v3) fun a4 => Option.bind (q_aR g a4 x2) fun v5 => if v5 = none then (jX9_reach_56_4 g x0 x1 x2) else (Option.bind (q_fR 9 2 g x0) fun v8 => Option.bind (v8) fun a9 => Option.bind (q_aR g a9 x2) fun v10 => Option.bind (v10) fun a11 => Option.bind (q_fI 4 1 g a11) fun v12 => if ¬ v12 = (5 : Int32) then (jX9_reach_56_4 g x0 x1 x2) else (Option.bind (q_fR 9 2 g x0) fun v15 => Option.bind (v15) fun a16 => Option.bind (q_aR g a16 x2) fun v17 => Option.bind (v17) fun a18 => Option.bind (q_fI 4 9 g a18) fun v19 => Option.bind (q_fR 9 2 g x0) fun v20 => Option.bind (v20) fun a21 => Option.bind (q_aR g a21 x2) fun v22 => Option.bind (v22) fun a23 => Option.bind (q_fI 4 10 g a23) fun v24 => jX9_reach_56_4 g x0 (x1 + (fX5_reachOf v19 v24)) x2)))
theorem pbX9_reach_4 {d : Nat} {Q : ps_Rs → ps_G → Prop} {g : ps_G} {x0 : Nat} {x1 : Int32} {x2 : Int32} {x : (Int32 × Int32) ⊕ (Int32)} (h : bX9_reach_4 g x0 x1 x2 = some x) (hh : ∀ s' : Int32 × Int32, x = .inl s' → ps_At mX9_reach (d + 1) 4 [(0, .ref x0), (1, .int s'.1), (2, .int s'.2)] [] g Q) (he : ∀ r' : Int32, x = .inr r' → ps_At mX9_reach (d + 1) 62 [(1, .int r')] [] g Q) : ps_At mX9_reach (d + 1) 4 [(0, .ref x0), (1, .int x1), (2, .int x2)] [] g Q := by
  unfold bX9_reach_4 at h
  refine sX9_reach_4 ?_
  refine And.intro (fun hc1 => ?_) (fun hc1 => ?_)
  · replace h := q_ifp (hc1) h
    exact ps_weak (he x1 (Option.some.inj h).symm) ⟨rfl, trivial⟩
  · replace h := q_ifn (hc1) h
    replace h := q_be h
    obtain ⟨v3, hv, h⟩ := h
    replace hv := q_fR_e hv
    obtain ⟨_, cv3, dv3⟩ := hv
    replace h := q_be h
    obtain ⟨a4, ea4, h⟩ := h
    subst ea4
    replace h := q_be h
    obtain ⟨v5, hv, h⟩ := h
    replace hv := q_aR_e hv
    obtain ⟨_, _, _, cv5, pv5, qv5, iv5, dv5⟩ := hv
    refine ⟨⟨some _, rfl⟩, _, _, cv3, dv3, _, _, _, _, cv5, pv5, qv5, iv5, dv5, _, _, rfl, ?_⟩
    refine And.intro (fun hc6 => ?_) (fun hc6 => ?_)
    · replace h := q_ifp (hc6) h
      exact ps_weak (pjX9_reach_56_4 h hh he) ⟨rfl, rfl, rfl, trivial⟩
    · replace h := q_ifn (hc6) h
      replace h := q_be h
      obtain ⟨v8, hv, h⟩ := h
      replace hv := q_fR_e hv
      obtain ⟨_, cv8, dv8⟩ := hv
      replace h := q_be h
      obtain ⟨a9, ea9, h⟩ := h
      subst ea9
      replace h := q_be h
      obtain ⟨v10, hv, h⟩ := h
      replace hv := q_aR_e hv
      obtain ⟨_, _, _, cv10, pv10, qv10, iv10, dv10⟩ := hv
      replace h := q_be h
      obtain ⟨a11, ea11, h⟩ := h
      subst ea11
      replace h := q_be h
      obtain ⟨v12, hv, h⟩ := h
      replace hv := q_fI_e hv
      obtain ⟨_, cv12, dv12⟩ := hv
      refine ⟨⟨some _, rfl⟩, _, _, cv8, dv8, _, _, _, _, cv10, pv10, qv10, iv10, dv10, _, _, cv12, dv12, ?_⟩
      refine And.intro (fun hc13 => ?_) (fun hc13 => ?_)
      · replace h := q_ifp (hc13) h
        exact ps_weak (pjX9_reach_56_4 h hh he) ⟨rfl, rfl, rfl, trivial⟩
      · replace h := q_ifn (hc13) h
        replace h := q_be h
        obtain ⟨v15, hv, h⟩ := h
        replace hv := q_fR_e hv
        obtain ⟨_, cv15, dv15⟩ := hv
        replace h := q_be h
        obtain ⟨a16, ea16, h⟩ := h
        subst ea16
        replace h := q_be h
        obtain ⟨v17, hv, h⟩ := h
        replace hv := q_aR_e hv
        obtain ⟨_, _, _, cv17, pv17, qv17, iv17, dv17⟩ := hv
        replace h := q_be h
        obtain ⟨a18, ea18, h⟩ := h
        subst ea18
        replace h := q_be h
        obtain ⟨v19, hv, h⟩ := h
        replace hv := q_fI_e hv
        obtain ⟨_, cv19, dv19⟩ := hv
        replace h := q_be h
        obtain ⟨v20, hv, h⟩ := h
        replace hv := q_fR_e hv
        obtain ⟨_, cv20, dv20⟩ := hv
        replace h := q_be h
        obtain ⟨a21, ea21, h⟩ := h
        subst ea21
        replace h := q_be h
        obtain ⟨v22, hv, h⟩ := h
        replace hv := q_aR_e hv
        obtain ⟨_, _, _, cv22, pv22, qv22, iv22, dv22⟩ := hv
        replace h := q_be h
        obtain ⟨a23, ea23, h⟩ := h
        subst ea23
        replace h := q_be h
        obtain ⟨v24, hv, h⟩ := h
        replace hv := q_fI_e hv
        obtain ⟨_, cv24, dv24⟩ := hv
        refine ⟨⟨some _, rfl⟩, _, _, cv15, dv15, _, _, _, _, cv17, pv17, qv17, iv17, dv17, _, _, cv19, dv19, ⟨some _, rfl⟩, _, _, cv20, dv20, _, _, _, _, cv22, pv22, qv22, iv22, dv22, _, _, cv24, dv24, ?_⟩
        refine rX5_reachOf rfl ?_
        refine ⟨by decide, ?_⟩
        exact ps_weak (pjX9_reach_56_4 h hh he) ⟨rfl, rfl, rfl, trivial⟩
noncomputable def fX9_reach (g : ps_G) (x0 : Nat) : Option (Int32) := Option.bind (q_lp (fun s => bX9_reach_4 g x0 s.1 s.2) ((0 : Int32), (0 : Int32))) fun s31 => some s31
theorem rX9_reach {d : Nat} {Q : ps_Rs → ps_G → Prop} {g : ps_G} {x0 : Nat} {r : Int32} (h : fX9_reach g x0 = some r) (hk : Q (.inl (some (.int r))) g) : ps_Ok mX9_reach (d + 1) [.ref x0] g Q := by
  unfold fX9_reach at h
  refine sX9_reach_0 ?_
  refine ⟨by decide, by decide, ?_⟩
  replace h := q_be h
  obtain ⟨s31, hl, h⟩ := h
  refine ps_weak (q_lp_ok hl (fun s => ps_At mX9_reach (d + 1) 4 [(0, .ref x0), (1, .int s.1), (2, .int s.2)] [] g Q) (fun r => ps_At mX9_reach (d + 1) 62 [(1, .int r)] [] g Q) (fun s x hb hh he => pbX9_reach_4 hb hh he) ?_) ⟨rfl, rfl, rfl, trivial⟩
  refine (?_ : ps_At mX9_reach (d + 1) 62 [(1, .int s31)] [] g Q)
  refine sX9_reach_62 ?_
  cases h
  exact ⟨rfl, hk⟩
noncomputable def fX11_count (g : ps_G) (x0 : Nat) (x1 : Int32) : Option (Int32) := if x1 = 0 then (Option.bind (q_fR 11 0 g x0) fun v2 => Option.bind (v2) fun a3 => Option.bind (q_fI 9 0 g a3) fun v4 => some v4) else (if x1 = 1 then (Option.bind (q_fR 11 0 g x0) fun v6 => Option.bind (v6) fun a7 => Option.bind (q_fI 9 1 g a7) fun v8 => some v8) else (if x1 = 2 then (Option.bind (q_fR 11 0 g x0) fun v10 => Option.bind (v10) fun a11 => Option.bind (q_fI 9 4 g a11) fun v12 => some v12) else (if x1 = 3 then (Option.bind (q_fI 11 2 g x0) fun v14 => some v14) else (if x1 = 4 then (Option.bind (q_fI 11 4 g x0) fun v16 => some v16) else (if x1 = 5 then (Option.bind (q_fR 11 6 g x0) fun v18 => Option.bind (v18) fun a19 => Option.bind (q_fI 10 8 g a19) fun v20 => some v20) else (if x1 = 6 then (Option.bind (q_fR 11 6 g x0) fun v22 => Option.bind (v22) fun a23 => Option.bind (q_ob 10 g a23) fun u24 => Option.bind (fX10_keptTiles g a23) fun v25 => some v25) else (if x1 = 7 then (Option.bind (q_fR 11 8 g x0) fun v27 => Option.bind (v27) fun a28 => Option.bind (q_fI 1 8 g a28) fun v29 => some v29) else (if x1 = 8 then (Option.bind (q_fI 11 14 g x0) fun v31 => some v31) else (if x1 = 9 then (Option.bind (q_fR 11 0 g x0) fun v33 => Option.bind (v33) fun a34 => Option.bind (q_ob 9 g a34) fun u35 => Option.bind (fX9_reach g a34) fun v36 => some v36) else (some (-1 : Int32)))))))))))
theorem rX11_count {d : Nat} {Q : ps_Rs → ps_G → Prop} {g : ps_G} {x0 : Nat} {x1 : Int32} {r : Int32} (h : fX11_count g x0 x1 = some r) (hk : Q (.inl (some (.int r))) g) : ps_Ok mX11_count (d + 2) [.ref x0, .int x1] g Q := by
  unfold fX11_count at h
  refine sX11_count_0 ?_
  refine sX11_count_1 ?_
  by_cases hc1 : x1 = 0
  · replace h := q_ifp hc1 h
    have eT : ps_tsel 1 126 0 9 #[55, 63, 71, 79, 84, 89, 97, 105, 113, 118] x1 = 56 := by
      rw [hc1]; decide +kernel
    refine ps_at_eq eT ?_
    refine sX11_count_56 ?_
    replace h := q_be h
    obtain ⟨v2, hv, h⟩ := h
    replace hv := q_fR_e hv
    obtain ⟨_, cv2, dv2⟩ := hv
    replace h := q_be h
    obtain ⟨a3, ea3, h⟩ := h
    subst ea3
    replace h := q_be h
    obtain ⟨v4, hv, h⟩ := h
    replace hv := q_fI_e hv
    obtain ⟨_, cv4, dv4⟩ := hv
    cases h
    exact ⟨⟨some _, rfl⟩, _, _, cv2, dv2, _, _, cv4, dv4, rfl, hk⟩
  replace h := q_ifn hc1 h
  by_cases hc5 : x1 = 1
  · replace h := q_ifp hc5 h
    have eT : ps_tsel 1 126 0 9 #[55, 63, 71, 79, 84, 89, 97, 105, 113, 118] x1 = 64 := by
      rw [hc5]; decide +kernel
    refine ps_at_eq eT ?_
    refine sX11_count_64 ?_
    replace h := q_be h
    obtain ⟨v6, hv, h⟩ := h
    replace hv := q_fR_e hv
    obtain ⟨_, cv6, dv6⟩ := hv
    replace h := q_be h
    obtain ⟨a7, ea7, h⟩ := h
    subst ea7
    replace h := q_be h
    obtain ⟨v8, hv, h⟩ := h
    replace hv := q_fI_e hv
    obtain ⟨_, cv8, dv8⟩ := hv
    cases h
    exact ⟨⟨some _, rfl⟩, _, _, cv6, dv6, _, _, cv8, dv8, rfl, hk⟩
  replace h := q_ifn hc5 h
  by_cases hc9 : x1 = 2
  · replace h := q_ifp hc9 h
    have eT : ps_tsel 1 126 0 9 #[55, 63, 71, 79, 84, 89, 97, 105, 113, 118] x1 = 72 := by
      rw [hc9]; decide +kernel
    refine ps_at_eq eT ?_
    refine sX11_count_72 ?_
    replace h := q_be h
    obtain ⟨v10, hv, h⟩ := h
    replace hv := q_fR_e hv
    obtain ⟨_, cv10, dv10⟩ := hv
    replace h := q_be h
    obtain ⟨a11, ea11, h⟩ := h
    subst ea11
    replace h := q_be h
    obtain ⟨v12, hv, h⟩ := h
    replace hv := q_fI_e hv
    obtain ⟨_, cv12, dv12⟩ := hv
    cases h
    exact ⟨⟨some _, rfl⟩, _, _, cv10, dv10, _, _, cv12, dv12, rfl, hk⟩
  replace h := q_ifn hc9 h
  by_cases hc13 : x1 = 3
  · replace h := q_ifp hc13 h
    have eT : ps_tsel 1 126 0 9 #[55, 63, 71, 79, 84, 89, 97, 105, 113, 118] x1 = 80 := by
      rw [hc13]; decide +kernel
    refine ps_at_eq eT ?_
    refine sX11_count_80 ?_
    replace h := q_be h
    obtain ⟨v14, hv, h⟩ := h
    replace hv := q_fI_e hv
    obtain ⟨_, cv14, dv14⟩ := hv
    cases h
    exact ⟨⟨some _, rfl⟩, _, _, cv14, dv14, rfl, hk⟩
  replace h := q_ifn hc13 h
  by_cases hc15 : x1 = 4
  · replace h := q_ifp hc15 h
    have eT : ps_tsel 1 126 0 9 #[55, 63, 71, 79, 84, 89, 97, 105, 113, 118] x1 = 85 := by
      rw [hc15]; decide +kernel
    refine ps_at_eq eT ?_
    refine sX11_count_85 ?_
    replace h := q_be h
    obtain ⟨v16, hv, h⟩ := h
    replace hv := q_fI_e hv
    obtain ⟨_, cv16, dv16⟩ := hv
    cases h
    exact ⟨⟨some _, rfl⟩, _, _, cv16, dv16, rfl, hk⟩
  replace h := q_ifn hc15 h
  by_cases hc17 : x1 = 5
  · replace h := q_ifp hc17 h
    have eT : ps_tsel 1 126 0 9 #[55, 63, 71, 79, 84, 89, 97, 105, 113, 118] x1 = 90 := by
      rw [hc17]; decide +kernel
    refine ps_at_eq eT ?_
    refine sX11_count_90 ?_
    replace h := q_be h
    obtain ⟨v18, hv, h⟩ := h
    replace hv := q_fR_e hv
    obtain ⟨_, cv18, dv18⟩ := hv
    replace h := q_be h
    obtain ⟨a19, ea19, h⟩ := h
    subst ea19
    replace h := q_be h
    obtain ⟨v20, hv, h⟩ := h
    replace hv := q_fI_e hv
    obtain ⟨_, cv20, dv20⟩ := hv
    cases h
    exact ⟨⟨some _, rfl⟩, _, _, cv18, dv18, _, _, cv20, dv20, rfl, hk⟩
  replace h := q_ifn hc17 h
  by_cases hc21 : x1 = 6
  · replace h := q_ifp hc21 h
    have eT : ps_tsel 1 126 0 9 #[55, 63, 71, 79, 84, 89, 97, 105, 113, 118] x1 = 98 := by
      rw [hc21]; decide +kernel
    refine ps_at_eq eT ?_
    refine sX11_count_98 ?_
    replace h := q_be h
    obtain ⟨v22, hv, h⟩ := h
    replace hv := q_fR_e hv
    obtain ⟨_, cv22, dv22⟩ := hv
    replace h := q_be h
    obtain ⟨a23, ea23, h⟩ := h
    subst ea23
    replace h := q_be h
    obtain ⟨u24, hv, h⟩ := h
    replace hv := q_ob_e hv
    obtain ⟨_, cu24⟩ := hv
    replace h := q_be h
    obtain ⟨v25, hv, h⟩ := h
    refine ⟨⟨some _, rfl⟩, _, _, cv22, dv22, ⟨_, cu24⟩, ?_⟩
    refine rX10_keptTiles hv ?_
    cases h
    exact ⟨rfl, hk⟩
  replace h := q_ifn hc21 h
  by_cases hc26 : x1 = 7
  · replace h := q_ifp hc26 h
    have eT : ps_tsel 1 126 0 9 #[55, 63, 71, 79, 84, 89, 97, 105, 113, 118] x1 = 106 := by
      rw [hc26]; decide +kernel
    refine ps_at_eq eT ?_
    refine sX11_count_106 ?_
    replace h := q_be h
    obtain ⟨v27, hv, h⟩ := h
    replace hv := q_fR_e hv
    obtain ⟨_, cv27, dv27⟩ := hv
    replace h := q_be h
    obtain ⟨a28, ea28, h⟩ := h
    subst ea28
    replace h := q_be h
    obtain ⟨v29, hv, h⟩ := h
    replace hv := q_fI_e hv
    obtain ⟨_, cv29, dv29⟩ := hv
    cases h
    exact ⟨⟨some _, rfl⟩, _, _, cv27, dv27, _, _, cv29, dv29, rfl, hk⟩
  replace h := q_ifn hc26 h
  by_cases hc30 : x1 = 8
  · replace h := q_ifp hc30 h
    have eT : ps_tsel 1 126 0 9 #[55, 63, 71, 79, 84, 89, 97, 105, 113, 118] x1 = 114 := by
      rw [hc30]; decide +kernel
    refine ps_at_eq eT ?_
    refine sX11_count_114 ?_
    replace h := q_be h
    obtain ⟨v31, hv, h⟩ := h
    replace hv := q_fI_e hv
    obtain ⟨_, cv31, dv31⟩ := hv
    cases h
    exact ⟨⟨some _, rfl⟩, _, _, cv31, dv31, rfl, hk⟩
  replace h := q_ifn hc30 h
  by_cases hc32 : x1 = 9
  · replace h := q_ifp hc32 h
    have eT : ps_tsel 1 126 0 9 #[55, 63, 71, 79, 84, 89, 97, 105, 113, 118] x1 = 119 := by
      rw [hc32]; decide +kernel
    refine ps_at_eq eT ?_
    refine sX11_count_119 ?_
    replace h := q_be h
    obtain ⟨v33, hv, h⟩ := h
    replace hv := q_fR_e hv
    obtain ⟨_, cv33, dv33⟩ := hv
    replace h := q_be h
    obtain ⟨a34, ea34, h⟩ := h
    subst ea34
    replace h := q_be h
    obtain ⟨u35, hv, h⟩ := h
    replace hv := q_ob_e hv
    obtain ⟨_, cu35⟩ := hv
    replace h := q_be h
    obtain ⟨v36, hv, h⟩ := h
    refine ⟨⟨some _, rfl⟩, _, _, cv33, dv33, ⟨_, cu35⟩, ?_⟩
    refine rX9_reach hv ?_
    cases h
    exact ⟨rfl, hk⟩
  replace h := q_ifn hc32 h
  have eD : ps_tsel 1 126 0 9 #[55, 63, 71, 79, 84, 89, 97, 105, 113, 118] x1 = 127 := by
    refine q_tsd (by decide +kernel) (fun z h1 h2 => ?_)
    have hz : z = 0 ∨ z = 1 ∨ z = 2 ∨ z = 3 ∨ z = 4 ∨ z = 5 ∨ z = 6 ∨ z = 7 ∨ z = 8 ∨ z = 9 := by omega
    rcases hz with rfl | rfl | rfl | rfl | rfl | rfl | rfl | rfl | rfl | rfl
    · exact Or.inl (q_tsx (v := 0) (fun z => hc1 z))
    · exact Or.inl (q_tsx (v := 1) (fun z => hc5 z))
    · exact Or.inl (q_tsx (v := 2) (fun z => hc9 z))
    · exact Or.inl (q_tsx (v := 3) (fun z => hc13 z))
    · exact Or.inl (q_tsx (v := 4) (fun z => hc15 z))
    · exact Or.inl (q_tsx (v := 5) (fun z => hc17 z))
    · exact Or.inl (q_tsx (v := 6) (fun z => hc21 z))
    · exact Or.inl (q_tsx (v := 7) (fun z => hc26 z))
    · exact Or.inl (q_tsx (v := 8) (fun z => hc30 z))
    · exact Or.inl (q_tsx (v := 9) (fun z => hc32 z))
  refine ps_at_eq eD ?_
  refine sX11_count_127 ?_
  cases h
  exact ⟨rfl, hk⟩
noncomputable def bX11_take_3 (x0 : Nat) (x1 : Int32) (x2 : Int32) (g : ps_G) : Option ((Int32 × ps_G) ⊕ (ps_G)) := if x2 < 0 then (some (.inr g)) else (Option.bind (q_fI 11 14 g x0) fun v3 => if (8000 : Int32) ≤ v3 then (some (.inr g)) else (Option.bind (q_fR 11 13 g x0) fun v6 => Option.bind (v6) fun a7 => Option.bind (q_fI 11 14 g x0) fun v8 => Option.bind (q_wI g a7 v8 ((q_ush x1 x2) &&& (255 : Int32))) fun g9 => Option.bind (q_fI 11 14 g9 x0) fun v10 => Option.bind (q_sI 11 14 g9 x0 (v10 + (1 : Int32))) fun g11 => some (.inl (x2 + (-8 : Int32), g11))))
theorem pbX11_take_3 {d : Nat} {Q : ps_Rs → ps_G → Prop}  {x0 : Nat} {x1 : Int32} {x2 : Int32} {g : ps_G} {x : (Int32 × ps_G) ⊕ (ps_G)} (h : bX11_take_3 x0 x1 x2 g = some x) (hh : ∀ s' : Int32 × ps_G, x = .inl s' → ps_At mX11_take d 3 [(0, .ref x0), (1, .int x1), (2, .int s'.1)] [] s'.2 Q) (he : ∀ r' : ps_G, x = .inr r' → ps_At mX11_take d 49 [] [] r' Q) : ps_At mX11_take d 3 [(0, .ref x0), (1, .int x1), (2, .int x2)] [] g Q := by
  unfold bX11_take_3 at h
  refine sX11_take_3 ?_
  refine And.intro (fun hc1 => ?_) (fun hc1 => ?_)
  · replace h := q_ifp (hc1) h
    exact ps_weak (he g (Option.some.inj h).symm) trivial
  · replace h := q_ifn (hc1) h
    replace h := q_be h
    obtain ⟨v3, hv, h⟩ := h
    replace hv := q_fI_e hv
    obtain ⟨_, cv3, dv3⟩ := hv
    refine ⟨⟨some _, rfl⟩, _, _, cv3, dv3, ?_⟩
    refine And.intro (fun hc4 => ?_) (fun hc4 => ?_)
    · replace h := q_ifp (hc4) h
      exact ps_weak (he g (Option.some.inj h).symm) trivial
    · replace h := q_ifn (hc4) h
      replace h := q_be h
      obtain ⟨v6, hv, h⟩ := h
      replace hv := q_fR_e hv
      obtain ⟨_, cv6, dv6⟩ := hv
      replace h := q_be h
      obtain ⟨a7, ea7, h⟩ := h
      subst ea7
      replace h := q_be h
      obtain ⟨v8, hv, h⟩ := h
      replace hv := q_fI_e hv
      obtain ⟨_, cv8, dv8⟩ := hv
      replace h := q_be h
      obtain ⟨g9, hv, h⟩ := h
      replace hv := q_wI_e hv
      obtain ⟨_, _, cg9, pg9, ig9, yg9⟩ := hv
      replace h := q_be h
      obtain ⟨v10, hv, h⟩ := h
      replace hv := q_fI_e hv
      obtain ⟨_, cv10, dv10⟩ := hv
      replace h := q_be h
      obtain ⟨g11, hv, h⟩ := h
      replace hv := q_sI_e hv
      obtain ⟨_, cg11, dg11, yg11⟩ := hv
      refine ⟨⟨some _, rfl⟩, _, _, cv6, dv6, ⟨some _, rfl⟩, _, _, cv8, dv8, _, _, cg9, pg9, ig9, _, yg9, ⟨some _, rfl⟩, rfl, _, _, cv10, dv10, _, cg11, dg11, rfl, rfl, _, yg11, by decide, ?_⟩
      exact ps_weak (hh (x2 + (-8 : Int32), g11) (Option.some.inj h).symm) ⟨rfl, rfl, rfl, trivial⟩
noncomputable def jX11_take_49 (g : ps_G) : Option (ps_G) := some g
theorem pjX11_take_49 {d : Nat} {Q : ps_Rs → ps_G → Prop} {g : ps_G}  {r : ps_G} (h : jX11_take_49 g = some r) (hk : Q (.inl none) r) : ps_At mX11_take d 49 [] [] g Q := by
  unfold jX11_take_49 at h
  refine sX11_take_49 ?_
  cases h
  exact ⟨rfl, rfl, hk⟩
noncomputable def fX11_take (g : ps_G) (x0 : Nat) (x1 : Int32) : Option (ps_G) := Option.bind (q_lp (fun s => bX11_take_3 x0 x1 s.1 s.2) ((24 : Int32), g)) fun s16 => jX11_take_49 s16
theorem rX11_take {d : Nat} {Q : ps_Rs → ps_G → Prop} {g : ps_G} {x0 : Nat} {x1 : Int32} {r : ps_G} (h : fX11_take g x0 x1 = some r) (hk : Q (.inl none) r) : ps_Ok mX11_take d [.ref x0, .int x1] g Q := by
  unfold fX11_take at h
  refine sX11_take_0 ?_
  refine ⟨by decide, ?_⟩
  replace h := q_be h
  obtain ⟨s16, hl, h⟩ := h
  refine ps_weak (q_lp_ok hl (fun s => ps_At mX11_take d 3 [(0, .ref x0), (1, .int x1), (2, .int s.1)] [] s.2 Q) (fun r => ps_At mX11_take d 49 [] [] r Q) (fun s x hb hh he => pbX11_take_3 hb hh he) ?_) ⟨rfl, rfl, rfl, trivial⟩
  refine (?_ : ps_At mX11_take d 49 [] [] s16 Q)
  exact ps_weak (pjX11_take_49 h hk) trivial
noncomputable def jX11_feed_44 (g : ps_G) (x0 : Nat) (x5 : Int32) : Option ((String ⊕ Int32) × ps_G) := Option.bind (q_ob 11 g x0) fun u11 => Option.bind (fX11_take g x0 x5) fun v12 => Option.bind (q_fI 11 14 v12 x0) fun v13 => some (.inr v13, v12)
theorem pjX11_feed_44 {d : Nat} {Q : ps_Rs → ps_G → Prop} {g : ps_G} {x0 : Nat} {x5 : Int32} {r : (String ⊕ Int32) × ps_G} (h : jX11_feed_44 g x0 x5 = some r) (hk : Q (q_rI r.1) r.2) : ps_At mX11_feed (d + 6) 44 [(0, .ref x0), (5, .int x5)] [] g Q := by
  unfold jX11_feed_44 at h
  refine sX11_feed_44 ?_
  replace h := q_be h
  obtain ⟨u11, hv, h⟩ := h
  replace hv := q_ob_e hv
  obtain ⟨_, cu11⟩ := hv
  replace h := q_be h
  obtain ⟨v12, hv, h⟩ := h
  refine ⟨⟨some _, rfl⟩, ⟨_, cu11⟩, ?_⟩
  refine rX11_take hv ?_
  replace h := q_be h
  obtain ⟨v13, hv, h⟩ := h
  replace hv := q_fI_e hv
  obtain ⟨_, cv13, dv13⟩ := hv
  cases h
  exact ⟨⟨some _, rfl⟩, _, _, cv13, dv13, rfl, hk⟩
noncomputable def fX11_feed (g : ps_G) (x0 : Nat) (x1 : Int32) (x2 : Int32) (x3 : Int32) (x4 : Int32) (x5 : Int32) : Option ((String ⊕ Int32) × ps_G) := Option.bind (q_fI 11 14 g x0) fun v1 => if (v1 + (20 : Int32)) ≤ (8000 : Int32) then (Option.bind (q_ob 11 g x0) fun u3 => Option.bind (fX11_take g x0 x1) fun v4 => Option.bind (q_ob 11 v4 x0) fun u5 => Option.bind (fX11_take v4 x0 x2) fun v6 => Option.bind (q_ob 11 v6 x0) fun u7 => Option.bind (fX11_take v6 x0 x3) fun v8 => Option.bind (q_ob 11 v8 x0) fun u9 => Option.bind (fX11_take v8 x0 x4) fun v10 => jX11_feed_44 v10 x0 x5) else (some (.inl "java/lang/IndexOutOfBoundsException", ps_nw g 6 ps_e0))
theorem rX11_feed {d : Nat} {Q : ps_Rs → ps_G → Prop} {g : ps_G} {x0 : Nat} {x1 : Int32} {x2 : Int32} {x3 : Int32} {x4 : Int32} {x5 : Int32} {r : (String ⊕ Int32) × ps_G} (h : fX11_feed g x0 x1 x2 x3 x4 x5 = some r) (hk : Q (q_rI r.1) r.2) : ps_Ok mX11_feed (d + 6) [.ref x0, .int x1, .int x2, .int x3, .int x4, .int x5] g Q := by
  unfold fX11_feed at h
  refine sX11_feed_0 ?_
  replace h := q_be h
  obtain ⟨v1, hv, h⟩ := h
  replace hv := q_fI_e hv
  obtain ⟨_, cv1, dv1⟩ := hv
  refine ⟨⟨some _, rfl⟩, _, _, cv1, dv1, ?_⟩
  refine And.intro (fun hc2 => ?_) (fun hc2 => ?_)
  · replace h := q_ifp (hc2) h
    refine sX11_feed_23 ?_
    replace h := q_be h
    obtain ⟨u3, hv, h⟩ := h
    replace hv := q_ob_e hv
    obtain ⟨_, cu3⟩ := hv
    replace h := q_be h
    obtain ⟨v4, hv, h⟩ := h
    refine ⟨⟨some _, rfl⟩, ⟨_, cu3⟩, ?_⟩
    refine rX11_take hv ?_
    replace h := q_be h
    obtain ⟨u5, hv, h⟩ := h
    replace hv := q_ob_e hv
    obtain ⟨_, cu5⟩ := hv
    replace h := q_be h
    obtain ⟨v6, hv, h⟩ := h
    refine ⟨⟨some _, rfl⟩, ⟨_, cu5⟩, ?_⟩
    refine rX11_take hv ?_
    replace h := q_be h
    obtain ⟨u7, hv, h⟩ := h
    replace hv := q_ob_e hv
    obtain ⟨_, cu7⟩ := hv
    replace h := q_be h
    obtain ⟨v8, hv, h⟩ := h
    refine ⟨⟨some _, rfl⟩, ⟨_, cu7⟩, ?_⟩
    refine rX11_take hv ?_
    replace h := q_be h
    obtain ⟨u9, hv, h⟩ := h
    replace hv := q_ob_e hv
    obtain ⟨_, cu9⟩ := hv
    replace h := q_be h
    obtain ⟨v10, hv, h⟩ := h
    refine ⟨⟨some _, rfl⟩, ⟨_, cu9⟩, ?_⟩
    refine rX11_take hv ?_
    exact ps_weak (pjX11_feed_44 h hk) ⟨rfl, rfl, trivial⟩
  · replace h := q_ifn (hc2) h
    cases h
    exact sX11_feed_13 (by decide) hk
noncomputable def fX11_range (g : ps_G) (x0 : Int32) (x1 : Int32) (x2 : Int32) : Option ((String ⊕ Unit) × ps_G) := if ¬ (x0 < x1) ∧ (x0 ≤ x2) then (some (.inr (), g)) else (some (.inl "java/lang/IllegalArgumentException", ps_nw g 6 ps_e0))
theorem rX11_range {d : Nat} {Q : ps_Rs → ps_G → Prop} {g : ps_G} {x0 : Int32} {x1 : Int32} {x2 : Int32} {r : (String ⊕ Unit) × ps_G} (h : fX11_range g x0 x1 x2 = some r) (hk : Q (q_rV r.1) r.2) : ps_Ok mX11_range (d + 6) [.int x0, .int x1, .int x2] g Q := by
  unfold fX11_range at h
  refine sX11_range_0 ?_
  have kF4 : (some (.inl "java/lang/IllegalArgumentException", ps_nw g 6 ps_e0)) = some r → ps_At mX11_range (d + 6) 10 [] [] g Q := fun h => by
    cases h
    exact sX11_range_10 (by decide) hk
  refine And.intro (fun hc1 => ?_) (fun hc1 => ?_)
  · exact ps_weak (kF4 (q_ifn (fun z => z.1 hc1) h)) trivial
  · refine And.intro (fun hc2 => ?_) (fun hc2 => ?_)
    · replace h := q_ifp (⟨hc1, hc2⟩) h
      refine sX11_range_20 ?_
      cases h
      exact ⟨rfl, rfl, hk⟩
    · exact ps_weak (kF4 (q_ifn (fun z => hc2 z.2) h)) trivial
noncomputable def fX11_end (g : ps_G) (x0 : Nat) (x1 : Int32) : Option ((String ⊕ Int32) × ps_G) := Option.bind (q_fI 11 14 g x0) fun v1 => q_tc (fX11_range g x1 (0 : Int32) v1) fun v2 g3 => Option.bind (q_sI 11 14 g3 x0 x1) fun g4 => some (.inr x1, g4)
theorem rX11_end {d : Nat} {Q : ps_Rs → ps_G → Prop} {g : ps_G} {x0 : Nat} {x1 : Int32} {r : (String ⊕ Int32) × ps_G} (h : fX11_end g x0 x1 = some r) (hk : Q (q_rI r.1) r.2) : ps_Ok mX11_end (d + 7) [.ref x0, .int x1] g Q := by
  unfold fX11_end at h
  refine sX11_end_0 ?_
  replace h := q_be h
  obtain ⟨v1, hv, h⟩ := h
  replace hv := q_fI_e hv
  obtain ⟨_, cv1, dv1⟩ := hv
  refine ⟨⟨some _, rfl⟩, _, _, cv1, dv1, ?_⟩
  replace h := q_tc_e h
  rcases h with ⟨E, g3, hv, rfl⟩ | ⟨v2, g3, hv, h⟩
  · exact rX11_range hv ⟨rfl, hk⟩
  refine rX11_range hv ?_
  replace h := q_be h
  obtain ⟨g4, hv, h⟩ := h
  replace hv := q_sI_e hv
  obtain ⟨_, cg4, dg4, yg4⟩ := hv
  cases h
  exact ⟨⟨some _, rfl⟩, _, cg4, dg4, rfl, rfl, _, yg4, rfl, hk⟩
noncomputable def fX0_restart (g : ps_G) (x0 : Nat) (x1 : Int32) (x2 : Int32) : Option (ps_G) := Option.bind (q_sI 0 0 g x0 (fX11_within x1 (1 : Int32) (24 : Int32))) fun g1 => Option.bind (q_sI 0 1 g1 x0 (fX11_within x2 (1 : Int32) (24 : Int32))) fun g2 => Option.bind (q_fR 0 2 g2 x0) fun v3 => Option.bind (v3) fun a4 => Option.bind (fJ7_fill_53178 g2 a4 (255 : Int32)) fun v5 => some v5
theorem rX0_restart {d : Nat} {Q : ps_Rs → ps_G → Prop} {g : ps_G} {x0 : Nat} {x1 : Int32} {x2 : Int32} {r : ps_G} (h : fX0_restart g x0 x1 x2 = some r) (hk : Q (.inl none) r) : ps_Ok mX0_restart (d + 1) [.ref x0, .int x1, .int x2] g Q := by
  unfold fX0_restart at h
  refine sX0_restart_0 ?_
  refine ⟨⟨some _, rfl⟩, ?_⟩
  refine rX11_within rfl ?_
  replace h := q_be h
  obtain ⟨g1, hv, h⟩ := h
  replace hv := q_sI_e hv
  obtain ⟨_, cg1, dg1, yg1⟩ := hv
  refine ⟨_, cg1, dg1, rfl, rfl, _, yg1, ⟨some _, rfl⟩, ?_⟩
  refine rX11_within rfl ?_
  replace h := q_be h
  obtain ⟨g2, hv, h⟩ := h
  replace hv := q_sI_e hv
  obtain ⟨_, cg2, dg2, yg2⟩ := hv
  replace h := q_be h
  obtain ⟨v3, hv, h⟩ := h
  replace hv := q_fR_e hv
  obtain ⟨_, cv3, dv3⟩ := hv
  replace h := q_be h
  obtain ⟨a4, ea4, h⟩ := h
  subst ea4
  replace h := q_be h
  obtain ⟨v5, hv, h⟩ := h
  refine ⟨_, cg2, dg2, rfl, rfl, _, yg2, ⟨some _, rfl⟩, _, _, cv3, dv3, ?_⟩
  refine rJ7_fill_53178 hv ?_
  cases h
  exact ⟨rfl, rfl, hk⟩
noncomputable def bX10_forgetAll_15 (x0 : Nat) (x1 : Int32) (g : ps_G) : Option ((Int32 × ps_G) ⊕ (ps_G)) := Option.bind (q_fR 10 7 g x0) fun v5 => Option.bind (v5) fun a6 => Option.bind (q_len g a6) fun v7 => if v7 ≤ x1 then (some (.inr g)) else (Option.bind (q_fR 10 7 g x0) fun v10 => Option.bind (v10) fun a11 => Option.bind (q_wB g a11 x1 (0 : Int32)) fun g12 => some (.inl (x1 + (1 : Int32), g12)))
theorem pbX10_forgetAll_15 {d : Nat} {Q : ps_Rs → ps_G → Prop}  {x0 : Nat} {x1 : Int32} {g : ps_G} {x : (Int32 × ps_G) ⊕ (ps_G)} (h : bX10_forgetAll_15 x0 x1 g = some x) (hh : ∀ s' : Int32 × ps_G, x = .inl s' → ps_At mX10_forgetAll (d + 1) 15 [(0, .ref x0), (1, .int s'.1)] [] s'.2 Q) (he : ∀ r' : ps_G, x = .inr r' → ps_At mX10_forgetAll (d + 1) 37 [] [] r' Q) : ps_At mX10_forgetAll (d + 1) 15 [(0, .ref x0), (1, .int x1)] [] g Q := by
  unfold bX10_forgetAll_15 at h
  refine sX10_forgetAll_15 ?_
  replace h := q_be h
  obtain ⟨v5, hv, h⟩ := h
  replace hv := q_fR_e hv
  obtain ⟨_, cv5, dv5⟩ := hv
  replace h := q_be h
  obtain ⟨a6, ea6, h⟩ := h
  subst ea6
  replace h := q_be h
  obtain ⟨v7, hv, h⟩ := h
  replace hv := q_len_e hv
  obtain ⟨_, _, cv7, qv7, yv7⟩ := hv
  refine ⟨⟨some _, rfl⟩, _, _, cv5, dv5, _, _, cv7, qv7, _, yv7, ?_⟩
  refine And.intro (fun hc8 => ?_) (fun hc8 => ?_)
  · replace h := q_ifp (hc8) h
    exact ps_weak (he g (Option.some.inj h).symm) trivial
  · replace h := q_ifn (hc8) h
    replace h := q_be h
    obtain ⟨v10, hv, h⟩ := h
    replace hv := q_fR_e hv
    obtain ⟨_, cv10, dv10⟩ := hv
    replace h := q_be h
    obtain ⟨a11, ea11, h⟩ := h
    subst ea11
    replace h := q_be h
    obtain ⟨g12, hv, h⟩ := h
    replace hv := q_wB_e hv
    obtain ⟨_, _, cg12, ig12, yg12⟩ := hv
    refine ⟨⟨some _, rfl⟩, _, _, cv10, dv10, _, _, cg12, ig12, _, yg12, by decide, ?_⟩
    exact ps_weak (hh (x1 + (1 : Int32), g12) (Option.some.inj h).symm) ⟨rfl, rfl, trivial⟩
noncomputable def fX10_forgetAll (g : ps_G) (x0 : Nat) : Option (ps_G) := Option.bind (q_sB 10 5 g x0 (0 : Int32)) fun g1 => Option.bind (q_fR 10 6 g1 x0) fun v2 => Option.bind (v2) fun a3 => Option.bind (fJ7_fill_53178 g1 a3 (0 : Int32)) fun v4 => Option.bind (q_lp (fun s => bX10_forgetAll_15 x0 s.1 s.2) ((0 : Int32), v4)) fun s15 => some s15
theorem rX10_forgetAll {d : Nat} {Q : ps_Rs → ps_G → Prop} {g : ps_G} {x0 : Nat} {r : ps_G} (h : fX10_forgetAll g x0 = some r) (hk : Q (.inl none) r) : ps_Ok mX10_forgetAll (d + 1) [.ref x0] g Q := by
  unfold fX10_forgetAll at h
  refine sX10_forgetAll_0 ?_
  replace h := q_be h
  obtain ⟨g1, hv, h⟩ := h
  replace hv := q_sB_e hv
  obtain ⟨_, cg1, dg1, ng1, yg1⟩ := hv
  replace h := q_be h
  obtain ⟨v2, hv, h⟩ := h
  replace hv := q_fR_e hv
  obtain ⟨_, cv2, dv2⟩ := hv
  replace h := q_be h
  obtain ⟨a3, ea3, h⟩ := h
  subst ea3
  replace h := q_be h
  obtain ⟨v4, hv, h⟩ := h
  refine ⟨⟨some _, rfl⟩, _, cg1, dg1, ng1.1, ng1.2, _, yg1, ⟨some _, rfl⟩, _, _, cv2, dv2, ?_⟩
  refine rJ7_fill_53178 hv ?_
  refine ⟨by decide, ?_⟩
  replace h := q_be h
  obtain ⟨s15, hl, h⟩ := h
  refine ps_weak (q_lp_ok hl (fun s => ps_At mX10_forgetAll (d + 1) 15 [(0, .ref x0), (1, .int s.1)] [] s.2 Q) (fun r => ps_At mX10_forgetAll (d + 1) 37 [] [] r Q) (fun s x hb hh he => pbX10_forgetAll_15 hb hh he) ?_) ⟨rfl, rfl, trivial⟩
  refine (?_ : ps_At mX10_forgetAll (d + 1) 37 [] [] s15 Q)
  refine sX10_forgetAll_37 ?_
  cases h
  exact ⟨rfl, rfl, hk⟩
noncomputable def jX11_open_46 (g : ps_G) (x0 : Nat) : Option ((String ⊕ Unit) × ps_G) := Option.bind (q_fR 11 6 g x0) fun v13 => Option.bind (v13) fun a14 => Option.bind (q_ob 10 g a14) fun u15 => Option.bind (fX10_forgetAll g a14) fun v16 => some (.inr (), v16)
theorem pjX11_open_46 {d : Nat} {Q : ps_Rs → ps_G → Prop} {g : ps_G} {x0 : Nat} {r : (String ⊕ Unit) × ps_G} (h : jX11_open_46 g x0 = some r) (hk : Q (q_rV r.1) r.2) : ps_At mX11_open (d + 7) 46 [(0, .ref x0)] [] g Q := by
  unfold jX11_open_46 at h
  refine sX11_open_46 ?_
  replace h := q_be h
  obtain ⟨v13, hv, h⟩ := h
  replace hv := q_fR_e hv
  obtain ⟨_, cv13, dv13⟩ := hv
  replace h := q_be h
  obtain ⟨a14, ea14, h⟩ := h
  subst ea14
  replace h := q_be h
  obtain ⟨u15, hv, h⟩ := h
  replace hv := q_ob_e hv
  obtain ⟨_, cu15⟩ := hv
  replace h := q_be h
  obtain ⟨v16, hv, h⟩ := h
  refine ⟨⟨some _, rfl⟩, _, _, cv13, dv13, ⟨_, cu15⟩, ?_⟩
  refine rX10_forgetAll hv ?_
  cases h
  exact ⟨rfl, rfl, hk⟩
noncomputable def fX11_open (g : ps_G) (x0 : Nat) (x1 : Int32) (x2 : Int32) : Option ((String ⊕ Unit) × ps_G) := q_tc (fX11_range g x1 (1 : Int32) (24 : Int32)) fun v1 g2 => q_tc (fX11_range g2 x2 (1 : Int32) (24 : Int32)) fun v3 g4 => Option.bind (fX9_init (q_new 9 g4) g4.1 x1 x2) fun v5 => Option.bind (q_sR 11 0 v5 x0 (some g4.1)) fun g6 => Option.bind (q_sI 11 2 g6 x0 (0 : Int32)) fun g7 => Option.bind (q_sI 11 4 g7 x0 (0 : Int32)) fun g8 => Option.bind (q_fR 11 7 g8 x0) fun v9 => Option.bind (v9) fun a10 => Option.bind (q_ob 0 g8 a10) fun u11 => Option.bind (fX0_restart g8 a10 x1 x2) fun v12 => jX11_open_46 v12 x0
theorem rX11_open {d : Nat} {Q : ps_Rs → ps_G → Prop} {g : ps_G} {x0 : Nat} {x1 : Int32} {x2 : Int32} {r : (String ⊕ Unit) × ps_G} (h : fX11_open g x0 x1 x2 = some r) (hk : Q (q_rV r.1) r.2) : ps_Ok mX11_open (d + 7) [.ref x0, .int x1, .int x2] g Q := by
  unfold fX11_open at h
  refine sX11_open_0 ?_
  replace h := q_tc_e h
  rcases h with ⟨E, g2, hv, rfl⟩ | ⟨v1, g2, hv, h⟩
  · exact rX11_range hv ⟨rfl, hk⟩
  refine rX11_range hv ?_
  replace h := q_tc_e h
  rcases h with ⟨E, g4, hv, rfl⟩ | ⟨v3, g4, hv, h⟩
  · exact rX11_range hv ⟨rfl, hk⟩
  refine rX11_range hv ?_
  replace h := q_be h
  obtain ⟨v5, hv, h⟩ := h
  refine ⟨⟨some _, rfl⟩, rfl, ?_⟩
  refine rX9_init hv ?_
  replace h := q_be h
  obtain ⟨g6, hv, h⟩ := h
  replace hv := q_sR_e hv
  obtain ⟨_, cg6, dg6, yg6⟩ := hv
  replace h := q_be h
  obtain ⟨g7, hv, h⟩ := h
  replace hv := q_sI_e hv
  obtain ⟨_, cg7, dg7, yg7⟩ := hv
  replace h := q_be h
  obtain ⟨g8, hv, h⟩ := h
  replace hv := q_sI_e hv
  obtain ⟨_, cg8, dg8, yg8⟩ := hv
  replace h := q_be h
  obtain ⟨v9, hv, h⟩ := h
  replace hv := q_fR_e hv
  obtain ⟨_, cv9, dv9⟩ := hv
  replace h := q_be h
  obtain ⟨a10, ea10, h⟩ := h
  subst ea10
  replace h := q_be h
  obtain ⟨u11, hv, h⟩ := h
  replace hv := q_ob_e hv
  obtain ⟨_, cu11⟩ := hv
  replace h := q_be h
  obtain ⟨v12, hv, h⟩ := h
  refine ⟨_, cg6, dg6, rfl, rfl, _, yg6, ⟨some _, rfl⟩, _, cg7, dg7, rfl, rfl, _, yg7, ⟨some _, rfl⟩, _, cg8, dg8, rfl, rfl, _, yg8, ⟨some _, rfl⟩, _, _, cv9, dv9, ⟨_, cu11⟩, ?_⟩
  refine rX0_restart hv ?_
  exact ps_weak (pjX11_open_46 h hk) ⟨rfl, trivial⟩
noncomputable def jX9_holds_28 (g : ps_G) (k0 : Int32) : Option (Int32) := Option.bind (q_bl k0) fun v4 => some v4
theorem pjX9_holds_28 {d : Nat} {Q : ps_Rs → ps_G → Prop} {g : ps_G} {k0 : Int32} {r : Int32} (h : jX9_holds_28 g k0 = some r) (hk : Q (.inl (some (.int r))) g) : ps_At mX9_holds (d + 1) 28 [] [.int k0] g Q := by
  unfold jX9_holds_28 at h
  refine sX9_holds_28 ?_
  replace h := q_be h
  obtain ⟨v4, hv, h⟩ := h
  replace hv := q_bl_e hv
  obtain ⟨zv4, rfl⟩ := hv
  cases h
  exact ⟨rfl, zv4, hk⟩
noncomputable def jX9_holds_23 (g : ps_G) : Option (Int32) := jX9_holds_28 g (1 : Int32)
theorem pjX9_holds_23 {d : Nat} {Q : ps_Rs → ps_G → Prop} {g : ps_G}  {r : Int32} (h : jX9_holds_23 g = some r) (hk : Q (.inl (some (.int r))) g) : ps_At mX9_holds (d + 1) 23 [] [] g Q := by
  unfold jX9_holds_23 at h
  refine sX9_holds_23 ?_
  exact ps_weak (pjX9_holds_28 h hk) trivial
noncomputable def jX9_holds_27 (g : ps_G) : Option (Int32) := jX9_holds_28 g (0 : Int32)
theorem pjX9_holds_27 {d : Nat} {Q : ps_Rs → ps_G → Prop} {g : ps_G}  {r : Int32} (h : jX9_holds_27 g = some r) (hk : Q (.inl (some (.int r))) g) : ps_At mX9_holds (d + 1) 27 [] [] g Q := by
  unfold jX9_holds_27 at h
  refine sX9_holds_27 ?_
  exact ps_weak (pjX9_holds_28 h hk) trivial
noncomputable def fX9_holds (g : ps_G) (x0 : Nat) (x1 : Int32) : Option (Int32) := Option.bind (q_ob 9 g x0) fun u1 => Option.bind (fX9_find g x0 x1) fun v2 => if x1 = (-1 : Int32) then (jX9_holds_23 g) else (if v2 = none then (jX9_holds_27 g) else (Option.bind (v2) fun a6 => Option.bind (q_fI 4 1 g a6) fun v7 => if ¬ v7 = (1 : Int32) then (jX9_holds_27 g) else (jX9_holds_23 g)))
theorem rX9_holds {d : Nat} {Q : ps_Rs → ps_G → Prop} {g : ps_G} {x0 : Nat} {x1 : Int32} {r : Int32} (h : fX9_holds g x0 x1 = some r) (hk : Q (.inl (some (.int r))) g) : ps_Ok mX9_holds (d + 1) [.ref x0, .int x1] g Q := by
  unfold fX9_holds at h
  refine sX9_holds_0 ?_
  replace h := q_be h
  obtain ⟨u1, hv, h⟩ := h
  replace hv := q_ob_e hv
  obtain ⟨_, cu1⟩ := hv
  replace h := q_be h
  obtain ⟨v2, hv, h⟩ := h
  refine ⟨⟨some _, rfl⟩, ⟨_, cu1⟩, ?_⟩
  refine rX9_find hv ?_
  refine ⟨_, _, rfl, by decide, ?_⟩
  refine And.intro (fun hc3 => ?_) (fun hc3 => ?_)
  · replace h := q_ifp (hc3) h
    exact ps_weak (pjX9_holds_23 h hk) trivial
  · replace h := q_ifn (hc3) h
    refine ⟨⟨_, rfl⟩, _, _, rfl, ?_⟩
    refine And.intro (fun hc5 => ?_) (fun hc5 => ?_)
    · replace h := q_ifp (hc5) h
      exact ps_weak (pjX9_holds_27 h hk) trivial
    · replace h := q_ifn (hc5) h
      replace h := q_be h
      obtain ⟨a6, ea6, h⟩ := h
      subst ea6
      replace h := q_be h
      obtain ⟨v7, hv, h⟩ := h
      replace hv := q_fI_e hv
      obtain ⟨_, cv7, dv7⟩ := hv
      refine ⟨⟨some _, rfl⟩, _, _, cv7, dv7, ?_⟩
      refine And.intro (fun hc8 => ?_) (fun hc8 => ?_)
      · replace h := q_ifp (hc8) h
        exact ps_weak (pjX9_holds_27 h hk) trivial
      · replace h := q_ifn (hc8) h
        exact ps_weak (pjX9_holds_23 h hk) trivial
noncomputable def fX11_needParent (g : ps_G) (x0 : Nat) (x1 : Int32) : Option ((String ⊕ Unit) × ps_G) := Option.bind (q_fR 11 0 g x0) fun v1 => Option.bind (v1) fun a2 => Option.bind (q_ob 9 g a2) fun u3 => Option.bind (fX9_holds g a2 x1) fun v4 => if ¬ v4 = 0 then (some (.inr (), g)) else (some (.inl "java/util/NoSuchElementException", ps_nw g 6 ps_e0))
theorem rX11_needParent {d : Nat} {Q : ps_Rs → ps_G → Prop} {g : ps_G} {x0 : Nat} {x1 : Int32} {r : (String ⊕ Unit) × ps_G} (h : fX11_needParent g x0 x1 = some r) (hk : Q (q_rV r.1) r.2) : ps_Ok mX11_needParent (d + 6) [.ref x0, .int x1] g Q := by
  unfold fX11_needParent at h
  refine sX11_needParent_0 ?_
  replace h := q_be h
  obtain ⟨v1, hv, h⟩ := h
  replace hv := q_fR_e hv
  obtain ⟨_, cv1, dv1⟩ := hv
  replace h := q_be h
  obtain ⟨a2, ea2, h⟩ := h
  subst ea2
  replace h := q_be h
  obtain ⟨u3, hv, h⟩ := h
  replace hv := q_ob_e hv
  obtain ⟨_, cu3⟩ := hv
  replace h := q_be h
  obtain ⟨v4, hv, h⟩ := h
  refine ⟨⟨some _, rfl⟩, _, _, cv1, dv1, ⟨_, cu3⟩, ?_⟩
  refine rX9_holds hv ?_
  refine And.intro (fun hc5 => ?_) (fun hc5 => ?_)
  · replace h := q_ifp (hc5) h
    refine sX11_needParent_21 ?_
    cases h
    exact ⟨rfl, rfl, hk⟩
  · replace h := q_ifn (hc5) h
    cases h
    exact sX11_needParent_11 (by decide) hk
noncomputable def bX9_among_4 (g : ps_G) (x0 : Nat) (x1 : Int32) (x2 : Int32) (x3 : Int32) : Option ((Int32 × Int32) ⊕ (Int32)) := Option.bind (q_fI 9 4 g x0) fun v1 => if v1 ≤ x3 then (some (.inr x2)) else (Option.bind (q_ob 9 g x0) fun u4 => Option.bind (fX9_child g x0 x3 x1) fun v5 => some (.inl ((if v5 = none then x2 else x2 + (1 : Int32)), x3 + (1 : Int32))))
theorem pbX9_among_4 {d : Nat} {Q : ps_Rs → ps_G → Prop} {g : ps_G} {x0 : Nat} {x1 : Int32} {x2 : Int32} {x3 : Int32} {x : (Int32 × Int32) ⊕ (Int32)} (h : bX9_among_4 g x0 x1 x2 x3 = some x) (hh : ∀ s' : Int32 × Int32, x = .inl s' → ps_At mX9_among (d + 2) 4 [(0, .ref x0), (1, .int x1), (2, .int s'.1), (3, .int s'.2)] [] g Q) (he : ∀ r' : Int32, x = .inr r' → ps_At mX9_among (d + 2) 30 [(2, .int r')] [] g Q) : ps_At mX9_among (d + 2) 4 [(0, .ref x0), (1, .int x1), (2, .int x2), (3, .int x3)] [] g Q := by
  unfold bX9_among_4 at h
  refine sX9_among_4 ?_
  replace h := q_be h
  obtain ⟨v1, hv, h⟩ := h
  replace hv := q_fI_e hv
  obtain ⟨_, cv1, dv1⟩ := hv
  refine ⟨⟨some _, rfl⟩, _, _, cv1, dv1, ?_⟩
  refine And.intro (fun hc2 => ?_) (fun hc2 => ?_)
  · replace h := q_ifp (hc2) h
    exact ps_weak (he x2 (Option.some.inj h).symm) ⟨rfl, trivial⟩
  · replace h := q_ifn (hc2) h
    replace h := q_be h
    obtain ⟨u4, hv, h⟩ := h
    replace hv := q_ob_e hv
    obtain ⟨_, cu4⟩ := hv
    replace h := q_be h
    obtain ⟨v5, hv, h⟩ := h
    refine ⟨⟨some _, rfl⟩, ⟨_, cu4⟩, ?_⟩
    refine rX9_child hv ?_
    have kJ8 : ∀ w7 : Int32, w7 = (if v5 = none then x2 else x2 + (1 : Int32)) → ps_At mX9_among (d + 2) 24 [(0, .ref x0), (1, .int x1), (2, .int w7), (3, .int x3)] [] g Q := by
      rintro _ rfl
      refine sX9_among_24 ?_
      refine ⟨by decide, ?_⟩
      exact ps_weak (hh ((if v5 = none then x2 else x2 + (1 : Int32)), x3 + (1 : Int32)) (Option.some.inj h).symm) ⟨rfl, rfl, rfl, rfl, trivial⟩
    refine ⟨_, _, rfl, ?_⟩
    refine And.intro (fun hc6 => ?_) (fun hc6 => ?_)
    · exact ps_weak (kJ8 _ (if_pos (hc6)).symm) ⟨rfl, rfl, rfl, rfl, trivial⟩
    · refine ⟨by decide, ?_⟩
      exact ps_weak (kJ8 _ (if_neg (hc6)).symm) ⟨rfl, rfl, rfl, rfl, trivial⟩
noncomputable def fX9_among (g : ps_G) (x0 : Nat) (x1 : Int32) : Option (Int32) := Option.bind (q_lp (fun s => bX9_among_4 g x0 x1 s.1 s.2) ((0 : Int32), (0 : Int32))) fun s11 => some s11
theorem rX9_among {d : Nat} {Q : ps_Rs → ps_G → Prop} {g : ps_G} {x0 : Nat} {x1 : Int32} {r : Int32} (h : fX9_among g x0 x1 = some r) (hk : Q (.inl (some (.int r))) g) : ps_Ok mX9_among (d + 2) [.ref x0, .int x1] g Q := by
  unfold fX9_among at h
  refine sX9_among_0 ?_
  refine ⟨by decide, by decide, ?_⟩
  replace h := q_be h
  obtain ⟨s11, hl, h⟩ := h
  refine ps_weak (q_lp_ok hl (fun s => ps_At mX9_among (d + 2) 4 [(0, .ref x0), (1, .int x1), (2, .int s.1), (3, .int s.2)] [] g Q) (fun r => ps_At mX9_among (d + 2) 30 [(2, .int r)] [] g Q) (fun s x hb hh he => pbX9_among_4 hb hh he) ?_) ⟨rfl, rfl, rfl, rfl, trivial⟩
  refine (?_ : ps_At mX9_among (d + 2) 30 [(2, .int s11)] [] g Q)
  refine sX9_among_30 ?_
  cases h
  exact ⟨rfl, hk⟩
noncomputable def fX11_needNumber (g : ps_G) (x0 : Nat) : Option ((String ⊕ Unit) × ps_G) := Option.bind (q_fR 11 0 g x0) fun v1 => Option.bind (v1) fun a2 => Option.bind (q_fI 9 5 g a2) fun v3 => if v3 < (30 : Int32) then (some (.inr (), g)) else (some (.inl "java/lang/IndexOutOfBoundsException", ps_nw g 6 ps_e0))
theorem rX11_needNumber {d : Nat} {Q : ps_Rs → ps_G → Prop} {g : ps_G} {x0 : Nat} {r : (String ⊕ Unit) × ps_G} (h : fX11_needNumber g x0 = some r) (hk : Q (q_rV r.1) r.2) : ps_Ok mX11_needNumber (d + 6) [.ref x0] g Q := by
  unfold fX11_needNumber at h
  refine sX11_needNumber_0 ?_
  replace h := q_be h
  obtain ⟨v1, hv, h⟩ := h
  replace hv := q_fR_e hv
  obtain ⟨_, cv1, dv1⟩ := hv
  replace h := q_be h
  obtain ⟨a2, ea2, h⟩ := h
  subst ea2
  replace h := q_be h
  obtain ⟨v3, hv, h⟩ := h
  replace hv := q_fI_e hv
  obtain ⟨_, cv3, dv3⟩ := hv
  refine ⟨⟨some _, rfl⟩, _, _, cv1, dv1, _, _, cv3, dv3, ?_⟩
  refine And.intro (fun hc4 => ?_) (fun hc4 => ?_)
  · replace h := q_ifp (hc4) h
    refine sX11_needNumber_22 ?_
    cases h
    exact ⟨rfl, rfl, hk⟩
  · replace h := q_ifn (hc4) h
    cases h
    exact sX11_needNumber_12 (by decide) hk
noncomputable def jX4_init_69 (g : ps_G) (k0 : Nat) (k1 : Nat) : Option (ps_G) := Option.bind (q_sR 4 15 g k0 (some k1)) fun g13 => some g13
theorem pjX4_init_69 {d : Nat} {Q : ps_Rs → ps_G → Prop} {g : ps_G} {k0 : Nat} {k1 : Nat} {r : ps_G} (h : jX4_init_69 g k0 k1 = some r) (hk : Q (.inl none) r) : ps_At mX4_init (d + 1) 69 [] [.ref k1, .ref k0] g Q := by
  unfold jX4_init_69 at h
  refine sX4_init_69 ?_
  replace h := q_be h
  obtain ⟨g13, hv, h⟩ := h
  replace hv := q_sR_e hv
  obtain ⟨_, cg13, dg13, yg13⟩ := hv
  cases h
  exact ⟨_, cg13, dg13, rfl, rfl, _, yg13, rfl, rfl, hk⟩
noncomputable def fX4_init (g : ps_G) (x0 : Nat) (x1 : Int32) (x2 : Int32) (x3 : Int32) : Option (ps_G) := Option.bind (q_sI 4 3 g x0 (255 : Int32)) fun g1 => Option.bind (q_sB 4 5 g1 x0 (1 : Int32)) fun g2 => Option.bind (q_sR 4 16 g2 x0 (some 0)) fun g3 => Option.bind (q_sI 4 0 g3 x0 x1) fun g4 => Option.bind (q_sI 4 1 g4 x0 x2) fun g5 => Option.bind (q_sI 4 2 g5 x0 x3) fun g6 => Option.bind (q_sI 4 9 g6 x0 (if ¬ x2 = (5 : Int32) then (0 : Int32) else (8 : Int32))) fun g10 => if ¬ x2 = 0 then (jX4_init_69 g10 x0 0) else (Option.bind (q_nA .int g10 (576 : Int32)) fun g14 => jX4_init_69 g14 x0 g10.1)
theorem rX4_init {d : Nat} {Q : ps_Rs → ps_G → Prop} {g : ps_G} {x0 : Nat} {x1 : Int32} {x2 : Int32} {x3 : Int32} {r : ps_G} (h : fX4_init g x0 x1 x2 x3 = some r) (hk : Q (.inl none) r) : ps_Ok mX4_init (d + 1) [.ref x0, .int x1, .int x2, .int x3] g Q := by
  unfold fX4_init at h
  refine sX4_init_0 ?_
  replace h := q_be h
  obtain ⟨g1, hv, h⟩ := h
  replace hv := q_sI_e hv
  obtain ⟨_, cg1, dg1, yg1⟩ := hv
  replace h := q_be h
  obtain ⟨g2, hv, h⟩ := h
  replace hv := q_sB_e hv
  obtain ⟨_, cg2, dg2, ng2, yg2⟩ := hv
  replace h := q_be h
  obtain ⟨g3, hv, h⟩ := h
  replace hv := q_sR_e hv
  obtain ⟨_, cg3, dg3, yg3⟩ := hv
  replace h := q_be h
  obtain ⟨g4, hv, h⟩ := h
  replace hv := q_sI_e hv
  obtain ⟨_, cg4, dg4, yg4⟩ := hv
  replace h := q_be h
  obtain ⟨g5, hv, h⟩ := h
  replace hv := q_sI_e hv
  obtain ⟨_, cg5, dg5, yg5⟩ := hv
  refine ⟨⟨some _, rfl⟩, by decide, ⟨some _, rfl⟩, _, cg1, dg1, rfl, rfl, _, yg1, ⟨some _, rfl⟩, _, cg2, dg2, ng2.1, ng2.2, _, yg2, ⟨some _, rfl⟩, _, cg3, dg3, rfl, rfl, _, yg3, ⟨some _, rfl⟩, _, cg4, dg4, rfl, rfl, _, yg4, ⟨some _, rfl⟩, _, cg5, dg5, rfl, rfl, _, yg5, ?_⟩
  replace h := q_be h
  obtain ⟨g6, hv, h⟩ := h
  replace hv := q_sI_e hv
  obtain ⟨_, cg6, dg6, yg6⟩ := hv
  have kJ9 : ∀ w8 : Int32, w8 = (if ¬ x2 = (5 : Int32) then (0 : Int32) else (8 : Int32)) → ps_At mX4_init (d + 1) 50 [(0, .ref x0), (2, .int x2)] [.int w8, .ref x0] g6 Q := by
    rintro _ rfl
    refine sX4_init_50 ?_
    replace h := q_be h
    obtain ⟨g10, hv, h⟩ := h
    replace hv := q_sI_e hv
    obtain ⟨_, cg10, dg10, yg10⟩ := hv
    refine ⟨_, cg10, dg10, rfl, rfl, _, yg10, ⟨some _, rfl⟩, ?_⟩
    refine And.intro (fun hc11 => ?_) (fun hc11 => ?_)
    · replace h := q_ifp (hc11) h
      refine sX4_init_66 ?_
      exact ps_weak (pjX4_init_69 h hk) trivial
    · replace h := q_ifn (hc11) h
      replace h := q_be h
      obtain ⟨g14, hv, h⟩ := h
      replace hv := q_nA_e hv
      obtain ⟨ag14, bg14, yg14⟩ := hv
      refine ⟨Or.inl rfl, ag14, bg14, _, yg14, ?_⟩
      exact ps_weak (pjX4_init_69 h hk) trivial
  refine ⟨⟨some _, rfl⟩, _, cg6, dg6, rfl, rfl, _, yg6, ⟨some _, rfl⟩, ?_⟩
  refine And.intro (fun hc7 => ?_) (fun hc7 => ?_)
  · refine sX4_init_49 ?_
    exact ps_weak (kJ9 _ (if_pos (hc7)).symm) ⟨rfl, rfl, trivial⟩
  · exact ps_weak (kJ9 _ (if_neg (hc7)).symm) ⟨rfl, rfl, trivial⟩
noncomputable def bX9_again_34 (x0 : Nat) (x1 : Nat) (x2 : Int32) (g : ps_G) : Option ((Int32 × ps_G) ⊕ (ps_G)) := if (30 : Int32) ≤ x2 then (some (.inr g)) else (Option.bind (q_fR 9 2 g x1) fun v10 => Option.bind (v10) fun a11 => Option.bind (q_fR 9 2 g x0) fun v12 => Option.bind (v12) fun a13 => Option.bind (q_aR g a13 x2) fun v14 => Option.bind (q_wR g a11 x2 v14) fun g15 => Option.bind (q_fR 9 3 g15 x1) fun v16 => Option.bind (v16) fun a17 => Option.bind (q_fR 9 3 g15 x0) fun v18 => Option.bind (v18) fun a19 => Option.bind (q_aI g15 a19 x2) fun v20 => Option.bind (q_wI g15 a17 x2 v20) fun g21 => some (.inl (x2 + (1 : Int32), g21)))
theorem pbX9_again_34 {d : Nat} {Q : ps_Rs → ps_G → Prop}  {x0 : Nat} {x1 : Nat} {x2 : Int32} {g : ps_G} {x : (Int32 × ps_G) ⊕ (ps_G)} (h : bX9_again_34 x0 x1 x2 g = some x) (hh : ∀ s' : Int32 × ps_G, x = .inl s' → ps_At mX9_again (d + 2) 34 [(0, .ref x0), (1, .ref x1), (2, .int s'.1)] [] s'.2 Q) (he : ∀ r' : ps_G, x = .inr r' → ps_At mX9_again (d + 2) 70 [(1, .ref x1)] [] r' Q) : ps_At mX9_again (d + 2) 34 [(0, .ref x0), (1, .ref x1), (2, .int x2)] [] g Q := by
  unfold bX9_again_34 at h
  refine sX9_again_34 ?_
  refine And.intro (fun hc8 => ?_) (fun hc8 => ?_)
  · replace h := q_ifp (hc8) h
    exact ps_weak (he g (Option.some.inj h).symm) ⟨rfl, trivial⟩
  · replace h := q_ifn (hc8) h
    replace h := q_be h
    obtain ⟨v10, hv, h⟩ := h
    replace hv := q_fR_e hv
    obtain ⟨_, cv10, dv10⟩ := hv
    replace h := q_be h
    obtain ⟨a11, ea11, h⟩ := h
    subst ea11
    replace h := q_be h
    obtain ⟨v12, hv, h⟩ := h
    replace hv := q_fR_e hv
    obtain ⟨_, cv12, dv12⟩ := hv
    replace h := q_be h
    obtain ⟨a13, ea13, h⟩ := h
    subst ea13
    replace h := q_be h
    obtain ⟨v14, hv, h⟩ := h
    replace hv := q_aR_e hv
    obtain ⟨_, _, _, cv14, pv14, qv14, iv14, dv14⟩ := hv
    replace h := q_be h
    obtain ⟨g15, hv, h⟩ := h
    replace hv := q_wR_e hv
    obtain ⟨_, _, _, cg15, ig15, pg15, qg15, yg15⟩ := hv
    replace h := q_be h
    obtain ⟨v16, hv, h⟩ := h
    replace hv := q_fR_e hv
    obtain ⟨_, cv16, dv16⟩ := hv
    replace h := q_be h
    obtain ⟨a17, ea17, h⟩ := h
    subst ea17
    replace h := q_be h
    obtain ⟨v18, hv, h⟩ := h
    replace hv := q_fR_e hv
    obtain ⟨_, cv18, dv18⟩ := hv
    replace h := q_be h
    obtain ⟨a19, ea19, h⟩ := h
    subst ea19
    refine ⟨⟨some _, rfl⟩, _, _, cv10, dv10, ⟨some _, rfl⟩, _, _, cv12, dv12, _, _, _, _, cv14, pv14, qv14, iv14, dv14, _, _, _, _, rfl, _, _, _, cg15, ig15, pg15, qg15, _, yg15, ⟨some _, rfl⟩, _, _, cv16, dv16, ⟨some _, rfl⟩, _, _, cv18, dv18, ?_⟩
    replace h := q_be h
    obtain ⟨v20, hv, h⟩ := h
    replace hv := q_aI_e hv
    obtain ⟨_, _, cv20, iv20, yv20⟩ := hv
    replace h := q_be h
    obtain ⟨g21, hv, h⟩ := h
    replace hv := q_wI_e hv
    obtain ⟨_, _, cg21, pg21, ig21, yg21⟩ := hv
    refine ⟨_, _, cv20, iv20, _, yv20, _, _, cg21, pg21, ig21, _, yg21, by decide, ?_⟩
    exact ps_weak (hh (x2 + (1 : Int32), g21) (Option.some.inj h).symm) ⟨rfl, rfl, rfl, trivial⟩
noncomputable def fX9_again (g : ps_G) (x0 : Nat) : Option (Option Nat × ps_G) := Option.bind (q_fI 9 0 (q_new 9 g) x0) fun v1 => Option.bind (q_fI 9 1 (q_new 9 g) x0) fun v2 => Option.bind (fX9_init (q_new 9 g) g.1 v1 v2) fun v3 => Option.bind (q_fI 9 4 v3 x0) fun v4 => Option.bind (q_sI 9 4 v3 g.1 v4) fun g5 => Option.bind (q_fI 9 5 g5 x0) fun v6 => Option.bind (q_sI 9 5 g5 g.1 v6) fun g7 => Option.bind (q_lp (fun s => bX9_again_34 x0 g.1 s.1 s.2) ((0 : Int32), g7)) fun s24 => some ((some g.1), s24)
theorem rX9_again {d : Nat} {Q : ps_Rs → ps_G → Prop} {g : ps_G} {x0 : Nat} {r : Option Nat × ps_G} (h : fX9_again g x0 = some r) (hk : Q (.inl (some (va_rf r.1))) r.2) : ps_Ok mX9_again (d + 2) [.ref x0] g Q := by
  unfold fX9_again at h
  refine sX9_again_0 ?_
  replace h := q_be h
  obtain ⟨v1, hv, h⟩ := h
  replace hv := q_fI_e hv
  obtain ⟨_, cv1, dv1⟩ := hv
  replace h := q_be h
  obtain ⟨v2, hv, h⟩ := h
  replace hv := q_fI_e hv
  obtain ⟨_, cv2, dv2⟩ := hv
  replace h := q_be h
  obtain ⟨v3, hv, h⟩ := h
  refine ⟨rfl, ⟨some _, rfl⟩, _, _, cv1, dv1, ⟨some _, rfl⟩, _, _, cv2, dv2, ?_⟩
  refine rX9_init hv ?_
  replace h := q_be h
  obtain ⟨v4, hv, h⟩ := h
  replace hv := q_fI_e hv
  obtain ⟨_, cv4, dv4⟩ := hv
  replace h := q_be h
  obtain ⟨g5, hv, h⟩ := h
  replace hv := q_sI_e hv
  obtain ⟨_, cg5, dg5, yg5⟩ := hv
  replace h := q_be h
  obtain ⟨v6, hv, h⟩ := h
  replace hv := q_fI_e hv
  obtain ⟨_, cv6, dv6⟩ := hv
  replace h := q_be h
  obtain ⟨g7, hv, h⟩ := h
  replace hv := q_sI_e hv
  obtain ⟨_, cg7, dg7, yg7⟩ := hv
  refine ⟨some _, _, rfl, by decide, ⟨some _, rfl⟩, ⟨some _, rfl⟩, _, _, cv4, dv4, _, cg5, dg5, rfl, rfl, _, yg5, ⟨some _, rfl⟩, ⟨some _, rfl⟩, _, _, cv6, dv6, _, cg7, dg7, rfl, rfl, _, yg7, by decide, ?_⟩
  replace h := q_be h
  obtain ⟨s24, hl, h⟩ := h
  refine ps_weak (q_lp_ok hl (fun s => ps_At mX9_again (d + 2) 34 [(0, .ref x0), (1, .ref g.1), (2, .int s.1)] [] s.2 Q) (fun r => ps_At mX9_again (d + 2) 70 [(1, .ref g.1)] [] r Q) (fun s x hb hh he => pbX9_again_34 hb hh he) ?_) ⟨rfl, rfl, rfl, trivial⟩
  refine (?_ : ps_At mX9_again (d + 2) 70 [(1, .ref g.1)] [] s24 Q)
  refine sX9_again_70 ?_
  cases h
  exact ⟨⟨some _, rfl⟩, some _, _, rfl, rfl, ⟨_, rfl, Or.inl ⟨_, rfl⟩⟩, hk⟩
noncomputable def jX9_exchange_26 (g : ps_G) : Option (ps_G) := some g
theorem pjX9_exchange_26 {d : Nat} {Q : ps_Rs → ps_G → Prop} {g : ps_G}  {r : ps_G} (h : jX9_exchange_26 g = some r) (hk : Q (.inl none) r) : ps_At mX9_exchange d 26 [] [] g Q := by
  unfold jX9_exchange_26 at h
  refine sX9_exchange_26 ?_
  cases h
  exact ⟨rfl, rfl, hk⟩
noncomputable def fX9_exchange (g : ps_G) (x0 : Nat) (x1 : Nat) : Option (ps_G) := Option.bind (q_fI 4 0 g x1) fun v1 => if v1 < 0 then (jX9_exchange_26 g) else (Option.bind (q_fI 4 0 g x1) fun v4 => if (30 : Int32) ≤ v4 then (jX9_exchange_26 g) else (Option.bind (q_fR 9 2 g x0) fun v7 => Option.bind (v7) fun a8 => Option.bind (q_fI 4 0 g x1) fun v9 => Option.bind (q_wR g a8 v9 (some x1)) fun g10 => jX9_exchange_26 g10))
theorem rX9_exchange {d : Nat} {Q : ps_Rs → ps_G → Prop} {g : ps_G} {x0 : Nat} {x1 : Nat} {r : ps_G} (h : fX9_exchange g x0 x1 = some r) (hk : Q (.inl none) r) : ps_Ok mX9_exchange d [.ref x0, .ref x1] g Q := by
  unfold fX9_exchange at h
  refine sX9_exchange_0 ?_
  replace h := q_be h
  obtain ⟨v1, hv, h⟩ := h
  replace hv := q_fI_e hv
  obtain ⟨_, cv1, dv1⟩ := hv
  refine ⟨⟨some _, rfl⟩, _, _, cv1, dv1, ?_⟩
  refine And.intro (fun hc2 => ?_) (fun hc2 => ?_)
  · replace h := q_ifp (hc2) h
    exact ps_weak (pjX9_exchange_26 h hk) trivial
  · replace h := q_ifn (hc2) h
    replace h := q_be h
    obtain ⟨v4, hv, h⟩ := h
    replace hv := q_fI_e hv
    obtain ⟨_, cv4, dv4⟩ := hv
    refine ⟨⟨some _, rfl⟩, _, _, cv4, dv4, ?_⟩
    refine And.intro (fun hc5 => ?_) (fun hc5 => ?_)
    · replace h := q_ifp (hc5) h
      exact ps_weak (pjX9_exchange_26 h hk) trivial
    · replace h := q_ifn (hc5) h
      replace h := q_be h
      obtain ⟨v7, hv, h⟩ := h
      replace hv := q_fR_e hv
      obtain ⟨_, cv7, dv7⟩ := hv
      replace h := q_be h
      obtain ⟨a8, ea8, h⟩ := h
      subst ea8
      replace h := q_be h
      obtain ⟨v9, hv, h⟩ := h
      replace hv := q_fI_e hv
      obtain ⟨_, cv9, dv9⟩ := hv
      replace h := q_be h
      obtain ⟨g10, hv, h⟩ := h
      replace hv := q_wR_e hv
      obtain ⟨_, _, _, cg10, ig10, pg10, qg10, yg10⟩ := hv
      refine ⟨⟨some _, rfl⟩, _, _, cv7, dv7, ⟨some _, rfl⟩, _, _, cv9, dv9, ⟨some _, rfl⟩, _, _, some _, _, rfl, _, _, _, cg10, ig10, pg10, qg10, _, yg10, ?_⟩
      exact ps_weak (pjX9_exchange_26 h hk) trivial
noncomputable def bX9_insert_21 (g : ps_G) (x0 : Nat) (x1 : Nat) (x2 : Int32) (x3 : Int32) (x4 : Int32) (x5 : Int32) : Option ((Int32 × Int32 × Int32) ⊕ (Int32)) := Option.bind (q_fI 9 4 g x0) fun v4 => if v4 ≤ x5 then (some (.inr x3)) else (Option.bind (q_fI 9 4 g x0) fun v7 => if ¬ x3 = v7 then (some (.inr x3)) else (Option.bind (q_fI 4 2 g x1) fun v10 => Option.bind (q_ob 9 g x0) fun u11 => Option.bind (fX9_child g x0 x5 v10) fun v12 => some (.inl ((if v12 = none then x3 else (if ¬ x4 = x2 then x3 else x5)), (if v12 = none then x4 else x4 + (1 : Int32)), x5 + (1 : Int32)))))
theorem pbX9_insert_21 {d : Nat} {Q : ps_Rs → ps_G → Prop} {g : ps_G} {x0 : Nat} {x1 : Nat} {x2 : Int32} {x3 : Int32} {x4 : Int32} {x5 : Int32} {x : (Int32 × Int32 × Int32) ⊕ (Int32)} (h : bX9_insert_21 g x0 x1 x2 x3 x4 x5 = some x) (hh : ∀ s' : Int32 × Int32 × Int32, x = .inl s' → ps_At mX9_insert (d + 2) 21 [(0, .ref x0), (1, .ref x1), (2, .int x2), (3, .int s'.1), (4, .int s'.2.1), (5, .int s'.2.2)] [] g Q) (he : ∀ r' : Int32, x = .inr r' → ps_At mX9_insert (d + 2) 69 [(0, .ref x0), (1, .ref x1), (3, .int r')] [] g Q) : ps_At mX9_insert (d + 2) 21 [(0, .ref x0), (1, .ref x1), (2, .int x2), (3, .int x3), (4, .int x4), (5, .int x5)] [] g Q := by
  unfold bX9_insert_21 at h
  refine sX9_insert_21 ?_
  replace h := q_be h
  obtain ⟨v4, hv, h⟩ := h
  replace hv := q_fI_e hv
  obtain ⟨_, cv4, dv4⟩ := hv
  refine ⟨⟨some _, rfl⟩, _, _, cv4, dv4, ?_⟩
  refine And.intro (fun hc5 => ?_) (fun hc5 => ?_)
  · replace h := q_ifp (hc5) h
    exact ps_weak (he x3 (Option.some.inj h).symm) ⟨rfl, rfl, rfl, trivial⟩
  · replace h := q_ifn (hc5) h
    replace h := q_be h
    obtain ⟨v7, hv, h⟩ := h
    replace hv := q_fI_e hv
    obtain ⟨_, cv7, dv7⟩ := hv
    refine ⟨⟨some _, rfl⟩, _, _, cv7, dv7, ?_⟩
    refine And.intro (fun hc8 => ?_) (fun hc8 => ?_)
    · replace h := q_ifp (hc8) h
      exact ps_weak (he x3 (Option.some.inj h).symm) ⟨rfl, rfl, rfl, trivial⟩
    · replace h := q_ifn (hc8) h
      replace h := q_be h
      obtain ⟨v10, hv, h⟩ := h
      replace hv := q_fI_e hv
      obtain ⟨_, cv10, dv10⟩ := hv
      replace h := q_be h
      obtain ⟨u11, hv, h⟩ := h
      replace hv := q_ob_e hv
      obtain ⟨_, cu11⟩ := hv
      replace h := q_be h
      obtain ⟨v12, hv, h⟩ := h
      refine ⟨⟨some _, rfl⟩, ⟨some _, rfl⟩, _, _, cv10, dv10, ⟨_, cu11⟩, ?_⟩
      refine rX9_child hv ?_
      have kJ16 : ∀ w14 : Int32, w14 = (if v12 = none then x3 else (if ¬ x4 = x2 then x3 else x5)) → ∀ w15 : Int32, w15 = (if v12 = none then x4 else x4 + (1 : Int32)) → ps_At mX9_insert (d + 2) 63 [(0, .ref x0), (1, .ref x1), (2, .int x2), (3, .int w14), (4, .int w15), (5, .int x5)] [] g Q := by
        rintro _ rfl _ rfl
        refine sX9_insert_63 ?_
        refine ⟨by decide, ?_⟩
        exact ps_weak (hh ((if v12 = none then x3 else (if ¬ x4 = x2 then x3 else x5)), (if v12 = none then x4 else x4 + (1 : Int32)), x5 + (1 : Int32)) (Option.some.inj h).symm) ⟨rfl, rfl, rfl, rfl, rfl, rfl, trivial⟩
      refine ⟨_, _, rfl, ?_⟩
      refine And.intro (fun hc13 => ?_) (fun hc13 => ?_)
      · exact ps_weak (kJ16 _ (if_pos (hc13)).symm _ (if_pos (hc13)).symm) ⟨rfl, rfl, rfl, rfl, rfl, rfl, trivial⟩
      · have kJ19 : ∀ w18 : Int32, w18 = (if ¬ x4 = x2 then x3 else x5) → ps_At mX9_insert (d + 2) 60 [(0, .ref x0), (1, .ref x1), (2, .int x2), (3, .int w18), (4, .int x4), (5, .int x5)] [] g Q := by
          rintro _ rfl
          refine sX9_insert_60 ?_
          refine ⟨by decide, ?_⟩
          exact ps_weak (kJ16 _ (if_neg (hc13)).symm _ (if_neg (hc13)).symm) ⟨rfl, rfl, rfl, rfl, rfl, rfl, trivial⟩
        refine And.intro (fun hc17 => ?_) (fun hc17 => ?_)
        · exact ps_weak (kJ19 _ (if_pos (hc17)).symm) ⟨rfl, rfl, rfl, rfl, rfl, rfl, trivial⟩
        · refine ⟨by decide, ?_⟩
          exact ps_weak (kJ19 _ (if_neg (hc17)).symm) ⟨rfl, rfl, rfl, rfl, rfl, rfl, trivial⟩
noncomputable def bX9_insert_75 (x0 : Nat) (x1 : Nat) (x3 : Int32) (x5 : Int32) (g : ps_G) : Option ((Int32 × ps_G) ⊕ (ps_G)) := if (x5 ≤ x3) ∨ (x5 ≤ 0) then (some (.inr g)) else (Option.bind (q_fR 9 3 g x0) fun v29 => Option.bind (v29) fun a30 => Option.bind (q_fR 9 3 g x0) fun v31 => Option.bind (v31) fun a32 => Option.bind (q_aI g a32 (x5 - (1 : Int32))) fun v33 => Option.bind (q_wI g a30 x5 v33) fun g34 => some (.inl (x5 + (-1 : Int32), g34)))
theorem pbX9_insert_75 {d : Nat} {Q : ps_Rs → ps_G → Prop}  {x0 : Nat} {x1 : Nat} {x3 : Int32} {x5 : Int32} {g : ps_G} {x : (Int32 × ps_G) ⊕ (ps_G)} (h : bX9_insert_75 x0 x1 x3 x5 g = some x) (hh : ∀ s' : Int32 × ps_G, x = .inl s' → ps_At mX9_insert (d + 2) 75 [(0, .ref x0), (1, .ref x1), (3, .int x3), (5, .int s'.1)] [] s'.2 Q) (he : ∀ r' : ps_G, x = .inr r' → ps_At mX9_insert (d + 2) 108 [(0, .ref x0), (1, .ref x1), (3, .int x3)] [] r' Q) : ps_At mX9_insert (d + 2) 75 [(0, .ref x0), (1, .ref x1), (3, .int x3), (5, .int x5)] [] g Q := by
  unfold bX9_insert_75 at h
  refine sX9_insert_75 ?_
  have kT35 : (some (.inr g)) = some x → ps_At mX9_insert (d + 2) 108 [(0, .ref x0), (1, .ref x1), (3, .int x3)] [] g Q := fun h => by
    exact ps_weak (he g (Option.some.inj h).symm) ⟨rfl, rfl, rfl, trivial⟩
  refine And.intro (fun hc26 => ?_) (fun hc26 => ?_)
  · exact ps_weak (kT35 (q_ifp (Or.inl hc26) h)) ⟨rfl, rfl, rfl, trivial⟩
  · refine And.intro (fun hc27 => ?_) (fun hc27 => ?_)
    · exact ps_weak (kT35 (q_ifp (Or.inr (hc27)) h)) ⟨rfl, rfl, rfl, trivial⟩
    · replace h := q_ifn (not_or.mpr ⟨hc26, hc27⟩) h
      replace h := q_be h
      obtain ⟨v29, hv, h⟩ := h
      replace hv := q_fR_e hv
      obtain ⟨_, cv29, dv29⟩ := hv
      replace h := q_be h
      obtain ⟨a30, ea30, h⟩ := h
      subst ea30
      replace h := q_be h
      obtain ⟨v31, hv, h⟩ := h
      replace hv := q_fR_e hv
      obtain ⟨_, cv31, dv31⟩ := hv
      replace h := q_be h
      obtain ⟨a32, ea32, h⟩ := h
      subst ea32
      replace h := q_be h
      obtain ⟨v33, hv, h⟩ := h
      replace hv := q_aI_e hv
      obtain ⟨_, _, cv33, iv33, yv33⟩ := hv
      replace h := q_be h
      obtain ⟨g34, hv, h⟩ := h
      replace hv := q_wI_e hv
      obtain ⟨_, _, cg34, pg34, ig34, yg34⟩ := hv
      refine ⟨⟨some _, rfl⟩, _, _, cv29, dv29, ⟨some _, rfl⟩, _, _, cv31, dv31, _, _, cv33, iv33, _, yv33, _, _, cg34, pg34, ig34, _, yg34, by decide, ?_⟩
      exact ps_weak (hh (x5 + (-1 : Int32), g34) (Option.some.inj h).symm) ⟨rfl, rfl, rfl, rfl, trivial⟩
noncomputable def jX9_insert_108 (g : ps_G) (x0 : Nat) (x1 : Nat) (x3 : Int32) : Option (ps_G) := Option.bind (q_fR 9 3 g x0) fun v38 => Option.bind (v38) fun a39 => Option.bind (q_fI 4 0 g x1) fun v40 => Option.bind (q_wI g a39 x3 v40) fun g41 => Option.bind (q_fI 9 4 g41 x0) fun v42 => Option.bind (q_sI 9 4 g41 x0 (v42 + (1 : Int32))) fun g43 => Option.bind (q_ob 9 g43 x0) fun u44 => Option.bind (fX9_exchange g43 x0 x1) fun v45 => some v45
theorem pjX9_insert_108 {d : Nat} {Q : ps_Rs → ps_G → Prop} {g : ps_G} {x0 : Nat} {x1 : Nat} {x3 : Int32} {r : ps_G} (h : jX9_insert_108 g x0 x1 x3 = some r) (hk : Q (.inl none) r) : ps_At mX9_insert (d + 2) 108 [(0, .ref x0), (1, .ref x1), (3, .int x3)] [] g Q := by
  unfold jX9_insert_108 at h
  refine sX9_insert_108 ?_
  replace h := q_be h
  obtain ⟨v38, hv, h⟩ := h
  replace hv := q_fR_e hv
  obtain ⟨_, cv38, dv38⟩ := hv
  replace h := q_be h
  obtain ⟨a39, ea39, h⟩ := h
  subst ea39
  replace h := q_be h
  obtain ⟨v40, hv, h⟩ := h
  replace hv := q_fI_e hv
  obtain ⟨_, cv40, dv40⟩ := hv
  replace h := q_be h
  obtain ⟨g41, hv, h⟩ := h
  replace hv := q_wI_e hv
  obtain ⟨_, _, cg41, pg41, ig41, yg41⟩ := hv
  replace h := q_be h
  obtain ⟨v42, hv, h⟩ := h
  replace hv := q_fI_e hv
  obtain ⟨_, cv42, dv42⟩ := hv
  replace h := q_be h
  obtain ⟨g43, hv, h⟩ := h
  replace hv := q_sI_e hv
  obtain ⟨_, cg43, dg43, yg43⟩ := hv
  replace h := q_be h
  obtain ⟨u44, hv, h⟩ := h
  replace hv := q_ob_e hv
  obtain ⟨_, cu44⟩ := hv
  replace h := q_be h
  obtain ⟨v45, hv, h⟩ := h
  refine ⟨⟨some _, rfl⟩, _, _, cv38, dv38, ⟨some _, rfl⟩, _, _, cv40, dv40, _, _, cg41, pg41, ig41, _, yg41, ⟨some _, rfl⟩, rfl, _, _, cv42, dv42, _, cg43, dg43, rfl, rfl, _, yg43, ⟨some _, rfl⟩, ⟨some _, rfl⟩, ⟨_, cu44⟩, ?_⟩
  refine rX9_exchange hv ?_
  cases h
  exact ⟨rfl, rfl, hk⟩
noncomputable def jX9_insert_69 (g : ps_G) (x0 : Nat) (x1 : Nat) (x3 : Int32) : Option (ps_G) := Option.bind (q_fI 9 4 g x0) fun v25 => Option.bind (q_lp (fun s => bX9_insert_75 x0 x1 x3 s.1 s.2) (v25, g)) fun s37 => jX9_insert_108 s37 x0 x1 x3
theorem pjX9_insert_69 {d : Nat} {Q : ps_Rs → ps_G → Prop} {g : ps_G} {x0 : Nat} {x1 : Nat} {x3 : Int32} {r : ps_G} (h : jX9_insert_69 g x0 x1 x3 = some r) (hk : Q (.inl none) r) : ps_At mX9_insert (d + 2) 69 [(0, .ref x0), (1, .ref x1), (3, .int x3)] [] g Q := by
  unfold jX9_insert_69 at h
  refine sX9_insert_69 ?_
  replace h := q_be h
  obtain ⟨v25, hv, h⟩ := h
  replace hv := q_fI_e hv
  obtain ⟨_, cv25, dv25⟩ := hv
  refine ⟨⟨some _, rfl⟩, _, _, cv25, dv25, by decide, ?_⟩
  replace h := q_be h
  obtain ⟨s37, hl, h⟩ := h
  refine ps_weak (q_lp_ok hl (fun s => ps_At mX9_insert (d + 2) 75 [(0, .ref x0), (1, .ref x1), (3, .int x3), (5, .int s.1)] [] s.2 Q) (fun r => ps_At mX9_insert (d + 2) 108 [(0, .ref x0), (1, .ref x1), (3, .int x3)] [] r Q) (fun s x hb hh he => pbX9_insert_75 hb hh he) ?_) ⟨rfl, rfl, rfl, rfl, trivial⟩
  refine (?_ : ps_At mX9_insert (d + 2) 108 [(0, .ref x0), (1, .ref x1), (3, .int x3)] [] s37 Q)
  exact ps_weak (pjX9_insert_108 h hk) ⟨rfl, rfl, rfl, trivial⟩
noncomputable def fX9_insert (g : ps_G) (x0 : Nat) (x1 : Nat) (x2 : Int32) : Option (ps_G) := Option.bind (q_fI 9 4 g x0) fun v1 => if v1 < (30 : Int32) then (Option.bind (q_fI 9 4 g x0) fun v3 => Option.bind (q_lp (fun s => bX9_insert_21 g x0 x1 x2 s.1 s.2.1 s.2.2) (v3, (0 : Int32), (0 : Int32))) fun s24 => jX9_insert_69 g x0 x1 s24) else (some g)
theorem rX9_insert {d : Nat} {Q : ps_Rs → ps_G → Prop} {g : ps_G} {x0 : Nat} {x1 : Nat} {x2 : Int32} {r : ps_G} (h : fX9_insert g x0 x1 x2 = some r) (hk : Q (.inl none) r) : ps_Ok mX9_insert (d + 2) [.ref x0, .ref x1, .int x2] g Q := by
  unfold fX9_insert at h
  refine sX9_insert_0 ?_
  replace h := q_be h
  obtain ⟨v1, hv, h⟩ := h
  replace hv := q_fI_e hv
  obtain ⟨_, cv1, dv1⟩ := hv
  refine ⟨⟨some _, rfl⟩, _, _, cv1, dv1, ?_⟩
  refine And.intro (fun hc2 => ?_) (fun hc2 => ?_)
  · replace h := q_ifp (hc2) h
    refine sX9_insert_10 ?_
    replace h := q_be h
    obtain ⟨v3, hv, h⟩ := h
    replace hv := q_fI_e hv
    obtain ⟨_, cv3, dv3⟩ := hv
    refine ⟨⟨some _, rfl⟩, _, _, cv3, dv3, by decide, by decide, by decide, ?_⟩
    replace h := q_be h
    obtain ⟨s24, hl, h⟩ := h
    refine ps_weak (q_lp_ok hl (fun s => ps_At mX9_insert (d + 2) 21 [(0, .ref x0), (1, .ref x1), (2, .int x2), (3, .int s.1), (4, .int s.2.1), (5, .int s.2.2)] [] g Q) (fun r => ps_At mX9_insert (d + 2) 69 [(0, .ref x0), (1, .ref x1), (3, .int r)] [] g Q) (fun s x hb hh he => pbX9_insert_21 hb hh he) ?_) ⟨rfl, rfl, rfl, rfl, rfl, rfl, trivial⟩
    refine (?_ : ps_At mX9_insert (d + 2) 69 [(0, .ref x0), (1, .ref x1), (3, .int s24)] [] g Q)
    exact ps_weak (pjX9_insert_69 h hk) ⟨rfl, rfl, rfl, trivial⟩
  · replace h := q_ifn (hc2) h
    cases h
    exact ⟨rfl, rfl, hk⟩
noncomputable def jX11_remember_43 (g : ps_G) (x0 : Nat) (x1 : Nat) : Option (ps_G) := Option.bind (q_fR 11 1 g x0) fun v3 => Option.bind (v3) fun a4 => Option.bind (q_fI 11 2 g x0) fun v5 => Option.bind (q_fR 11 0 g x0) fun v6 => Option.bind (q_wR g a4 v5 v6) fun g7 => Option.bind (q_fI 11 2 g7 x0) fun v8 => Option.bind (q_sI 11 2 g7 x0 (v8 + (1 : Int32))) fun g9 => Option.bind (q_sI 11 4 g9 x0 (0 : Int32)) fun g10 => Option.bind (q_sR 11 0 g10 x0 (some x1)) fun g11 => some g11
theorem pjX11_remember_43 {d : Nat} {Q : ps_Rs → ps_G → Prop} {g : ps_G} {x0 : Nat} {x1 : Nat} {r : ps_G} (h : jX11_remember_43 g x0 x1 = some r) (hk : Q (.inl none) r) : ps_At mX11_remember d 43 [(0, .ref x0), (1, .ref x1)] [] g Q := by
  unfold jX11_remember_43 at h
  refine sX11_remember_43 ?_
  replace h := q_be h
  obtain ⟨v3, hv, h⟩ := h
  replace hv := q_fR_e hv
  obtain ⟨_, cv3, dv3⟩ := hv
  replace h := q_be h
  obtain ⟨a4, ea4, h⟩ := h
  subst ea4
  replace h := q_be h
  obtain ⟨v5, hv, h⟩ := h
  replace hv := q_fI_e hv
  obtain ⟨_, cv5, dv5⟩ := hv
  replace h := q_be h
  obtain ⟨v6, hv, h⟩ := h
  replace hv := q_fR_e hv
  obtain ⟨_, cv6, dv6⟩ := hv
  replace h := q_be h
  obtain ⟨g7, hv, h⟩ := h
  replace hv := q_wR_e hv
  obtain ⟨_, _, _, cg7, ig7, pg7, qg7, yg7⟩ := hv
  replace h := q_be h
  obtain ⟨v8, hv, h⟩ := h
  replace hv := q_fI_e hv
  obtain ⟨_, cv8, dv8⟩ := hv
  replace h := q_be h
  obtain ⟨g9, hv, h⟩ := h
  replace hv := q_sI_e hv
  obtain ⟨_, cg9, dg9, yg9⟩ := hv
  refine ⟨⟨some _, rfl⟩, _, _, cv3, dv3, ⟨some _, rfl⟩, _, _, cv5, dv5, ⟨some _, rfl⟩, _, _, cv6, dv6, _, _, _, _, rfl, _, _, _, cg7, ig7, pg7, qg7, _, yg7, ⟨some _, rfl⟩, rfl, _, _, cv8, dv8, _, cg9, dg9, rfl, rfl, _, yg9, ?_⟩
  replace h := q_be h
  obtain ⟨g10, hv, h⟩ := h
  replace hv := q_sI_e hv
  obtain ⟨_, cg10, dg10, yg10⟩ := hv
  replace h := q_be h
  obtain ⟨g11, hv, h⟩ := h
  replace hv := q_sR_e hv
  obtain ⟨_, cg11, dg11, yg11⟩ := hv
  cases h
  exact ⟨⟨some _, rfl⟩, _, cg10, dg10, rfl, rfl, _, yg10, ⟨some _, rfl⟩, ⟨some _, rfl⟩, _, cg11, dg11, rfl, rfl, _, yg11, rfl, rfl, hk⟩
noncomputable def bX11_remember_11 (x0 : Nat) (x1 : Nat) (x2 : Int32) (g : ps_G) : Option ((Int32 × ps_G) ⊕ (ps_G)) := if (24 : Int32) ≤ x2 then (some (.inr g)) else (Option.bind (q_fR 11 1 g x0) fun v14 => Option.bind (v14) fun a15 => Option.bind (q_fR 11 1 g x0) fun v16 => Option.bind (v16) fun a17 => Option.bind (q_aR g a17 x2) fun v18 => Option.bind (q_wR g a15 (x2 - (1 : Int32)) v18) fun g19 => some (.inl (x2 + (1 : Int32), g19)))
theorem pbX11_remember_11 {d : Nat} {Q : ps_Rs → ps_G → Prop}  {x0 : Nat} {x1 : Nat} {x2 : Int32} {g : ps_G} {x : (Int32 × ps_G) ⊕ (ps_G)} (h : bX11_remember_11 x0 x1 x2 g = some x) (hh : ∀ s' : Int32 × ps_G, x = .inl s' → ps_At mX11_remember d 11 [(0, .ref x0), (1, .ref x1), (2, .int s'.1)] [] s'.2 Q) (he : ∀ r' : ps_G, x = .inr r' → ps_At mX11_remember d 37 [(0, .ref x0), (1, .ref x1)] [] r' Q) : ps_At mX11_remember d 11 [(0, .ref x0), (1, .ref x1), (2, .int x2)] [] g Q := by
  unfold bX11_remember_11 at h
  refine sX11_remember_11 ?_
  refine And.intro (fun hc12 => ?_) (fun hc12 => ?_)
  · replace h := q_ifp (hc12) h
    exact ps_weak (he g (Option.some.inj h).symm) ⟨rfl, rfl, trivial⟩
  · replace h := q_ifn (hc12) h
    replace h := q_be h
    obtain ⟨v14, hv, h⟩ := h
    replace hv := q_fR_e hv
    obtain ⟨_, cv14, dv14⟩ := hv
    replace h := q_be h
    obtain ⟨a15, ea15, h⟩ := h
    subst ea15
    replace h := q_be h
    obtain ⟨v16, hv, h⟩ := h
    replace hv := q_fR_e hv
    obtain ⟨_, cv16, dv16⟩ := hv
    replace h := q_be h
    obtain ⟨a17, ea17, h⟩ := h
    subst ea17
    replace h := q_be h
    obtain ⟨v18, hv, h⟩ := h
    replace hv := q_aR_e hv
    obtain ⟨_, _, _, cv18, pv18, qv18, iv18, dv18⟩ := hv
    replace h := q_be h
    obtain ⟨g19, hv, h⟩ := h
    replace hv := q_wR_e hv
    obtain ⟨_, _, _, cg19, ig19, pg19, qg19, yg19⟩ := hv
    refine ⟨⟨some _, rfl⟩, _, _, cv14, dv14, ⟨some _, rfl⟩, _, _, cv16, dv16, _, _, _, _, cv18, pv18, qv18, iv18, dv18, _, _, _, _, rfl, _, _, _, cg19, ig19, pg19, qg19, _, yg19, by decide, ?_⟩
    exact ps_weak (hh (x2 + (1 : Int32), g19) (Option.some.inj h).symm) ⟨rfl, rfl, rfl, trivial⟩
noncomputable def fX11_remember (g : ps_G) (x0 : Nat) (x1 : Nat) : Option (ps_G) := Option.bind (q_fI 11 2 g x0) fun v1 => if v1 < (24 : Int32) then (jX11_remember_43 g x0 x1) else (Option.bind (q_lp (fun s => bX11_remember_11 x0 x1 s.1 s.2) ((1 : Int32), g)) fun s22 => Option.bind (q_sI 11 2 s22 x0 (23 : Int32)) fun g23 => jX11_remember_43 g23 x0 x1)
theorem rX11_remember {d : Nat} {Q : ps_Rs → ps_G → Prop} {g : ps_G} {x0 : Nat} {x1 : Nat} {r : ps_G} (h : fX11_remember g x0 x1 = some r) (hk : Q (.inl none) r) : ps_Ok mX11_remember d [.ref x0, .ref x1] g Q := by
  unfold fX11_remember at h
  refine sX11_remember_0 ?_
  replace h := q_be h
  obtain ⟨v1, hv, h⟩ := h
  replace hv := q_fI_e hv
  obtain ⟨_, cv1, dv1⟩ := hv
  refine ⟨⟨some _, rfl⟩, _, _, cv1, dv1, ?_⟩
  refine And.intro (fun hc2 => ?_) (fun hc2 => ?_)
  · replace h := q_ifp (hc2) h
    exact ps_weak (pjX11_remember_43 h hk) ⟨rfl, rfl, trivial⟩
  · replace h := q_ifn (hc2) h
    refine ⟨by decide, ?_⟩
    replace h := q_be h
    obtain ⟨s22, hl, h⟩ := h
    refine ps_weak (q_lp_ok hl (fun s => ps_At mX11_remember d 11 [(0, .ref x0), (1, .ref x1), (2, .int s.1)] [] s.2 Q) (fun r => ps_At mX11_remember d 37 [(0, .ref x0), (1, .ref x1)] [] r Q) (fun s x hb hh he => pbX11_remember_11 hb hh he) ?_) ⟨rfl, rfl, rfl, trivial⟩
    refine (?_ : ps_At mX11_remember d 37 [(0, .ref x0), (1, .ref x1)] [] s22 Q)
    refine sX11_remember_37 ?_
    replace h := q_be h
    obtain ⟨g23, hv, h⟩ := h
    replace hv := q_sI_e hv
    obtain ⟨_, cg23, dg23, yg23⟩ := hv
    refine ⟨⟨some _, rfl⟩, _, cg23, dg23, rfl, rfl, _, yg23, ?_⟩
    exact ps_weak (pjX11_remember_43 h hk) ⟨rfl, rfl, trivial⟩
noncomputable def fX11_become (g : ps_G) (x0 : Nat) (x1 : Nat) : Option (ps_G) := Option.bind (q_ob 11 g x0) fun u1 => Option.bind (fX11_remember g x0 x1) fun v2 => Option.bind (q_fR 11 6 v2 x0) fun v3 => Option.bind (v3) fun a4 => Option.bind (q_ob 10 v2 a4) fun u5 => Option.bind (fX10_forgetAll v2 a4) fun v6 => some v6
theorem rX11_become {d : Nat} {Q : ps_Rs → ps_G → Prop} {g : ps_G} {x0 : Nat} {x1 : Nat} {r : ps_G} (h : fX11_become g x0 x1 = some r) (hk : Q (.inl none) r) : ps_Ok mX11_become (d + 2) [.ref x0, .ref x1] g Q := by
  unfold fX11_become at h
  refine sX11_become_0 ?_
  replace h := q_be h
  obtain ⟨u1, hv, h⟩ := h
  replace hv := q_ob_e hv
  obtain ⟨_, cu1⟩ := hv
  replace h := q_be h
  obtain ⟨v2, hv, h⟩ := h
  refine ⟨⟨some _, rfl⟩, ⟨some _, rfl⟩, ⟨_, cu1⟩, ?_⟩
  refine rX11_remember hv ?_
  replace h := q_be h
  obtain ⟨v3, hv, h⟩ := h
  replace hv := q_fR_e hv
  obtain ⟨_, cv3, dv3⟩ := hv
  replace h := q_be h
  obtain ⟨a4, ea4, h⟩ := h
  subst ea4
  replace h := q_be h
  obtain ⟨u5, hv, h⟩ := h
  replace hv := q_ob_e hv
  obtain ⟨_, cu5⟩ := hv
  replace h := q_be h
  obtain ⟨v6, hv, h⟩ := h
  refine ⟨⟨some _, rfl⟩, _, _, cv3, dv3, ⟨_, cu5⟩, ?_⟩
  refine rX10_forgetAll hv ?_
  cases h
  exact ⟨rfl, rfl, hk⟩
noncomputable def fX11_addLayer (g : ps_G) (x0 : Nat) (x1 : Nat) (x2 : Int32) : Option (Int32 × ps_G) := Option.bind (q_fR 11 0 g x0) fun v1 => Option.bind (v1) fun a2 => Option.bind (q_ob 9 g a2) fun u3 => q_b2 (fX9_again g a2) fun v4 g5 => Option.bind (v4) fun a6 => Option.bind (q_ob 9 g5 a6) fun u7 => Option.bind (fX9_insert g5 a6 x1 x2) fun v8 => Option.bind (q_fI 9 5 v8 a6) fun v9 => Option.bind (q_sI 9 5 v8 a6 (v9 + (1 : Int32))) fun g10 => Option.bind (q_ob 11 g10 x0) fun u11 => Option.bind (fX11_become g10 x0 a6) fun v12 => Option.bind (q_fI 4 0 v12 x1) fun v13 => some (v13, v12)
theorem rX11_addLayer {d : Nat} {Q : ps_Rs → ps_G → Prop} {g : ps_G} {x0 : Nat} {x1 : Nat} {x2 : Int32} {r : Int32 × ps_G} (h : fX11_addLayer g x0 x1 x2 = some r) (hk : Q (.inl (some (.int r.1))) r.2) : ps_Ok mX11_addLayer (d + 3) [.ref x0, .ref x1, .int x2] g Q := by
  unfold fX11_addLayer at h
  refine sX11_addLayer_0 ?_
  replace h := q_be h
  obtain ⟨v1, hv, h⟩ := h
  replace hv := q_fR_e hv
  obtain ⟨_, cv1, dv1⟩ := hv
  replace h := q_be h
  obtain ⟨a2, ea2, h⟩ := h
  subst ea2
  replace h := q_be h
  obtain ⟨u3, hv, h⟩ := h
  replace hv := q_ob_e hv
  obtain ⟨_, cu3⟩ := hv
  replace h := q_b2_e h
  obtain ⟨v4, g5, hv, h⟩ := h
  refine ⟨⟨some _, rfl⟩, _, _, cv1, dv1, ⟨_, cu3⟩, ?_⟩
  refine rX9_again hv ?_
  replace h := q_be h
  obtain ⟨a6, ea6, h⟩ := h
  subst ea6
  replace h := q_be h
  obtain ⟨u7, hv, h⟩ := h
  replace hv := q_ob_e hv
  obtain ⟨_, cu7⟩ := hv
  replace h := q_be h
  obtain ⟨v8, hv, h⟩ := h
  refine ⟨_, _, rfl, by decide, ⟨some _, rfl⟩, ⟨some _, rfl⟩, ⟨_, cu7⟩, ?_⟩
  refine rX9_insert hv ?_
  replace h := q_be h
  obtain ⟨v9, hv, h⟩ := h
  replace hv := q_fI_e hv
  obtain ⟨_, cv9, dv9⟩ := hv
  replace h := q_be h
  obtain ⟨g10, hv, h⟩ := h
  replace hv := q_sI_e hv
  obtain ⟨_, cg10, dg10, yg10⟩ := hv
  replace h := q_be h
  obtain ⟨u11, hv, h⟩ := h
  replace hv := q_ob_e hv
  obtain ⟨_, cu11⟩ := hv
  replace h := q_be h
  obtain ⟨v12, hv, h⟩ := h
  refine ⟨⟨some _, rfl⟩, rfl, _, _, cv9, dv9, _, cg10, dg10, rfl, rfl, _, yg10, ⟨some _, rfl⟩, ⟨some _, rfl⟩, ⟨_, cu11⟩, ?_⟩
  refine rX11_become hv ?_
  replace h := q_be h
  obtain ⟨v13, hv, h⟩ := h
  replace hv := q_fI_e hv
  obtain ⟨_, cv13, dv13⟩ := hv
  cases h
  exact ⟨⟨some _, rfl⟩, _, _, cv13, dv13, rfl, hk⟩
noncomputable def jX11_layer_24 (g : ps_G) (x0 : Nat) (x1 : Int32) (x2 : Int32) (x3 : Int32) : Option ((String ⊕ Int32) × ps_G) := Option.bind (q_ob 11 g x0) fun u12 => q_tc (fX11_needNumber g x0) fun v13 g14 => Option.bind (q_fR 11 0 (q_new 4 g14) x0) fun v15 => Option.bind (v15) fun a16 => Option.bind (q_fI 9 5 (q_new 4 g14) a16) fun v17 => Option.bind (fX4_init (q_new 4 g14) g14.1 v17 x1 x2) fun v18 => Option.bind (q_ob 11 v18 x0) fun u19 => q_b2 (fX11_addLayer v18 x0 g14.1 x3) fun v20 g21 => some (.inr v20, g21)
theorem pjX11_layer_24 {d : Nat} {Q : ps_Rs → ps_G → Prop} {g : ps_G} {x0 : Nat} {x1 : Int32} {x2 : Int32} {x3 : Int32} {r : (String ⊕ Int32) × ps_G} (h : jX11_layer_24 g x0 x1 x2 x3 = some r) (hk : Q (q_rI r.1) r.2) : ps_At mX11_layer (d + 7) 24 [(0, .ref x0), (1, .int x1), (2, .int x2), (3, .int x3)] [] g Q := by
  unfold jX11_layer_24 at h
  refine sX11_layer_24 ?_
  replace h := q_be h
  obtain ⟨u12, hv, h⟩ := h
  replace hv := q_ob_e hv
  obtain ⟨_, cu12⟩ := hv
  refine ⟨⟨some _, rfl⟩, ⟨_, cu12⟩, ?_⟩
  replace h := q_tc_e h
  rcases h with ⟨E, g14, hv, rfl⟩ | ⟨v13, g14, hv, h⟩
  · exact rX11_needNumber hv hk
  refine rX11_needNumber hv ?_
  replace h := q_be h
  obtain ⟨v15, hv, h⟩ := h
  replace hv := q_fR_e hv
  obtain ⟨_, cv15, dv15⟩ := hv
  replace h := q_be h
  obtain ⟨a16, ea16, h⟩ := h
  subst ea16
  replace h := q_be h
  obtain ⟨v17, hv, h⟩ := h
  replace hv := q_fI_e hv
  obtain ⟨_, cv17, dv17⟩ := hv
  replace h := q_be h
  obtain ⟨v18, hv, h⟩ := h
  refine ⟨⟨some _, rfl⟩, rfl, ⟨some _, rfl⟩, _, _, cv15, dv15, _, _, cv17, dv17, ?_⟩
  refine rX4_init hv ?_
  replace h := q_be h
  obtain ⟨u19, hv, h⟩ := h
  replace hv := q_ob_e hv
  obtain ⟨_, cu19⟩ := hv
  replace h := q_b2_e h
  obtain ⟨v20, g21, hv, h⟩ := h
  refine ⟨⟨_, cu19⟩, ?_⟩
  refine rX11_addLayer hv ?_
  cases h
  exact ⟨rfl, hk⟩
noncomputable def fX11_layer (g : ps_G) (x0 : Nat) (x1 : Int32) (x2 : Int32) (x3 : Int32) : Option ((String ⊕ Int32) × ps_G) := q_tc (fX11_range g x1 (0 : Int32) (5 : Int32)) fun v1 g2 => Option.bind (q_ob 11 g2 x0) fun u3 => q_tc (fX11_needParent g2 x0 x2) fun v4 g5 => Option.bind (q_fR 11 0 g5 x0) fun v6 => Option.bind (v6) fun a7 => Option.bind (q_ob 9 g5 a7) fun u8 => Option.bind (fX9_among g5 a7 x2) fun v9 => q_tc (fX11_range g5 x3 (0 : Int32) v9) fun v10 g11 => jX11_layer_24 g11 x0 x1 x2 x3
theorem rX11_layer {d : Nat} {Q : ps_Rs → ps_G → Prop} {g : ps_G} {x0 : Nat} {x1 : Int32} {x2 : Int32} {x3 : Int32} {r : (String ⊕ Int32) × ps_G} (h : fX11_layer g x0 x1 x2 x3 = some r) (hk : Q (q_rI r.1) r.2) : ps_Ok mX11_layer (d + 7) [.ref x0, .int x1, .int x2, .int x3] g Q := by
  unfold fX11_layer at h
  refine sX11_layer_0 ?_
  replace h := q_tc_e h
  rcases h with ⟨E, g2, hv, rfl⟩ | ⟨v1, g2, hv, h⟩
  · exact rX11_range hv ⟨rfl, hk⟩
  refine rX11_range hv ?_
  replace h := q_be h
  obtain ⟨u3, hv, h⟩ := h
  replace hv := q_ob_e hv
  obtain ⟨_, cu3⟩ := hv
  refine ⟨⟨some _, rfl⟩, ⟨_, cu3⟩, ?_⟩
  replace h := q_tc_e h
  rcases h with ⟨E, g5, hv, rfl⟩ | ⟨v4, g5, hv, h⟩
  · exact rX11_needParent hv hk
  refine rX11_needParent hv ?_
  replace h := q_be h
  obtain ⟨v6, hv, h⟩ := h
  replace hv := q_fR_e hv
  obtain ⟨_, cv6, dv6⟩ := hv
  replace h := q_be h
  obtain ⟨a7, ea7, h⟩ := h
  subst ea7
  replace h := q_be h
  obtain ⟨u8, hv, h⟩ := h
  replace hv := q_ob_e hv
  obtain ⟨_, cu8⟩ := hv
  replace h := q_be h
  obtain ⟨v9, hv, h⟩ := h
  refine ⟨⟨some _, rfl⟩, _, _, cv6, dv6, ⟨_, cu8⟩, ?_⟩
  refine rX9_among hv ?_
  replace h := q_tc_e h
  rcases h with ⟨E, g11, hv, rfl⟩ | ⟨v10, g11, hv, h⟩
  · exact rX11_range hv ⟨rfl, hk⟩
  refine rX11_range hv ?_
  exact ps_weak (pjX11_layer_24 h hk) ⟨rfl, rfl, rfl, rfl, trivial⟩
noncomputable def fX11_known (g : ps_G) (x0 : Nat) (x1 : Int32) : Option ((String ⊕ Option Nat) × ps_G) := Option.bind (q_fR 11 0 g x0) fun v1 => Option.bind (v1) fun a2 => Option.bind (q_ob 9 g a2) fun u3 => Option.bind (fX9_find g a2 x1) fun v4 => if ¬ v4 = none then (some (.inr v4, g)) else (some (.inl "java/util/NoSuchElementException", ps_nw g 6 ps_e0))
theorem rX11_known {d : Nat} {Q : ps_Rs → ps_G → Prop} {g : ps_G} {x0 : Nat} {x1 : Int32} {r : (String ⊕ Option Nat) × ps_G} (h : fX11_known g x0 x1 = some r) (hk : Q (q_rA r.1) r.2) : ps_Ok mX11_known (d + 6) [.ref x0, .int x1] g Q := by
  unfold fX11_known at h
  refine sX11_known_0 ?_
  replace h := q_be h
  obtain ⟨v1, hv, h⟩ := h
  replace hv := q_fR_e hv
  obtain ⟨_, cv1, dv1⟩ := hv
  replace h := q_be h
  obtain ⟨a2, ea2, h⟩ := h
  subst ea2
  replace h := q_be h
  obtain ⟨u3, hv, h⟩ := h
  replace hv := q_ob_e hv
  obtain ⟨_, cu3⟩ := hv
  replace h := q_be h
  obtain ⟨v4, hv, h⟩ := h
  refine ⟨⟨some _, rfl⟩, _, _, cv1, dv1, ⟨_, cu3⟩, ?_⟩
  refine rX9_find hv ?_
  refine ⟨_, _, rfl, by decide, ⟨_, rfl⟩, _, _, rfl, ?_⟩
  refine And.intro (fun hc5 => ?_) (fun hc5 => ?_)
  · replace h := q_ifp (hc5) h
    refine sX11_known_23 ?_
    cases h
    exact ⟨⟨_, rfl⟩, _, _, rfl, rfl, ⟨_, rfl, Or.inl ⟨_, rfl⟩⟩, hk⟩
  · replace hc5 := not_not_intro hc5
    replace h := q_ifn (hc5) h
    cases h
    exact sX11_known_13 (by decide) hk
noncomputable def bX9_isIn_9 (g : ps_G) (x0 : Nat) (x2 : Int32) (x3 : Option Nat) (x4 : Int32) : Option (((Option Nat) × Int32) ⊕ ((Unit) ⊕ (Int32))) := if ((30 : Int32) < x4) ∨ (x3 = none) then (some (.inr (.inl ()))) else (Option.bind (x3) fun a5 => Option.bind (q_fI 4 2 g a5) fun v6 => if ¬ v6 = x2 then (Option.bind (q_fI 4 2 g a5) fun v8 => Option.bind (q_ob 9 g x0) fun u9 => Option.bind (fX9_find g x0 v8) fun v10 => some (.inl (v10, x4 + (1 : Int32)))) else (some (.inr (.inr (1 : Int32)))))
theorem pbX9_isIn_9 {d : Nat} {Q : ps_Rs → ps_G → Prop} {g : ps_G} {x0 : Nat} {x2 : Int32} {x3 : Option Nat} {x4 : Int32} {x : ((Option Nat) × Int32) ⊕ ((Unit) ⊕ (Int32))} (h : bX9_isIn_9 g x0 x2 x3 x4 = some x) (hh : ∀ s' : (Option Nat) × Int32, x = .inl s' → ps_At mX9_isIn (d + 1) 9 [(0, .ref x0), (2, .int x2), (3, va_rf s'.1), (4, .int s'.2)] [] g Q) (he : ∀ r' : Unit, x = .inr (.inl r') → ps_At mX9_isIn (d + 1) 45 [] [] g Q) (hr : ∀ v' : Int32, x = .inr (.inr v') → Q (.inl (some (.int v'))) g) : ps_At mX9_isIn (d + 1) 9 [(0, .ref x0), (2, .int x2), (3, va_rf x3), (4, .int x4)] [] g Q := by
  unfold bX9_isIn_9 at h
  refine sX9_isIn_9 ?_
  have kT13 : (some (.inr (.inl ()))) = some x → ps_At mX9_isIn (d + 1) 45 [] [] g Q := fun h => by
    exact ps_weak (he () (Option.some.inj h).symm) trivial
  refine And.intro (fun hc3 => ?_) (fun hc3 => ?_)
  · exact ps_weak (kT13 (q_ifp (Or.inl hc3) h)) trivial
  · refine ⟨⟨_, rfl⟩, _, _, rfl, ?_⟩
    refine And.intro (fun hc4 => ?_) (fun hc4 => ?_)
    · exact ps_weak (kT13 (q_ifp (Or.inr (hc4)) h)) trivial
    · replace h := q_ifn (not_or.mpr ⟨hc3, hc4⟩) h
      replace h := q_be h
      obtain ⟨a5, ea5, h⟩ := h
      subst ea5
      replace h := q_be h
      obtain ⟨v6, hv, h⟩ := h
      replace hv := q_fI_e hv
      obtain ⟨_, cv6, dv6⟩ := hv
      refine ⟨⟨some _, rfl⟩, _, _, cv6, dv6, ?_⟩
      refine And.intro (fun hc7 => ?_) (fun hc7 => ?_)
      · replace h := q_ifp (hc7) h
        refine sX9_isIn_30 ?_
        replace h := q_be h
        obtain ⟨v8, hv, h⟩ := h
        replace hv := q_fI_e hv
        obtain ⟨_, cv8, dv8⟩ := hv
        replace h := q_be h
        obtain ⟨u9, hv, h⟩ := h
        replace hv := q_ob_e hv
        obtain ⟨_, cu9⟩ := hv
        replace h := q_be h
        obtain ⟨v10, hv, h⟩ := h
        refine ⟨⟨some _, rfl⟩, ⟨some _, rfl⟩, _, _, cv8, dv8, ⟨_, cu9⟩, ?_⟩
        refine rX9_find hv ?_
        refine ⟨_, _, rfl, by decide, by decide, ?_⟩
        exact ps_weak (hh (v10, x4 + (1 : Int32)) (Option.some.inj h).symm) ⟨(by first | rfl | (cases v10 <;> rfl)), (by first | rfl | (cases v10 <;> rfl)), (by first | rfl | (cases v10 <;> rfl)), (by first | rfl | (cases v10 <;> rfl)), trivial⟩
      · replace h := q_ifn (hc7) h
        exact ⟨rfl, Or.inr rfl, hr (1 : Int32) (Option.some.inj h).symm⟩
noncomputable def jX9_isIn_45 (g : ps_G) : Option (Int32) := some (0 : Int32)
theorem pjX9_isIn_45 {d : Nat} {Q : ps_Rs → ps_G → Prop} {g : ps_G}  {r : Int32} (h : jX9_isIn_45 g = some r) (hk : Q (.inl (some (.int r))) g) : ps_At mX9_isIn (d + 1) 45 [] [] g Q := by
  unfold jX9_isIn_45 at h
  refine sX9_isIn_45 ?_
  cases h
  exact ⟨rfl, Or.inl rfl, hk⟩
noncomputable def fX9_isIn (g : ps_G) (x0 : Nat) (x1 : Int32) (x2 : Int32) : Option (Int32) := Option.bind (q_ob 9 g x0) fun u1 => Option.bind (fX9_find g x0 x1) fun v2 => Option.bind (q_lp (fun s => bX9_isIn_9 g x0 x2 s.1 s.2) (v2, (0 : Int32))) fun s15 => Sum.elim (fun r16 => jX9_isIn_45 g) (fun v17 => some v17) s15
theorem rX9_isIn {d : Nat} {Q : ps_Rs → ps_G → Prop} {g : ps_G} {x0 : Nat} {x1 : Int32} {x2 : Int32} {r : Int32} (h : fX9_isIn g x0 x1 x2 = some r) (hk : Q (.inl (some (.int r))) g) : ps_Ok mX9_isIn (d + 1) [.ref x0, .int x1, .int x2] g Q := by
  unfold fX9_isIn at h
  refine sX9_isIn_0 ?_
  replace h := q_be h
  obtain ⟨u1, hv, h⟩ := h
  replace hv := q_ob_e hv
  obtain ⟨_, cu1⟩ := hv
  replace h := q_be h
  obtain ⟨v2, hv, h⟩ := h
  refine ⟨⟨some _, rfl⟩, ⟨_, cu1⟩, ?_⟩
  refine rX9_find hv ?_
  refine ⟨_, _, rfl, by decide, by decide, ?_⟩
  refine ps_weak (lv' := [(0, .ref x0), (2, .int x2), (3, va_rf v2), (4, .int (0 : Int32))]) ?_ ⟨(by first | rfl | (cases v2 <;> rfl)), (by first | rfl | (cases v2 <;> rfl)), (by first | rfl | (cases v2 <;> rfl)), (by first | rfl | (cases v2 <;> rfl)), trivial⟩
  replace h := q_be h
  obtain ⟨s15, hl, h⟩ := h
  refine ps_weak (q_lp_ok hl (fun s => ps_At mX9_isIn (d + 1) 9 [(0, .ref x0), (2, .int x2), (3, va_rf s.1), (4, .int s.2)] [] g Q) (Sum.elim (fun r => ps_At mX9_isIn (d + 1) 45 [] [] g Q) (fun v => Q (.inl (some (.int v))) g)) (fun s x hb hh he => pbX9_isIn_9 hb hh (fun _ e => he _ e) (fun _ e => he _ e)) ?_) ⟨(by first | rfl | (cases v2 <;> rfl)), (by first | rfl | (cases v2 <;> rfl)), (by first | rfl | (cases v2 <;> rfl)), (by first | rfl | (cases v2 <;> rfl)), trivial⟩
  rcases s15 with r16 | v17
  · refine (?_ : ps_At mX9_isIn (d + 1) 45 [] [] g Q)
    exact ps_weak (pjX9_isIn_45 h hk) trivial
  · cases h
    exact hk
noncomputable def jX9_remove_43_4 (g : ps_G) (x0 : Nat) (x1 : Int32) (x2 : Int32) (x3 : Int32) : Option ((Int32 × Int32 × ps_G) ⊕ (Int32 × ps_G)) := some (.inl (x2, x3 + (1 : Int32), g))
theorem pjX9_remove_43_4 {d : Nat} {Q : ps_Rs → ps_G → Prop} {g : ps_G} {x0 : Nat} {x1 : Int32} {x2 : Int32} {x3 : Int32} {x : (Int32 × Int32 × ps_G) ⊕ (Int32 × ps_G)} (h : jX9_remove_43_4 g x0 x1 x2 x3 = some x) (hh : ∀ s' : Int32 × Int32 × ps_G, x = .inl s' → ps_At mX9_remove d 4 [(0, .ref x0), (1, .int x1), (2, .int s'.1), (3, .int s'.2.1)] [] s'.2.2 Q) (he : ∀ r' : Int32 × ps_G, x = .inr r' → ps_At mX9_remove d 49 [(0, .ref x0), (1, .int x1), (2, .int r'.1)] [] r'.2 Q) : ps_At mX9_remove d 43 [(0, .ref x0), (1, .int x1), (2, .int x2), (3, .int x3)] [] g Q := by
  unfold jX9_remove_43_4 at h
  refine sX9_remove_43 ?_
  refine ⟨by decide, ?_⟩
  exact ps_weak (hh (x2, x3 + (1 : Int32), g) (Option.some.inj h).symm) ⟨rfl, rfl, rfl, rfl, trivial⟩
noncomputable def bX9_remove_4 (x0 : Nat) (x1 : Int32) (x2 : Int32) (x3 : Int32) (g : ps_G) : Option ((Int32 × Int32 × ps_G) ⊕ (Int32 × ps_G)) := Option.bind (q_fI 9 4 g x0) fun v1 => if (v1 ≤ x3) ∨ ((30 : Int32) ≤ x3) then (some (.inr (x2, g))) else (Option.bind (q_fR 9 3 g x0) fun v5 => Option.bind (v5) fun a6 => Option.bind (q_aI g a6 x3) fun v7 => if v7 = x1 then (jX9_remove_43_4 g x0 x1 x2 x3) else (Option.bind (q_fR 9 3 g x0) fun v10 => Option.bind (v10) fun a11 => Option.bind (q_fR 9 3 g x0) fun v12 => Option.bind (v12) fun a13 => Option.bind (q_aI g a13 x3) fun v14 => Option.bind (q_wI g a11 x2 v14) fun g15 => jX9_remove_43_4 g15 x0 x1 (x2 + (1 : Int32)) x3))
theorem pbX9_remove_4 {d : Nat} {Q : ps_Rs → ps_G → Prop}  {x0 : Nat} {x1 : Int32} {x2 : Int32} {x3 : Int32} {g : ps_G} {x : (Int32 × Int32 × ps_G) ⊕ (Int32 × ps_G)} (h : bX9_remove_4 x0 x1 x2 x3 g = some x) (hh : ∀ s' : Int32 × Int32 × ps_G, x = .inl s' → ps_At mX9_remove d 4 [(0, .ref x0), (1, .int x1), (2, .int s'.1), (3, .int s'.2.1)] [] s'.2.2 Q) (he : ∀ r' : Int32 × ps_G, x = .inr r' → ps_At mX9_remove d 49 [(0, .ref x0), (1, .int x1), (2, .int r'.1)] [] r'.2 Q) : ps_At mX9_remove d 4 [(0, .ref x0), (1, .int x1), (2, .int x2), (3, .int x3)] [] g Q := by
  unfold bX9_remove_4 at h
  refine sX9_remove_4 ?_
  replace h := q_be h
  obtain ⟨v1, hv, h⟩ := h
  replace hv := q_fI_e hv
  obtain ⟨_, cv1, dv1⟩ := hv
  have kT18 : (some (.inr (x2, g))) = some x → ps_At mX9_remove d 49 [(0, .ref x0), (1, .int x1), (2, .int x2)] [] g Q := fun h => by
    exact ps_weak (he (x2, g) (Option.some.inj h).symm) ⟨rfl, rfl, rfl, trivial⟩
  refine ⟨⟨some _, rfl⟩, _, _, cv1, dv1, ?_⟩
  refine And.intro (fun hc2 => ?_) (fun hc2 => ?_)
  · exact ps_weak (kT18 (q_ifp (Or.inl hc2) h)) ⟨rfl, rfl, rfl, trivial⟩
  · refine And.intro (fun hc3 => ?_) (fun hc3 => ?_)
    · exact ps_weak (kT18 (q_ifp (Or.inr (hc3)) h)) ⟨rfl, rfl, rfl, trivial⟩
    · replace h := q_ifn (not_or.mpr ⟨hc2, hc3⟩) h
      replace h := q_be h
      obtain ⟨v5, hv, h⟩ := h
      replace hv := q_fR_e hv
      obtain ⟨_, cv5, dv5⟩ := hv
      replace h := q_be h
      obtain ⟨a6, ea6, h⟩ := h
      subst ea6
      replace h := q_be h
      obtain ⟨v7, hv, h⟩ := h
      replace hv := q_aI_e hv
      obtain ⟨_, _, cv7, iv7, yv7⟩ := hv
      refine ⟨⟨some _, rfl⟩, _, _, cv5, dv5, _, _, cv7, iv7, _, yv7, ?_⟩
      refine And.intro (fun hc8 => ?_) (fun hc8 => ?_)
      · replace h := q_ifp (hc8) h
        exact ps_weak (pjX9_remove_43_4 h hh he) ⟨rfl, rfl, rfl, rfl, trivial⟩
      · replace h := q_ifn (hc8) h
        replace h := q_be h
        obtain ⟨v10, hv, h⟩ := h
        replace hv := q_fR_e hv
        obtain ⟨_, cv10, dv10⟩ := hv
        replace h := q_be h
        obtain ⟨a11, ea11, h⟩ := h
        subst ea11
        replace h := q_be h
        obtain ⟨v12, hv, h⟩ := h
        replace hv := q_fR_e hv
        obtain ⟨_, cv12, dv12⟩ := hv
        replace h := q_be h
        obtain ⟨a13, ea13, h⟩ := h
        subst ea13
        replace h := q_be h
        obtain ⟨v14, hv, h⟩ := h
        replace hv := q_aI_e hv
        obtain ⟨_, _, cv14, iv14, yv14⟩ := hv
        replace h := q_be h
        obtain ⟨g15, hv, h⟩ := h
        replace hv := q_wI_e hv
        obtain ⟨_, _, cg15, pg15, ig15, yg15⟩ := hv
        refine ⟨⟨some _, rfl⟩, _, _, cv10, dv10, ⟨some _, rfl⟩, _, _, cv12, dv12, _, _, cv14, iv14, _, yv14, _, _, cg15, pg15, ig15, _, yg15, by decide, ?_⟩
        exact ps_weak (pjX9_remove_43_4 h hh he) ⟨rfl, rfl, rfl, rfl, trivial⟩
noncomputable def jX9_remove_71 (g : ps_G) : Option (ps_G) := some g
theorem pjX9_remove_71 {d : Nat} {Q : ps_Rs → ps_G → Prop} {g : ps_G}  {r : ps_G} (h : jX9_remove_71 g = some r) (hk : Q (.inl none) r) : ps_At mX9_remove d 71 [] [] g Q := by
  unfold jX9_remove_71 at h
  refine sX9_remove_71 ?_
  cases h
  exact ⟨rfl, rfl, hk⟩
noncomputable def jX9_remove_49 (g : ps_G) (x0 : Nat) (x1 : Int32) (x2 : Int32) : Option (ps_G) := Option.bind (q_sI 9 4 g x0 x2) fun g21 => if (x1 < 0) ∨ ((30 : Int32) ≤ x1) then (jX9_remove_71 g21) else (Option.bind (q_fR 9 2 g21 x0) fun v25 => Option.bind (v25) fun a26 => Option.bind (q_wR g21 a26 x1 none) fun g27 => jX9_remove_71 g27)
theorem pjX9_remove_49 {d : Nat} {Q : ps_Rs → ps_G → Prop} {g : ps_G} {x0 : Nat} {x1 : Int32} {x2 : Int32} {r : ps_G} (h : jX9_remove_49 g x0 x1 x2 = some r) (hk : Q (.inl none) r) : ps_At mX9_remove d 49 [(0, .ref x0), (1, .int x1), (2, .int x2)] [] g Q := by
  unfold jX9_remove_49 at h
  refine sX9_remove_49 ?_
  replace h := q_be h
  obtain ⟨g21, hv, h⟩ := h
  replace hv := q_sI_e hv
  obtain ⟨_, cg21, dg21, yg21⟩ := hv
  have kT28 : (jX9_remove_71 g21) = some r → ps_At mX9_remove d 71 [] [] g21 Q := fun h => by
    exact ps_weak (pjX9_remove_71 h hk) trivial
  refine ⟨⟨some _, rfl⟩, _, cg21, dg21, rfl, rfl, _, yg21, ?_⟩
  refine And.intro (fun hc22 => ?_) (fun hc22 => ?_)
  · exact ps_weak (kT28 (q_ifp (Or.inl hc22) h)) trivial
  · refine And.intro (fun hc23 => ?_) (fun hc23 => ?_)
    · exact ps_weak (kT28 (q_ifp (Or.inr (hc23)) h)) trivial
    · replace h := q_ifn (not_or.mpr ⟨hc22, hc23⟩) h
      replace h := q_be h
      obtain ⟨v25, hv, h⟩ := h
      replace hv := q_fR_e hv
      obtain ⟨_, cv25, dv25⟩ := hv
      replace h := q_be h
      obtain ⟨a26, ea26, h⟩ := h
      subst ea26
      replace h := q_be h
      obtain ⟨g27, hv, h⟩ := h
      replace hv := q_wR_e hv
      obtain ⟨_, _, _, cg27, ig27, pg27, qg27, yg27⟩ := hv
      refine ⟨⟨some _, rfl⟩, _, _, cv25, dv25, _, _, none, _, rfl, _, _, _, cg27, ig27, pg27, qg27, _, yg27, ?_⟩
      exact ps_weak (pjX9_remove_71 h hk) trivial
noncomputable def fX9_remove (g : ps_G) (x0 : Nat) (x1 : Int32) : Option (ps_G) := Option.bind (q_lp (fun s => bX9_remove_4 x0 x1 s.1 s.2.1 s.2.2) ((0 : Int32), (0 : Int32), g)) fun s20 => jX9_remove_49 s20.2 x0 x1 s20.1
theorem rX9_remove {d : Nat} {Q : ps_Rs → ps_G → Prop} {g : ps_G} {x0 : Nat} {x1 : Int32} {r : ps_G} (h : fX9_remove g x0 x1 = some r) (hk : Q (.inl none) r) : ps_Ok mX9_remove d [.ref x0, .int x1] g Q := by
  unfold fX9_remove at h
  refine sX9_remove_0 ?_
  refine ⟨by decide, by decide, ?_⟩
  replace h := q_be h
  obtain ⟨s20, hl, h⟩ := h
  refine ps_weak (q_lp_ok hl (fun s => ps_At mX9_remove d 4 [(0, .ref x0), (1, .int x1), (2, .int s.1), (3, .int s.2.1)] [] s.2.2 Q) (fun r => ps_At mX9_remove d 49 [(0, .ref x0), (1, .int x1), (2, .int r.1)] [] r.2 Q) (fun s x hb hh he => pbX9_remove_4 hb hh he) ?_) ⟨rfl, rfl, rfl, rfl, trivial⟩
  refine (?_ : ps_At mX9_remove d 49 [(0, .ref x0), (1, .int x1), (2, .int s20.1)] [] s20.2 Q)
  exact ps_weak (pjX9_remove_49 h hk) ⟨rfl, rfl, rfl, trivial⟩
noncomputable def bX9_removeInside_7 (x0 : Nat) (x1 : Int32) (x2 : Nat) (x3 : Int32) (g : ps_G) : Option ((Int32 × ps_G) ⊕ (ps_G)) := if (30 : Int32) ≤ x3 then (some (.inr g)) else (Option.bind (q_ob 9 g x0) fun u4 => Option.bind (fX9_isIn g x0 x3 x1) fun v5 => Option.bind (q_wB g x2 x3 v5) fun g6 => some (.inl (x3 + (1 : Int32), g6)))
theorem pbX9_removeInside_7 {d : Nat} {Q : ps_Rs → ps_G → Prop}  {x0 : Nat} {x1 : Int32} {x2 : Nat} {x3 : Int32} {g : ps_G} {x : (Int32 × ps_G) ⊕ (ps_G)} (h : bX9_removeInside_7 x0 x1 x2 x3 g = some x) (hh : ∀ s' : Int32 × ps_G, x = .inl s' → ps_At mX9_removeInside (d + 2) 7 [(0, .ref x0), (1, .int x1), (2, .ref x2), (3, .int s'.1)] [] s'.2 Q) (he : ∀ r' : ps_G, x = .inr r' → ps_At mX9_removeInside (d + 2) 28 [(0, .ref x0), (2, .ref x2)] [] r' Q) : ps_At mX9_removeInside (d + 2) 7 [(0, .ref x0), (1, .int x1), (2, .ref x2), (3, .int x3)] [] g Q := by
  unfold bX9_removeInside_7 at h
  refine sX9_removeInside_7 ?_
  refine And.intro (fun hc2 => ?_) (fun hc2 => ?_)
  · replace h := q_ifp (hc2) h
    exact ps_weak (he g (Option.some.inj h).symm) ⟨rfl, rfl, trivial⟩
  · replace h := q_ifn (hc2) h
    replace h := q_be h
    obtain ⟨u4, hv, h⟩ := h
    replace hv := q_ob_e hv
    obtain ⟨_, cu4⟩ := hv
    replace h := q_be h
    obtain ⟨v5, hv, h⟩ := h
    refine ⟨⟨some _, rfl⟩, ⟨some _, rfl⟩, ⟨_, cu4⟩, ?_⟩
    refine rX9_isIn hv ?_
    replace h := q_be h
    obtain ⟨g6, hv, h⟩ := h
    replace hv := q_wB_e hv
    obtain ⟨_, _, cg6, ig6, yg6⟩ := hv
    refine ⟨_, _, cg6, ig6, _, yg6, by decide, ?_⟩
    exact ps_weak (hh (x3 + (1 : Int32), g6) (Option.some.inj h).symm) ⟨rfl, rfl, rfl, rfl, trivial⟩
noncomputable def jX9_removeInside_47_30 (g : ps_G) (x0 : Nat) (x2 : Nat) (x3 : Int32) : Option ((Int32 × ps_G) ⊕ (ps_G)) := some (.inl (x3 + (1 : Int32), g))
theorem pjX9_removeInside_47_30 {d : Nat} {Q : ps_Rs → ps_G → Prop} {g : ps_G} {x0 : Nat} {x2 : Nat} {x3 : Int32} {x : (Int32 × ps_G) ⊕ (ps_G)} (h : jX9_removeInside_47_30 g x0 x2 x3 = some x) (hh : ∀ s' : Int32 × ps_G, x = .inl s' → ps_At mX9_removeInside (d + 2) 30 [(0, .ref x0), (2, .ref x2), (3, .int s'.1)] [] s'.2 Q) (he : ∀ r' : ps_G, x = .inr r' → ps_At mX9_removeInside (d + 2) 53 [] [] r' Q) : ps_At mX9_removeInside (d + 2) 47 [(0, .ref x0), (2, .ref x2), (3, .int x3)] [] g Q := by
  unfold jX9_removeInside_47_30 at h
  refine sX9_removeInside_47 ?_
  refine ⟨by decide, ?_⟩
  exact ps_weak (hh (x3 + (1 : Int32), g) (Option.some.inj h).symm) ⟨rfl, rfl, rfl, trivial⟩
noncomputable def bX9_removeInside_30 (x0 : Nat) (x2 : Nat) (x3 : Int32) (g : ps_G) : Option ((Int32 × ps_G) ⊕ (ps_G)) := if (30 : Int32) ≤ x3 then (some (.inr g)) else (Option.bind (q_aB g x2 x3) fun v12 => if v12 = 0 then (jX9_removeInside_47_30 g x0 x2 x3) else (Option.bind (q_ob 9 g x0) fun u15 => Option.bind (fX9_remove g x0 x3) fun v16 => jX9_removeInside_47_30 v16 x0 x2 x3))
theorem pbX9_removeInside_30 {d : Nat} {Q : ps_Rs → ps_G → Prop}  {x0 : Nat} {x2 : Nat} {x3 : Int32} {g : ps_G} {x : (Int32 × ps_G) ⊕ (ps_G)} (h : bX9_removeInside_30 x0 x2 x3 g = some x) (hh : ∀ s' : Int32 × ps_G, x = .inl s' → ps_At mX9_removeInside (d + 2) 30 [(0, .ref x0), (2, .ref x2), (3, .int s'.1)] [] s'.2 Q) (he : ∀ r' : ps_G, x = .inr r' → ps_At mX9_removeInside (d + 2) 53 [] [] r' Q) : ps_At mX9_removeInside (d + 2) 30 [(0, .ref x0), (2, .ref x2), (3, .int x3)] [] g Q := by
  unfold bX9_removeInside_30 at h
  refine sX9_removeInside_30 ?_
  refine And.intro (fun hc10 => ?_) (fun hc10 => ?_)
  · replace h := q_ifp (hc10) h
    exact ps_weak (he g (Option.some.inj h).symm) trivial
  · replace h := q_ifn (hc10) h
    replace h := q_be h
    obtain ⟨v12, hv, h⟩ := h
    replace hv := q_aB_e hv
    obtain ⟨_, _, cv12, iv12, yv12⟩ := hv
    refine ⟨⟨some _, rfl⟩, _, _, cv12, iv12, _, yv12, ?_⟩
    refine And.intro (fun hc13 => ?_) (fun hc13 => ?_)
    · replace h := q_ifp (hc13) h
      exact ps_weak (pjX9_removeInside_47_30 h hh he) ⟨rfl, rfl, rfl, trivial⟩
    · replace h := q_ifn (hc13) h
      replace h := q_be h
      obtain ⟨u15, hv, h⟩ := h
      replace hv := q_ob_e hv
      obtain ⟨_, cu15⟩ := hv
      replace h := q_be h
      obtain ⟨v16, hv, h⟩ := h
      refine ⟨⟨some _, rfl⟩, ⟨_, cu15⟩, ?_⟩
      refine rX9_remove hv ?_
      exact ps_weak (pjX9_removeInside_47_30 h hh he) ⟨rfl, rfl, rfl, trivial⟩
noncomputable def fX9_removeInside (g : ps_G) (x0 : Nat) (x1 : Int32) : Option (ps_G) := Option.bind (q_nA .boolean g (30 : Int32)) fun g1 => Option.bind (q_lp (fun s => bX9_removeInside_7 x0 x1 g.1 s.1 s.2) ((0 : Int32), g1)) fun s9 => Option.bind (q_lp (fun s => bX9_removeInside_30 x0 g.1 s.1 s.2) ((0 : Int32), s9)) fun s21 => some s21
theorem rX9_removeInside {d : Nat} {Q : ps_Rs → ps_G → Prop} {g : ps_G} {x0 : Nat} {x1 : Int32} {r : ps_G} (h : fX9_removeInside g x0 x1 = some r) (hk : Q (.inl none) r) : ps_Ok mX9_removeInside (d + 2) [.ref x0, .int x1] g Q := by
  unfold fX9_removeInside at h
  refine sX9_removeInside_0 ?_
  replace h := q_be h
  obtain ⟨g1, hv, h⟩ := h
  replace hv := q_nA_e hv
  obtain ⟨ag1, bg1, yg1⟩ := hv
  refine ⟨Or.inr (Or.inr rfl), ag1, bg1, _, yg1, some _, _, rfl, by decide, by decide, ?_⟩
  replace h := q_be h
  obtain ⟨s9, hl, h⟩ := h
  refine ps_weak (q_lp_ok hl (fun s => ps_At mX9_removeInside (d + 2) 7 [(0, .ref x0), (1, .int x1), (2, .ref g.1), (3, .int s.1)] [] s.2 Q) (fun r => ps_At mX9_removeInside (d + 2) 28 [(0, .ref x0), (2, .ref g.1)] [] r Q) (fun s x hb hh he => pbX9_removeInside_7 hb hh he) ?_) ⟨rfl, rfl, rfl, rfl, trivial⟩
  refine (?_ : ps_At mX9_removeInside (d + 2) 28 [(0, .ref x0), (2, .ref g.1)] [] s9 Q)
  refine sX9_removeInside_28 ?_
  refine ⟨by decide, ?_⟩
  replace h := q_be h
  obtain ⟨s21, hl, h⟩ := h
  refine ps_weak (q_lp_ok hl (fun s => ps_At mX9_removeInside (d + 2) 30 [(0, .ref x0), (2, .ref g.1), (3, .int s.1)] [] s.2 Q) (fun r => ps_At mX9_removeInside (d + 2) 53 [] [] r Q) (fun s x hb hh he => pbX9_removeInside_30 hb hh he) ?_) ⟨rfl, rfl, rfl, trivial⟩
  refine (?_ : ps_At mX9_removeInside (d + 2) 53 [] [] s21 Q)
  refine sX9_removeInside_53 ?_
  cases h
  exact ⟨rfl, rfl, hk⟩
noncomputable def jX11_drop_24 (g : ps_G) (x0 : Nat) (x2 : Option Nat) : Option ((String ⊕ Unit) × ps_G) := Option.bind (x2) fun a15 => Option.bind (q_ob 11 g x0) fun u16 => Option.bind (fX11_become g x0 a15) fun v17 => some (.inr (), v17)
theorem pjX11_drop_24 {d : Nat} {Q : ps_Rs → ps_G → Prop} {g : ps_G} {x0 : Nat} {x2 : Option Nat} {r : (String ⊕ Unit) × ps_G} (h : jX11_drop_24 g x0 x2 = some r) (hk : Q (q_rV r.1) r.2) : ps_At mX11_drop (d + 7) 24 [(0, .ref x0), (2, va_rf x2)] [] g Q := by
  unfold jX11_drop_24 at h
  refine sX11_drop_24 ?_
  replace h := q_be h
  obtain ⟨a15, ea15, h⟩ := h
  subst ea15
  replace h := q_be h
  obtain ⟨u16, hv, h⟩ := h
  replace hv := q_ob_e hv
  obtain ⟨_, cu16⟩ := hv
  replace h := q_be h
  obtain ⟨v17, hv, h⟩ := h
  refine ⟨⟨some _, rfl⟩, ⟨some _, rfl⟩, ⟨_, cu16⟩, ?_⟩
  refine rX11_become hv ?_
  cases h
  exact ⟨rfl, rfl, hk⟩
noncomputable def fX11_drop (g : ps_G) (x0 : Nat) (x1 : Int32) : Option ((String ⊕ Unit) × ps_G) := Option.bind (q_ob 11 g x0) fun u1 => q_tc (fX11_known g x0 x1) fun v2 g3 => Option.bind (v2) fun a4 => Option.bind (q_fR 11 0 g3 x0) fun v5 => Option.bind (v5) fun a6 => Option.bind (q_ob 9 g3 a6) fun u7 => q_b2 (fX9_again g3 a6) fun v8 g9 => Option.bind (v8) fun a10 => Option.bind (q_ob 9 g9 a10) fun u11 => Option.bind (fX9_removeInside g9 a10 x1) fun v12 => Option.bind (q_ob 9 v12 a10) fun u13 => Option.bind (fX9_remove v12 a10 x1) fun v14 => jX11_drop_24 v14 x0 (some a10)
theorem rX11_drop {d : Nat} {Q : ps_Rs → ps_G → Prop} {g : ps_G} {x0 : Nat} {x1 : Int32} {r : (String ⊕ Unit) × ps_G} (h : fX11_drop g x0 x1 = some r) (hk : Q (q_rV r.1) r.2) : ps_Ok mX11_drop (d + 7) [.ref x0, .int x1] g Q := by
  unfold fX11_drop at h
  refine sX11_drop_0 ?_
  replace h := q_be h
  obtain ⟨u1, hv, h⟩ := h
  replace hv := q_ob_e hv
  obtain ⟨_, cu1⟩ := hv
  refine ⟨⟨some _, rfl⟩, ⟨_, cu1⟩, ?_⟩
  replace h := q_tc_e h
  rcases h with ⟨E, g3, hv, rfl⟩ | ⟨v2, g3, hv, h⟩
  · exact rX11_known hv hk
  refine rX11_known hv ?_
  replace h := q_be h
  obtain ⟨a4, ea4, h⟩ := h
  subst ea4
  replace h := q_be h
  obtain ⟨v5, hv, h⟩ := h
  replace hv := q_fR_e hv
  obtain ⟨_, cv5, dv5⟩ := hv
  replace h := q_be h
  obtain ⟨a6, ea6, h⟩ := h
  subst ea6
  replace h := q_be h
  obtain ⟨u7, hv, h⟩ := h
  replace hv := q_ob_e hv
  obtain ⟨_, cu7⟩ := hv
  replace h := q_b2_e h
  obtain ⟨v8, g9, hv, h⟩ := h
  refine ⟨rfl, ⟨some _, rfl⟩, _, _, cv5, dv5, ⟨_, cu7⟩, ?_⟩
  refine rX9_again hv ?_
  replace h := q_be h
  obtain ⟨a10, ea10, h⟩ := h
  subst ea10
  replace h := q_be h
  obtain ⟨u11, hv, h⟩ := h
  replace hv := q_ob_e hv
  obtain ⟨_, cu11⟩ := hv
  replace h := q_be h
  obtain ⟨v12, hv, h⟩ := h
  refine ⟨_, _, rfl, by decide, ⟨some _, rfl⟩, ⟨_, cu11⟩, ?_⟩
  refine rX9_removeInside hv ?_
  replace h := q_be h
  obtain ⟨u13, hv, h⟩ := h
  replace hv := q_ob_e hv
  obtain ⟨_, cu13⟩ := hv
  replace h := q_be h
  obtain ⟨v14, hv, h⟩ := h
  refine ⟨⟨some _, rfl⟩, ⟨_, cu13⟩, ?_⟩
  refine rX9_remove hv ?_
  exact ps_weak (pjX11_drop_24 h hk) ⟨rfl, rfl, trivial⟩
noncomputable def fX11_refuse (g : ps_G) (x0 : Int32) : Option ((String ⊕ Unit) × ps_G) := if x0 = 0 then (some (.inr (), g)) else (some (.inl "java/lang/IllegalStateException", ps_nw g 6 ps_e0))
theorem rX11_refuse {d : Nat} {Q : ps_Rs → ps_G → Prop} {g : ps_G} {x0 : Int32} {r : (String ⊕ Unit) × ps_G} (h : fX11_refuse g x0 = some r) (hk : Q (q_rV r.1) r.2) : ps_Ok mX11_refuse (d + 6) [.int x0] g Q := by
  unfold fX11_refuse at h
  refine sX11_refuse_0 ?_
  refine And.intro (fun hc1 => ?_) (fun hc1 => ?_)
  · replace h := q_ifp (hc1) h
    refine sX11_refuse_14 ?_
    cases h
    exact ⟨rfl, rfl, hk⟩
  · replace h := q_ifn (hc1) h
    cases h
    exact sX11_refuse_4 (by decide) hk
